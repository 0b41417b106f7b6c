/-! the saved states, the text -/
def histC (a o kp : Nat) (P : Nat → Nat → Int32) : Nat → XC := fun j => match j with
  | 0 => .inr (1, [.ref (a + 1), .int (nI o), .int (nI kp)])
  | 1 => .inl (2, (6, .inr (.inr (fun i => if i < 6 then some (a + 2 + 28 * i) else none))))
  | j + 2 => elevC (a + 2 + 28 * (j / 28)) (P (j / 28)) (j % 28)
abbrev IsHist (h : XH) (a o kp : Nat) (P : Nat → Nat → Int32) : Prop := IsB h a 170 (histC a o kp P)
abbrev setHist (h : XH) (a o kp : Nat) (P : Nat → Nat → Int32) : XH := blk h a 170 (histC a o kp P)
def upP (P : Nat → Nat → Int32) (q : Nat) (f : Nat → Int32) : Nat → Nat → Int32 := fun j => if j = q then f else P j
theorem hist_elev {h : XH} {a o kp : Nat} {P : Nat → Nat → Int32} (hH : IsHist h a o kp P) {q : Nat} (hq : q < 6) : IsElev h (a + 2 + 28 * q) (P q) := by
  refine hH.sub (by omega) (by omega) (fun j hj => ?_)
  rw [show a + 2 + 28 * q - a + j = (28 * q + j) + 2 by omega]
  show elevC (a + 2 + 28 * ((28 * q + j) / 28)) (P ((28 * q + j) / 28)) ((28 * q + j) % 28) = _
  rw [show (28 * q + j) / 28 = q by omega, show (28 * q + j) % 28 = j by omega]
theorem setHist_elev (h : XH) (a o kp : Nat) (P : Nat → Nat → Int32) (q : Nat) (f : Nat → Int32) (hq : q < 6) : setElev (setHist h a o kp P) (a + 2 + 28 * q) f = setHist h a o kp (upP P q f) := by
  refine blk_sub (by omega) (by omega) (fun j hj => ?_) (fun j hj hne => ?_)
  · rw [show a + 2 + 28 * q - a + j = (28 * q + j) + 2 by omega]
    show elevC (a + 2 + 28 * ((28 * q + j) / 28)) (upP P q f ((28 * q + j) / 28)) ((28 * q + j) % 28) = _
    rw [show (28 * q + j) / 28 = q by omega, show (28 * q + j) % 28 = j by omega]
    unfold upP
    rw [if_pos rfl]
  · match j with
    | 0 => rfl
    | 1 => rfl
    | j + 2 =>
      show elevC _ (upP P q f (j / 28)) _ = elevC _ (P (j / 28)) _
      unfold upP
      rw [if_neg (by omega)]
theorem setHist_hd (h : XH) (a o kp o' kp' : Nat) (P : Nat → Nat → Int32) : xup (setHist h a o kp P) a (.inr (1, [.ref (a + 1), .int (nI o'), .int (nI kp')])) = setHist h a o' kp' P := by
  refine blk_up (j := 0) (by decide) rfl (fun i hi hne => ?_)
  match i, hne with
  | 1, _ => rfl
  | j + 2, _ => rfl
theorem setHist_self {h : XH} {a o kp : Nat} {P : Nat → Nat → Int32} (hH : IsHist h a o kp P) : setHist h a o kp P = h := blk_self hH
/-- the text: signs, their number; the parts read: from, to, times, their number -/
abbrev PT : Type := (Nat → Int32) × ((Nat → Int32) × ((Nat → Int32) × Nat))
def textC (a : Nat) (tx : Nat → Int32) (len : Nat) (p : PT) : Nat → XC := fun j => match j with
  | 0 => .inr (3, [.ref (a + 1), .ref (a + 2), .ref (a + 3), .ref (a + 4), .int (nI len), .int (nI p.2.2.2)])
  | 1 => xar 60 tx
  | 2 => xar 15 p.1
  | 3 => xar 15 p.2.1
  | _ => xar 15 p.2.2.1
abbrev IsText (h : XH) (a : Nat) (tx : Nat → Int32) (len : Nat) (p : PT) : Prop := IsB h a 5 (textC a tx len p)
abbrev setText (h : XH) (a : Nat) (tx : Nat → Int32) (len : Nat) (p : PT) : XH := blk h a 5 (textC a tx len p)
theorem setText_self {h : XH} {a : Nat} {tx : Nat → Int32} {len : Nat} {p : PT} (hT : IsText h a tx len p) : setText h a tx len p = h := blk_self hT
theorem setText_hd (h : XH) (a : Nat) (tx : Nat → Int32) (len len' : Nat) (p : PT) (pn' : Nat) : xup (setText h a tx len p) a (.inr (3, [.ref (a + 1), .ref (a + 2), .ref (a + 3), .ref (a + 4), .int (nI len'), .int (nI pn')])) = setText h a tx len' (p.1, (p.2.1, (p.2.2.1, pn'))) := by
  refine blk_up (j := 0) (by decide) rfl (fun i hi hne => ?_)
  match i, hne with
  | 1, _ => rfl
  | 2, _ => rfl
  | 3, _ => rfl
  | j + 4, _ => rfl
theorem setText_1 (h : XH) (a : Nat) (tx tx' : Nat → Int32) (len : Nat) (p : PT) : xup (setText h a tx len p) (a + 1) (xar 60 tx') = setText h a tx' len p := by
  refine blk_up (j := 1) (by decide) rfl (fun i hi hne => ?_)
  match i, hne with
  | 0, _ => rfl
  | 2, _ => rfl
  | 3, _ => rfl
  | j + 4, _ => rfl
theorem setText_2 (h : XH) (a : Nat) (tx : Nat → Int32) (len : Nat) (p : PT) (x : Nat → Int32) : xup (setText h a tx len p) (a + 2) (xar 15 x) = setText h a tx len (x, (p.2.1, (p.2.2.1, p.2.2.2))) := by
  refine blk_up (j := 2) (by decide) rfl (fun i hi hne => ?_)
  match i, hne with
  | 0, _ => rfl
  | 1, _ => rfl
  | 3, _ => rfl
  | j + 4, _ => rfl
theorem setText_3 (h : XH) (a : Nat) (tx : Nat → Int32) (len : Nat) (p : PT) (x : Nat → Int32) : xup (setText h a tx len p) (a + 3) (xar 15 x) = setText h a tx len (p.1, (x, (p.2.2.1, p.2.2.2))) := by
  refine blk_up (j := 3) (by decide) rfl (fun i hi hne => ?_)
  match i, hne with
  | 0, _ => rfl
  | 1, _ => rfl
  | 2, _ => rfl
  | j + 4, _ => rfl
theorem setText_4 (h : XH) (a : Nat) (tx : Nat → Int32) (len : Nat) (p : PT) (x : Nat → Int32) : xup (setText h a tx len p) (a + 4) (xar 15 x) = setText h a tx len (p.1, (p.2.1, (x, p.2.2.2))) := by
  refine blk_up (j := 4) (by decide) rfl (fun i hi hne => ?_)
  match i, hne with
  | 0, _ => rfl
  | 1, _ => rfl
  | 2, _ => rfl
  | 3, _ => rfl
  | j + 5, _ => omega
def floK (c : Int32) : Bool := decide (48 ≤ c ∧ c < 56)
def digK (c : Int32) : Bool := decide (48 ≤ c ∧ c ≤ 57)
def prtK (c : Int32) : Option Nat := if c = 59 then some 0 else none
/-- the next state of the reading, none: an error -/
def stp (s : Nat) (c : Int32) : Option Nat := match s with
  | 0 => if floK c then some 1 else none
  | 1 => if c = 45 then some 2 else none
  | 2 => if floK c then some 3 else none
  | 3 => if c = 42 then some 4 else prtK c
  | 4 => if c = 49 then some 5 else if c = 48 then none else if digK c then some 6 else none
  | 5 => if digK c then some 7 else none
  | 6 => if digK c then some 7 else prtK c
  | 7 => prtK c
  | _ => none
def stI (o : Option Nat) : Int32 := match o with
  | some s => nI s
  | none => -1
theorem stp_le {s s' : Nat} {c : Int32} (h : stp s c = some s') : s' ≤ 7 := by
  unfold stp prtK at h
  split at h <;> (repeat' split at h) <;> first | (cases h; done) | (cases h; decide)
def sgn (tx : Nat → Int32) (len i : Nat) : Int32 := if i < len then tx i else 59
def epK (tx : Nat → Int32) : Nat → Nat → Nat → Nat
  | 0, _, j => j
  | d + 1, s, j => match stp s (tx j) with
    | some s' => epK tx d s' (j + 1)
    | none => j
def rsK (s : Nat) (c : Int32) (p : PT) : PT :=
  if 15 ≤ p.2.2.2 then p
  else if c = 59 then (p.1, (p.2.1, (upd p.2.2.1 p.2.2.2 (if p.2.2.1 p.2.2.2 < 1 then 1 else p.2.2.1 p.2.2.2), p.2.2.2 + 1)))
  else if s = 0 then (upd p.1 p.2.2.2 (c - 48), (p.2.1, (upd p.2.2.1 p.2.2.2 0, p.2.2.2)))
  else if s = 2 then (p.1, (upd p.2.1 p.2.2.2 (c - 48), (p.2.2.1, p.2.2.2)))
  else if s = 4 ∨ s = 5 ∨ s = 6 then (p.1, (p.2.1, (upd p.2.2.1 p.2.2.2 (10 * p.2.2.1 p.2.2.2 + c - 48), p.2.2.2)))
  else p
def rpK (tx : Nat → Int32) (len : Nat) : Nat → Nat → Nat → PT → Bool × PT
  | 0, _, _, p => (true, p)
  | d + 1, s, j, p => match stp s (sgn tx len j) with
    | some s' => rpK tx len d s' (j + 1) (rsK s (sgn tx len j) p)
    | none => (false, p)
theorem floK_t {c : Int32} (h1 : ¬ c < 48) (h2 : ¬ 56 ≤ c) : floK c = true := decide_eq_true ⟨Int32.not_lt.mp h1, Int32.not_le.mp h2⟩
theorem floK_f1 {c : Int32} (h : c < 48) : floK c = false := decide_eq_false fun q => absurd h (Int32.not_lt.mpr q.1)
theorem floK_f2 {c : Int32} (h : 56 ≤ c) : floK c = false := decide_eq_false fun q => absurd h (Int32.not_le.mpr q.2)
theorem digK_t {c : Int32} (h1 : ¬ c < 48) (h2 : ¬ 57 < c) : digK c = true := decide_eq_true ⟨Int32.not_lt.mp h1, Int32.not_lt.mp h2⟩
theorem digK_f1 {c : Int32} (h : c < 48) : digK c = false := decide_eq_false fun q => absurd h (Int32.not_lt.mpr q.1)
theorem digK_f2 {c : Int32} (h : 57 < c) : digK c = false := decide_eq_false fun q => absurd h (Int32.not_lt.mpr q.2)
theorem stp0t {c : Int32} (h : floK c = true) : stp 0 c = some 1 := if_pos h
theorem stp0f {c : Int32} (h : floK c = false) : stp 0 c = none := if_neg (by rw [h]; decide)
theorem stp1t {c : Int32} (h : c = 45) : stp 1 c = some 2 := if_pos h
theorem stp1f {c : Int32} (h : ¬ c = 45) : stp 1 c = none := if_neg h
theorem stp2t {c : Int32} (h : floK c = true) : stp 2 c = some 3 := if_pos h
theorem stp2f {c : Int32} (h : floK c = false) : stp 2 c = none := if_neg (by rw [h]; decide)
theorem stp3t {c : Int32} (h : c = 42) : stp 3 c = some 4 := if_pos h
theorem stp3f {c : Int32} (h : ¬ c = 42) : stp 3 c = prtK c := if_neg h
theorem stp4a {c : Int32} (h : c = 49) : stp 4 c = some 5 := if_pos h
theorem stp4b {c : Int32} (h : ¬ c = 49) (h2 : c = 48) : stp 4 c = none := (if_neg h).trans (if_pos h2)
theorem stp4c {c : Int32} (h : ¬ c = 49) (h2 : ¬ c = 48) (h3 : digK c = true) : stp 4 c = some 6 := (if_neg h).trans ((if_neg h2).trans (if_pos h3))
theorem stp4d {c : Int32} (h : ¬ c = 49) (h2 : ¬ c = 48) (h3 : digK c = false) : stp 4 c = none := (if_neg h).trans ((if_neg h2).trans (if_neg (by rw [h3]; decide)))
theorem stp5t {c : Int32} (h : digK c = true) : stp 5 c = some 7 := if_pos h
theorem stp5f {c : Int32} (h : digK c = false) : stp 5 c = none := if_neg (by rw [h]; decide)
theorem stp6t {c : Int32} (h : digK c = true) : stp 6 c = some 7 := if_pos h
theorem stp6f {c : Int32} (h : digK c = false) : stp 6 c = prtK c := if_neg (by rw [h]; decide)
theorem prtK_t {c : Int32} (h : c = 59) : prtK c = some 0 := if_pos h
theorem prtK_f {c : Int32} (h : ¬ c = 59) : prtK c = none := if_neg h
theorem epK_some {tx : Nat → Int32} {d s s' j : Nat} (h : stp s (tx j) = some s') : epK tx (d + 1) s j = epK tx d s' (j + 1) := by
  show (match stp s (tx j) with | some s' => epK tx d s' (j + 1) | none => j) = _
  rw [h]
theorem epK_none {tx : Nat → Int32} {d s j : Nat} (h : stp s (tx j) = none) : epK tx (d + 1) s j = j := by
  show (match stp s (tx j) with | some s' => epK tx d s' (j + 1) | none => j) = _
  rw [h]
theorem rpK_some {tx : Nat → Int32} {len d s s' j : Nat} {p : PT} (h : stp s (sgn tx len j) = some s') : rpK tx len (d + 1) s j p = rpK tx len d s' (j + 1) (rsK s (sgn tx len j) p) := by
  show (match stp s (sgn tx len j) with | some s' => rpK tx len d s' (j + 1) (rsK s (sgn tx len j) p) | none => (false, p)) = _
  rw [h]
theorem rpK_none {tx : Nat → Int32} {len d s j : Nat} {p : PT} (h : stp s (sgn tx len j) = none) : rpK tx len (d + 1) s j p = (false, p) := by
  show (match stp s (sgn tx len j) with | some s' => rpK tx len d s' (j + 1) (rsK s (sgn tx len j) p) | none => (false, p)) = _
  rw [h]
theorem rsK_le {s : Nat} {c : Int32} {p : PT} (hp : p.2.2.2 ≤ 15) : (rsK s c p).2.2.2 ≤ 15 := by
  unfold rsK
  by_cases h1 : 15 ≤ p.2.2.2
  · rw [if_pos h1]; exact hp
  · rw [if_neg h1]
    by_cases h2 : c = 59
    · rw [if_pos h2]; show p.2.2.2 + 1 ≤ 15; omega
    · rw [if_neg h2]
      by_cases h3 : s = 0
      · rw [if_pos h3]; exact hp
      · rw [if_neg h3]
        by_cases h4 : s = 2
        · rw [if_pos h4]; exact hp
        · rw [if_neg h4]
          split <;> exact hp
