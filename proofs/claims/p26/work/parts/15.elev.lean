/-! the elevator: what is read, what is written -/
theorem XV.aaldS {G : XG} {nL : Nat} {p : Program} {l : Launch} {e : Env} {R : Room} {s : State} {m : MethodId} {args : Array Value} {below : List Frame} {meth : Method} {c : Code} {Q : State → Prop} {own : String} {cc : ByteArray} {pc : Nat} {ls : List (Option Value)} {st : List Value} {n : Nat} {h : XH} {k ks : Nat} (C : XCx G l own cc nL p s m args meth c) {i N a t o : Nat} {Cn : String} {f : Nat → Option Nat} {j : Int32} (hd : decode cc pc = .ok (.aaload, 1)) (hi : 4 ≤ i) (hn : i < n + 4) (hh : h i = .inl (t, (N, .inr (.inr f)))) (ht : (xtys G)[t]? = some (xcA G t, .object Cn)) (hj : j = nI a) (ha : a < N) (hN : N < 2 ^ 31) (ho : f a = some o) (kk : XV G nL p l e R s m args below meth c Q (pc + 1) ls (.ref o :: st) n h k ks) : XV G nL p l e R s m args below meth c Q pc ls (.int j :: .ref i :: st) n h k ks :=
  XV.aald C hd hi hn hh ht hj ha hN (by rw [ho]; exact kk)
theorem qfix_live {r : Nat → Int32} (hq : 0 < r 0) : qfix r = r := by
  funext k
  unfold qfix
  by_cases hk : k = 0
  · subst hk
    rw [if_pos rfl, if_neg (ne_of_gt hq)]
  · rw [if_neg hk]
theorem elev_ropeL {h : XH} {e : Nat} {f : Nat → Int32} (hE : IsElev h e f) {i : Nat} (hi : i < 5) (hq : 0 < rowOf f i 0) : IsRope h (e + 3 + 5 * i) (rowOf f i) := by
  have := elev_rope hE hi
  rwa [qfix_live hq] at this
theorem setElev_congr {h : XH} {e : Nat} {f g : Nat → Int32} (hfg : ∀ k, k < 505 → f k = g k) : setElev h e f = setElev h e g := by
  refine blk_eq fun j hj => ?_
  match j with
  | 0 => unfold elevC; dsimp only; rw [hfg 1 (by omega), hfg 0 (by omega), hfg 7 (by omega), hfg 8 (by omega), hfg 9 (by omega)]
  | 1 => exact xar_eq fun s hs => hfg _ (by omega)
  | 2 => rfl
  | j + 3 =>
    show ropeC _ (qfix (rowOf f (j / 5))) _ = ropeC _ (qfix (rowOf g (j / 5))) _
    refine ropeC_congr (fun k hk => ?_) _
    have h5 : j / 5 < 5 := by omega
    unfold qfix rowOf
    rw [hfg _ (by omega), hfg (10 + 99 * (j / 5) + k) (by omega)]
theorem setElev_self {h : XH} {e : Nat} {f : Nat → Int32} (hE : IsElev h e f) : setElev h e f = h := blk_self hE
theorem setElev_set (h : XH) (e : Nat) (f g : Nat → Int32) : setElev (setElev h e f) e g = setElev h e g := blk_blk _ _ _ _ _
/-- the header's numbers -/
theorem setElev_hd (h : XH) (e : Nat) (f g : Nat → Int32) (hg : ∀ k, 2 ≤ k → k < 7 → g k = f k) (hr : ∀ k, 10 ≤ k → g k = f k) : xup (setElev h e f) e (.inr (0, [.ref (e + 1), .ref (e + 2), .int (g 1), .int (g 0), .int (g 7), .int (g 8), .int (g 9)])) = setElev h e g := by
  refine blk_up (j := 0) (by decide) rfl (fun i hi hne => ?_)
  match i, hne with
  | 1, _ => exact xar_eq fun s hs => hg _ (by omega) (by omega)
  | 2, _ => rfl
  | j + 3, _ =>
    show ropeC _ (qfix (rowOf g (j / 5))) _ = ropeC _ (qfix (rowOf f (j / 5))) _
    refine ropeC_congr (fun k hk => ?_) _
    unfold qfix rowOf
    rw [hr _ (by omega), hr (10 + 99 * (j / 5) + k) (by omega)]
theorem setElev_f2 (h : XH) (e : Nat) (f : Nat → Int32) (x : Int32) : xup (setElev h e f) e (.inr (0, [.ref (e + 1), .ref (e + 2), .int x, .int (f 0), .int (f 7), .int (f 8), .int (f 9)])) = setElev h e (upd f 1 x) := setElev_hd h e f (upd f 1 x) (fun k h1 h2 => upd_ne (by omega)) (fun k h1 => upd_ne (by omega))
theorem setElev_f3 (h : XH) (e : Nat) (f : Nat → Int32) (x : Int32) : xup (setElev h e f) e (.inr (0, [.ref (e + 1), .ref (e + 2), .int (f 1), .int x, .int (f 7), .int (f 8), .int (f 9)])) = setElev h e (upd f 0 x) := setElev_hd h e f (upd f 0 x) (fun k h1 h2 => upd_ne (by omega)) (fun k h1 => upd_ne (by omega))
theorem setElev_f4 (h : XH) (e : Nat) (f : Nat → Int32) (x : Int32) : xup (setElev h e f) e (.inr (0, [.ref (e + 1), .ref (e + 2), .int (f 1), .int (f 0), .int x, .int (f 8), .int (f 9)])) = setElev h e (upd f 7 x) := setElev_hd h e f (upd f 7 x) (fun k h1 h2 => upd_ne (by omega)) (fun k h1 => upd_ne (by omega))
theorem setElev_f5 (h : XH) (e : Nat) (f : Nat → Int32) (x : Int32) : xup (setElev h e f) e (.inr (0, [.ref (e + 1), .ref (e + 2), .int (f 1), .int (f 0), .int (f 7), .int x, .int (f 9)])) = setElev h e (upd f 8 x) := setElev_hd h e f (upd f 8 x) (fun k h1 h2 => upd_ne (by omega)) (fun k h1 => upd_ne (by omega))
theorem setElev_f6 (h : XH) (e : Nat) (f : Nat → Int32) (x : Int32) : xup (setElev h e f) e (.inr (0, [.ref (e + 1), .ref (e + 2), .int (f 1), .int (f 0), .int (f 7), .int (f 8), .int x])) = setElev h e (upd f 9 x) := setElev_hd h e f (upd f 9 x) (fun k h1 h2 => upd_ne (by omega)) (fun k h1 => upd_ne (by omega))
/-- the settings -/
theorem setElev_st (h : XH) (e : Nat) (f g : Nat → Int32) (a : Nat → Int32) (ha : ∀ i, i < 5 → g (2 + i) = a i) (hg : ∀ k, k < 2 ∨ 7 ≤ k → g k = f k) : xup (setElev h e f) (e + 1) (xar 5 a) = setElev h e g := by
  refine blk_up (j := 1) (by decide) (xar_eq fun s hs => ha s hs) (fun i hi hne => ?_)
  match i, hne with
  | 0, _ => unfold elevC; dsimp only; rw [hg 1 (by omega), hg 0 (by omega), hg 7 (by omega), hg 8 (by omega), hg 9 (by omega)]
  | 2, _ => rfl
  | j + 3, _ =>
    show ropeC _ (qfix (rowOf g (j / 5))) _ = ropeC _ (qfix (rowOf f (j / 5))) _
    refine ropeC_congr (fun k hk => ?_) _
    unfold qfix rowOf
    rw [hg _ (by omega), hg (10 + 99 * (j / 5) + k) (by omega)]
theorem setElev_s1 (h : XH) (e : Nat) (f : Nat → Int32) (j : Nat) (x : Int32) (hj : j < 5) : xup (setElev h e f) (e + 1) (xar 5 (upd (fun i => f (2 + i)) j x)) = setElev h e (upd f (2 + j) x) := by
  refine setElev_st h e f _ _ (fun i hi => ?_) (fun k hk => upd_ne (by omega))
  by_cases hij : i = j
  · subst hij
    rw [upd_eq, upd_eq]
  · rw [upd_ne hij, upd_ne (by omega)]
/-- settings and the first j rows of g -/
def copyK (f g : Nat → Int32) (j : Nat) : Nat → Int32 := fun k => if (2 ≤ k ∧ k < 7) ∨ (10 ≤ k ∧ k < 10 + 99 * j) then g k else f k
theorem setElev_c0 (h : XH) (e : Nat) (f g : Nat → Int32) : xup (setElev h e f) (e + 1) (xar 5 (fun i => g (2 + i))) = setElev h e (copyK f g 0) := by
  refine setElev_st h e f _ _ (fun i hi => ?_) (fun k hk => ?_)
  · unfold copyK
    rw [if_pos (by omega)]
  · unfold copyK
    rw [if_neg (by omega)]
theorem setElev_cs (h : XH) (e : Nat) (f g : Nat → Int32) (j : Nat) (hj : j < 5) : setRope (setElev h e (copyK f g j)) (e + 3 + 5 * j) (qfix (rowOf g j)) = setElev h e (copyK f g (j + 1)) := by
  refine setElev_rope hj (fun k hk => ?_) (fun k hk => ?_) (fun i k hi hne hk => ?_)
  · have hrow : ∀ k, k < 99 → rowOf (copyK f g (j + 1)) j k = rowOf g j k := by
      intro k hk
      unfold rowOf copyK
      rw [if_pos (by omega)]
    unfold qfix
    rw [hrow 0 (by omega), hrow k hk]
  · unfold copyK
    by_cases h1 : (2 ≤ k ∧ k < 7) ∨ (10 ≤ k ∧ k < 10 + 99 * j)
    · rw [if_pos h1, if_pos (by omega)]
    · rw [if_neg h1, if_neg (by omega)]
  · unfold rowOf copyK
    by_cases h1 : (2 ≤ 10 + 99 * i + k ∧ 10 + 99 * i + k < 7) ∨ (10 ≤ 10 + 99 * i + k ∧ 10 + 99 * i + k < 10 + 99 * j)
    · rw [if_pos h1, if_pos (by omega)]
    · rw [if_neg h1, if_neg (by omega)]
theorem copyK_all (f g : Nat → Int32) : ∀ k, k < 505 → upd (upd (upd (upd (upd (copyK f g 5) 1 (g 1)) 0 (g 0)) 7 (g 7)) 8 (g 8)) 9 (g 9) k = g k := by
  intro k hk
  simp only [upd, copyK]
  by_cases h1 : k = 9
  · subst h1; rfl
  by_cases h2 : k = 8
  · subst h2; rfl
  by_cases h3 : k = 7
  · subst h3; rfl
  by_cases h4 : k = 0
  · subst h4; rfl
  by_cases h5 : k = 1
  · subst h5; rfl
  rw [if_neg h1, if_neg h2, if_neg h3, if_neg h4, if_neg h5, if_pos (by omega)]
/-- a row anew -/
def putRow (f : Nat → Int32) (i : Nat) (r : Nat → Int32) : Nat → Int32 := fun k => if 10 + 99 * i ≤ k ∧ k < 10 + 99 * i + 99 then r (k - (10 + 99 * i)) else f k
theorem putRow_row {f : Nat → Int32} {i : Nat} {r : Nat → Int32} {k : Nat} (hk : k < 99) : rowOf (putRow f i r) i k = r k := by
  unfold rowOf putRow
  rw [if_pos (by omega), show 10 + 99 * i + k - (10 + 99 * i) = k by omega]
theorem putRow_ne {f : Nat → Int32} {i j : Nat} {r : Nat → Int32} {k : Nat} (hk : k < 99) (hj : j ≠ i) : rowOf (putRow f i r) j k = rowOf f j k := by
  unfold rowOf putRow
  rw [if_neg (by omega)]
theorem setElev_put (h : XH) (e : Nat) (f : Nat → Int32) (i : Nat) (r : Nat → Int32) (hi : i < 5) (hq : ¬ r 0 = 0) : setRope (setElev h e f) (e + 3 + 5 * i) r = setElev h e (putRow f i r) := by
  refine setElev_rope hi (fun k hk => ?_) (fun k hk => ?_) (fun j k hj hne hk => putRow_ne hk hne)
  · unfold qfix
    rw [putRow_row (by omega), putRow_row hk]
    by_cases h0 : k = 0
    · subst h0
      rw [if_pos rfl, if_neg hq]
    · rw [if_neg h0]
  · unfold putRow
    rw [if_neg (by omega)]
/-- the first j rows moved by F -/
def mapRows (f : Nat → Int32) (F : (Nat → Int32) → Nat → Int32) (j : Nat) : Nat → Int32 := fun k => if 10 ≤ k ∧ k < 10 + 99 * j then F (rowOf f ((k - 10) / 99)) ((k - 10) % 99) else f k
theorem mapRows_0 (f : Nat → Int32) (F : (Nat → Int32) → Nat → Int32) : mapRows f F 0 = f := by
  funext k
  unfold mapRows
  rw [if_neg (by omega)]
theorem mapRows_at (f : Nat → Int32) (F : (Nat → Int32) → Nat → Int32) (j i : Nat) (hi : j ≤ i) : rowOf (mapRows f F j) i = rowOf f i := by
  funext k
  unfold rowOf mapRows
  rw [if_neg (by omega)]
theorem mapRows_lo (f : Nat → Int32) (F : (Nat → Int32) → Nat → Int32) (j k : Nat) (hk : k < 10) : mapRows f F j k = f k := by
  unfold mapRows
  rw [if_neg (by omega)]
theorem mapRows_row (f : Nat → Int32) (F : (Nat → Int32) → Nat → Int32) (j i k : Nat) (hi : i < j) (hk : k < 99) : rowOf (mapRows f F j) i k = F (rowOf f i) k := by
  show (if 10 ≤ 10 + 99 * i + k ∧ 10 + 99 * i + k < 10 + 99 * j then F (rowOf f ((10 + 99 * i + k - 10) / 99)) ((10 + 99 * i + k - 10) % 99) else f (10 + 99 * i + k)) = _
  rw [if_pos (by omega), show (10 + 99 * i + k - 10) / 99 = i by omega, show (10 + 99 * i + k - 10) % 99 = k by omega]
theorem mapRows_s (f : Nat → Int32) (F : (Nat → Int32) → Nat → Int32) (j : Nat) : putRow (mapRows f F j) j (F (rowOf f j)) = mapRows f F (j + 1) := by
  funext k
  unfold putRow mapRows
  by_cases h1 : 10 + 99 * j ≤ k ∧ k < 10 + 99 * j + 99
  · rw [if_pos h1, if_pos (by omega), show (k - 10) / 99 = j by omega, show (k - 10) % 99 = k - (10 + 99 * j) by omega]
  · rw [if_neg h1]
    by_cases h2 : 10 ≤ k ∧ k < 10 + 99 * j
    · rw [if_pos h2, if_pos (by omega)]
    · rw [if_neg h2, if_neg (by omega)]
/-- rows x .. moved down, j of them -/
def shiftK (f : Nat → Int32) (x j : Nat) : Nat → Int32 := fun k => if 10 + 99 * x ≤ k ∧ k < 10 + 99 * (x + j) then f (k + 99) else f k
theorem shiftK_0 (f : Nat → Int32) (x : Nat) : shiftK f x 0 = f := by
  funext k
  unfold shiftK
  rw [if_neg (by omega)]
theorem shiftK_at (f : Nat → Int32) (x j i : Nat) (hi : x + j ≤ i) : rowOf (shiftK f x j) i = rowOf f i := by
  funext k
  unfold rowOf shiftK
  rw [if_neg (by omega)]
theorem setElev_sh (h : XH) (e : Nat) (f : Nat → Int32) (x j : Nat) (hj : x + j + 1 < 5) : setRope (setElev h e (shiftK f x j)) (e + 3 + 5 * (x + j)) (qfix (rowOf f (x + j + 1))) = setElev h e (shiftK f x (j + 1)) := by
  refine setElev_rope (by omega) (fun k hk => ?_) (fun k hk => ?_) (fun i k hi hne hk => ?_)
  · have hrow : ∀ k, k < 99 → rowOf (shiftK f x (j + 1)) (x + j) k = rowOf f (x + j + 1) k := by
      intro k hk
      unfold rowOf shiftK
      rw [if_pos (by omega)]
      congr 1
      omega
    unfold qfix
    rw [hrow 0 (by omega), hrow k hk]
  · unfold shiftK
    rw [if_neg (by omega), if_neg (by omega)]
  · unfold rowOf shiftK
    by_cases h1 : 10 + 99 * x ≤ 10 + 99 * i + k ∧ 10 + 99 * i + k < 10 + 99 * (x + j)
    · rw [if_pos h1, if_pos (by omega)]
    · rw [if_neg h1, if_neg (by omega)]
/-- what the class's elevator tells -/
def mleftK (f r : Nat → Int32) : Int32 := if 0 < omn (fun s => r (75 + s)) 24 + f 6 + 1 - f 0 then omn (fun s => r (75 + s)) 24 + f 6 + 1 - f 0 else 0
def reasonK (f r : Nat → Int32) (z : Nat) : Int32 := if f 3 ≤ gmx (winS r false z) (25 - z) then 1 else if f 4 ≤ sumN (colR r false) 0 24 then 2 else if f 5 ≤ gmx (grw r) 24 then 3 else if mleftK f r = 0 then 4 else 0
def retK (f : Nat → Int32) (z : Nat) : Nat → Nat
  | 0 => 0
  | j + 1 => if reasonK f (rowOf f j) z = 0 then retK f z j else retK f z j + 1
theorem retK_le (f : Nat → Int32) (z : Nat) : ∀ j, retK f z j ≤ j
  | 0 => Nat.le_refl 0
  | j + 1 => by
    unfold retK
    have := retK_le f z j
    split <;> omega
def canK (f : Nat → Int32) (z m : Nat) : Int32 := if m < 2 then 0 else if retK f z m = 0 then 1 else 0
def sumRK (f : Nat → Int32) (b : Bool) (m : Nat) : Int32 := sumN (fun i => sumN (colR (rowOf f i) b) 0 24) 0 m
theorem sumRK_s (f : Nat → Int32) (b : Bool) (j : Nat) : sumRK f b (j + 1) = sumRK f b j + sumN (colR (rowOf f j) b) 0 24 := by
  show sumN _ 0 j + sumN (colR (rowOf f (0 + j)) b) 0 24 = _
  rw [Nat.zero_add]
  rfl
theorem canK_0a {f : Nat → Int32} {z k : Nat} (h : k < 2) : canK f z k = 0 := if_pos h
theorem canK_0b {f : Nat → Int32} {z k : Nat} (h : ¬ retK f z k = 0) : canK f z k = 0 := by
  unfold canK
  by_cases h2 : k < 2
  · rw [if_pos h2]
  · rw [if_neg h2, if_neg h]
theorem canK_1 {f : Nat → Int32} {z k : Nat} (h : ¬ k < 2) (h2 : retK f z k = 0) : canK f z k = 1 := by
  unfold canK
  rw [if_neg h, if_pos h2]
theorem shiftK_lo (f : Nat → Int32) (x j k : Nat) (hk : k < 10) : shiftK f x j k = f k := by
  unfold shiftK
  rw [if_neg (by omega)]
theorem copyK_0 (f g : Nat → Int32) : True := trivial
def travK (f : Nat → Int32) (lo hi k : Nat) (t : Int32) : Nat → Int32 := upd (mapRows f (fun r => rBendT r (3 * lo) (3 * hi + 3 - 3 * lo) t) k) 7 (f 7 + t)
theorem rBendT_0 (r : Nat → Int32) (lo w : Nat) (t : Int32) : rBendT r lo w t 0 = r 0 := by
  unfold rBendT rBend
  rw [upd_ne (by decide), if_neg (by omega)]
theorem IsRope.of_eq {h : XH} {a : Nat} {r r' : Nat → Int32} (hR : IsRope h a r) (he : r = r') : IsRope h a r' := he ▸ hR
