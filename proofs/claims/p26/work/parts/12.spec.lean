/-! what is computed: over a row r (a rope), over the flat state f -/
def xle : List (Option Value) → List (Option Value) → Prop
  | [], _ => True
  | none :: t, _ :: t' => xle t t'
  | some v :: t, x :: t' => x = some v ∧ xle t t'
  | _ :: _, [] => False
theorem xle_sub : ∀ {a b : List (Option Value)}, xle a b → ∀ (i : Nat) (v : Value), a[i]? = some (some v) → b[i]? = some (some v)
  | [], b, _, i, v, h => by simp at h
  | none :: t, [], h0, i, v, h => h0.elim
  | none :: t, y :: t', h0, i, v, h => by
    match i, h with
    | 0, h => cases h
    | i + 1, h => exact xle_sub (a := t) (b := t') h0 i v h
  | some w :: t, [], h0, i, v, h => h0.elim
  | some w :: t, y :: t', h0, i, v, h => by
    obtain ⟨h1, h2⟩ := h0
    match i, h with
    | 0, h => cases h; subst h1; rfl
    | i + 1, h => exact xle_sub (a := t) (b := t') h2 i v h
def brk (r : Nat → Int32) (s : Nat) : Int32 := r (3 + s) / r 0
def sumN (g : Nat → Int32) (a : Nat) : Nat → Int32
  | 0 => 0
  | n + 1 => sumN g a n + g (a + n)
theorem sumN_congr {g g' : Nat → Int32} {a n : Nat} (h : ∀ s, a ≤ s → s < a + n → g s = g' s) : sumN g a n = sumN g' a n := by
  induction n with
  | zero => rfl
  | succ n ih =>
    unfold sumN
    rw [ih fun s h1 h2 => h s h1 (by omega), h (a + n) (by omega) (by omega)]
/-- counts (false) or broken threads (true) -/
def colR (r : Nat → Int32) (b : Bool) : Nat → Int32 := fun s => if b then brk r s else r (27 + s)
/-- the first place of the greatest, among 0 .. k -/
def amax (S : Nat → Int32) : Nat → Nat
  | 0 => 0
  | k + 1 => if S (amax S k) < S (k + 1) then k + 1 else amax S k
theorem amax_le (S : Nat → Int32) : ∀ k, amax S k ≤ k
  | 0 => Nat.le_refl 0
  | k + 1 => by
    unfold amax
    split
    · exact Nat.le_refl _
    · exact Nat.le_succ_of_le (amax_le S k)
/-- sum of a window -/
def winS (r : Nat → Int32) (b : Bool) (z : Nat) : Nat → Int32 := fun k => sumN (colR r b) k z
/-- the window with the greatest sum, z sections wide -/
def gwin (r : Nat → Int32) (b : Bool) (z : Nat) : Nat := amax (winS r b z) (24 - z)
def gmost (r : Nat → Int32) (b : Bool) (z : Nat) : Int32 := winS r b z (gwin r b z)
/-- uncounted threads of many sections from a on -/
def unc (r : Nat → Int32) (w : Nat) : Nat → Int32 := fun a => sumN (colR r true) a w - sumN (colR r false) a w
def bestI (r : Nat → Int32) (w : Nat) : Nat := amax (unc r w) (24 - w)
def anyN (P : Nat → Bool) : Nat → Bool
  | 0 => false
  | n + 1 => anyN P n || P n
theorem nI_m1 {n : Nat} (h : 0 < n) : nI n - 1 = nI (n - 1) := by
  obtain ⟨k, rfl⟩ : ∃ k, n = k + 1 := ⟨n - 1, by omega⟩
  exact nI_pred k
theorem i_nlt {x y : Int32} (h : x ≤ y) : ¬ y < x := fun q => absurd h (Int32.not_le.mpr q)
theorem i_lt {x y : Int32} (h : ¬ x ≤ y) : y < x := Int32.not_le.mp h
/-- the greatest of the first k, 0 if none is above it -/
def gmx (S : Nat → Int32) : Nat → Int32
  | 0 => 0
  | k + 1 => if gmx S k < S k then S k else gmx S k
/-- the least of the first k, 2000 if none is below it -/
def omn (S : Nat → Int32) : Nat → Int32
  | 0 => 2000
  | k + 1 => if S k < omn S k then S k else omn S k
def grw (r : Nat → Int32) : Nat → Int32 := fun s => r (27 + s) - r (51 + s)
def secF (r : Nat → Int32) (i w : Nat) : Int32 := if w = 0 then r (3 + i) else if w = 1 then brk r i else r (27 + 24 * (w - 2) + i)
theorem ne_of_gt {x : Int32} (h : 0 < x) : ¬ x = 0 := fun e => by rw [e] at h; exact absurd h (by decide)
theorem XV.drop {G : XG} {nL : Nat} {p : Program} {l : Launch} {e : Env} {R : Room} {s : State} {m : MethodId} {args : Array Value} {below : List Frame} {meth : Method} {c : Code} {Q : State → Prop} {pc : Nat} {ls ls' : List (Option Value)} {st : List Value} {n : Nat} {h : XH} {k ks : Nat} (kk : XV G nL p l e R s m args below meth c Q pc ls' st n h k ks) (hl : ls'.length = ls.length) (hx : xle ls' ls) : XV G nL p l e R s m args below meth c Q pc ls st n h k ks := XV.locs ls' hl (xle_sub hx) kk
/-- the first k from the given one on, among so many, at which S is v; 0 if there is none -/
def fstN (S : Nat → Int32) (v : Int32) : Nat → Nat → Nat
  | 0, _ => 0
  | d + 1, k => if S k = v then k else fstN S v d (k + 1)
/-- the first window whose sum of counts is the greatest -/
def gwinK (r : Nat → Int32) (z : Nat) : Nat := fstN (winS r false z) (gmx (winS r false z) (25 - z)) (25 - z) 0
