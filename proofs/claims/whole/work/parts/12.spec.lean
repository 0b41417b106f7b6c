/-! what is computed: over a row r (a rope), over the flat state f -/
def xle : List (Option Value) → List (Option Value) → Prop
  | [], _ => True
  | none :: t, _ :: t' => xle t t'
  | some v :: t, x :: t' => x = some v ∧ xle t t'
  | _ :: _, [] => False
theorem xle_sub : ∀ {a b : List (Option Value)}, xle a b → ∀ (i : Nat) (v : Value), a[i]? = some (some v) → b[i]? = some (some v)
  | [], b, _, i, v, h => by simp at h
  | none :: t, [], h0, i, v, h => h0.elim
  | none :: t, y :: t', h0, i, v, h => by
    match i, h with
    | 0, h => cases h
    | i + 1, h => exact xle_sub (a := t) (b := t') h0 i v h
  | some w :: t, [], h0, i, v, h => h0.elim
  | some w :: t, y :: t', h0, i, v, h => by
    obtain ⟨h1, h2⟩ := h0
    match i, h with
    | 0, h => cases h; subst h1; rfl
    | i + 1, h => exact xle_sub (a := t) (b := t') h2 i v h
def brk (r : Nat → Int32) (s : Nat) : Int32 := r (3 + s) / r 0
def sumN (g : Nat → Int32) (a : Nat) : Nat → Int32
  | 0 => 0
  | n + 1 => sumN g a n + g (a + n)
theorem sumN_congr {g g' : Nat → Int32} {a n : Nat} (h : ∀ s, a ≤ s → s < a + n → g s = g' s) : sumN g a n = sumN g' a n := by
  induction n with
  | zero => rfl
  | succ n ih =>
    unfold sumN
    rw [ih fun s h1 h2 => h s h1 (by omega), h (a + n) (by omega) (by omega)]
/-- counts (false) or broken threads (true) -/
def colR (r : Nat → Int32) (b : Bool) : Nat → Int32 := fun s => if b then brk r s else r (27 + s)
/-- the first place of the greatest, among 0 .. k -/
def amax (S : Nat → Int32) : Nat → Nat
  | 0 => 0
  | k + 1 => if S (amax S k) < S (k + 1) then k + 1 else amax S k
theorem amax_le (S : Nat → Int32) : ∀ k, amax S k ≤ k
  | 0 => Nat.le_refl 0
  | k + 1 => by
    unfold amax
    split
    · exact Nat.le_refl _
    · exact Nat.le_succ_of_le (amax_le S k)
/-- sum of a window -/
def winS (r : Nat → Int32) (b : Bool) (z : Nat) : Nat → Int32 := fun k => sumN (colR r b) k z
/-- the window with the greatest sum, z sections wide -/
def gwin (r : Nat → Int32) (b : Bool) (z : Nat) : Nat := amax (winS r b z) (24 - z)
def gmost (r : Nat → Int32) (b : Bool) (z : Nat) : Int32 := winS r b z (gwin r b z)
/-- uncounted threads of many sections from a on -/
def unc (r : Nat → Int32) (w : Nat) : Nat → Int32 := fun a => sumN (colR r true) a w - sumN (colR r false) a w
def bestI (r : Nat → Int32) (w : Nat) : Nat := amax (unc r w) (24 - w)
def anyN (P : Nat → Bool) : Nat → Bool
  | 0 => false
  | n + 1 => anyN P n || P n
