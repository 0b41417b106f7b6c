/-! numbers; the state in order; forecasts -/
theorem tI_add {a b : Int32} (h1 : -2147483648 ≤ a.toInt + b.toInt) (h2 : a.toInt + b.toInt < 2147483648) : (a + b).toInt = a.toInt + b.toInt := by
  rw [Int32.toInt_add]
  exact Int.bmod_eq_of_le (by omega) (by omega)
theorem tI_sub {a b : Int32} (h1 : -2147483648 ≤ a.toInt - b.toInt) (h2 : a.toInt - b.toInt < 2147483648) : (a - b).toInt = a.toInt - b.toInt := by
  rw [Int32.toInt_sub]
  exact Int.bmod_eq_of_le (by omega) (by omega)
theorem tI_inj {a b : Int32} (h : a.toInt = b.toInt) : a = b := Int32.toInt_inj.mp h
theorem tI_0 : (0 : Int32).toInt = 0 := by decide
theorem tI_1 : (1 : Int32).toInt = 1 := by decide
theorem le_tI {a b : Int32} : a ≤ b ↔ a.toInt ≤ b.toInt := Int32.le_iff_toInt_le
theorem lt_tI {a b : Int32} : a < b ↔ a.toInt < b.toInt := Int32.lt_iff_toInt_lt
theorem gmx_ge (S : Nat → Int32) : ∀ n, 0 ≤ (gmx S n).toInt ∧ (∀ s, s < n → (S s).toInt ≤ (gmx S n).toInt) ∧ ((gmx S n).toInt = 0 ∨ ∃ s, s < n ∧ (gmx S n).toInt = (S s).toInt)
  | 0 => ⟨by show 0 ≤ (0 : Int32).toInt; rw [tI_0]; exact Int.le_refl 0, fun s h => absurd h (Nat.not_lt_zero s), Or.inl tI_0⟩
  | n + 1 => by
    obtain ⟨h1, h2, h3⟩ := gmx_ge S n
    unfold gmx
    by_cases h : gmx S n < S n
    · rw [if_pos h]
      rw [lt_tI] at h
      refine ⟨by omega, fun s hs => ?_, Or.inr ⟨n, by omega, rfl⟩⟩
      by_cases hn : s = n
      · subst hn; exact Int.le_refl _
      · have := h2 s (by omega); omega
    · rw [if_neg h]
      rw [lt_tI] at h
      refine ⟨h1, fun s hs => ?_, ?_⟩
      · by_cases hn : s = n
        · subst hn; omega
        · exact h2 s (by omega)
      · rcases h3 with h3 | ⟨s, a, b⟩
        · exact Or.inl h3
        · exact Or.inr ⟨s, by omega, b⟩
theorem gmx_any {S : Nat → Int32} {v : Int32} (hv : 0 < v.toInt) (n : Nat) : v ≤ gmx S n ↔ ∃ s, s < n ∧ v ≤ S s := by
  obtain ⟨h1, h2, h3⟩ := gmx_ge S n
  rw [le_tI]
  constructor
  · intro h
    rcases h3 with h3 | ⟨s, a, b⟩
    · omega
    · exact ⟨s, a, by rw [le_tI]; omega⟩
  · rintro ⟨s, a, b⟩
    rw [le_tI] at b
    have := h2 s a
    omega
theorem gmx_congr {S S' : Nat → Int32} : ∀ n, (∀ s, s < n → S s = S' s) → gmx S n = gmx S' n
  | 0, _ => rfl
  | n + 1, h => by
    unfold gmx
    rw [gmx_congr n (fun s hs => h s (by omega)), h n (by omega)]
theorem omn_congr {S S' : Nat → Int32} : ∀ n, (∀ s, s < n → S s = S' s) → omn S n = omn S' n
  | 0, _ => rfl
  | n + 1, h => by
    unfold omn
    rw [omn_congr n (fun s hs => h s (by omega)), h n (by omega)]
/-- a rope in order: its bends are at most its trips, counts at most threads, counts ahead at most counts -/
def OKrow (r : Nat → Int32) (m tt : Nat) : Prop :=
  ∃ q u t, r 0 = nI q ∧ 1 ≤ q ∧ q ≤ 99 ∧ r 1 = nI u ∧ u ≤ m ∧ r 2 = nI t ∧ t ≤ tt ∧ ∀ s, s < 24 → ∃ b c a d, r (3 + s) = nI b ∧ b ≤ t ∧ r (27 + s) = nI c ∧ c ≤ b / q ∧ r (51 + s) = nI a ∧ a ≤ c ∧ r (75 + s) = nI d ∧ u ≤ d ∧ d ≤ m
def OKset (f : Nat → Int32) : Prop := (∃ z, f 2 = nI z ∧ 1 ≤ z ∧ z ≤ 12) ∧ (∃ v, f 3 = nI v ∧ 1 ≤ v ∧ v ≤ 99) ∧ (∃ v, f 4 = nI v ∧ 1 ≤ v ∧ v ≤ 999) ∧ (∃ v, f 5 = nI v ∧ 1 ≤ v ∧ v ≤ 99) ∧ (∃ v, f 6 = nI v ∧ 1 ≤ v ∧ v ≤ 60)
def OKf (f : Nat → Int32) (k m tt : Nat) : Prop := f 1 = nI k ∧ k ≤ 5 ∧ f 0 = nI m ∧ m ≤ 2000 ∧ f 7 = nI tt ∧ tt ≤ 99999 ∧ OKset f ∧ ∀ i, i < k → OKrow (rowOf f i) m tt
theorem nI_tI {n : Nat} (h : n < 2147483648) : (nI n).toInt = (n : Int) := nI_toInt (by omega)
theorem sumN_nat {S : Nat → Int32} {B a : Nat} : ∀ n, (∀ s, a ≤ s → s < a + n → ∃ v, S s = nI v ∧ v ≤ B) → ∃ v, sumN S a n = nI v ∧ v ≤ n * B
  | 0, _ => ⟨0, by show (0 : Int32) = nI 0; rw [nI_0], by omega⟩
  | n + 1, h => by
    obtain ⟨v, e1, e2⟩ := sumN_nat n (fun s h1 h2 => h s h1 (by omega))
    obtain ⟨w, f1, f2⟩ := h (a + n) (by omega) (by omega)
    refine ⟨v + w, ?_, ?_⟩
    · unfold sumN
      rw [e1, f1, nI_add]
    · rw [Nat.succ_mul]
      omega
theorem rBend_at {r : Nat → Int32} {lo n s : Nat} {t : Int32} (h1 : lo ≤ s) (h2 : s < lo + n) : rBend r lo n t (3 + s) = r (3 + s) + t := if_pos (by omega)
theorem rBend_ne {r : Nat → Int32} {lo n k : Nat} {t : Int32} (h : ¬ (3 + lo ≤ k ∧ k < 3 + lo + n)) : rBend r lo n t k = r k := if_neg h
theorem sumN_two {S S' : Nat → Int32} {B a : Nat} : ∀ n, (∀ s, a ≤ s → s < a + n → ∃ v w, S s = nI v ∧ S' s = nI w ∧ v ≤ w ∧ w ≤ B) → ∃ v w, sumN S a n = nI v ∧ sumN S' a n = nI w ∧ v ≤ w ∧ w ≤ n * B
  | 0, _ => ⟨0, 0, by show (0 : Int32) = nI 0; rw [nI_0], by show (0 : Int32) = nI 0; rw [nI_0], Nat.le_refl 0, by omega⟩
  | n + 1, h => by
    obtain ⟨v, v', e1, e1', e2, e3⟩ := sumN_two n (fun s h1 h2 => h s h1 (by omega))
    obtain ⟨w, w', f1, f1', f2, f3⟩ := h (a + n) (by omega) (by omega)
    refine ⟨v + w, v' + w', ?_, ?_, by omega, ?_⟩
    · unfold sumN
      rw [e1, f1, nI_add]
    · unfold sumN
      rw [e1', f1', nI_add]
    · rw [Nat.succ_mul]
      omega
theorem sumN_low {S : Nat → Int32} {L B a : Nat} : ∀ n, (∀ s, a ≤ s → s < a + n → ∃ v, S s = nI v ∧ L ≤ v ∧ v ≤ B) → ∃ v, sumN S a n = nI v ∧ n * L ≤ v ∧ v ≤ n * B
  | 0, _ => ⟨0, by show (0 : Int32) = nI 0; rw [nI_0], by omega, by omega⟩
  | n + 1, h => by
    obtain ⟨v, e1, e2, e3⟩ := sumN_low n (fun s h1 h2 => h s h1 (by omega))
    obtain ⟨w, f1, f2, f3⟩ := h (a + n) (by omega) (by omega)
    refine ⟨v + w, ?_, ?_, ?_⟩
    · unfold sumN
      rw [e1, f1, nI_add]
    · rw [Nat.succ_mul]
      omega
    · rw [Nat.succ_mul]
      omega
theorem brk_bend {r : Nat → Int32} {q b s T : Nat} (h0 : r 0 = nI q) (h1 : 1 ≤ q) (h2 : q ≤ 99) (e1 : r (3 + s) = nI b) (hb : b + T ≤ 199999) (hs : s < 24) : brk (rBend r 0 24 (nI T)) s = nI ((b + T) / q) := by
  unfold brk
  rw [rBend_at (by omega) (by omega), rBend_ne (k := 0) (by omega), e1, h0, nI_add]
  exact pk_div (by omega) (by omega) (by omega)
theorem winS_T (r : Nat → Int32) (t : Int32) (z : Nat) : winS (rBendT r 0 24 t) true z = winS (rBend r 0 24 t) true z := by
  funext k
  unfold winS
  refine sumN_congr (fun s _ _ => ?_)
  show brk (rBendT r 0 24 t) s = brk (rBend r 0 24 t) s
  unfold brk rBendT
  rw [upd_ne (by omega), upd_ne (by omega)]
def wornP (f r : Nat → Int32) (z T : Nat) : Prop := ∃ k, k < 25 - z ∧ f 3 ≤ winS (rBend r 0 24 (nI T)) true z k
theorem rch_worn {f r : Nat → Int32} {z T : Nat} (h3 : 0 < (f 3).toInt) : rchK f r z (nI T) = true ↔ wornP f r z T := by
  unfold rchK wornP
  rw [decide_eq_true_iff, winS_T, gmx_any h3]
theorem half_nI {lo hi : Nat} (h : lo + hi < 2 ^ 31) : (nI lo + nI hi) / 2 = nI ((lo + hi) / 2) := by
  rw [nI_add, show (2 : Int32) = nI 2 from rfl, pk_div h (by decide) (by decide)]
theorem tl_bs {f r : Nat → Int32} {z L : Nat} (hP : ∀ t, t ≤ 9801 → rchK f r z (nI t) = decide (L ≤ t)) : ∀ d lo hi, lo ≤ L → L ≤ hi → hi < lo + 2 ^ d → hi ≤ 9801 → tlK f r z d (nI lo) (nI hi) = nI L
  | 0, lo, hi, h1, h2, h3, _ => by
    show nI lo = nI L
    have : (2 : Nat) ^ 0 = 1 := rfl
    exact congrArg nI (by omega)
  | d + 1, lo, hi, h1, h2, h3, h4 => by
    unfold tlK
    rw [Nat.pow_succ] at h3
    by_cases hl : lo < hi
    · rw [if_pos (nI_lt hl (by omega)), half_nI (by omega), hP _ (by omega)]
      by_cases hm : L ≤ (lo + hi) / 2
      · rw [decide_eq_true hm, if_pos rfl]
        exact tl_bs hP d _ _ h1 hm (by omega) (by omega)
      · rw [decide_eq_false hm, if_neg Bool.false_ne_true, nI_1]
        exact tl_bs hP d _ _ (by omega) h2 (by omega) h4
    · rw [if_neg (nI_nlt (by omega) (by omega))]
      exact congrArg nI (by omega)
theorem bool_dec {b : Bool} {a c : Nat} (h : b = true ↔ a ≤ c) : b = decide (a ≤ c) := by
  by_cases hp : a ≤ c
  · rw [decide_eq_true hp]; exact h.mpr hp
  · rw [decide_eq_false hp]
    cases b
    · rfl
    · exact absurd (h.mp rfl) hp
theorem OKrow.bk {r : Nat → Int32} {m tt : Nat} (h : OKrow r m tt) (ht : tt ≤ 99999) {s : Nat} (hs : s < 24) : ∃ c v, colR r false s = nI c ∧ colR r true s = nI v ∧ c ≤ v ∧ v ≤ 99999 := by
  obtain ⟨q, u, t, h0, h1, h2, -, -, -, ht2, h3⟩ := h
  obtain ⟨b, c, a, d, e1, e2, e3, e4, -⟩ := h3 s hs
  have hb := Nat.div_le_self b q
  refine ⟨c, b / q, e3, ?_, e4, by omega⟩
  show brk r s = _
  unfold brk
  rw [e1, h0]
  exact pk_div (by omega) (by omega) (by omega)
theorem OKrow.win {r : Nat → Int32} {m tt z : Nat} (h : OKrow r m tt) (ht : tt ≤ 99999) {k n : Nat} (hk : k + n ≤ 24) : ∃ c v, sumN (colR r false) k n = nI c ∧ sumN (colR r true) k n = nI v ∧ c ≤ v ∧ v ≤ 2399976 := by
  obtain ⟨c, v, e1, e2, e3, e4⟩ := sumN_two (S := colR r false) (S' := colR r true) (B := 99999) (a := k) n (fun s h1 h2 => h.bk ht (by omega))
  have : n * 99999 ≤ 24 * 99999 := Nat.mul_le_mul_right _ (by omega)
  exact ⟨c, v, e1, e2, e3, by omega⟩
theorem OKrow.gmx_le {r : Nat → Int32} {m tt z : Nat} (h : OKrow r m tt) (ht : tt ≤ 99999) (z2 : z ≤ 12) : gmx (winS r false z) (25 - z) ≤ gmx (winS r true z) (25 - z) := by
  obtain ⟨a1, a2, a3⟩ := gmx_ge (winS r false z) (25 - z)
  obtain ⟨b1, b2, b3⟩ := gmx_ge (winS r true z) (25 - z)
  rw [le_tI]
  rcases a3 with a3 | ⟨s, s1, s2⟩
  · omega
  · obtain ⟨c, v, e1, e2, e3, e4⟩ := h.win (z := z) ht (k := s) (n := z) (by omega)
    have h2 := b2 s s1
    have g1 : winS r false z s = nI c := e1
    have g2 : winS r true z s = nI v := e2
    rw [g1, nI_tI (by omega)] at s2
    rw [g2, nI_tI (by omega)] at h2
    omega
theorem fstN_in {S : Nat → Int32} {v : Int32} : ∀ d k, (∃ s, k ≤ s ∧ s < k + d ∧ S s = v) → k ≤ fstN S v d k ∧ fstN S v d k < k + d ∧ S (fstN S v d k) = v
  | 0, k, h => by obtain ⟨s, h1, h2, -⟩ := h; omega
  | d + 1, k, h => by
    unfold fstN
    by_cases hk : S k = v
    · rw [if_pos hk]
      exact ⟨Nat.le_refl k, by omega, hk⟩
    · rw [if_neg hk]
      obtain ⟨s, h1, h2, h3⟩ := h
      have hne : s ≠ k := fun q => hk (by rw [← q]; exact h3)
      obtain ⟨g1, g2, g3⟩ := fstN_in d (k + 1) ⟨s, by omega, by omega, h3⟩
      exact ⟨by omega, by omega, g3⟩
theorem OKrow.gwin {r : Nat → Int32} {m tt z : Nat} (h : OKrow r m tt) (ht : tt ≤ 99999) (z2 : z ≤ 12) : gwinK r z < 25 - z ∧ winS r false z (gwinK r z) = gmx (winS r false z) (25 - z) := by
  obtain ⟨a1, a2, a3⟩ := gmx_ge (winS r false z) (25 - z)
  have hex : ∃ s, 0 ≤ s ∧ s < 0 + (25 - z) ∧ winS r false z s = gmx (winS r false z) (25 - z) := by
    rcases a3 with a3 | ⟨s, s1, s2⟩
    · refine ⟨0, Nat.le_refl 0, by omega, tI_inj ?_⟩
      obtain ⟨c, v, e1, -, e3, e4⟩ := h.win (z := z) ht (k := 0) (n := z) (by omega)
      have h2 := a2 0 (by omega)
      have g1 : winS r false z 0 = nI c := e1
      rw [g1, nI_tI (by omega)] at h2 ⊢
      omega
    · exact ⟨s, Nat.zero_le s, by omega, tI_inj s2.symm⟩
  obtain ⟨g1, g2, g3⟩ := fstN_in (25 - z) 0 hex
  exact ⟨by unfold gwinK; omega, g3⟩
theorem worn_mono {f r : Nat → Int32} {z T T' m tt : Nat} (h : OKrow r m tt) (ht : tt ≤ 99999) (hT : T ≤ T') (hT' : T' ≤ 9801) (z2 : z ≤ 12) (hw : wornP f r z T) : wornP f r z T' := by
  obtain ⟨k, hk, hw⟩ := hw
  refine ⟨k, hk, ?_⟩
  obtain ⟨q, u, t, h0, h1, h2, -, -, -, ht2, h3⟩ := h
  obtain ⟨v, w, e1, e2, e3, e4⟩ := sumN_two (S := colR (rBend r 0 24 (nI T)) true) (S' := colR (rBend r 0 24 (nI T')) true) (B := 199999) (a := k) z (fun s s1 s2 => by
    obtain ⟨b, c, a, d, e1, e2, -⟩ := h3 s (by omega)
    refine ⟨(b + T) / q, (b + T') / q, brk_bend h0 h1 h2 e1 (by omega) (by omega), brk_bend h0 h1 h2 e1 (by omega) (by omega), Nat.div_le_div_right (by omega), ?_⟩
    exact Nat.le_trans (Nat.div_le_self _ q) (by omega))
  have h5 : z * 199999 ≤ 12 * 199999 := Nat.mul_le_mul_right _ z2
  have hw2 : f 3 ≤ sumN (colR (rBend r 0 24 (nI T)) true) k z := hw
  show f 3 ≤ sumN (colR (rBend r 0 24 (nI T')) true) k z
  rw [e1] at hw2
  rw [e2]
  exact Int32.le_trans hw2 (nI_le e3 (by omega))
theorem worn_at {f r : Nat → Int32} {z c q m tt : Nat} (h : OKrow r m tt) (ht : tt ≤ 99999) (z1 : 1 ≤ z) (z2 : z ≤ 12) (h3 : f 3 = nI c) (c2 : c ≤ 99) (h0 : r 0 = nI q) (q1 : 1 ≤ q) (q2 : q ≤ 99) : wornP f r z (c * q) := by
  have hcq : c * q ≤ 9801 := Nat.mul_le_mul c2 q2
  refine ⟨0, by omega, ?_⟩
  obtain ⟨q', u, t, h0', -, -, -, -, -, ht2, h3'⟩ := h
  obtain ⟨v, e1, e2, e3⟩ := sumN_low (S := colR (rBend r 0 24 (nI (c * q))) true) (L := c) (B := 199999) (a := 0) z (fun s s1 s2 => by
    obtain ⟨b, c', a, d, e1, e2, -⟩ := h3' s (by omega)
    refine ⟨(b + c * q) / q, brk_bend h0 q1 q2 e1 (by omega) (by omega), ?_, Nat.le_trans (Nat.div_le_self _ q) (by omega)⟩
    rw [Nat.le_div_iff_mul_le (by omega)]
    omega)
  have h5 : z * 199999 ≤ 12 * 199999 := Nat.mul_le_mul_right _ z2
  have h6 : 1 * c ≤ z * c := Nat.mul_le_mul_right _ z1
  show f 3 ≤ sumN (colR (rBend r 0 24 (nI (c * q))) true) 0 z
  rw [e1, h3]
  exact nI_le (by omega) (by omega)
theorem rBend_z (r : Nat → Int32) (lo n : Nat) : rBend r lo n (nI 0) = r := by
  funext k
  by_cases h : 3 + lo ≤ k ∧ k < 3 + lo + n
  · unfold rBend
    rw [if_pos h, nI_0, Int32.add_zero]
  · exact rBend_ne h
/-- nothing is left for trips just where a window is worn -/
theorem tl_zero {f r : Nat → Int32} {z m tt : Nat} (hs : OKset f) (hz : f 2 = nI z) (z1 : 1 ≤ z) (z2 : z ≤ 12) (h : OKrow r m tt) (ht : tt ≤ 99999) : tlK f r z 32 0 (f 3 * r 0) = 0 ↔ f 3 ≤ gmx (winS r true z) (25 - z) := by
  obtain ⟨-, ⟨c, h3, c1, c2⟩, -⟩ := hs
  have hr := h
  obtain ⟨q, u, t, h0, q1, q2, -⟩ := hr
  have hcq : c * q ≤ 9801 := Nat.mul_le_mul c2 q2
  have h3p : 0 < (f 3).toInt := by rw [h3, nI_tI (by omega)]; omega
  have hex : wornP f r z (c * q) := worn_at h ht z1 z2 h3 c2 h0 q1 q2
  obtain ⟨L, l1, l2⟩ := pk_least (fun t => wornP f r z t) ⟨_, hex⟩
  have hLc : L ≤ c * q := Nat.le_of_not_lt fun q' => l2 _ q' hex
  have hiff : ∀ t, t ≤ 9801 → (wornP f r z t ↔ L ≤ t) := fun t h9 => ⟨fun w => Nat.le_of_not_lt fun q' => l2 _ q' w, fun w => worn_mono h ht w h9 z2 l1⟩
  have hv : tlK f r z 32 0 (f 3 * r 0) = nI L := by
    rw [h3, h0, pk_mul, ← nI_0]
    exact tl_bs (L := L) (fun t h9 => bool_dec ((rch_worn h3p).trans (hiff t h9))) 32 0 (c * q) (Nat.zero_le _) hLc (by have : (2 : Nat) ^ 32 = 4294967296 := rfl; omega) (by omega)
  have h00 : wornP f r z 0 ↔ f 3 ≤ gmx (winS r true z) (25 - z) := by
    rw [gmx_any h3p]
    unfold wornP
    rw [rBend_z]
  rw [hv, ← h00, hiff 0 (by omega), ← nI_0, nI_eq (by omega) (by omega)]
  omega
