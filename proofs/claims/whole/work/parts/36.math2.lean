/-! forecasts, figures, the hash: both sides alike -/
theorem rBend_at {r : Nat → Int32} {lo n s : Nat} {t : Int32} (h1 : lo ≤ s) (h2 : s < lo + n) : rBend r lo n t (3 + s) = r (3 + s) + t := if_pos (by omega)
theorem rBend_ne {r : Nat → Int32} {lo n k : Nat} {t : Int32} (h : ¬ (3 + lo ≤ k ∧ k < 3 + lo + n)) : rBend r lo n t k = r k := if_neg h
theorem OKrow_bend {r : Nat → Int32} {m tt lo n T : Nat} (h : OKrow r m tt) (hn : lo + n ≤ 24) : OKrow (rBend r lo n (nI T)) m (tt + T) := by
  obtain ⟨q, h0, h1, h2, h3⟩ := h
  refine ⟨q, by rw [rBend_ne (by omega)]; exact h0, h1, h2, fun s hs => ?_⟩
  obtain ⟨b, c, a, d, e1, e2, e3, e4, e5, e6, e7, e8⟩ := h3 s hs
  by_cases hin : lo ≤ s ∧ s < lo + n
  · refine ⟨b + T, c, a, d, by rw [rBend_at hin.1 hin.2, e1, nI_add], by omega, by rw [rBend_ne (by omega)]; exact e3, Nat.le_trans e4 (Nat.div_le_div_right (by omega)), by rw [rBend_ne (by omega)]; exact e5, e6, by rw [rBend_ne (by omega)]; exact e7, e8⟩
  · exact ⟨b, c, a, d, by rw [rBend_ne (by omega)]; exact e1, by omega, by rw [rBend_ne (by omega)]; exact e3, e4, by rw [rBend_ne (by omega)]; exact e5, e6, by rw [rBend_ne (by omega)]; exact e7, e8⟩
theorem OKrow_2 {r : Nat → Int32} {m tt : Nat} {v : Int32} (h : OKrow r m tt) : OKrow (upd r 2 v) m tt := by
  obtain ⟨q, h0, h1, h2, h3⟩ := h
  refine ⟨q, by rw [upd_ne (by omega)]; exact h0, h1, h2, fun s hs => ?_⟩
  obtain ⟨b, c, a, d, e1, e2, e3, e4, e5, e6, e7, e8⟩ := h3 s hs
  exact ⟨b, c, a, d, by rw [upd_ne (by omega)]; exact e1, e2, by rw [upd_ne (by omega)]; exact e3, e4, by rw [upd_ne (by omega)]; exact e5, e6, by rw [upd_ne (by omega)]; exact e7, e8⟩
theorem OKrow_bendT {r : Nat → Int32} {m tt lo n T : Nat} (h : OKrow r m tt) (hn : lo + n ≤ 24) : OKrow (rBendT r lo n (nI T)) m (tt + T) := OKrow_2 (OKrow_bend h hn)
theorem OKrow_le {r : Nat → Int32} {m tt m' tt' : Nat} (h : OKrow r m tt) (hm : m ≤ m') (ht : tt ≤ tt') : OKrow r m' tt' := by
  obtain ⟨q, h0, h1, h2, h3⟩ := h
  refine ⟨q, h0, h1, h2, fun s hs => ?_⟩
  obtain ⟨b, c, a, d, e1, e2, e3, e4, e5, e6, e7, e8⟩ := h3 s hs
  exact ⟨b, c, a, d, e1, by omega, e3, e4, e5, e6, e7, by omega⟩
theorem OKrow_look {r : Nat → Int32} {m tt lo n : Nat} (h : OKrow r m tt) (ht : tt ≤ 99999) (hn : lo + n ≤ 24) : OKrow (rLook r lo n (nI m)) m tt := by
  have h9 := h
  obtain ⟨q, h0, h1, h2, h3⟩ := h
  refine ⟨q, by unfold rLook; rw [if_neg (by omega), if_neg (by omega), if_neg (by omega)]; exact h0, h1, h2, fun s hs => ?_⟩
  obtain ⟨b, c, a, d, e1, e2, e3, e4, e5, e6, e7, e8⟩ := h3 s hs
  have x1 : rLook r lo n (nI m) (3 + s) = nI b := by unfold rLook; rw [if_neg (by omega), if_neg (by omega), if_neg (by omega)]; exact e1
  by_cases hin : lo ≤ s ∧ s < lo + n
  · have x2 : rLook r lo n (nI m) (27 + s) = nI (b / q) := by
      unfold rLook
      rw [if_neg (by omega), if_pos (by omega), show 27 + s - 27 = s by omega]
      unfold brk
      rw [e1, h0]
      exact pk_div (by omega) (by omega) (by omega)
    have x3 : rLook r lo n (nI m) (51 + s) = nI c := by
      unfold rLook
      rw [if_pos (by omega), show 51 + s - 24 = 27 + s by omega]
      exact e3
    have x4 : rLook r lo n (nI m) (75 + s) = nI m := by
      unfold rLook
      rw [if_neg (by omega), if_neg (by omega), if_pos (by omega)]
    have hb : b / q ≤ b := Nat.div_le_self b q
    exact ⟨b, b / q, c, m, x1, e2, x2, Nat.le_refl _, x3, by omega, x4, Nat.le_refl _⟩
  · have x2 : rLook r lo n (nI m) (27 + s) = nI c := by unfold rLook; rw [if_neg (by omega), if_neg (by omega), if_neg (by omega)]; exact e3
    have x3 : rLook r lo n (nI m) (51 + s) = nI a := by unfold rLook; rw [if_neg (by omega), if_neg (by omega), if_neg (by omega)]; exact e5
    have x4 : rLook r lo n (nI m) (75 + s) = nI d := by unfold rLook; rw [if_neg (by omega), if_neg (by omega), if_neg (by omega)]; exact e7
    exact ⟨b, c, a, d, x1, e2, x2, e4, x3, e6, x4, e8⟩
theorem sumN_two {S S' : Nat → Int32} {B a : Nat} : ∀ n, (∀ s, a ≤ s → s < a + n → ∃ v w, S s = nI v ∧ S' s = nI w ∧ v ≤ w ∧ w ≤ B) → ∃ v w, sumN S a n = nI v ∧ sumN S' a n = nI w ∧ v ≤ w ∧ w ≤ n * B
  | 0, _ => ⟨0, 0, by show (0 : Int32) = nI 0; rw [nI_0], by show (0 : Int32) = nI 0; rw [nI_0], Nat.le_refl 0, by omega⟩
  | n + 1, h => by
    obtain ⟨v, v', e1, e1', e2, e3⟩ := sumN_two n (fun s h1 h2 => h s h1 (by omega))
    obtain ⟨w, w', f1, f1', f2, f3⟩ := h (a + n) (by omega) (by omega)
    refine ⟨v + w, v' + w', ?_, ?_, by omega, ?_⟩
    · unfold sumN
      rw [e1, f1, nI_add]
    · unfold sumN
      rw [e1', f1', nI_add]
    · rw [Nat.succ_mul]
      omega
theorem sumN_low {S : Nat → Int32} {L B a : Nat} : ∀ n, (∀ s, a ≤ s → s < a + n → ∃ v, S s = nI v ∧ L ≤ v ∧ v ≤ B) → ∃ v, sumN S a n = nI v ∧ n * L ≤ v ∧ v ≤ n * B
  | 0, _ => ⟨0, by show (0 : Int32) = nI 0; rw [nI_0], by omega, by omega⟩
  | n + 1, h => by
    obtain ⟨v, e1, e2, e3⟩ := sumN_low n (fun s h1 h2 => h s h1 (by omega))
    obtain ⟨w, f1, f2, f3⟩ := h (a + n) (by omega) (by omega)
    refine ⟨v + w, ?_, ?_, ?_⟩
    · unfold sumN
      rw [e1, f1, nI_add]
    · rw [Nat.succ_mul]
      omega
    · rw [Nat.succ_mul]
      omega
theorem brk_bend {r : Nat → Int32} {q b s T : Nat} (h0 : r 0 = nI q) (h1 : 1 ≤ q) (h2 : q ≤ 99) (e1 : r (3 + s) = nI b) (hb : b + T ≤ 199999) (hs : s < 24) : brk (rBend r 0 24 (nI T)) s = nI ((b + T) / q) := by
  unfold brk
  rw [rBend_at (by omega) (by omega), rBend_ne (k := 0) (by omega), e1, h0, nI_add]
  exact pk_div (by omega) (by omega) (by omega)
theorem winS_T (r : Nat → Int32) (t : Int32) (z : Nat) : winS (rBendT r 0 24 t) true z = winS (rBend r 0 24 t) true z := by
  funext k
  unfold winS
  refine sumN_congr (fun s _ _ => ?_)
  show brk (rBendT r 0 24 t) s = brk (rBend r 0 24 t) s
  unfold brk rBendT
  rw [upd_ne (by omega), upd_ne (by omega)]
def wornP (f r : Nat → Int32) (z T : Nat) : Prop := ∃ k, k < 25 - z ∧ f 3 ≤ winS (rBend r 0 24 (nI T)) true z k
theorem rch_worn {f r : Nat → Int32} {z T : Nat} (h3 : 0 < (f 3).toInt) : rchK f r z (nI T) = true ↔ wornP f r z T := by
  unfold rchK wornP
  rw [decide_eq_true_iff, winS_T, gmx_any h3]
theorem wrn_worn {f r : Nat → Int32} {z T m tt : Nat} (h3 : 0 < (f 3).toInt) (h : OKrow r m tt) (ht : tt ≤ 99999) (hT : T ≤ 9801) (z2 : z ≤ 12) : wrnM f r z (nI T) = true ↔ wornP f r z T := by
  unfold wrnM wornP
  rw [decide_eq_true_iff, ← gmx_gmost (OKrow_bend h (Nat.le_refl 24)) (by omega) z2, gmx_any h3]
theorem worn_mono {f r : Nat → Int32} {z T T' m tt : Nat} (h : OKrow r m tt) (ht : tt ≤ 99999) (hT : T ≤ T') (hT' : T' ≤ 9801) (z2 : z ≤ 12) (hw : wornP f r z T) : wornP f r z T' := by
  obtain ⟨k, hk, hw⟩ := hw
  refine ⟨k, hk, ?_⟩
  obtain ⟨q, h0, h1, h2, h3⟩ := h
  obtain ⟨v, w, e1, e2, e3, e4⟩ := sumN_two (S := colR (rBend r 0 24 (nI T)) true) (S' := colR (rBend r 0 24 (nI T')) true) (B := 199999) (a := k) z (fun s s1 s2 => by
    obtain ⟨b, c, a, d, e1, e2, -⟩ := h3 s (by omega)
    refine ⟨(b + T) / q, (b + T') / q, brk_bend h0 h1 h2 e1 (by omega) (by omega), brk_bend h0 h1 h2 e1 (by omega) (by omega), Nat.div_le_div_right (by omega), ?_⟩
    exact Nat.le_trans (Nat.div_le_self _ q) (by omega))
  have h5 : z * 199999 ≤ 12 * 199999 := Nat.mul_le_mul_right _ z2
  have hw2 : f 3 ≤ sumN (colR (rBend r 0 24 (nI T)) true) k z := hw
  show f 3 ≤ sumN (colR (rBend r 0 24 (nI T')) true) k z
  rw [e1] at hw2
  rw [e2]
  exact Int32.le_trans hw2 (nI_le e3 (by omega))
theorem worn_at {f r : Nat → Int32} {z c q m tt : Nat} (h : OKrow r m tt) (ht : tt ≤ 99999) (z1 : 1 ≤ z) (z2 : z ≤ 12) (h3 : f 3 = nI c) (c2 : c ≤ 99) (h0 : r 0 = nI q) (q1 : 1 ≤ q) (q2 : q ≤ 99) : wornP f r z (c * q) := by
  have hcq : c * q ≤ 9801 := Nat.mul_le_mul c2 q2
  refine ⟨0, by omega, ?_⟩
  obtain ⟨q', h0', -, -, h3'⟩ := h
  obtain ⟨v, e1, e2, e3⟩ := sumN_low (S := colR (rBend r 0 24 (nI (c * q))) true) (L := c) (B := 199999) (a := 0) z (fun s s1 s2 => by
    obtain ⟨b, c', a, d, e1, e2, -⟩ := h3' s (by omega)
    refine ⟨(b + c * q) / q, brk_bend h0 q1 q2 e1 (by omega) (by omega), ?_, Nat.le_trans (Nat.div_le_self _ q) (by omega)⟩
    rw [Nat.le_div_iff_mul_le (by omega)]
    omega)
  have h5 : z * 199999 ≤ 12 * 199999 := Nat.mul_le_mul_right _ z2
  have h6 : 1 * c ≤ z * c := Nat.mul_le_mul_right _ z1
  show f 3 ≤ sumN (colR (rBend r 0 24 (nI (c * q))) true) 0 z
  rw [e1, h3]
  exact nI_le (by omega) (by omega)
theorem lf_bs {f r : Nat → Int32} {z L : Nat} (hP : ∀ t, t ≤ 9801 → wrnM f r z (nI t) = decide (L ≤ t)) : ∀ d lo hi, lo ≤ L → L ≤ hi → hi < lo + 2 ^ d → hi ≤ 9801 → lfM f r z d lo hi = L
  | 0, lo, hi, h1, h2, h3, _ => by
    show lo = L
    have : (2 : Nat) ^ 0 = 1 := rfl
    omega
  | d + 1, lo, hi, h1, h2, h3, h4 => by
    unfold lfM
    rw [Nat.pow_succ] at h3
    by_cases hl : lo < hi
    · rw [if_pos hl, hP _ (by omega)]
      by_cases hm : L ≤ (lo + hi) / 2
      · rw [decide_eq_true hm, if_pos rfl]
        exact lf_bs hP d _ _ h1 hm (by omega) (by omega)
      · rw [decide_eq_false hm, if_neg Bool.false_ne_true]
        exact lf_bs hP d _ _ (by omega) h2 (by omega) h4
    · rw [if_neg hl]
      omega
theorem tl_bs {f r : Nat → Int32} {z L : Nat} (hP : ∀ t, t ≤ 9801 → rchK f r z (nI t) = decide (L ≤ t)) : ∀ d lo hi, lo ≤ L → L ≤ hi → hi < lo + 2 ^ d → hi ≤ 9801 → tlK f r z d (nI lo) (nI hi) = nI L
  | 0, lo, hi, h1, h2, h3, _ => by
    show nI lo = nI L
    have : (2 : Nat) ^ 0 = 1 := rfl
    exact congrArg nI (by omega)
  | d + 1, lo, hi, h1, h2, h3, h4 => by
    unfold tlK
    rw [Nat.pow_succ] at h3
    by_cases hl : lo < hi
    · rw [if_pos (nI_lt hl (by omega)), half_nI (by omega), hP _ (by omega)]
      by_cases hm : L ≤ (lo + hi) / 2
      · rw [decide_eq_true hm, if_pos rfl]
        exact tl_bs hP d _ _ h1 hm (by omega) (by omega)
      · rw [decide_eq_false hm, if_neg Bool.false_ne_true, nI_1]
        exact tl_bs hP d _ _ (by omega) h2 (by omega) h4
    · rw [if_neg (nI_nlt (by omega) (by omega))]
      exact congrArg nI (by omega)
theorem bool_dec {b : Bool} {a c : Nat} (h : b = true ↔ a ≤ c) : b = decide (a ≤ c) := by
  by_cases hp : a ≤ c
  · rw [decide_eq_true hp]; exact h.mpr hp
  · rw [decide_eq_false hp]
    cases b
    · rfl
    · exact absurd (h.mp rfl) hp
theorem tl_eq {f r : Nat → Int32} {z m tt : Nat} (hs : OKset f) (hz : f 2 = nI z) (z1 : 1 ≤ z) (z2 : z ≤ 12) (h : OKrow r m tt) (ht : tt ≤ 99999) : tlK f r z 32 0 (f 3 * r 0) = nI (lfM f r z 14 0 9801) := by
  obtain ⟨-, ⟨c, h3, c1, c2⟩, -⟩ := hs
  have hr := h
  obtain ⟨q, h0, q1, q2, -⟩ := hr
  have hcq : c * q ≤ 9801 := Nat.mul_le_mul c2 q2
  have h3p : 0 < (f 3).toInt := by rw [h3, nI_tI (by omega)]; omega
  have hex : wornP f r z (c * q) := worn_at h ht z1 z2 h3 c2 h0 q1 q2
  obtain ⟨L, l1, l2⟩ := pk_least (fun t => wornP f r z t) ⟨_, hex⟩
  have hLc : L ≤ c * q := Nat.le_of_not_lt fun q' => l2 _ q' hex
  have hiff : ∀ t, t ≤ 9801 → (wornP f r z t ↔ L ≤ t) := fun t h9 => ⟨fun w => Nat.le_of_not_lt fun q' => l2 _ q' w, fun w => worn_mono h ht w h9 z2 l1⟩
  rw [lf_bs (L := L) (fun t h9 => bool_dec ((wrn_worn h3p h ht h9 z2).trans (hiff t h9))) 14 0 9801 (Nat.zero_le _) (by omega) (by decide) (by decide)]
  rw [h3, h0, pk_mul, ← nI_0]
  exact tl_bs (L := L) (fun t h9 => bool_dec ((rch_worn h3p).trans (hiff t h9))) 32 0 (c * q) (Nat.zero_le _) hLc (by have : (2 : Nat) ^ 32 = 4294967296 := rfl; omega) (by omega)
