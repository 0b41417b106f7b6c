/-! the share as a double: between 0 and 1 -/
def mk64 (E T : Nat) : UInt64 := UInt64.ofNat (E * 4503599627370496 + T)
theorem mk_toNat {E T : Nat} (hE : E < 2048) (hT : T < 4503599627370496) : (mk64 E T).toNat = E * 4503599627370496 + T := UInt64.toNat_ofNat_of_lt' (by show _ < 18446744073709551616; omega)
theorem vf_of {r : UInt64} (h : FP.Core.val64 r ≠ .nan) : vf_n64 r := by
  unfold vf_n64
  rw [UInt64.le_iff_toNat_le, FP.Core.mask_toNat]
  exact (FP.Core.ne_nan r).mp h
theorem mk_ne {E T : Nat} (h2 : E ≤ 2046) (hT : T < 4503599627370496) : FP.Core.val64 (mk64 E T) ≠ .nan := by
  rw [FP.Core.ne_nan, mk_toNat (by omega) hT]
  omega
theorem mk_cmp {E T E' T' : Nat} (h2 : E ≤ 2046) (hT : T < 4503599627370496) (h2' : E' ≤ 2046) (hT' : T' < 4503599627370496) : FP.dcmp (mk64 E T) (mk64 E' T') = some (compare ((E * 4503599627370496 + T : Nat) : Int) ((E' * 4503599627370496 + T' : Nat) : Int)) := by
  show FP.Core.dcmp _ _ = _
  rw [FP.Core.dcmp_key (mk_ne h2 hT) (mk_ne h2' hT')]
  unfold FP.Core.dkey
  rw [mk_toNat (by omega) hT, mk_toNat (by omega) hT', if_neg (by omega), if_neg (by omega)]
theorem one_mk : FP.dconst1 = mk64 1023 0 := by decide +kernel
theorem zero_mk : FP.dconst0 = mk64 0 0 := by decide +kernel
theorem i2d_val {A : Nat} (hA : A < 2147483648) : ∃ c q, FP.Core.val64 (FP.i2d (nI A)) = .fin false c q ∧ A * 2 ^ (0 - q).toNat = c * 1 * 2 ^ (q - 0).toNat := by
  obtain ⟨c, q, h1, h2⟩ := FP.Core.natFit FP.Core.good_b64 FP.Core.wide_b64 false (n := A) (by show A ≤ 2 ^ 53; omega)
  refine ⟨c, q, ?_, h2⟩
  show FP.Core.val64 (FP.Core.i2d _) = _
  rw [FP.Core.val64_i2d, nI_tI hA]
  show FP.Core.roundRatio FP.Core.b64 (decide ((A : Int) < 0)) (A : Int).natAbs 1 0 = _
  rw [decide_eq_false (by omega), Int.natAbs_natCast]
  exact FP.Core.roundRatio_exact FP.Core.good_b64 (by decide) h1 h2
theorem quo_val {A B : Nat} (hA : A < 2147483648) (hB : B < 2147483648) (hB0 : 0 < B) : FP.Core.val64 (FP.ddiv (FP.i2d (nI A)) (FP.i2d (nI B))) = FP.Core.roundRatio FP.Core.b64 false A B 0 := by
  obtain ⟨c, q, h1, h2⟩ := i2d_val hA
  obtain ⟨d, r, g1, g2⟩ := i2d_val hB
  have hd : 0 < d := by
    rcases Nat.eq_zero_or_pos d with z | z
    · subst z
      have := Nat.two_pow_pos (0 - r).toNat
      rw [Nat.mul_one, Nat.zero_mul] at g2
      rcases Nat.mul_eq_zero.mp g2 with w | w <;> omega
    · exact z
  show FP.Core.val64 (FP.Core.ddiv _ _) = _
  rw [FP.Core.val64_ddiv, h1, g1]
  show (if d = 0 then _ else FP.Core.roundRatio FP.Core.b64 (false != false) c d (q - r)) = _
  rw [if_neg (by omega)]
  refine FP.Core.roundRatio_congr hd hB0 ?_
  rw [Nat.mul_one] at h2 g2
  have e1 : (q - r - 0).toNat + ((0 - q).toNat + (r - 0).toNat) = (0 - (q - r)).toNat + ((q - 0).toNat + (0 - r).toNat) := by omega
  have hp : 0 < 2 ^ ((0 - q).toNat + (r - 0).toNat) := Nat.two_pow_pos _
  refine Nat.eq_of_mul_eq_mul_right hp ?_
  calc c * B * 2 ^ (q - r - 0).toNat * 2 ^ ((0 - q).toNat + (r - 0).toNat) = c * B * 2 ^ ((q - r - 0).toNat + ((0 - q).toNat + (r - 0).toNat)) := by rw [Nat.mul_assoc, ← Nat.pow_add]
    _ = c * B * 2 ^ ((0 - (q - r)).toNat + ((q - 0).toNat + (0 - r).toNat)) := by rw [e1]
    _ = (c * 2 ^ (q - 0).toNat) * (B * 2 ^ (0 - r).toNat) * 2 ^ (0 - (q - r)).toNat := by rw [Nat.pow_add, Nat.pow_add]; ac_rfl
    _ = (A * 2 ^ (0 - q).toNat) * (d * 2 ^ (r - 0).toNat) * 2 ^ (0 - (q - r)).toNat := by rw [h2, g2]
    _ = A * d * 2 ^ (0 - (q - r)).toNat * 2 ^ ((0 - q).toNat + (r - 0).toNat) := by rw [Nat.pow_add]; ac_rfl
theorem quo_mk {A B : Nat} (hA : 1 ≤ A) (hAB : A ≤ B) (hB : B < 2147483648) : ∃ E T, E * 4503599627370496 + T ≤ 1023 * 4503599627370496 ∧ T < 4503599627370496 ∧ FP.ddiv (FP.i2d (nI A)) (FP.i2d (nI B)) = mk64 E T := by
  have hv := quo_val (A := A) (B := B) (by omega) hB (by omega)
  obtain ⟨x, hx⟩ : ∃ x, x = FP.ddiv (FP.i2d (nI A)) (FP.i2d (nI B)) := ⟨_, rfl⟩
  rw [← hx] at hv ⊢
  have hne : FP.Core.val64 x ≠ .nan := by rw [hv]; exact FP.Core.roundRatio_ne_nan _ _ _ _ _
  have ht : FP.Core.b64.tails = 4503599627370496 := by decide
  have hs : x.toNat < 9223372036854775808 := by
    have h1 := FP.Core.sgn_bits hne
    rw [hv, FP.Core.sgn_roundRatio] at h1
    have := of_decide_eq_false h1.symm
    omega
  have hle : x.toNat ≤ 1023 * 4503599627370496 := by
    have h1 := FP.Core.mag_le FP.Core.good_b64 (n := x.toNat) (m := 1023 * FP.Core.b64.tails) (e0 := FP.Core.b64.qmin) hv (by omega) (by omega) (by rw [FP.Core.qmin_b64]; omega) (by
      rw [FP.Core.unitsOf_start (by omega), Int.sub_self, Int.toNat_zero, Nat.pow_zero, Nat.mul_one, ht, FP.Core.qmin_b64]
      unfold FP.Core.inUnits
      rw [show ((0 : Int) - -1074).toNat = 52 + (1023 - 1) from rfl, show (4503599627370496 : Nat) = 2 ^ 52 from rfl, ← Nat.pow_add, Nat.mul_comm]
      exact Nat.mul_le_mul_left _ hAB)
    rw [FP.Core.mag_toNat64, ht] at h1
    omega
  have hge : 1 * 4503599627370496 ≤ x.toNat := by
    have h1 := FP.Core.mag_ge FP.Core.good_b64 (n := x.toNat) (m := 1 * FP.Core.b64.tails) (e0 := FP.Core.b64.qmin) hv (by omega) (by omega) (by rw [FP.Core.qmin_b64]; omega) (by decide) (by
      rw [FP.Core.unitsOf_start (by omega), Int.sub_self, Int.toNat_zero, Nat.pow_zero, Nat.mul_one, ht, FP.Core.qmin_b64]
      unfold FP.Core.inUnits
      rw [show ((0 : Int) - -1074).toNat = 83 + 991 from rfl]
      calc 4503599627370496 * 2 ^ (1 - 1) * B ≤ 4503599627370496 * 2 ^ (1 - 1) * 2147483648 := Nat.mul_le_mul_left _ (by omega)
        _ = 2 ^ 83 := by decide
        _ ≤ 2 ^ (83 + 991) := Nat.pow_le_pow_right (by decide) (Nat.le_add_right 83 991)
        _ = 1 * 2 ^ (83 + 991) := (Nat.one_mul _).symm
        _ ≤ A * 2 ^ (83 + 991) := Nat.mul_le_mul_right _ hA)
    rw [FP.Core.mag_toNat64, ht] at h1
    omega
  refine ⟨x.toNat / 4503599627370496, x.toNat % 4503599627370496, by omega, Nat.mod_lt _ (by omega), ?_⟩
  unfold mk64
  rw [show x.toNat / 4503599627370496 * 4503599627370496 + x.toNat % 4503599627370496 = x.toNat by omega, UInt64.ofNat_toNat]
theorem quo_0 {B : Nat} (hB : B < 2147483648) (hB0 : 0 < B) : FP.ddiv (FP.i2d (nI 0)) (FP.i2d (nI B)) = FP.dconst0 := by
  have hv := quo_val (A := 0) (B := B) (by omega) hB hB0
  refine FP.Core.val64_inj (by rw [hv]; exact FP.Core.roundRatio_ne_nan _ _ _ _ _) ?_
  rw [hv]
  show FP.Core.roundRatio FP.Core.b64 false 0 B 0 = FP.Core.val64 FP.Core.dconst0
  rw [FP.Core.val64_dconst0]
  rfl

/-- what is asked of a share -/
def shOK (x : UInt64) : Prop := ∃ E T, E * 4503599627370496 + T ≤ 1023 * 4503599627370496 ∧ T < 4503599627370496 ∧ x = mk64 E T
theorem sh_one : shOK FP.dconst1 := ⟨1023, 0, by omega, by omega, one_mk⟩
theorem sh_zero : shOK FP.dconst0 := ⟨0, 0, by omega, by omega, zero_mk⟩
theorem sh_ge0 {x : UInt64} (h : shOK x) : ¬ Op.cmpValue (FP.dcmp x FP.dconst0) .l < 0 := by
  obtain ⟨E, T, h1, h2, rfl⟩ := h
  rw [zero_mk, mk_cmp (by omega) h2 (by omega) (by omega)]
  by_cases h0 : E * 4503599627370496 + T = 0
  · rw [(FP.Core.compare_eq_iff _ _).mpr (by omega)]
    decide
  · rw [(FP.Core.compare_gt_iff _ _).mpr (by omega)]
    decide
theorem sh_le1 {x : UInt64} (h : shOK x) : ¬ 0 < Op.cmpValue (FP.dcmp x FP.dconst1) .g := by
  obtain ⟨E, T, h1, h2, rfl⟩ := h
  rw [one_mk, mk_cmp (by omega) h2 (by omega) (by omega)]
  by_cases h0 : E * 4503599627370496 + T = 1023 * 4503599627370496
  · rw [(FP.Core.compare_eq_iff _ _).mpr (by omega)]
    decide
  · rw [(FP.Core.compare_lt_iff _ _).mpr (by omega)]
    decide
theorem sh_is1 : Op.cmpValue (FP.dcmp FP.dconst1 FP.dconst1) .l = 0 := by
  rw [one_mk, mk_cmp (by omega) (by omega) (by omega) (by omega), (FP.Core.compare_eq_iff _ _).mpr rfl]
  rfl
theorem sum_two {f : Nat → Int32} {k m tt : Nat} (h : OKf f k m tt) : ∃ c v, sumRK f false k = nI c ∧ sumRK f true k = nI v ∧ c ≤ v ∧ v ≤ 11999880 := by
  obtain ⟨c, v, e1, e2, e3, e4⟩ := sumN_two (S := fun i => sumN (colR (rowOf f i) false) 0 24) (S' := fun i => sumN (colR (rowOf f i) true) 0 24) (B := 2399976) (a := 0) k (fun i h1 h2 => (h.row (by omega)).win (z := 1) h.2.2.2.2.2.1 (k := 0) (n := 24) (by omega))
  have h5 := h.2.1
  have : k * 2399976 ≤ 5 * 2399976 := Nat.mul_le_mul_right _ h5
  exact ⟨c, v, e1, e2, e3, by omega⟩
theorem share_ok {f : Nat → Int32} {k m tt : Nat} (h : OKf f k m tt) : shOK (shrK f k) ∧ (¬ sumRK f true k = 0 → vf_n64 (FP.ddiv (FP.i2d (sumRK f false k)) (FP.i2d (sumRK f true k)))) ∧ (¬ 0 < sumRK f true k → shrK f k = FP.dconst1) := by
  obtain ⟨c, v, e1, e2, e3, e4⟩ := sum_two h
  have hq : 0 < v → shOK (FP.ddiv (FP.i2d (nI c)) (FP.i2d (nI v))) := by
    intro hv
    rcases Nat.eq_zero_or_pos c with z | z
    · subst z
      rw [quo_0 (by omega) hv]
      exact sh_zero
    · obtain ⟨E, T, g1, g2, g3⟩ := quo_mk (A := c) (B := v) z e3 (by omega)
      exact ⟨E, T, g1, g2, g3⟩
  have h0 : sumRK f true k = 0 ↔ v = 0 := by
    rw [e2, ← nI_0, nI_eq (by omega) (by omega)]
  refine ⟨?_, fun hne => ?_, fun hn => ?_⟩
  · unfold shrK
    by_cases hz : sumRK f true k = 0
    · rw [if_pos hz]
      exact sh_one
    · rw [if_neg hz, e1, e2]
      exact hq (by rw [h0] at hz; omega)
  · rw [h0] at hne
    obtain ⟨E, T, g1, g2, g3⟩ := hq (by omega)
    rw [e1, e2, g3]
    exact vf_of (mk_ne (by omega) g2)
  · have hz : sumRK f true k = 0 := by
      rw [h0]
      rw [e2, ← nI_0] at hn
      exact Nat.eq_zero_of_not_pos (fun q => hn (nI_lt q (by omega)))
    unfold shrK
    rw [if_pos hz]
