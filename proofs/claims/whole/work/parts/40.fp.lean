/-! the share as a double: its bits -/
theorem wb_tb (n : Nat) : (lN n).toBitVec = BitVec.ofNat 64 n := rfl
theorem wb_inj {a b : Int64} (h : a.toBitVec = b.toBitVec) : a = b := Int64.toBitVec_inj.mp h
theorem wb_c : ∀ k, k < 64 → ((nI k).toInt64 &&& 63) = lN k := by decide +kernel
theorem wb_sm : ∀ k, k < 64 → (BitVec.ofNat 64 k).smod 64 = BitVec.ofNat 64 k := by decide +kernel
theorem wb_shl (n : Nat) {k : Nat} (hk : k < 64) : lN n <<< ((nI k).toInt64 &&& 63) = lN (n * 2 ^ k) := by
  rw [wb_c k hk]
  apply wb_inj
  rw [Int64.toBitVec_shiftLeft, wb_tb, wb_tb, wb_tb, wb_sm k hk]
  apply BitVec.eq_of_toNat_eq
  rw [BitVec.shiftLeft_eq', BitVec.toNat_shiftLeft, BitVec.toNat_ofNat, BitVec.toNat_ofNat, BitVec.toNat_ofNat, Nat.mod_eq_of_lt (show k < 2 ^ 64 by omega), Nat.shiftLeft_eq, Nat.mul_mod, Nat.mod_mod, ← Nat.mul_mod]
def mk64 (E T : Nat) : UInt64 := UInt64.ofNat (E * 4503599627370496 + T)
theorem mk_toNat {E T : Nat} (hE : E < 2048) (hT : T < 4503599627370496) : (mk64 E T).toNat = E * 4503599627370496 + T := UInt64.toNat_ofNat_of_lt' (by show _ < 18446744073709551616; omega)
theorem qmax_b64 : FP.Core.b64.qmax = 971 := by decide
theorem mk_val {E T : Nat} (h1 : 1 ≤ E) (h2 : E ≤ 2046) (hT : T < 4503599627370496) : FP.Core.val64 (mk64 E T) = .fin false (4503599627370496 + T) ((E : Int) - 1075) := by
  unfold FP.Core.val64
  have hx : FP.Core.b64.exps = 2048 := by decide
  have ht : FP.Core.b64.tails = 4503599627370496 := by decide
  rw [mk_toNat (by omega) hT, show E * 4503599627370496 + T = FP.Core.assemble FP.Core.b64 false E T from by
    unfold FP.Core.assemble
    rw [ht]
    show _ = (0 * _ + E) * 4503599627370496 + T
    rw [Nat.zero_mul, Nat.zero_add], FP.Core.decode_assemble _ _ _ _ (by rw [hx]; omega) (by rw [ht]; exact hT), if_neg (by rw [hx]; omega), if_neg (by omega), ht, FP.Core.qmin_b64]
  congr 1
  omega
theorem fits64 {c : Nat} {q : Int} (h1 : c < 9007199254740992) (h2 : 4503599627370496 ≤ c) (h3 : -1074 ≤ q) (h4 : q ≤ 971) : FP.Core.fits FP.Core.b64 (.fin false c q) := by
  refine ⟨?_, ?_, ?_, Or.inr ?_⟩
  · show c < 2 ^ 53
    exact h1
  · rw [FP.Core.qmin_b64]; exact h3
  · rw [qmax_b64]; exact h4
  · rw [show FP.Core.b64.tails = 4503599627370496 from by decide]; exact h2
theorem val_two : FP.Core.val64 4611686018427387904 = .fin false 4503599627370496 (-51) := by decide +kernel
theorem val_big : FP.Core.val64 4841369599423283200 = .fin false 4503599627370496 0 := by decide +kernel
theorem round_mul {c : Nat} {q : Int} (h : FP.Core.fits FP.Core.b64 (.fin false c (q + 52))) : FP.Core.round FP.Core.b64 (.fin false (c * 4503599627370496) q) = .fin false c (q + 52) := by
  refine FP.Core.roundRatio_exact FP.Core.good_b64 (by decide) h ?_
  rw [show (q - (q + 52)).toNat = 0 by omega, show (q + 52 - q).toNat = 52 by omega]
  show c * 4503599627370496 * 1 = c * 1 * 4503599627370496
  omega
theorem mul_two {E T : Nat} (h1 : 1 ≤ E) (h2 : E ≤ 2045) (hT : T < 4503599627370496) : FP.dmul (mk64 E T) 4611686018427387904 = mk64 (E + 1) T := by
  have h : FP.Core.val64 (FP.dmul (mk64 E T) 4611686018427387904) = .fin false (4503599627370496 + T) ((E : Int) - 1074) := by
    show FP.Core.val64 (FP.Core.dmul _ _) = _
    rw [FP.Core.val64_dmul, mk_val h1 (by omega) hT, val_two]
    show FP.Core.round FP.Core.b64 (.fin false ((4503599627370496 + T) * 4503599627370496) ((E : Int) - 1075 + -51)) = _
    rw [show (E : Int) - 1074 = ((E : Int) - 1075 + -51) + 52 by omega]
    exact round_mul (fits64 (by omega) (by omega) (by omega) (by omega))
  refine FP.Core.val64_inj (by rw [h]; exact FP.Core.Datum.noConfusion) ?_
  rw [h, mk_val (by omega) (by omega) hT]
  congr 1
  omega
theorem vf_of {r : UInt64} (h : FP.Core.val64 r ≠ .nan) : vf_n64 r := by
  unfold vf_n64
  rw [UInt64.le_iff_toNat_le, FP.Core.mask_toNat]
  exact (FP.Core.ne_nan r).mp h
theorem mk_ne {E T : Nat} (h2 : E ≤ 2046) (hT : T < 4503599627370496) : FP.Core.val64 (mk64 E T) ≠ .nan := by
  rw [FP.Core.ne_nan, mk_toNat (by omega) hT]
  omega
theorem mk_cmp {E T E' T' : Nat} (h2 : E ≤ 2046) (hT : T < 4503599627370496) (h2' : E' ≤ 2046) (hT' : T' < 4503599627370496) : FP.dcmp (mk64 E T) (mk64 E' T') = some (compare ((E * 4503599627370496 + T : Nat) : Int) ((E' * 4503599627370496 + T' : Nat) : Int)) := by
  show FP.Core.dcmp _ _ = _
  rw [FP.Core.dcmp_key (mk_ne h2 hT) (mk_ne h2' hT')]
  unfold FP.Core.dkey
  rw [mk_toNat (by omega) hT, mk_toNat (by omega) hT', if_neg (by omega), if_neg (by omega)]
theorem one_mk : FP.dconst1 = mk64 1023 0 := by decide +kernel
theorem zero_mk : FP.dconst0 = mk64 0 0 := by decide +kernel
theorem cmp_lt1 {E T : Nat} (h : E < 1023) (hT : T < 4503599627370496) : Op.cmpValue (FP.dcmp (mk64 E T) FP.dconst1) .g = -1 := by
  rw [one_mk, mk_cmp (by omega) hT (by omega) (by omega), (FP.Core.compare_lt_iff _ _).mpr (by omega)]
  rfl
theorem cmp_ge1 {T : Nat} (hT : T < 4503599627370496) : 0 ≤ Op.cmpValue (FP.dcmp (mk64 1023 T) FP.dconst1) .g := by
  rw [one_mk, mk_cmp (by omega) hT (by omega) (by omega)]
  by_cases h0 : T = 0
  · rw [(FP.Core.compare_eq_iff _ _).mpr (by omega)]
    decide
  · rw [(FP.Core.compare_gt_iff _ _).mpr (by omega)]
    decide
theorem cmp_gt0 {E T : Nat} (h1 : 1 ≤ E) (h : E ≤ 1023) (hT : T < 4503599627370496) : 0 < Op.cmpValue (FP.dcmp (mk64 E T) FP.dconst0) .g := by
  rw [zero_mk, mk_cmp (by omega) hT (by omega) (by omega), (FP.Core.compare_gt_iff _ _).mpr (by omega)]
  decide
theorem cmp_00 : ¬ 0 < Op.cmpValue (FP.dcmp FP.dconst0 FP.dconst0) .g := by decide +kernel
theorem cmp_id {E T : Nat} (h : E ≤ 2046) (hT : T < 4503599627370496) : FP.dcmp (mk64 E T) (mk64 E T) = some .eq := by
  rw [mk_cmp h hT h hT, (FP.Core.compare_eq_iff _ _).mpr rfl]
/-- a fraction's datum: T of 2^52, in the one way -/
theorem frac_norm {T : Nat} (h0 : 0 < T) (hT : T < 4503599627370496) : ∃ k, k ≤ 52 ∧ 4503599627370496 ≤ T * 2 ^ k ∧ T * 2 ^ k < 9007199254740992 := by
  have l1 : 2 ^ T.log2 ≤ T := Nat.log2_self_le (by omega)
  have l2 : T < 2 ^ (T.log2 + 1) := Nat.lt_log2_self
  have l3 : T.log2 < 52 := (Nat.log2_lt (by omega)).mpr hT
  refine ⟨52 - T.log2, by omega, ?_, ?_⟩
  · calc 4503599627370496 = 2 ^ T.log2 * 2 ^ (52 - T.log2) := by rw [← Nat.pow_add, show T.log2 + (52 - T.log2) = 52 by omega]
      _ ≤ T * 2 ^ (52 - T.log2) := Nat.mul_le_mul_right _ l1
  · calc T * 2 ^ (52 - T.log2) < 2 ^ (T.log2 + 1) * 2 ^ (52 - T.log2) := Nat.mul_lt_mul_of_pos_right l2 (Nat.two_pow_pos _)
      _ = 9007199254740992 := by rw [← Nat.pow_add, show T.log2 + 1 + (52 - T.log2) = 53 by omega]
theorem sub_val {T : Nat} (hT : T < 4503599627370496) : FP.Core.val64 (FP.dsub (mk64 1023 T) FP.dconst1) = FP.Core.roundRatio FP.Core.b64 false T 1 (-52) := by
  show FP.Core.val64 (FP.Core.dsub _ _) = _
  rw [FP.Core.val64_dsub, mk_val (by omega) (by omega) hT, one_mk, mk_val (by omega) (by omega) (by omega)]
  show FP.Core.round FP.Core.b64 (.fin (FP.Core.sumSign false true (FP.Core.sumUnits false (4503599627370496 + T) (((1023 : Nat) : Int) - 1075) true (4503599627370496 + 0) (((1023 : Nat) : Int) - 1075) (min (((1023 : Nat) : Int) - 1075) (((1023 : Nat) : Int) - 1075)))) (FP.Core.sumUnits false (4503599627370496 + T) (((1023 : Nat) : Int) - 1075) true (4503599627370496 + 0) (((1023 : Nat) : Int) - 1075) (min (((1023 : Nat) : Int) - 1075) (((1023 : Nat) : Int) - 1075))).natAbs (min (((1023 : Nat) : Int) - 1075) (((1023 : Nat) : Int) - 1075))) = _
  have hu : FP.Core.sumUnits false (4503599627370496 + T) (((1023 : Nat) : Int) - 1075) true (4503599627370496 + 0) (((1023 : Nat) : Int) - 1075) (min (((1023 : Nat) : Int) - 1075) (((1023 : Nat) : Int) - 1075)) = (T : Int) := by
    unfold FP.Core.sumUnits FP.Core.inUnits
    show ((((4503599627370496 + T) * 2 ^ 0 : Nat) : Int)) + -((((4503599627370496 + 0) * 2 ^ 0 : Nat) : Int)) = (T : Int)
    omega
  rw [hu]
  have hsg : FP.Core.sumSign false true (T : Int) = false := by
    unfold FP.Core.sumSign
    by_cases h0 : (T : Int) = 0
    · rw [if_pos h0]; rfl
    · rw [if_neg h0]; exact decide_eq_false (by omega)
  rw [hsg]
  rfl
theorem frac_val {T : Nat} (hT : T < 4503599627370496) : ∃ (c k : Nat), k ≤ 1074 ∧ FP.Core.val64 (FP.dmul (FP.dsub (mk64 1023 T) FP.dconst1) 4841369599423283200) = .fin false c (-(k : Int)) ∧ FP.Core.val64 (FP.dsub (mk64 1023 T) FP.dconst1) ≠ .nan ∧ c / 2 ^ k = T := by
  show ∃ (c k : Nat), k ≤ 1074 ∧ FP.Core.val64 (FP.Core.dmul _ _) = _ ∧ _
  rw [FP.Core.val64_dmul, val_big, sub_val hT]
  by_cases h0 : T = 0
  · subst h0
    refine ⟨0, 1074, Nat.le_refl _, ?_, ?_, Nat.zero_div _⟩
    · show FP.Core.round FP.Core.b64 (FP.Core.exactProduct (FP.Core.roundRatio FP.Core.b64 false 0 1 (-52)) _) = _
      decide +kernel
    · decide +kernel
  · obtain ⟨k, k1, k2, k3⟩ := frac_norm (by omega) hT
    have hr : FP.Core.roundRatio FP.Core.b64 false T 1 (-52) = .fin false (T * 2 ^ k) (-52 - (k : Int)) := by
      refine FP.Core.roundRatio_exact FP.Core.good_b64 (by decide) (fits64 k3 k2 (by omega) (by omega)) ?_
      rw [show (-52 - (-52 - (k : Int))).toNat = k by omega, show (-52 - (k : Int) - -52).toNat = 0 by omega, Nat.pow_zero, Nat.mul_one, Nat.mul_one]
    rw [hr]
    refine ⟨T * 2 ^ k, k, by omega, ?_, FP.Core.Datum.noConfusion, Nat.mul_div_cancel _ (Nat.two_pow_pos k)⟩
    show FP.Core.round FP.Core.b64 (.fin false (T * 2 ^ k * 4503599627370496) (-52 - (k : Int) + 0)) = _
    rw [show -(k : Int) = (-52 - (k : Int) + 0) + 52 by omega]
    exact round_mul (fits64 k3 k2 (by omega) (by omega))
theorem frac_d2l {T : Nat} (hT : T < 4503599627370496) : FP.d2l (FP.dmul (FP.dsub (mk64 1023 T) FP.dconst1) 4841369599423283200) = lN T := by
  obtain ⟨c, k, hk, hv, -, hc⟩ := frac_val hT
  show FP.Core.toL (FP.Core.val64 _) = _
  rw [hv]
  show Int64.ofInt (max (-9223372036854775808) (min 9223372036854775807 (FP.Core.signed false (c * 2 ^ (-(k : Int)).toNat / 2 ^ (- -(k : Int)).toNat)))) = lN T
  rw [show (-(k : Int)).toNat = 0 by omega, show (- -(k : Int)).toNat = k by omega, Nat.pow_zero, Nat.mul_one, hc]
  show Int64.ofInt (max (-9223372036854775808) (min 9223372036854775807 (T : Int))) = lN T
  rw [show max (-9223372036854775808) (min 9223372036854775807 (T : Int)) = (T : Int) by omega]
  rfl
theorem mk_long {E T : Nat} : lN (E * 2 ^ 52) + lN T = (mk64 E T).toInt64 := by
  rw [lN_add]
  apply wb_inj
  rw [wb_tb]
  show BitVec.ofNat 64 (E * 2 ^ 52 + T) = BitVec.ofNat 64 (E * 4503599627370496 + T)
  rfl
/-- a quotient of two whole numbers, 1 ≤ A ≤ B -/
theorem i2d_val {A : Nat} (hA : A < 2147483648) : ∃ c q, FP.Core.val64 (FP.i2d (nI A)) = .fin false c q ∧ A * 2 ^ (0 - q).toNat = c * 1 * 2 ^ (q - 0).toNat := by
  obtain ⟨c, q, h1, h2⟩ := FP.Core.natFit FP.Core.good_b64 FP.Core.wide_b64 false (n := A) (by show A ≤ 2 ^ 53; omega)
  refine ⟨c, q, ?_, h2⟩
  show FP.Core.val64 (FP.Core.i2d _) = _
  rw [FP.Core.val64_i2d, nI_tI hA]
  show FP.Core.roundRatio FP.Core.b64 (decide ((A : Int) < 0)) (A : Int).natAbs 1 0 = _
  rw [decide_eq_false (by omega), Int.natAbs_natCast]
  exact FP.Core.roundRatio_exact FP.Core.good_b64 (by decide) h1 h2
theorem quo_val {A B : Nat} (hA : A < 2147483648) (hB : B < 2147483648) (hB0 : 0 < B) : FP.Core.val64 (FP.ddiv (FP.i2d (nI A)) (FP.i2d (nI B))) = FP.Core.roundRatio FP.Core.b64 false A B 0 := by
  obtain ⟨c, q, h1, h2⟩ := i2d_val hA
  obtain ⟨d, r, g1, g2⟩ := i2d_val hB
  have hd : 0 < d := by
    rcases Nat.eq_zero_or_pos d with z | z
    · subst z
      have := Nat.two_pow_pos (0 - r).toNat
      rw [Nat.mul_one, Nat.zero_mul] at g2
      rcases Nat.mul_eq_zero.mp g2 with w | w <;> omega
    · exact z
  show FP.Core.val64 (FP.Core.ddiv _ _) = _
  rw [FP.Core.val64_ddiv, h1, g1]
  show (if d = 0 then _ else FP.Core.roundRatio FP.Core.b64 (false != false) c d (q - r)) = _
  rw [if_neg (by omega)]
  refine FP.Core.roundRatio_congr hd hB0 ?_
  rw [Nat.mul_one] at h2 g2
  have e1 : (q - r - 0).toNat + ((0 - q).toNat + (r - 0).toNat) = (0 - (q - r)).toNat + ((q - 0).toNat + (0 - r).toNat) := by omega
  have hp : 0 < 2 ^ ((0 - q).toNat + (r - 0).toNat) := Nat.two_pow_pos _
  refine Nat.eq_of_mul_eq_mul_right hp ?_
  calc c * B * 2 ^ (q - r - 0).toNat * 2 ^ ((0 - q).toNat + (r - 0).toNat) = c * B * 2 ^ ((q - r - 0).toNat + ((0 - q).toNat + (r - 0).toNat)) := by rw [Nat.mul_assoc, ← Nat.pow_add]
    _ = c * B * 2 ^ ((0 - (q - r)).toNat + ((q - 0).toNat + (0 - r).toNat)) := by rw [e1]
    _ = (c * 2 ^ (q - 0).toNat) * (B * 2 ^ (0 - r).toNat) * 2 ^ (0 - (q - r)).toNat := by rw [Nat.pow_add, Nat.pow_add]; ac_rfl
    _ = (A * 2 ^ (0 - q).toNat) * (d * 2 ^ (r - 0).toNat) * 2 ^ (0 - (q - r)).toNat := by rw [h2, g2]
    _ = A * d * 2 ^ (0 - (q - r)).toNat * 2 ^ ((0 - q).toNat + (r - 0).toNat) := by rw [Nat.pow_add]; ac_rfl
theorem quo_mk {A B : Nat} (hA : 1 ≤ A) (hAB : A ≤ B) (hB : B < 2147483648) : ∃ E T, 1 ≤ E ∧ E ≤ 1023 ∧ T < 4503599627370496 ∧ FP.ddiv (FP.i2d (nI A)) (FP.i2d (nI B)) = mk64 E T := by
  have hv := quo_val (A := A) (B := B) (by omega) hB (by omega)
  obtain ⟨x, hx⟩ : ∃ x, x = FP.ddiv (FP.i2d (nI A)) (FP.i2d (nI B)) := ⟨_, rfl⟩
  rw [← hx] at hv ⊢
  have hne : FP.Core.val64 x ≠ .nan := by rw [hv]; exact FP.Core.roundRatio_ne_nan _ _ _ _ _
  have ht : FP.Core.b64.tails = 4503599627370496 := by decide
  have hs : x.toNat < 9223372036854775808 := by
    have h1 := FP.Core.sgn_bits hne
    rw [hv, FP.Core.sgn_roundRatio] at h1
    have := of_decide_eq_false h1.symm
    omega
  have hle : x.toNat ≤ 1023 * 4503599627370496 := by
    have h1 := FP.Core.mag_le FP.Core.good_b64 (n := x.toNat) (m := 1023 * FP.Core.b64.tails) (e0 := FP.Core.b64.qmin) hv (by omega) (by omega) (by rw [FP.Core.qmin_b64]; omega) (by
      rw [FP.Core.unitsOf_start (by omega), Int.sub_self, Int.toNat_zero, Nat.pow_zero, Nat.mul_one, ht, FP.Core.qmin_b64]
      unfold FP.Core.inUnits
      rw [show ((0 : Int) - -1074).toNat = 52 + (1023 - 1) from rfl, show (4503599627370496 : Nat) = 2 ^ 52 from rfl, ← Nat.pow_add, Nat.mul_comm]
      exact Nat.mul_le_mul_left _ hAB)
    rw [FP.Core.mag_toNat64, ht] at h1
    omega
  have hge : 1 * 4503599627370496 ≤ x.toNat := by
    have h1 := FP.Core.mag_ge FP.Core.good_b64 (n := x.toNat) (m := 1 * FP.Core.b64.tails) (e0 := FP.Core.b64.qmin) hv (by omega) (by omega) (by rw [FP.Core.qmin_b64]; omega) (by decide) (by
      rw [FP.Core.unitsOf_start (by omega), Int.sub_self, Int.toNat_zero, Nat.pow_zero, Nat.mul_one, ht, FP.Core.qmin_b64]
      unfold FP.Core.inUnits
      rw [show ((0 : Int) - -1074).toNat = 83 + 991 from rfl]
      calc 4503599627370496 * 2 ^ (1 - 1) * B ≤ 4503599627370496 * 2 ^ (1 - 1) * 2147483648 := Nat.mul_le_mul_left _ (by omega)
        _ = 2 ^ 83 := by decide
        _ ≤ 2 ^ (83 + 991) := Nat.pow_le_pow_right (by decide) (Nat.le_add_right 83 991)
        _ = 1 * 2 ^ (83 + 991) := (Nat.one_mul _).symm
        _ ≤ A * 2 ^ (83 + 991) := Nat.mul_le_mul_right _ hA)
    rw [FP.Core.mag_toNat64, ht] at h1
    omega
  refine ⟨x.toNat / 4503599627370496, x.toNat % 4503599627370496, by omega, by omega, Nat.mod_lt _ (by omega), ?_⟩
  unfold mk64
  rw [show x.toNat / 4503599627370496 * 4503599627370496 + x.toNat % 4503599627370496 = x.toNat by omega, UInt64.ofNat_toNat]
theorem quo_0 {B : Nat} (hB : B < 2147483648) (hB0 : 0 < B) : FP.ddiv (FP.i2d (nI 0)) (FP.i2d (nI B)) = FP.dconst0 := by
  have hv := quo_val (A := 0) (B := B) (by omega) hB hB0
  refine FP.Core.val64_inj (by rw [hv]; exact FP.Core.roundRatio_ne_nan _ _ _ _ _) ?_
  rw [hv]
  show FP.Core.roundRatio FP.Core.b64 false 0 B 0 = FP.Core.val64 FP.Core.dconst0
  rw [FP.Core.val64_dconst0]
  rfl
