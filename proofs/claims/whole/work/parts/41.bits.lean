/-! RopeThreads.bitsOfShare, walked; the share of an elevator in order -/
set_option maxHeartbeats 4000000 in
set_option maxRecDepth 100000 in
theorem ct_C_bits_0 {l : Launch} (hfl : l.stackTraces = false) {G : XG} {n : Nat} {h : XH} : XCt l G False (Cond.code yC_bitsOfShare bC_bitsOfShare 8 (some .long)) yC_bitsOfShare 0 0 0 0 [.double (FP.dconst0)] n h (fun r' n' h' => r' = some (.long (0)) ∧ n' = n ∧ h' = h) (fun _ _ _ => False) := by
  refine XCt.of hfl (by decide +kernel) (Nat.le_of_ble_eq_true rfl) ?_
  intro p' e' s' m' g' b' t' c' C hret hname hnt hmd
  refine XV.run C okC_bitsOfShare 1 (q := (1, ([some (.double (FP.dconst0)), none, none, none, none, none, none, none], [.double (FP.dconst0)]))) rfl ?_
  refine XV.dconst0 C (xlk_ok okC_bitsOfShare rfl) ?_
  refine XV.run C okC_bitsOfShare 1 (q := (3, ([some (.double (FP.dconst0)), none, none, none, none, none, none, none], [.int (Op.cmpValue (FP.dcmp FP.dconst0 FP.dconst0) .g)]))) rfl ?_
  refine XV.if_gt C (tgt := 8) (xlk_ok okC_bitsOfShare rfl) rfl (fun hc => absurd hc (cmp_00)) (fun _ => ?_)
  refine XV.run C okC_bitsOfShare 1 (q := (7, ([some (.double (FP.dconst0)), none, none, none, none, none, none, none], [.long (0)]))) rfl ?_
  exact XV.lret C (xlk_ok okC_bitsOfShare rfl) hret (Nat.le_of_ble_eq_true rfl) (Nat.le_of_ble_eq_true rfl) (⟨rfl, rfl, rfl⟩)
set_option maxHeartbeats 4000000 in
set_option maxRecDepth 100000 in
theorem ct_C_bits_n {l : Launch} (hfl : l.stackTraces = false) {G : XG} {n : Nat} {h : XH} {E T : Nat} (hE1 : 1 ≤ E) (hE : E ≤ 1023) (hT : T < 4503599627370496) : XCt l G False (Cond.code yC_bitsOfShare bC_bitsOfShare 8 (some .long)) yC_bitsOfShare 0 0 0 0 [.double (mk64 E T)] n h (fun r' n' h' => r' = some (.long ((mk64 E T).toInt64)) ∧ n' = n ∧ h' = h) (fun _ _ _ => False) := by
  refine XCt.of hfl (by decide +kernel) (Nat.le_of_ble_eq_true rfl) ?_
  intro p' e' s' m' g' b' t' c' C hret hname hnt hmd
  refine XV.run C okC_bitsOfShare 1 (q := (1, ([some (.double (mk64 E T)), none, none, none, none, none, none, none], [.double (mk64 E T)]))) rfl ?_
  refine XV.dconst0 C (xlk_ok okC_bitsOfShare rfl) ?_
  refine XV.run C okC_bitsOfShare 1 (q := (3, ([some (.double (mk64 E T)), none, none, none, none, none, none, none], [.int (Op.cmpValue (FP.dcmp (mk64 E T) FP.dconst0) .g)]))) rfl ?_
  refine XV.if_gt C (tgt := 8) (xlk_ok okC_bitsOfShare rfl) rfl (fun _ => ?_) (fun hc => absurd (cmp_gt0 hE1 hE hT) hc)
  refine XV.run C okC_bitsOfShare 2 (q := (10, ([some (.double (mk64 E T)), none, some (.double (mk64 E T)), none, none, none, none, none], []))) rfl ?_
  refine XV.ldc2 C (xlk_ok okC_bitsOfShare rfl) wK_C_283 ?_
  refine XV.run C okC_bitsOfShare 3 (q := (18, ([some (.double (mk64 E T)), none, some (.double (mk64 E T)), none, some (.long ((1023))), none, some (.int (1)), none], []))) rfl ?_
  have loop : ∀ (d c : Nat), E + c + d = 1023 → XV G 8 p' l e' ({ frames := 0, cells := 0, slots := 0, locals := 0 } : Room) s' m' g' b' t' c' (XEnd G b' (fun r' n' h' => r' = some (.long ((mk64 E T).toInt64)) ∧ n' = n ∧ h' = h) (fun _ _ _ => False) g' s' 0 0) 18 [some (.double (mk64 E T)), none, some (.double (mk64 (E + c) T)), none, some (.long (lN (1023 - c))), none, some (.int (nI (1 + c))), none] [] n h 0 0 := by
    intro d
    induction d with
    | zero =>
      intro c hc
      refine XV.run C okC_bitsOfShare 2 (q := (21, ([some (.double (mk64 E T)), none, some (.double (mk64 (E + c) T)), none, some (.long (lN (1023 - c))), none, some (.int (nI (1 + c))), none], [.long ((nI (1 + c)).toInt64)]))) rfl ?_
      refine XV.ldc2 C (xlk_ok okC_bitsOfShare rfl) wK_C_283 ?_
      refine XV.run C okC_bitsOfShare 1 (q := (25, ([some (.double (mk64 E T)), none, some (.double (mk64 (E + c) T)), none, some (.long (lN (1023 - c))), none, some (.int (nI (1 + c))), none], [.int (lg_cmp ((nI (1 + c)).toInt64) (1023))]))) rfl ?_
      refine XV.if_ge C (tgt := 52) (xlk_ok okC_bitsOfShare rfl) rfl (fun c25 => ?_) (fun c25 => ?_)
      ·
        have ec : E + c = 1023 := by omega
        rw [ec]
        refine XV.run C okC_bitsOfShare 1 (q := (53, ([some (.double (mk64 E T)), none, some (.double (mk64 1023 T)), none, some (.long (lN (1023 - c))), none, some (.int (nI (1 + c))), none], [.double (mk64 1023 T)]))) rfl ?_
        refine XV.dconst1 C (xlk_ok okC_bitsOfShare rfl) ?_
        refine XV.dsub C (xlk_ok okC_bitsOfShare rfl) (vf_of (by obtain ⟨_, _, _, _, q, _⟩ := frac_val hT; exact q)) ?_
        refine XV.ldc2d C (xlk_ok okC_bitsOfShare rfl) wK_C_287 ?_
        refine XV.dmul C (xlk_ok okC_bitsOfShare rfl) (vf_of (by obtain ⟨_, _, _, q, _⟩ := frac_val hT; rw [q]; exact FP.Core.Datum.noConfusion)) ?_
        refine XV.run C okC_bitsOfShare 1 (q := (60, ([some (.double (mk64 E T)), none, some (.double (mk64 1023 T)), none, some (.long (lN (1023 - c))), none, some (.int (nI (1 + c))), none], [.long (FP.d2l (FP.dmul (FP.dsub (mk64 1023 T) FP.dconst1) (4841369599423283200)))]))) rfl ?_
        rw [show (FP.d2l (FP.dmul (FP.dsub (mk64 1023 T) FP.dconst1) (4841369599423283200)) : Int64) = lN T from frac_d2l hT]
        refine XV.run C okC_bitsOfShare 4 (q := (67, ([some (.double (mk64 E T)), none, some (.double (mk64 1023 T)), none, some (.long (lN (1023 - c))), none, some (.long (lN T)), none], [.long ((lN (1023 - c)) <<< (Int32.toInt64 52 &&& 63))]))) rfl ?_
        rw [show ((lN (1023 - c)) <<< (Int32.toInt64 52 &&& 63) : Int64) = lN ((1023 - c) * 2 ^ 52) from wb_shl (1023 - c) (k := 52) (by omega)]
        refine XV.run C okC_bitsOfShare 2 (q := (70, ([some (.double (mk64 E T)), none, some (.double (mk64 1023 T)), none, some (.long (lN (1023 - c))), none, some (.long (lN T)), none], [.long ((lN ((1023 - c) * 2 ^ 52)) + (lN T))]))) rfl ?_
        exact XV.lret C (xlk_ok okC_bitsOfShare rfl) hret (Nat.le_of_ble_eq_true rfl) (Nat.le_of_ble_eq_true rfl) (⟨congrArg (fun q => some (Value.long q)) (by rw [show 1023 - c = E by omega]; exact mk_long), rfl, rfl⟩)
      ·
        refine XV.run C okC_bitsOfShare 1 (q := (29, ([some (.double (mk64 E T)), none, some (.double (mk64 (E + c) T)), none, some (.long (lN (1023 - c))), none, some (.int (nI (1 + c))), none], [.double (mk64 (E + c) T)]))) rfl ?_
        refine XV.dconst1 C (xlk_ok okC_bitsOfShare rfl) ?_
        refine XV.run C okC_bitsOfShare 1 (q := (31, ([some (.double (mk64 E T)), none, some (.double (mk64 (E + c) T)), none, some (.long (lN (1023 - c))), none, some (.int (nI (1 + c))), none], [.int (Op.cmpValue (FP.dcmp (mk64 (E + c) T) FP.dconst1) .g)]))) rfl ?_
        refine XV.if_ge C (tgt := 52) (xlk_ok okC_bitsOfShare rfl) rfl (fun _ => ?_) (fun hc => absurd (by rw [show E + c = 1023 by omega]; exact cmp_ge1 hT) hc)
        have ec : E + c = 1023 := by omega
        rw [ec]
        refine XV.run C okC_bitsOfShare 1 (q := (53, ([some (.double (mk64 E T)), none, some (.double (mk64 1023 T)), none, some (.long (lN (1023 - c))), none, some (.int (nI (1 + c))), none], [.double (mk64 1023 T)]))) rfl ?_
        refine XV.dconst1 C (xlk_ok okC_bitsOfShare rfl) ?_
        refine XV.dsub C (xlk_ok okC_bitsOfShare rfl) (vf_of (by obtain ⟨_, _, _, _, q, _⟩ := frac_val hT; exact q)) ?_
        refine XV.ldc2d C (xlk_ok okC_bitsOfShare rfl) wK_C_287 ?_
        refine XV.dmul C (xlk_ok okC_bitsOfShare rfl) (vf_of (by obtain ⟨_, _, _, q, _⟩ := frac_val hT; rw [q]; exact FP.Core.Datum.noConfusion)) ?_
        refine XV.run C okC_bitsOfShare 1 (q := (60, ([some (.double (mk64 E T)), none, some (.double (mk64 1023 T)), none, some (.long (lN (1023 - c))), none, some (.int (nI (1 + c))), none], [.long (FP.d2l (FP.dmul (FP.dsub (mk64 1023 T) FP.dconst1) (4841369599423283200)))]))) rfl ?_
        rw [show (FP.d2l (FP.dmul (FP.dsub (mk64 1023 T) FP.dconst1) (4841369599423283200)) : Int64) = lN T from frac_d2l hT]
        refine XV.run C okC_bitsOfShare 4 (q := (67, ([some (.double (mk64 E T)), none, some (.double (mk64 1023 T)), none, some (.long (lN (1023 - c))), none, some (.long (lN T)), none], [.long ((lN (1023 - c)) <<< (Int32.toInt64 52 &&& 63))]))) rfl ?_
        rw [show ((lN (1023 - c)) <<< (Int32.toInt64 52 &&& 63) : Int64) = lN ((1023 - c) * 2 ^ 52) from wb_shl (1023 - c) (k := 52) (by omega)]
        refine XV.run C okC_bitsOfShare 2 (q := (70, ([some (.double (mk64 E T)), none, some (.double (mk64 1023 T)), none, some (.long (lN (1023 - c))), none, some (.long (lN T)), none], [.long ((lN ((1023 - c) * 2 ^ 52)) + (lN T))]))) rfl ?_
        exact XV.lret C (xlk_ok okC_bitsOfShare rfl) hret (Nat.le_of_ble_eq_true rfl) (Nat.le_of_ble_eq_true rfl) (⟨congrArg (fun q => some (Value.long q)) (by rw [show 1023 - c = E by omega]; exact mk_long), rfl, rfl⟩)
    | succ d ih =>
      intro c hc
      refine XV.run C okC_bitsOfShare 2 (q := (21, ([some (.double (mk64 E T)), none, some (.double (mk64 (E + c) T)), none, some (.long (lN (1023 - c))), none, some (.int (nI (1 + c))), none], [.long ((nI (1 + c)).toInt64)]))) rfl ?_
      refine XV.ldc2 C (xlk_ok okC_bitsOfShare rfl) wK_C_283 ?_
      refine XV.run C okC_bitsOfShare 1 (q := (25, ([some (.double (mk64 E T)), none, some (.double (mk64 (E + c) T)), none, some (.long (lN (1023 - c))), none, some (.int (nI (1 + c))), none], [.int (lg_cmp ((nI (1 + c)).toInt64) (1023))]))) rfl ?_
      refine XV.if_ge C (tgt := 52) (xlk_ok okC_bitsOfShare rfl) rfl (fun hc => absurd hc (by rw [lg_cmp_ge, nI_l (by omega)]; exact fun q => absurd ((lN_le (a := 1023) (by omega) (by omega)).mp q) (by omega))) (fun _ => ?_)
      refine XV.run C okC_bitsOfShare 1 (q := (29, ([some (.double (mk64 E T)), none, some (.double (mk64 (E + c) T)), none, some (.long (lN (1023 - c))), none, some (.int (nI (1 + c))), none], [.double (mk64 (E + c) T)]))) rfl ?_
      refine XV.dconst1 C (xlk_ok okC_bitsOfShare rfl) ?_
      refine XV.run C okC_bitsOfShare 1 (q := (31, ([some (.double (mk64 E T)), none, some (.double (mk64 (E + c) T)), none, some (.long (lN (1023 - c))), none, some (.int (nI (1 + c))), none], [.int (Op.cmpValue (FP.dcmp (mk64 (E + c) T) FP.dconst1) .g)]))) rfl ?_
      refine XV.if_ge C (tgt := 52) (xlk_ok okC_bitsOfShare rfl) rfl (fun hc => absurd hc (by rw [cmp_lt1 (by omega) hT]; decide)) (fun _ => ?_)
      refine XV.run C okC_bitsOfShare 1 (q := (35, ([some (.double (mk64 E T)), none, some (.double (mk64 (E + c) T)), none, some (.long (lN (1023 - c))), none, some (.int (nI (1 + c))), none], [.double (mk64 (E + c) T)]))) rfl ?_
      refine XV.ldc2d C (xlk_ok okC_bitsOfShare rfl) wK_C_285 ?_
      refine XV.dmul C (xlk_ok okC_bitsOfShare rfl) (by rw [mul_two (by omega) (by omega) hT]; exact vf_of (mk_ne (by omega) hT)) ?_
      rw [show (FP.dmul (mk64 (E + c) T) (4611686018427387904) : UInt64) = mk64 (E + c + 1) T from mul_two (by omega) (by omega) hT]
      refine XV.run C okC_bitsOfShare 4 (q := (44, ([some (.double (mk64 E T)), none, some (.double (mk64 (E + c + 1) T)), none, some (.long (lN (1023 - c))), none, some (.int (nI (1 + c))), none], [.long ((lN (1023 - c)) - 1)]))) rfl ?_
      rw [show ((lN (1023 - c)) - 1 : Int64) = lN (1023 - (c + 1)) from (lN_sub (b := 1) (by omega)).trans (congrArg lN (by omega))]
      refine XV.run C okC_bitsOfShare 3 (q := (18, ([some (.double (mk64 E T)), none, some (.double (mk64 (E + c + 1) T)), none, some (.long (lN (1023 - (c + 1)))), none, some (.int ((nI (1 + c)) + 1)), none], []))) rfl ?_
      rw [nI_1]
      exact ih (c + 1) (by omega)
  exact loop (1023 - E) 0 (by omega)
theorem sumRK_nat {f : Nat → Int32} {k m tt : Nat} (h : OKf f k m tt) (b : Bool) : ∃ v, sumRK f b k = nI v ∧ v ≤ 5 * (24 * 99999) := by
  have h6 := h.2.2.2.2.2.1
  obtain ⟨v, e1, e2⟩ := sumN_nat (S := fun i => sumN (colR (rowOf f i) b) 0 24) (B := 24 * 99999) (a := 0) k (fun i _ hi => by
    obtain ⟨q, h0, h1, h2, h3⟩ := h.row (i := i) (by omega)
    refine sumN_nat 24 (fun s _ hs => ?_)
    obtain ⟨b', c, a, d, x1, x2, x3, x4, -⟩ := h3 s (by omega)
    have hb : b' / q ≤ b' := Nat.div_le_self b' q
    cases b with
    | false => exact ⟨c, x3, by omega⟩
    | true => exact ⟨b' / q, by show brk _ _ = _; unfold brk; rw [x1, h0]; exact pk_div (by omega) (by omega) (by omega), by omega⟩)
  have h5 := h.2.1
  have h7 : k * (24 * 99999) ≤ 5 * (24 * 99999) := Nat.mul_le_mul_right _ h5
  exact ⟨v, e1, Nat.le_trans e2 h7⟩
theorem sumRK_two {f : Nat → Int32} {k m tt : Nat} (h : OKf f k m tt) : ∃ v w, sumRK f false k = nI v ∧ sumRK f true k = nI w ∧ v ≤ w ∧ w ≤ 5 * (24 * 99999) := by
  have h6 := h.2.2.2.2.2.1
  obtain ⟨v, w, e1, e2, e3, e4⟩ := sumN_two (S := fun i => sumN (colR (rowOf f i) false) 0 24) (S' := fun i => sumN (colR (rowOf f i) true) 0 24) (B := 24 * 99999) (a := 0) k (fun i _ hi => by
    obtain ⟨q, h0, h1, h2, h3⟩ := h.row (i := i) (by omega)
    refine sumN_two 24 (fun s _ hs => ?_)
    obtain ⟨b', c, a, d, x1, x2, x3, x4, -⟩ := h3 s (by omega)
    have hb : b' / q ≤ b' := Nat.div_le_self b' q
    exact ⟨c, b' / q, x3, by show brk _ _ = _; unfold brk; rw [x1, h0]; exact pk_div (by omega) (by omega) (by omega), x4, by omega⟩)
  have h7 : k * (24 * 99999) ≤ 5 * (24 * 99999) := Nat.mul_le_mul_right _ h.2.1
  exact ⟨v, w, e1, e2, e3, Nat.le_trans e4 h7⟩
theorem shr_cases {f : Nat → Int32} {k m tt : Nat} (h : OKf f k m tt) : shrK f k = FP.dconst0 ∨ ∃ E T, 1 ≤ E ∧ E ≤ 1023 ∧ T < 4503599627370496 ∧ shrK f k = mk64 E T := by
  obtain ⟨v, w, e1, e2, e3, e4⟩ := sumRK_two h
  unfold shrK
  by_cases h0 : sumRK f true k = 0
  · rw [if_pos h0]
    exact Or.inr ⟨1023, 0, by omega, by omega, by omega, one_mk⟩
  · rw [if_neg h0, e1, e2]
    have hw : 0 < w := by
      rcases Nat.eq_zero_or_pos w with z | z
      · subst z
        exact absurd (e2.trans nI_0) h0
      · exact z
    by_cases hv : v = 0
    · subst hv
      exact Or.inl (quo_0 (by omega) hw)
    · exact Or.inr (quo_mk (by omega) e3 (by omega))
theorem shr_ne {f : Nat → Int32} {k m tt : Nat} (h : OKf f k m tt) : FP.Core.val64 (shrK f k) ≠ .nan := by
  rcases shr_cases h with e | ⟨E, T, h1, h2, h3, e⟩
  · rw [e, zero_mk]; exact mk_ne (by omega) (by omega)
  · rw [e]; exact mk_ne (by omega) h3
theorem shr_dv {f : Nat → Int32} {k m tt : Nat} (h : OKf f k m tt) : ¬ sumRK f true k = 0 → vf_n64 (FP.ddiv (FP.i2d (sumRK f false k)) (FP.i2d (sumRK f true k))) := by
  intro h0
  have := shr_ne h
  unfold shrK at this
  rw [if_neg h0] at this
  exact vf_of this
theorem shr_eq {f : Nat → Int32} {k m tt : Nat} (h : OKf f k m tt) : FP.dcmp (shrK f k) (shrK f k) = some .eq := FP.Core.dcmp_self (shr_ne h)
theorem ct_C_bits {l : Launch} (hfl : l.stackTraces = false) {G : XG} {f : Nat → Int32} {k m tt : Nat} (h : OKf f k m tt) : ∀ (n : Nat) (h : XH), XCt l G False (Cond.code yC_bitsOfShare bC_bitsOfShare 8 (some .long)) yC_bitsOfShare 0 0 0 0 [.double (shrK f k)] n h (fun r n1 h1 => r = some (.long (shrK f k).toInt64) ∧ n1 = n ∧ h1 = h) (fun _ _ _ => False) := by
  intro n h'
  rcases shr_cases h with e | ⟨E, T, h1, h2, h3, e⟩
  · rw [e]
    exact ct_C_bits_0 hfl
  · rw [e]
    exact ct_C_bits_n hfl h1 h2 h3
