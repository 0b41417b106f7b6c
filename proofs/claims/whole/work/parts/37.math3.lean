/-! the figures of an elevator in order -/
theorem OKf.row {f : Nat → Int32} {k m tt i : Nat} (h : OKf f k m tt) (hi : i < k) : OKrow (rowOf f i) m tt := h.2.2.2.2.2.2.2 i hi
theorem OKf.live {f : Nat → Int32} {k m tt : Nat} (h : OKf f k m tt) : ∀ i, i < k → 0 < rowOf f i 0 := by
  intro i hi
  obtain ⟨q, h0, h1, h2, -⟩ := h.row hi
  rw [h0, ← nI_0]
  exact nI_lt (by omega) (by omega)
theorem OKf.reason {f : Nat → Int32} {k m tt i z : Nat} (h : OKf f k m tt) (z2 : z ≤ 12) (hi : i < k) : reasonK f (rowOf f i) z = reasonM f (rowOf f i) z := reason_eq h.2.2.1 h.2.2.2.1 h.2.2.2.2.2.2.1 (h.row hi) (by have := h.2.2.2.2.2.1; omega) z2
theorem OKf.reasonL {f : Nat → Int32} {k m tt i z a n : Nat} (h : OKf f k m tt) (z2 : z ≤ 12) (hi : i < k) (hn : a + n ≤ 24) : reasonK f (rLook (rowOf f i) a n (f 0)) z = reasonM f (rLook (rowOf f i) a n (f 0)) z := by
  have h2 := OKrow_look (lo := a) (n := n) (h.row hi) h.2.2.2.2.2.1 hn
  rw [← h.2.2.1] at h2
  exact reason_eq h.2.2.1 h.2.2.2.1 h.2.2.2.2.2.2.1 h2 (by have := h.2.2.2.2.2.1; omega) z2
theorem OKf.ret {f : Nat → Int32} {k m tt z : Nat} (h : OKf f k m tt) (z2 : z ≤ 12) : ∀ j, j ≤ k → retK f z j = retM f z j
  | 0, _ => rfl
  | j + 1, hj => by
    unfold retK retM
    rw [h.reason z2 (by omega), OKf.ret h z2 j (by omega)]
theorem OKf.can {f : Nat → Int32} {k m tt z : Nat} (h : OKf f k m tt) (z2 : z ≤ 12) : ¬ canK f z k = 0 ↔ canM f z k = true := by
  unfold canK canM
  rw [h.ret z2 k (Nat.le_refl k), decide_eq_true_iff]
  by_cases h2 : k < 2
  · rw [if_pos h2]
    exact ⟨fun q => absurd rfl q, fun q => absurd q.1 (by omega)⟩
  · rw [if_neg h2]
    by_cases h3 : retM f z k = 0
    · rw [if_pos h3]
      exact ⟨fun _ => ⟨by omega, h3⟩, fun _ => by decide⟩
    · rw [if_neg h3]
      exact ⟨fun q => absurd rfl q, fun q => absurd q.2 h3⟩
theorem OKf.tl {f : Nat → Int32} {k m tt i z : Nat} (h : OKf f k m tt) (hi : i < k) (hz : f 2 = nI z) (z1 : 1 ≤ z) (z2 : z ≤ 12) : tlK f (rowOf f i) z 32 0 (f 3 * rowOf f i 0) = nI (lfM f (rowOf f i) z 14 0 9801) := tl_eq h.2.2.2.2.2.2.1 hz z1 z2 (h.row hi) h.2.2.2.2.2.1
theorem inK_12 (x : Int32) : inK x 1 2 = true ↔ x = 1 ∨ x = 2 := by
  unfold inK
  rw [decide_eq_true_iff, le_tI, le_tI, show (1 : Int32).toInt = 1 from by decide, show (2 : Int32).toInt = 2 from by decide]
  constructor
  · rintro ⟨a, b⟩
    rcases (show x.toInt = 1 ∨ x.toInt = 2 by omega) with q | q
    · exact Or.inl (tI_inj (by rw [q]; decide))
    · exact Or.inr (tI_inj (by rw [q]; decide))
  · rintro (q | q)
    · subst q; decide
    · subst q; decide
theorem OKf.uns {f : Nat → Int32} {k m tt i z : Nat} (h : OKf f k m tt) (z2 : z ≤ 12) (hi : i < k) : unsK f z i = unsM f z i := by
  have e1 := h.reason z2 hi
  have e2 : reasonK f (lookR f (rowOf f i)) z = reasonM f (lookR f (rowOf f i)) z := h.reasonL z2 hi (Nat.le_refl 24)
  unfold unsK unsM
  rw [e1, e2]
  by_cases q1 : reasonM f (rowOf f i) z = 0
  · rw [decide_eq_true q1, Bool.true_and]
    by_cases q2 : inK (reasonM f (lookR f (rowOf f i)) z) 1 2 = true
    · rw [q2]
      exact decide_eq_true ⟨q1, (inK_12 _).mp q2⟩
    · rw [Bool.not_eq_true] at q2
      rw [q2]
      exact decide_eq_false (fun q => by rw [(inK_12 _).mpr q.2] at q2; cases q2)
  · rw [decide_eq_false q1, Bool.false_and]
    exact decide_eq_false (fun q => q1 q.1)
theorem OKf.lu {f : Nat → Int32} {k m tt z : Nat} (h : OKf f k m tt) (z2 : z ≤ 12) : ∀ d j, j + d = k → luK f z d j = luM f z d j
  | 0, j, _ => rfl
  | d + 1, j, hj => by
    unfold luK luM
    rw [h.uns z2 (by omega), OKf.lu h z2 d (j + 1) (by omega)]
theorem rf_0a (f r : Nat → Int32) (z : Nat) : ropeFigK f r z 0 = r 0 := rfl
theorem rf_0b (f r : Nat → Int32) (z : Nat) : ropeFigM f r z 0 = r 0 := rfl
theorem rf_0 (f r : Nat → Int32) (z : Nat) : ropeFigK f r z 0 = ropeFigM f r z 0 := (rf_0a f r z).trans (rf_0b f r z).symm
theorem rf_1a (f r : Nat → Int32) (z : Nat) : ropeFigK f r z 1 = r 1 := rfl
theorem rf_1b (f r : Nat → Int32) (z : Nat) : ropeFigM f r z 1 = r 1 := rfl
theorem rf_1 (f r : Nat → Int32) (z : Nat) : ropeFigK f r z 1 = ropeFigM f r z 1 := (rf_1a f r z).trans (rf_1b f r z).symm
theorem rf_2a (f r : Nat → Int32) (z : Nat) : ropeFigK f r z 2 = sumN (colR r false) 0 24 := rfl
theorem rf_2b (f r : Nat → Int32) (z : Nat) : ropeFigM f r z 2 = sumN (colR r false) 0 24 := rfl
theorem rf_2 (f r : Nat → Int32) (z : Nat) : ropeFigK f r z 2 = ropeFigM f r z 2 := (rf_2a f r z).trans (rf_2b f r z).symm
theorem rf_3a (f r : Nat → Int32) (z : Nat) : ropeFigK f r z 3 = sumN (colR r true) 0 24 := rfl
theorem rf_3b (f r : Nat → Int32) (z : Nat) : ropeFigM f r z 3 = sumN (colR r true) 0 24 := rfl
theorem rf_3 (f r : Nat → Int32) (z : Nat) : ropeFigK f r z 3 = ropeFigM f r z 3 := (rf_3a f r z).trans (rf_3b f r z).symm
theorem rf_4 {f r : Nat → Int32} {z : Nat} (h : gmx (winS r false z) (25 - z) = gmost r false z) : ropeFigK f r z 4 = ropeFigM f r z 4 := h
theorem rf_5 {f r : Nat → Int32} {z : Nat} (h : gwinK r z = gwin r false z) : ropeFigK f r z 5 = ropeFigM f r z 5 := congrArg nI h
theorem rf_6 {f r : Nat → Int32} {z : Nat} (h : gmx (winS r true z) (25 - z) = gmost r true z) : ropeFigK f r z 6 = ropeFigM f r z 6 := h
theorem rf_7 {f r : Nat → Int32} {z : Nat} (h : reasonK f r z = reasonM f r z) : ropeFigK f r z 7 = ropeFigM f r z 7 := h
theorem rf_8 {f r : Nat → Int32} {z : Nat} (h : mleftK f r = mleM f r) : ropeFigK f r z 8 = ropeFigM f r z 8 := h
theorem rf_9a (f r : Nat → Int32) (z : Nat) : ropeFigK f r z 9 = r 2 := rfl
theorem rf_9b (f r : Nat → Int32) (z : Nat) : ropeFigM f r z 9 = r 2 := rfl
theorem rf_9 (f r : Nat → Int32) (z : Nat) : ropeFigK f r z 9 = ropeFigM f r z 9 := (rf_9a f r z).trans (rf_9b f r z).symm
theorem OKf.ropeFig {f : Nat → Int32} {k m tt i z w : Nat} (h : OKf f k m tt) (hi : i < k) (z2 : z ≤ 12) (hw : w ≤ 9) : ropeFigK f (rowOf f i) z w = ropeFigM f (rowOf f i) z w := by
  rcases (show w = 0 ∨ w = 1 ∨ w = 2 ∨ w = 3 ∨ w = 4 ∨ w = 5 ∨ w = 6 ∨ w = 7 ∨ w = 8 ∨ w = 9 by omega) with rfl | rfl | rfl | rfl | rfl | rfl | rfl | rfl | rfl | rfl
  · exact rf_0 _ _ _
  · exact rf_1 _ _ _
  · exact rf_2 _ _ _
  · exact rf_3 _ _ _
  · exact rf_4 (gmx_gmostC (h.row hi) (by have := h.2.2.2.2.2.1; omega) z2)
  · exact rf_5 (gwinK_eq (h.row hi) (by have := h.2.2.2.2.2.1; omega) z2)
  · exact rf_6 (gmx_gmost (h.row hi) (by have := h.2.2.2.2.2.1; omega) z2)
  · exact rf_7 (h.reason z2 hi)
  · exact rf_8 (mleft_eq (k := k) h.2.2.1 h.2.2.2.1 h.2.2.2.2.2.2.1 (h.row hi))
  · exact rf_9 _ _ _
theorem cf_0a (f F : Nat → Int32) (k z kp : Nat) : countFigK f z k kp 0 = f 0 := rfl
theorem cf_0b (f F : Nat → Int32) (k z kp : Nat) : countFigM f F z k 0 = f 0 := rfl
theorem cf_0 (f F : Nat → Int32) (k z kp : Nat) : countFigK f z k kp 0 = countFigM f F z k 0 := (cf_0a f F k z kp).trans (cf_0b f F k z kp).symm
theorem cf_1a (f F : Nat → Int32) (k z kp : Nat) : countFigK f z k kp 1 = f 1 := rfl
theorem cf_1b (f F : Nat → Int32) (k z kp : Nat) : countFigM f F z k 1 = f 1 := rfl
theorem cf_1 (f F : Nat → Int32) (k z kp : Nat) : countFigK f z k kp 1 = countFigM f F z k 1 := (cf_1a f F k z kp).trans (cf_1b f F k z kp).symm
theorem cf_2 {f F : Nat → Int32} {k z kp : Nat} (h : retK f z k = retM f z k) : countFigK f z k kp 2 = countFigM f F z k 2 := congrArg nI h
theorem cf_3 {f F : Nat → Int32} {k z kp : Nat} (h : (if canK f z k = 0 then (0 : Int32) else 1) = if canM f z k then 1 else 0) : countFigK f z k kp 3 = countFigM f F z k 3 := h
theorem cf_4a (f F : Nat → Int32) (k z kp : Nat) : countFigK f z k kp 4 = f 7 := rfl
theorem cf_4b (f F : Nat → Int32) (k z kp : Nat) : countFigM f F z k 4 = f 7 := rfl
theorem cf_4 (f F : Nat → Int32) (k z kp : Nat) : countFigK f z k kp 4 = countFigM f F z k 4 := (cf_4a f F k z kp).trans (cf_4b f F k z kp).symm
theorem cf_5a (f F : Nat → Int32) (k z kp : Nat) : countFigK f z k kp 5 = f 8 := rfl
theorem cf_5b (f F : Nat → Int32) (k z kp : Nat) : countFigM f F z k 5 = f 8 := rfl
theorem cf_5 (f F : Nat → Int32) (k z kp : Nat) : countFigK f z k kp 5 = countFigM f F z k 5 := (cf_5a f F k z kp).trans (cf_5b f F k z kp).symm
theorem cf_6a (f F : Nat → Int32) (k z kp : Nat) : countFigK f z k kp 6 = f 9 := rfl
theorem cf_6b (f F : Nat → Int32) (k z kp : Nat) : countFigM f F z k 6 = f 9 := rfl
theorem cf_6 (f F : Nat → Int32) (k z kp : Nat) : countFigK f z k kp 6 = countFigM f F z k 6 := (cf_6a f F k z kp).trans (cf_6b f F k z kp).symm
theorem cf_7a (f F : Nat → Int32) (k z kp : Nat) : countFigK f z k kp 7 = sumRK f true k - sumRK f false k := rfl
theorem cf_7b (f F : Nat → Int32) (k z kp : Nat) : countFigM f F z k 7 = sumRK f true k - sumRK f false k := rfl
theorem cf_7 (f F : Nat → Int32) (k z kp : Nat) : countFigK f z k kp 7 = countFigM f F z k 7 := (cf_7a f F k z kp).trans (cf_7b f F k z kp).symm
theorem cf_8 {f F : Nat → Int32} {k z kp : Nat} (h : F 2 = nI kp) : countFigK f z k kp 8 = countFigM f F z k 8 := h.symm
theorem OKf.countFig {f F : Nat → Int32} {k m tt z kp w : Nat} (h : OKf f k m tt) (z2 : z ≤ 12) (hF : F 2 = nI kp) (hw : w ≤ 8) : countFigK f z k kp w = countFigM f F z k w := by
  rcases (show w = 0 ∨ w = 1 ∨ w = 2 ∨ w = 3 ∨ w = 4 ∨ w = 5 ∨ w = 6 ∨ w = 7 ∨ w = 8 by omega) with rfl | rfl | rfl | rfl | rfl | rfl | rfl | rfl | rfl
  · exact cf_0 _ _ _ _ _
  · exact cf_1 _ _ _ _ _
  · exact cf_2 (h.ret z2 k (Nat.le_refl k))
  · refine cf_3 ?_
    by_cases q : canK f z k = 0
    · have hc : canM f z k = false := by
        cases hq : canM f z k
        · rfl
        · exact absurd q ((h.can z2).mpr hq)
      rw [if_pos q, hc]
      rfl
    · rw [if_neg q, (h.can z2).mp q]
      rfl
  · exact cf_4 _ _ _ _ _
  · exact cf_5 _ _ _ _ _
  · exact cf_6 _ _ _ _ _
  · exact cf_7 _ _ _ _ _
  · exact cf_8 hF
theorem mixN_congr {g g' : Nat → Int64} : ∀ n h, (∀ w, w < n → g w = g' w) → mixN g n h = mixN g' n h
  | 0, _, _ => rfl
  | n + 1, h, e => by
    unfold mixN
    rw [mixN_congr n h (fun w hw => e w (by omega)), e n (by omega)]
theorem OKf.mwr {f : Nat → Int32} {k m tt i z : Nat} (h : OKf f k m tt) (hi : i < k) (hz : f 2 = nI z) (z1 : 1 ≤ z) (z2 : z ≤ 12) (x : Int64) : mwrK f (rowOf f i) z x = mwrM f (rowOf f i) z x := by
  have e2 : reasonK f (lookR f (rowOf f i)) z = reasonM f (lookR f (rowOf f i)) z := h.reasonL z2 hi (Nat.le_refl 24)
  unfold mwrK mwrM
  rw [e2, h.tl hi hz z1 z2, mixN_congr (g' := fun w => (ropeFigM f (rowOf f i) z w).toInt64) 10 x (fun w hw => by rw [h.ropeFig hi z2 (by omega)])]
theorem OKf.rps {f : Nat → Int32} {k m tt z : Nat} (h : OKf f k m tt) (hz : f 2 = nI z) (z1 : 1 ≤ z) (z2 : z ≤ 12) (x : Int64) : ∀ j, j ≤ k → rpsM f z j x = rpsMM f z j x
  | 0, _ => rfl
  | j + 1, hj => by
    rw [rpsM_s, rpsMM_s, h.mwr (by omega) hz z1 z2, OKf.rps h hz z1 z2 x j (by omega)]
theorem OKf.dig {f F tx : Nat → Int32} {k m tt z kp len : Nat} {B : Int64} (h : OKf f k m tt) (hz : f 2 = nI z) (z1 : 1 ≤ z) (z2 : z ≤ 12) (hF : F 2 = nI kp) (hB : B = (shrK f k).toInt64) : digK2 f z k kp tx len B = digM f F tx z k len := by
  unfold digK2 digM
  rw [hB, h.rps hz z1 z2 _ k (Nat.le_refl k), h.lu z2 k 0 (Nat.zero_add k), mixN_congr (g' := fun w => (tx w).toInt64) len _ (fun w hw => by unfold sgn; rw [if_pos hw]), mixN_congr (g' := fun w => (countFigM f F z k w).toInt64) 9 2677 (fun w hw => by rw [h.countFig z2 hF (by omega)])]
/-! the saved states -/
def PR (o kp : Nat) (P : Nat → Nat → Int32) (pa : Nat → Int32) : Prop := ∀ j, j < kp → OKs (P ((o + j) % 6)) ∧ ∀ i, i < 505 → P ((o + j) % 6) i = pa (505 * j + i)
theorem PR_save {o kp : Nat} {P : Nat → Nat → Int32} {pa f : Nat → Int32} (ho : o < 6) (hk : kp ≤ 6) (h : PR o kp P pa) (hf : OKs f) : PR (kO o kp) (kK kp) (kP o kp P f) (svP pa f kp) := by
  by_cases h6 : kp = 6
  · subst h6
    have e1 : kO o 6 = (o + 1) % 6 := if_pos rfl
    have e2 : kK 6 = 6 := if_pos rfl
    have e3 : kP o 6 P f = upP P (((o + 1) % 6 + 5) % 6) f := rfl
    have e4 : svP pa f 6 = ovF (shP pa 2525) f (505 * 5) 505 := if_pos rfl
    rw [e1, e2, e3, e4]
    intro j hj
    by_cases hj5 : j = 5
    · subst hj5
      have x : upP P (((o + 1) % 6 + 5) % 6) f (((o + 1) % 6 + 5) % 6) = f := if_pos rfl
      rw [x]
      refine ⟨hf, fun i hi => ?_⟩
      unfold ovF
      rw [if_pos (by omega)]
      exact congrArg f (by omega)
    · have x : upP P (((o + 1) % 6 + 5) % 6) f (((o + 1) % 6 + j) % 6) = P ((o + (j + 1)) % 6) := by
        unfold upP
        rw [if_neg (by omega)]
        exact congrArg P (by omega)
      rw [x]
      have hh := h (j + 1) (by omega)
      refine ⟨hh.1, fun i hi => ?_⟩
      rw [hh.2 i hi]
      unfold ovF shP
      rw [if_neg (by omega), if_pos (by omega)]
      exact congrArg pa (by omega)
  · have e1 : kO o kp = o := if_neg h6
    have e2 : kK kp = kp + 1 := if_neg h6
    have e3 : kP o kp P f = upP P ((o + kp) % 6) f := by unfold kP; rw [if_neg h6]
    have e4 : svP pa f kp = ovF pa f (505 * kp) 505 := if_neg h6
    rw [e1, e2, e3, e4]
    intro j hj
    by_cases hjk : j = kp
    · subst hjk
      have x : upP P ((o + j) % 6) f ((o + j) % 6) = f := if_pos rfl
      rw [x]
      refine ⟨hf, fun i hi => ?_⟩
      unfold ovF
      rw [if_pos (by omega)]
      exact congrArg f (by omega)
    · have x : upP P ((o + kp) % 6) f ((o + j) % 6) = P ((o + j) % 6) := by
        unfold upP
        rw [if_neg (by omega)]
      rw [x]
      have hh := h j (by omega)
      refine ⟨hh.1, fun i hi => ?_⟩
      rw [hh.2 i hi]
      unfold ovF
      rw [if_neg (by omega)]
theorem kO_lt {o kp : Nat} (ho : o < 6) : kO o kp < 6 := by
  unfold kO
  split <;> omega
theorem kK_le {kp : Nat} (hk : kp ≤ 6) : kK kp ≤ 6 := by
  unfold kK
  split <;> omega
