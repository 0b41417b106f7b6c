/-! what the law's rope and lift ask -/
theorem OKf.tt {f : Nat → Int32} {k m tt : Nat} (h : OKf f k m tt) : tt ≤ 99999 := h.2.2.2.2.2.1
theorem fg_trips {f : Nat → Int32} {k m tt i z kp : Nat} (h : OKf f k m tt) (hi : i < k) : ¬ countFigK f z k kp 4 < ropeFigK f (rowOf f i) z 9 := by
  show ¬ f 7 < rowOf f i 2
  obtain ⟨q, u, t, h0, h1, h2, g1, g2, g3, g4, h3⟩ := h.row hi
  have := h.tt
  rw [h.2.2.2.2.1, g3]
  exact nI_nlt g4 (by omega)
theorem fg_hung {f : Nat → Int32} {k m tt i z kp : Nat} (h : OKf f k m tt) (hi : i < k) : ¬ countFigK f z k kp 0 < ropeFigK f (rowOf f i) z 1 := by
  show ¬ f 0 < rowOf f i 1
  obtain ⟨q, u, t, h0, h1, h2, g1, g2, g3, g4, h3⟩ := h.row hi
  have := h.2.2.2.1
  rw [h.2.2.1, g1]
  exact nI_nlt g2 (by omega)
theorem sg_q {f : Nat → Int32} {k m tt i z : Nat} (h : OKf f k m tt) (hi : i < k) : ¬ ropeFigK f (rowOf f i) z 0 = 0 := ne_of_gt (h.live i hi)
theorem sg_1 {f : Nat → Int32} {i z s : Nat} : secF (rowOf f i) s 1 = secF (rowOf f i) s 0 / ropeFigK f (rowOf f i) z 0 := rfl
theorem sg_2 {f : Nat → Int32} {k m tt i s : Nat} (h : OKf f k m tt) (hi : i < k) (hs : s < 24) : ¬ secF (rowOf f i) s 1 < secF (rowOf f i) s 2 := by
  obtain ⟨c, v, e1, e2, e3, e4⟩ := (h.row hi).bk h.tt hs
  show ¬ colR (rowOf f i) true s < colR (rowOf f i) false s
  rw [e1, e2]
  exact nI_nlt e3 (by omega)
theorem sg_3 {f : Nat → Int32} {k m tt i s : Nat} (h : OKf f k m tt) (hi : i < k) (hs : s < 24) : ¬ secF (rowOf f i) s 2 < secF (rowOf f i) s 3 := by
  obtain ⟨q, u, t, h0, h1, h2, g1, g2, g3, g4, h3⟩ := h.row hi
  obtain ⟨b, c, a, d, e1, e2, e3, e4, e5, e6, e7, e8, e9⟩ := h3 s hs
  have h5 := Nat.div_le_self b q
  have := h.tt
  show ¬ rowOf f i (27 + s) < rowOf f i (51 + s)
  rw [e3, e5]
  exact nI_nlt e6 (by omega)
theorem sg_4 {f : Nat → Int32} {k m tt i s z : Nat} (h : OKf f k m tt) (hi : i < k) (hs : s < 24) : ¬ ropeFigK f (rowOf f i) z 9 < secF (rowOf f i) s 0 := by
  obtain ⟨q, u, t, h0, h1, h2, g1, g2, g3, g4, h3⟩ := h.row hi
  obtain ⟨b, c, a, d, e1, e2, e3, e4, e5, e6, e7, e8, e9⟩ := h3 s hs
  have := h.tt
  show ¬ rowOf f i 2 < rowOf f i (3 + s)
  rw [g3, e1]
  exact nI_nlt e2 (by omega)
theorem sg_5 {f : Nat → Int32} {k m tt i s z : Nat} (h : OKf f k m tt) (hi : i < k) (hs : s < 24) : ¬ secF (rowOf f i) s 4 < ropeFigK f (rowOf f i) z 1 := by
  obtain ⟨q, u, t, h0, h1, h2, g1, g2, g3, g4, h3⟩ := h.row hi
  obtain ⟨b, c, a, d, e1, e2, e3, e4, e5, e6, e7, e8, e9⟩ := h3 s hs
  have := h.2.2.2.1
  show ¬ rowOf f i (75 + s) < rowOf f i 1
  rw [g1, e7]
  exact nI_nlt e8 (by omega)
theorem sg_6 {f : Nat → Int32} {k m tt i s z kp : Nat} (h : OKf f k m tt) (hi : i < k) (hs : s < 24) : ¬ countFigK f z k kp 0 < secF (rowOf f i) s 4 := by
  obtain ⟨q, u, t, h0, h1, h2, g1, g2, g3, g4, h3⟩ := h.row hi
  obtain ⟨b, c, a, d, e1, e2, e3, e4, e5, e6, e7, e8, e9⟩ := h3 s hs
  have := h.2.2.2.1
  show ¬ f 0 < rowOf f i (75 + s)
  rw [h.2.2.1, e7]
  exact nI_nlt e9 (by omega)
theorem th_s (r : Nat → Int32) (j : Nat) : sumN (colR r true) 0 j + secF r j 1 = sumN (colR r true) 0 (j + 1) := by
  show _ = sumN (colR r true) 0 j + colR r true (0 + j)
  rw [Nat.zero_add]
  rfl
theorem ct_s (r : Nat → Int32) (j : Nat) : sumN (colR r false) 0 j + secF r j 2 = sumN (colR r false) 0 (j + 1) := by
  show _ = sumN (colR r false) 0 j + colR r false (0 + j)
  rw [Nat.zero_add]
  rfl
theorem fg_2 (f r : Nat → Int32) (z : Nat) : ropeFigK f r z 2 = sumN (colR r false) 0 24 := rfl
theorem fg_3 (f r : Nat → Int32) (z : Nat) : ropeFigK f r z 3 = sumN (colR r true) 0 24 := rfl
theorem fg_46 {f : Nat → Int32} {k m tt i z : Nat} (h : OKf f k m tt) (hi : i < k) (z2 : z ≤ 12) : ¬ ropeFigK f (rowOf f i) z 6 < ropeFigK f (rowOf f i) z 4 := i_nlt ((h.row hi).gmx_le h.tt z2)
theorem fg_win {f : Nat → Int32} {k m tt i z : Nat} (h : OKf f k m tt) (hi : i < k) (z2 : z ≤ 12) : winS (rowOf f i) (decide (0 = 1)) z (gwinK (rowOf f i) z) = ropeFigK f (rowOf f i) z 4 := ((h.row hi).gwin h.tt z2).2
theorem fg_87 {f r : Nat → Int32} {z : Nat} (h : ¬ ropeFigK f r z 8 = 0) : ¬ ropeFigK f r z 7 = 4 := by
  have h8 : ¬ mleftK f r = 0 := h
  show ¬ reasonK f r z = 4
  unfold reasonK
  rw [if_neg h8]
  split
  · decide
  · split
    · decide
    · split <;> decide
theorem fg_71 {f r : Nat → Int32} {z : Nat} (h : ropeFigK f r z 7 = 1) : ¬ ropeFigK f r z 4 < f (2 + 1) := by
  have h1 : reasonK f r z = 1 := h
  show ¬ gmx (winS r false z) (25 - z) < f 3
  unfold reasonK at h1
  by_cases q : f 3 ≤ gmx (winS r false z) (25 - z)
  · exact i_nlt q
  · rw [if_neg q] at h1
    exfalso
    revert h1
    split
    · decide
    · split
      · decide
      · split <;> decide
theorem fg_t0 {f : Nat → Int32} {k m tt i z : Nat} (h : OKf f k m tt) (hi : i < k) (hz : f 2 = nI z) (z1 : 1 ≤ z) (z2 : z ≤ 12) (ht : tlK f (rowOf f i) z 32 0 (f 3 * rowOf f i 0) = 0) : ¬ ropeFigK f (rowOf f i) z 6 < f (2 + 1) := i_nlt ((tl_zero h.2.2.2.2.2.2.1 hz z1 z2 (h.row hi) h.tt).mp ht)
theorem fg_t1 {f : Nat → Int32} {k m tt i z : Nat} (h : OKf f k m tt) (hi : i < k) (hz : f 2 = nI z) (z1 : 1 ≤ z) (z2 : z ≤ 12) (ht : ¬ tlK f (rowOf f i) z 32 0 (f 3 * rowOf f i 0) = 0) : ropeFigK f (rowOf f i) z 6 < f (2 + 1) := i_lt (fun q => ht ((tl_zero h.2.2.2.2.2.2.1 hz z1 z2 (h.row hi) h.tt).mpr q))
theorem ret_t {f : Nat → Int32} {z j : Nat} (h : ¬ ropeFigK f (rowOf f j) z 7 = 0) : nI (retK f z j) + 1 = nI (retK f z (j + 1)) := by
  have h1 : ¬ reasonK f (rowOf f j) z = 0 := h
  show _ = nI (if reasonK f (rowOf f j) z = 0 then retK f z j else retK f z j + 1)
  rw [if_neg h1, nI_1]
theorem ret_f {f : Nat → Int32} {z j : Nat} (h : ropeFigK f (rowOf f j) z 7 = 0) : nI (retK f z j) + 0 = nI (retK f z (j + 1)) := by
  have h1 : reasonK f (rowOf f j) z = 0 := h
  show _ = nI (if reasonK f (rowOf f j) z = 0 then retK f z j else retK f z j + 1)
  rw [if_pos h1, Int32.add_zero]
theorem sr_t (f : Nat → Int32) (z j : Nat) : sumRK f true j + ropeFigK f (rowOf f j) z 3 = sumRK f true (j + 1) := by
  show _ = sumRK f true j + sumN (colR (rowOf f (0 + j)) true) 0 24
  rw [Nat.zero_add]
  rfl
theorem sr_f (f : Nat → Int32) (z j : Nat) : sumRK f false j + ropeFigK f (rowOf f j) z 2 = sumRK f false (j + 1) := by
  show _ = sumRK f false j + sumN (colR (rowOf f (0 + j)) false) 0 24
  rw [Nat.zero_add]
  rfl
theorem lu_ok (f : Nat → Int32) (z : Nat) : ∀ d j, luK f z d j = -1 ∨ ∃ i, i < j + d ∧ luK f z d j = nI i ∧ unsK f z i = true
  | 0, j => Or.inl rfl
  | d + 1, j => by
    by_cases hu : unsK f z j = true
    · exact Or.inr ⟨j, by omega, luK_t hu, hu⟩
    · rw [Bool.not_eq_true] at hu
      rw [luK_f hu]
      rcases lu_ok f z d (j + 1) with q | ⟨i, q1, q2, q3⟩
      · exact Or.inl q
      · exact Or.inr ⟨i, by omega, q2, q3⟩
theorem uns_0 {f : Nat → Int32} {z i : Nat} (h : unsK f z i = true) : ropeFigK f (rowOf f i) z 7 = 0 := (of_decide_eq_true h).1
theorem uns_1 {f : Nat → Int32} {z i : Nat} (h : unsK f z i = true) : ¬ reasonK f (lookR f (rowOf f i)) z ≤ 0 := by
  rcases (of_decide_eq_true h).2 with q | q
  · rw [q]; decide
  · rw [q]; decide
theorem ne_m1 {i : Nat} (h : i < 100) : ¬ nI i = -1 := by
  intro q
  have h1 := congrArg Int32.toInt q
  rw [nI_tI (by omega), show (-1 : Int32).toInt = -1 from by decide] at h1
  omega
theorem c3_0 {f : Nat → Int32} {z k kp : Nat} (hk : k ≤ 5) (h : nI k ≤ 1) : countFigK f z k kp 3 = 0 := by
  have h1 : k ≤ 1 := (nI_leI (b := 1) (by omega) (by omega)).mp h
  show (if canK f z k = 0 then (0 : Int32) else 1) = 0
  unfold canK
  rw [if_pos (show k < 2 by omega), if_pos rfl]
theorem c3_1 {f : Nat → Int32} {z k kp : Nat} (hk : k ≤ 5) (h : ¬ nI (retK f z k) = 0) : countFigK f z k kp 3 = 0 := by
  have h1 : ¬ retK f z k = 0 := fun q => h (by rw [q, nI_0])
  show (if canK f z k = 0 then (0 : Int32) else 1) = 0
  unfold canK
  rw [if_neg h1]
  split <;> rfl
theorem c3_2 {f : Nat → Int32} {z k kp : Nat} (hk : k ≤ 5) (h1 : ¬ nI k ≤ 1) (h : nI (retK f z k) = 0) : countFigK f z k kp 3 = 1 := by
  have h2 : ¬ k ≤ 1 := fun q => h1 (nI_le (b := 1) q (by omega))
  have h3 := retK_le f z k
  rw [← nI_0, nI_eq (by omega) (by omega)] at h
  show (if canK f z k = 0 then (0 : Int32) else 1) = 1
  unfold canK
  rw [if_neg (show ¬ k < 2 by omega), if_pos h]
  rfl
