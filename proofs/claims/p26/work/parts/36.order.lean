/-! the order is kept by the calls -/
theorem OKrow_bendT {r : Nat → Int32} {m tt lo n T : Nat} (h : OKrow r m tt) (hn : lo + n ≤ 24) : OKrow (rBendT r lo n (nI T)) m (tt + T) := by
  obtain ⟨q, u, t, h0, h1, h2, g1, g2, g3, g4, h3⟩ := h
  have e : ∀ k, k ≠ 2 → rBendT r lo n (nI T) k = rBend r lo n (nI T) k := fun k hk => upd_ne hk
  refine ⟨q, u, t + T, by rw [e 0 (by omega), rBend_ne (by omega)]; exact h0, h1, h2, by rw [e 1 (by omega), rBend_ne (by omega)]; exact g1, g2, ?_, by omega, fun s hs => ?_⟩
  · unfold rBendT
    rw [upd_eq, g3, nI_add]
  obtain ⟨b, c, a, d, e1, e2, e3, e4, e5, e6, e7, e8, e9⟩ := h3 s hs
  rw [e (3 + s) (by omega), e (27 + s) (by omega), e (51 + s) (by omega), e (75 + s) (by omega)]
  by_cases hin : lo ≤ s ∧ s < lo + n
  · refine ⟨b + T, c, a, d, by rw [rBend_at hin.1 hin.2, e1, nI_add], by omega, by rw [rBend_ne (by omega)]; exact e3, Nat.le_trans e4 (Nat.div_le_div_right (by omega)), by rw [rBend_ne (by omega)]; exact e5, e6, by rw [rBend_ne (by omega)]; exact e7, e8, e9⟩
  · exact ⟨b, c, a, d, by rw [rBend_ne (by omega)]; exact e1, by omega, by rw [rBend_ne (by omega)]; exact e3, e4, by rw [rBend_ne (by omega)]; exact e5, e6, by rw [rBend_ne (by omega)]; exact e7, e8, e9⟩
theorem OKrow_le {r : Nat → Int32} {m tt m' tt' : Nat} (h : OKrow r m tt) (hm : m ≤ m') (ht : tt ≤ tt') : OKrow r m' tt' := by
  obtain ⟨q, u, t, h0, h1, h2, g1, g2, g3, g4, h3⟩ := h
  refine ⟨q, u, t, h0, h1, h2, g1, by omega, g3, by omega, fun s hs => ?_⟩
  obtain ⟨b, c, a, d, e1, e2, e3, e4, e5, e6, e7, e8, e9⟩ := h3 s hs
  exact ⟨b, c, a, d, e1, e2, e3, e4, e5, e6, e7, e8, by omega⟩
theorem OKrow_congr {r r' : Nat → Int32} {m tt : Nat} (e : ∀ k, k < 99 → r' k = r k) (h : OKrow r m tt) : OKrow r' m tt := by
  obtain ⟨q, u, t, h0, h1, h2, g1, g2, g3, g4, h3⟩ := h
  refine ⟨q, u, t, by rw [e 0 (by omega)]; exact h0, h1, h2, by rw [e 1 (by omega)]; exact g1, g2, by rw [e 2 (by omega)]; exact g3, g4, fun s hs => ?_⟩
  rw [e (3 + s) (by omega), e (27 + s) (by omega), e (51 + s) (by omega), e (75 + s) (by omega)]
  exact h3 s hs
theorem look_at {r : Nat → Int32} {lo n : Nat} {t : Int32} {s : Nat} (h : lo ≤ s ∧ s < lo + n) (hn : lo + n ≤ 24) : rLook r lo n t (27 + s) = brk r s ∧ rLook r lo n t (51 + s) = r (27 + s) ∧ rLook r lo n t (75 + s) = t := by
  refine ⟨?_, ?_, ?_⟩
  · unfold rLook
    rw [if_neg (by omega), if_pos (by omega), show 27 + s - 27 = s by omega]
  · unfold rLook
    rw [if_pos (by omega), show 51 + s - 24 = 27 + s by omega]
  · unfold rLook
    rw [if_neg (by omega), if_neg (by omega), if_pos (by omega)]
theorem look_ne {r : Nat → Int32} {lo n k : Nat} {t : Int32} (h1 : ¬ (51 + lo ≤ k ∧ k < 51 + lo + n)) (h2 : ¬ (27 + lo ≤ k ∧ k < 27 + lo + n)) (h3 : ¬ (75 + lo ≤ k ∧ k < 75 + lo + n)) : rLook r lo n t k = r k := by
  unfold rLook
  rw [if_neg h1, if_neg h2, if_neg h3]
theorem OKrow_look {r : Nat → Int32} {m tt lo n : Nat} (h : OKrow r m tt) (ht : tt ≤ 99999) (hn : lo + n ≤ 24) : OKrow (rLook r lo n (nI m)) m tt := by
  obtain ⟨q, u, t, h0, h1, h2, g1, g2, g3, g4, h3⟩ := h
  refine ⟨q, u, t, by rw [look_ne (by omega) (by omega) (by omega)]; exact h0, h1, h2, by rw [look_ne (by omega) (by omega) (by omega)]; exact g1, g2, by rw [look_ne (by omega) (by omega) (by omega)]; exact g3, g4, fun s hs => ?_⟩
  obtain ⟨b, c, a, d, e1, e2, e3, e4, e5, e6, e7, e8, e9⟩ := h3 s hs
  have x1 : rLook r lo n (nI m) (3 + s) = nI b := by rw [look_ne (by omega) (by omega) (by omega)]; exact e1
  by_cases hin : lo ≤ s ∧ s < lo + n
  · obtain ⟨y2, y3, y4⟩ := look_at (r := r) (t := nI m) hin hn
    have x2 : rLook r lo n (nI m) (27 + s) = nI (b / q) := by
      rw [y2]
      unfold brk
      rw [e1, h0]
      exact pk_div (by omega) (by omega) (by omega)
    exact ⟨b, b / q, c, m, x1, e2, x2, Nat.le_refl _, y3.trans e3, e4, y4, g2, Nat.le_refl _⟩
  · have x2 : rLook r lo n (nI m) (27 + s) = nI c := by rw [look_ne (by omega) (by omega) (by omega)]; exact e3
    have x3 : rLook r lo n (nI m) (51 + s) = nI a := by rw [look_ne (by omega) (by omega) (by omega)]; exact e5
    have x4 : rLook r lo n (nI m) (75 + s) = nI d := by rw [look_ne (by omega) (by omega) (by omega)]; exact e7
    exact ⟨b, c, a, d, x1, e2, x2, e4, x3, e6, x4, e8, e9⟩
/-- an inspection counts no less than what was noted -/
theorem look_more {r : Nat → Int32} {m tt lo n : Nat} {t : Int32} (h : OKrow r m tt) (ht : tt ≤ 99999) (hn : lo + n ≤ 24) : ∃ v w, sumN (colR r false) 0 24 = nI v ∧ sumN (colR (rLook r lo n t) false) 0 24 = nI w ∧ v ≤ w ∧ w ≤ 2399976 := by
  obtain ⟨v, w, e1, e2, e3, e4⟩ := sumN_two (S := colR r false) (S' := colR (rLook r lo n t) false) (B := 99999) (a := 0) 24 (fun s h1 h2 => by
    obtain ⟨c, v, f1, f2, f3, f4⟩ := h.bk ht (s := s) (by omega)
    by_cases hin : lo ≤ s ∧ s < lo + n
    · exact ⟨c, v, f1, (look_at (r := r) (t := t) hin hn).1.trans f2, f3, f4⟩
    · exact ⟨c, c, f1, (look_ne (by omega) (by omega) (by omega)).trans f1, Nat.le_refl c, by omega⟩)
  exact ⟨v, w, e1, e2, e3, by omega⟩
theorem OKrow_new {x : Int32} {q m tt : Nat} (hx : x = nI q) (q1 : 1 ≤ q) (q2 : q ≤ 99) : OKrow (rNew x (nI m)) m tt := by
  refine ⟨q, m, 0, by rw [← hx]; rfl, q1, q2, rfl, Nat.le_refl m, by rw [nI_0]; rfl, Nat.zero_le tt, fun s hs => ⟨0, 0, 0, m, ?_, Nat.zero_le _, ?_, Nat.zero_le _, ?_, Nat.zero_le _, ?_, Nat.le_refl m, Nat.le_refl m⟩⟩
  · unfold rNew
    rw [if_neg (by omega), if_neg (by omega), if_neg (by omega), nI_0]
  · unfold rNew
    rw [if_neg (by omega), if_neg (by omega), if_neg (by omega), nI_0]
  · unfold rNew
    rw [if_neg (by omega), if_neg (by omega), if_neg (by omega), nI_0]
  · unfold rNew
    rw [if_neg (by omega), if_neg (by omega), if_pos (by omega)]
theorem putRow_lo {g r : Nat → Int32} {i k : Nat} (hk : k < 10) : putRow g i r k = g k := if_neg (by omega)
theorem travK_lo {f : Nat → Int32} {lo hi k : Nat} {t : Int32} {j : Nat} (hj : j < 10) (h7 : j ≠ 7) : travK f lo hi k t j = f j := by
  unfold travK
  rw [upd_ne h7, mapRows_lo _ _ _ _ hj]
theorem OKf.row {f : Nat → Int32} {k m tt i : Nat} (h : OKf f k m tt) (hi : i < k) : OKrow (rowOf f i) m tt := h.2.2.2.2.2.2.2 i hi
theorem OKf.live {f : Nat → Int32} {k m tt : Nat} (h : OKf f k m tt) : ∀ i, i < k → 0 < rowOf f i 0 := by
  intro i hi
  obtain ⟨q, u, t, h0, h1, h2, -⟩ := h.row hi
  rw [h0, ← nI_0]
  exact nI_lt (by omega) (by omega)
theorem kO_lt {o kp : Nat} (ho : o < 6) : kO o kp < 6 := by
  unfold kO
  split <;> omega
theorem kK_le {kp : Nat} (hk : kp ≤ 6) : kK kp ≤ 6 := by
  unfold kK
  split <;> omega

theorem OKset_lo {f f' : Nat → Int32} (e : ∀ k, 2 ≤ k → k < 7 → f' k = f k) (h : OKset f) : OKset f' := by
  unfold OKset
  rw [e 2 (by omega) (by omega), e 3 (by omega) (by omega), e 4 (by omega) (by omega), e 5 (by omega) (by omega), e 6 (by omega) (by omega)]
  exact h
theorem rg99 {x : Int32} (h : ¬ x < 1 ∧ x ≤ 99) : ∃ q, x = nI q ∧ 1 ≤ q ∧ q ≤ 99 := by
  obtain ⟨j, a, b, c⟩ := rg1_nat (d := 99) h rfl (by omega)
  exact ⟨j, a, b, c⟩
theorem OKf_hang {f : Nat → Int32} {k m tt : Nat} {x : Int32} (h : OKf f k m tt) (hx : ¬ x < 1 ∧ x ≤ 99) (hk : k < 5) : OKf (putRow (upd f 1 (f 1 + 1)) k (rNew x (f 0))) (k + 1) m tt := by
  obtain ⟨q, e, q1, q2⟩ := rg99 hx
  obtain ⟨a1, a2, a3, a4, a5, a6, a7, a8⟩ := h
  have lo : ∀ j, j < 10 → putRow (upd f 1 (f 1 + 1)) k (rNew x (f 0)) j = upd f 1 (f 1 + 1) j := fun j hj => putRow_lo hj
  refine ⟨?_, by omega, ?_, a4, ?_, a6, ?_, fun i hi => ?_⟩
  · rw [lo 1 (by omega), upd_eq, a1, nI_1]
  · rw [lo 0 (by omega), upd_ne (by omega)]; exact a3
  · rw [lo 7 (by omega), upd_ne (by omega)]; exact a5
  · exact OKset_lo (fun j h1 h2 => by rw [lo j (by omega), upd_ne (by omega)]) a7
  · by_cases hik : i = k
    · subst hik
      refine OKrow_congr (r := rNew x (f 0)) (fun j hj => putRow_row hj) ?_
      rw [a3]
      exact OKrow_new e q1 q2
    · exact OKrow_congr (r := rowOf f i) (fun j hj => by rw [putRow_ne hj hik]; exact upd_ne (by omega)) (a8 i (by omega))
theorem OKf_cut {f : Nat → Int32} {k m tt i : Nat} (h : OKf f k m tt) (hi : i < k) : OKf (upd (shiftK f i (k - 1 - i)) 1 (f 1 - 1)) (k - 1) m tt := by
  obtain ⟨a1, a2, a3, a4, a5, a6, a7, a8⟩ := h
  refine ⟨?_, by omega, ?_, a4, ?_, a6, ?_, fun j hj => ?_⟩
  · rw [upd_eq, a1]; exact nI_m1 (by omega)
  · rw [upd_ne (by omega), shiftK_lo _ _ _ _ (by omega)]; exact a3
  · rw [upd_ne (by omega), shiftK_lo _ _ _ _ (by omega)]; exact a5
  · exact OKset_lo (fun j h1 h2 => by rw [upd_ne (by omega), shiftK_lo _ _ _ _ (by omega)]) a7
  · by_cases hji : j < i
    · refine OKrow_congr (r := rowOf f j) (fun z hz => ?_) (a8 j (by omega))
      show upd _ _ _ (10 + 99 * j + z) = f (10 + 99 * j + z)
      rw [upd_ne (by omega)]
      unfold shiftK
      rw [if_neg (by omega)]
    · refine OKrow_congr (r := rowOf f (j + 1)) (fun z hz => ?_) (a8 (j + 1) (by omega))
      show upd _ _ _ (10 + 99 * j + z) = f (10 + 99 * (j + 1) + z)
      rw [upd_ne (by omega)]
      unfold shiftK
      rw [if_pos (by omega)]
      exact congrArg f (by omega)
theorem OKf_put {f r : Nat → Int32} {k m tt i j : Nat} {v : Int32} (h : OKf f k m tt) (hi : i < k) (hr : OKrow r m tt) (hj : 8 ≤ j) (hj2 : j < 10) : OKf (upd (putRow f i r) j v) k m tt := by
  obtain ⟨a1, a2, a3, a4, a5, a6, a7, a8⟩ := h
  have lo : ∀ w, w < 8 → upd (putRow f i r) j v w = f w := fun w hw => by rw [upd_ne (by omega), putRow_lo (by omega)]
  refine ⟨(lo 1 (by omega)).trans a1, a2, (lo 0 (by omega)).trans a3, a4, (lo 7 (by omega)).trans a5, a6, OKset_lo (fun w h1 h2 => lo w (by omega)) a7, fun x hx => ?_⟩
  by_cases hxi : x = i
  · subst hxi
    refine OKrow_congr (r := r) (fun z hz => ?_) hr
    show upd _ _ _ (10 + 99 * x + z) = _
    rw [upd_ne (by omega)]
    exact putRow_row hz
  · refine OKrow_congr (r := rowOf f x) (fun z hz => ?_) (a8 x hx)
    show upd _ _ _ (10 + 99 * x + z) = _
    rw [upd_ne (by omega)]
    exact putRow_ne hz hxi
theorem OKf_swap {f : Nat → Int32} {k m tt i : Nat} {y v : Int32} (h : OKf f k m tt) (hi : i < k) (hy : ¬ y < 1 ∧ y ≤ 99) : OKf (upd (putRow f i (rNew y (f 0))) 9 v) k m tt := by
  obtain ⟨q, e, q1, q2⟩ := rg99 hy
  refine OKf_put h hi ?_ (by omega) (by omega)
  rw [h.2.2.1]
  exact OKrow_new e q1 q2
theorem OKf_inspect {f : Nat → Int32} {k m tt i a n : Nat} {v : Int32} (h : OKf f k m tt) (hi : i < k) (hn : a + n ≤ 24) : OKf (upd (putRow f i (rLook (rowOf f i) a n (f 0))) 8 v) k m tt := by
  refine OKf_put h hi ?_ (by omega) (by omega)
  rw [h.2.2.1]
  exact OKrow_look (h.row hi) h.2.2.2.2.2.1 hn
theorem OKf_set {f : Nat → Int32} {k m tt i : Nat} {y : Int32} (h : OKf f k m tt) (hi : i < 5) (hy : ¬ y < 1 ∧ y ≤ (XSA 2).2 i) : OKf (upd f (2 + i) y) k m tt := by
  obtain ⟨a1, a2, a3, a4, a5, a6, a7, a8⟩ := h
  refine ⟨by rw [upd_ne (by omega)]; exact a1, a2, by rw [upd_ne (by omega)]; exact a3, a4, by rw [upd_ne (by omega)]; exact a5, a6, ?_, fun x hx => OKrow_congr (fun z hz => upd_ne (by omega)) (a8 x hx)⟩
  obtain ⟨b2, b3, b4, b5, b6⟩ := a7
  have get : ∀ d, (XSA 2).2 i = nI d → d < 1000 → ∃ q, y = nI q ∧ 1 ≤ q ∧ q ≤ d := by
    intro d hd hd2
    rw [hd] at hy
    obtain ⟨j, e1, e2, e3⟩ := rg1_nat (d := d) hy rfl (by omega)
    exact ⟨j, e1, e2, e3⟩
  rcases (show i = 0 ∨ i = 1 ∨ i = 2 ∨ i = 3 ∨ i = 4 by omega) with rfl | rfl | rfl | rfl | rfl
  · exact ⟨by rw [upd_eq]; exact get 12 rfl (by omega), by rw [upd_ne (by omega)]; exact b3, by rw [upd_ne (by omega)]; exact b4, by rw [upd_ne (by omega)]; exact b5, by rw [upd_ne (by omega)]; exact b6⟩
  · exact ⟨by rw [upd_ne (by omega)]; exact b2, by rw [upd_eq]; exact get 99 rfl (by omega), by rw [upd_ne (by omega)]; exact b4, by rw [upd_ne (by omega)]; exact b5, by rw [upd_ne (by omega)]; exact b6⟩
  · exact ⟨by rw [upd_ne (by omega)]; exact b2, by rw [upd_ne (by omega)]; exact b3, by rw [upd_eq]; exact get 999 rfl (by omega), by rw [upd_ne (by omega)]; exact b5, by rw [upd_ne (by omega)]; exact b6⟩
  · exact ⟨by rw [upd_ne (by omega)]; exact b2, by rw [upd_ne (by omega)]; exact b3, by rw [upd_ne (by omega)]; exact b4, by rw [upd_eq]; exact get 99 rfl (by omega), by rw [upd_ne (by omega)]; exact b6⟩
  · exact ⟨by rw [upd_ne (by omega)]; exact b2, by rw [upd_ne (by omega)]; exact b3, by rw [upd_ne (by omega)]; exact b4, by rw [upd_ne (by omega)]; exact b5, by rw [upd_eq]; exact get 60 rfl (by omega)⟩
theorem OKf_trav {f : Nat → Int32} {k m tt lo hi T : Nat} (h : OKf f k m tt) (h1 : lo ≤ hi) (h2 : hi < 8) (hT : tt + T ≤ 99999) : OKf (travK f lo hi k (nI T)) k m (tt + T) := by
  obtain ⟨a1, a2, a3, a4, a5, a6, a7, a8⟩ := h
  have lo8 : ∀ w, w < 10 → w ≠ 7 → travK f lo hi k (nI T) w = f w := fun w hw hw7 => travK_lo hw hw7
  refine ⟨(lo8 1 (by omega) (by omega)).trans a1, a2, (lo8 0 (by omega) (by omega)).trans a3, a4, ?_, hT, OKset_lo (fun w h1 h2 => lo8 w (by omega) (by omega)) a7, fun x hx => ?_⟩
  · unfold travK
    rw [upd_eq, a5, nI_add]
  · refine OKrow_congr (r := rBendT (rowOf f x) (3 * lo) (3 * hi + 3 - 3 * lo) (nI T)) (fun z hz => ?_) (OKrow_bendT (a8 x hx) (by omega))
    show travK f lo hi k (nI T) (10 + 99 * x + z) = _
    unfold travK
    rw [upd_ne (by omega)]
    exact mapRows_row _ _ _ _ _ hx hz
theorem OKf_pass {f : Nat → Int32} {k m tt : Nat} {x : Int32} (h : OKf f k m tt) (hx : ¬ x < 1 ∧ x ≤ 24) (h2 : f 0 + x ≤ 2000) : ∃ m', OKf (upd f 0 (f 0 + x)) k m' tt := by
  obtain ⟨q, e, q1, q2⟩ := rg1_nat (d := 24) hx rfl (by omega)
  obtain ⟨a1, a2, a3, a4, a5, a6, a7, a8⟩ := h
  rw [a3, e, nI_add] at h2
  have h3 : m + q ≤ 2000 := (nI_leI (b := 2000) (by omega) (by omega)).mp h2
  refine ⟨m + q, by rw [upd_ne (by omega)]; exact a1, a2, by rw [upd_eq, a3, e, nI_add], h3, by rw [upd_ne (by omega)]; exact a5, a6, OKset_lo (fun w h1 h2 => upd_ne (by omega)) a7, fun i hi => ?_⟩
  exact OKrow_le (OKrow_congr (fun z hz => upd_ne (by omega)) (a8 i hi)) (by omega) (Nat.le_refl tt)
