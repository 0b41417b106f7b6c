/-! an elevator stays in order -/
theorem putRow_updlo {f r : Nat → Int32} {i j : Nat} {v : Int32} (hj : j < 10) : putRow (upd f j v) i r = upd (putRow f i r) j v := by
  funext k
  unfold putRow upd
  by_cases h : k = j
  · subst h
    rw [if_neg (by omega), if_pos rfl, if_pos rfl]
  · rw [if_neg h, if_neg h]
theorem OKrow_congr {r r' : Nat → Int32} {m tt : Nat} (e : ∀ k, k < 99 → k ≠ 2 → r' k = r k) (h : OKrow r m tt) : OKrow r' m tt := by
  obtain ⟨q, h0, h1, h2, h3⟩ := h
  refine ⟨q, by rw [e 0 (by omega) (by omega)]; exact h0, h1, h2, fun s hs => ?_⟩
  obtain ⟨b, c, a, d, e1, e2, e3, e4, e5, e6, e7, e8⟩ := h3 s hs
  exact ⟨b, c, a, d, by rw [e _ (by omega) (by omega)]; exact e1, e2, by rw [e _ (by omega) (by omega)]; exact e3, e4, by rw [e _ (by omega) (by omega)]; exact e5, e6, by rw [e _ (by omega) (by omega)]; exact e7, e8⟩
theorem OKrow_new {x : Int32} {q m tt : Nat} (hx : x = nI q) (q1 : 1 ≤ q) (q2 : q ≤ 99) : OKrow (rNew x (nI m)) m tt := by
  refine ⟨q, by rw [← hx]; rfl, q1, q2, fun s hs => ⟨0, 0, 0, m, ?_, Nat.zero_le _, ?_, Nat.zero_le _, ?_, Nat.zero_le _, ?_, Nat.le_refl m⟩⟩
  · unfold rNew
    rw [if_neg (by omega), if_neg (by omega), if_neg (by omega), nI_0]
  · unfold rNew
    rw [if_neg (by omega), if_neg (by omega), if_neg (by omega), nI_0]
  · unfold rNew
    rw [if_neg (by omega), if_neg (by omega), if_neg (by omega), nI_0]
  · unfold rNew
    rw [if_neg (by omega), if_neg (by omega), if_pos (by omega)]
theorem OKset_lo {f f' : Nat → Int32} (e : ∀ k, 2 ≤ k → k < 7 → f' k = f k) (h : OKset f) : OKset f' := by
  unfold OKset
  rw [e 2 (by omega) (by omega), e 3 (by omega) (by omega), e 4 (by omega) (by omega), e 5 (by omega) (by omega), e 6 (by omega) (by omega)]
  exact h
theorem rg99 {x : Int32} (h : ¬ x < 1 ∧ x ≤ 99) : ∃ q, x = nI q ∧ 1 ≤ q ∧ q ≤ 99 := by
  obtain ⟨j, a, b, c⟩ := rg1_nat (d := 99) h rfl (by omega)
  exact ⟨j, a, b, c⟩
theorem OKf_hang {f : Nat → Int32} {k m tt : Nat} {x : Int32} (h : OKf f k m tt) (hx : ¬ x < 1 ∧ x ≤ 99) (hk : k < 5) : OKf (putRow (upd f 1 (f 1 + 1)) k (rNew x (f 0))) (k + 1) m tt := by
  obtain ⟨q, e, q1, q2⟩ := rg99 hx
  obtain ⟨a1, a2, a3, a4, a5, a6, a7, a8⟩ := h
  have lo : ∀ j, j < 10 → putRow (upd f 1 (f 1 + 1)) k (rNew x (f 0)) j = upd f 1 (f 1 + 1) j := fun j hj => putRow_lo hj
  refine ⟨?_, by omega, ?_, a4, ?_, a6, ?_, fun i hi => ?_⟩
  · rw [lo 1 (by omega), upd_eq, a1, nI_1]
  · rw [lo 0 (by omega), upd_ne (by omega)]; exact a3
  · rw [lo 7 (by omega), upd_ne (by omega)]; exact a5
  · exact OKset_lo (fun j h1 h2 => by rw [lo j (by omega), upd_ne (by omega)]) a7
  · by_cases hik : i = k
    · subst hik
      refine OKrow_congr (r := rNew x (f 0)) (fun j hj _ => putRow_row hj) ?_
      rw [a3]
      exact OKrow_new e q1 q2
    · exact OKrow_congr (r := rowOf f i) (fun j hj _ => by rw [putRow_ne hj hik]; exact upd_ne (by omega)) (a8 i (by omega))
theorem OKf_cut {f : Nat → Int32} {k m tt i : Nat} (h : OKf f k m tt) (hi : i < k) : OKf (upd (shiftK f i (k - 1 - i)) 1 (f 1 - 1)) (k - 1) m tt := by
  obtain ⟨a1, a2, a3, a4, a5, a6, a7, a8⟩ := h
  refine ⟨?_, by omega, ?_, a4, ?_, a6, ?_, fun j hj => ?_⟩
  · rw [upd_eq, a1]; exact nI_m1 (by omega)
  · rw [upd_ne (by omega), shiftK_lo _ _ _ _ (by omega)]; exact a3
  · rw [upd_ne (by omega), shiftK_lo _ _ _ _ (by omega)]; exact a5
  · exact OKset_lo (fun j h1 h2 => by rw [upd_ne (by omega), shiftK_lo _ _ _ _ (by omega)]) a7
  · by_cases hji : j < i
    · refine OKrow_congr (r := rowOf f j) (fun z hz _ => ?_) (a8 j (by omega))
      show upd _ _ _ (10 + 99 * j + z) = f (10 + 99 * j + z)
      rw [upd_ne (by omega)]
      unfold shiftK
      rw [if_neg (by omega)]
    · refine OKrow_congr (r := rowOf f (j + 1)) (fun z hz _ => ?_) (a8 (j + 1) (by omega))
      show upd _ _ _ (10 + 99 * j + z) = f (10 + 99 * (j + 1) + z)
      rw [upd_ne (by omega)]
      unfold shiftK
      rw [if_pos (by omega)]
      exact congrArg f (by omega)
theorem OKf_put {f r : Nat → Int32} {k m tt i j : Nat} {v : Int32} (h : OKf f k m tt) (hi : i < k) (hr : OKrow r m tt) (hj : 8 ≤ j) (hj2 : j < 10) : OKf (upd (putRow f i r) j v) k m tt := by
  obtain ⟨a1, a2, a3, a4, a5, a6, a7, a8⟩ := h
  have lo : ∀ w, w < 8 → upd (putRow f i r) j v w = f w := fun w hw => by rw [upd_ne (by omega), putRow_lo (by omega)]
  refine ⟨(lo 1 (by omega)).trans a1, a2, (lo 0 (by omega)).trans a3, a4, (lo 7 (by omega)).trans a5, a6, OKset_lo (fun w h1 h2 => lo w (by omega)) a7, fun x hx => ?_⟩
  by_cases hxi : x = i
  · subst hxi
    refine OKrow_congr (r := r) (fun z hz _ => ?_) hr
    show upd _ _ _ (10 + 99 * x + z) = _
    rw [upd_ne (by omega)]
    exact putRow_row hz
  · refine OKrow_congr (r := rowOf f x) (fun z hz _ => ?_) (a8 x hx)
    show upd _ _ _ (10 + 99 * x + z) = _
    rw [upd_ne (by omega)]
    exact putRow_ne hz hxi
theorem OKf_swap {f : Nat → Int32} {k m tt i : Nat} {y v : Int32} (h : OKf f k m tt) (hi : i < k) (hy : ¬ y < 1 ∧ y ≤ 99) : OKf (upd (putRow f i (rNew y (f 0))) 9 v) k m tt := by
  obtain ⟨q, e, q1, q2⟩ := rg99 hy
  refine OKf_put h hi ?_ (by omega) (by omega)
  rw [h.2.2.1]
  exact OKrow_new e q1 q2
theorem OKf_inspect {f : Nat → Int32} {k m tt i a n : Nat} {v : Int32} (h : OKf f k m tt) (hi : i < k) (hn : a + n ≤ 24) : OKf (upd (putRow f i (rLook (rowOf f i) a n (f 0))) 8 v) k m tt := by
  refine OKf_put h hi ?_ (by omega) (by omega)
  rw [h.2.2.1]
  exact OKrow_look (h.row hi) h.2.2.2.2.2.1 hn
theorem OKf_set {f : Nat → Int32} {k m tt i : Nat} {y : Int32} (h : OKf f k m tt) (hi : i < 5) (hy : ¬ y < 1 ∧ y ≤ (XSA 2).2 i) : OKf (upd f (2 + i) y) k m tt := by
  obtain ⟨a1, a2, a3, a4, a5, a6, a7, a8⟩ := h
  refine ⟨by rw [upd_ne (by omega)]; exact a1, a2, by rw [upd_ne (by omega)]; exact a3, a4, by rw [upd_ne (by omega)]; exact a5, a6, ?_, fun x hx => OKrow_congr (fun z hz _ => upd_ne (by omega)) (a8 x hx)⟩
  obtain ⟨b2, b3, b4, b5, b6⟩ := a7
  have get : ∀ d, (XSA 2).2 i = nI d → d < 1000 → ∃ q, y = nI q ∧ 1 ≤ q ∧ q ≤ d := by
    intro d hd hd2
    rw [hd] at hy
    obtain ⟨j, e1, e2, e3⟩ := rg1_nat (d := d) hy rfl (by omega)
    exact ⟨j, e1, e2, e3⟩
  rcases (show i = 0 ∨ i = 1 ∨ i = 2 ∨ i = 3 ∨ i = 4 by omega) with rfl | rfl | rfl | rfl | rfl
  · exact ⟨by rw [upd_eq]; exact get 12 rfl (by omega), by rw [upd_ne (by omega)]; exact b3, by rw [upd_ne (by omega)]; exact b4, by rw [upd_ne (by omega)]; exact b5, by rw [upd_ne (by omega)]; exact b6⟩
  · exact ⟨by rw [upd_ne (by omega)]; exact b2, by rw [upd_eq]; exact get 99 rfl (by omega), by rw [upd_ne (by omega)]; exact b4, by rw [upd_ne (by omega)]; exact b5, by rw [upd_ne (by omega)]; exact b6⟩
  · exact ⟨by rw [upd_ne (by omega)]; exact b2, by rw [upd_ne (by omega)]; exact b3, by rw [upd_eq]; exact get 999 rfl (by omega), by rw [upd_ne (by omega)]; exact b5, by rw [upd_ne (by omega)]; exact b6⟩
  · exact ⟨by rw [upd_ne (by omega)]; exact b2, by rw [upd_ne (by omega)]; exact b3, by rw [upd_ne (by omega)]; exact b4, by rw [upd_eq]; exact get 99 rfl (by omega), by rw [upd_ne (by omega)]; exact b6⟩
  · exact ⟨by rw [upd_ne (by omega)]; exact b2, by rw [upd_ne (by omega)]; exact b3, by rw [upd_ne (by omega)]; exact b4, by rw [upd_ne (by omega)]; exact b5, by rw [upd_eq]; exact get 60 rfl (by omega)⟩
theorem OKf_trav {f : Nat → Int32} {k m tt lo hi T : Nat} (h : OKf f k m tt) (h1 : lo ≤ hi) (h2 : hi < 8) (hT : tt + T ≤ 99999) : OKf (travK f lo hi k (nI T)) k m (tt + T) := by
  obtain ⟨a1, a2, a3, a4, a5, a6, a7, a8⟩ := h
  have lo8 : ∀ w, w < 10 → w ≠ 7 → travK f lo hi k (nI T) w = f w := fun w hw hw7 => travK_lo hw hw7
  refine ⟨(lo8 1 (by omega) (by omega)).trans a1, a2, (lo8 0 (by omega) (by omega)).trans a3, a4, ?_, hT, OKset_lo (fun w h1 h2 => lo8 w (by omega) (by omega)) a7, fun x hx => ?_⟩
  · unfold travK
    rw [upd_eq, a5, nI_add]
  · refine OKrow_congr (r := rBendT (rowOf f x) (3 * lo) (3 * hi + 3 - 3 * lo) (nI T)) (fun z hz _ => ?_) (OKrow_bendT (a8 x hx) (by omega))
    show travK f lo hi k (nI T) (10 + 99 * x + z) = _
    unfold travK
    rw [upd_ne (by omega)]
    exact mapRows_row _ _ _ _ _ hx hz
theorem OKf_pass {f : Nat → Int32} {k m tt : Nat} {x : Int32} (h : OKf f k m tt) (hx : ¬ x < 1 ∧ x ≤ 24) (h2 : f 0 + x ≤ 2000) : ∃ m', OKf (upd f 0 (f 0 + x)) k m' tt := by
  obtain ⟨q, e, q1, q2⟩ := rg1_nat (d := 24) hx rfl (by omega)
  obtain ⟨a1, a2, a3, a4, a5, a6, a7, a8⟩ := h
  rw [a3, e, nI_add] at h2
  have h3 : m + q ≤ 2000 := (nI_leI (b := 2000) (by omega) (by omega)).mp h2
  refine ⟨m + q, by rw [upd_ne (by omega)]; exact a1, a2, by rw [upd_eq, a3, e, nI_add], h3, by rw [upd_ne (by omega)]; exact a5, a6, OKset_lo (fun w h1 h2 => upd_ne (by omega)) a7, fun i hi => ?_⟩
  exact OKrow_le (OKrow_congr (fun z hz _ => upd_ne (by omega)) (a8 i hi)) (by omega) (Nat.le_refl tt)
theorem runK_OK {f : Nat → Int32} {k m tt : Nat} {q : PT} (h : OKf f k m tt) : ∀ n, (∀ j, j < n → flo (q.1 j) ∧ flo (q.2.1 j) ∧ ∃ T, q.2.2.1 j = nI T ∧ T ≤ 99) → n ≤ 15 → f 7 + sumN q.2.2.1 0 n ≤ 99999 → ∃ S, sumN q.2.2.1 0 n = nI S ∧ S ≤ 99 * n ∧ tt + S ≤ 99999 ∧ OKf (runK f k q n) k m (tt + S)
  | 0, _, _, _ => ⟨0, by show (0 : Int32) = nI 0; rw [nI_0], by omega, by have := h.2.2.2.2.2.1; omega, h⟩
  | n + 1, hq, hn, hle => by
    have h5 := h.2.2.2.2.1
    have h6 := h.2.2.2.2.2.1
    obtain ⟨fa, fb, T, eT, hT⟩ := hq n (by omega)
    have hsum : ∃ v, sumN q.2.2.1 0 n = nI v ∧ v ≤ n * 99 := sumN_nat n (fun s _ h2 => by
      obtain ⟨-, -, T', e', h'⟩ := hq s (by omega)
      exact ⟨T', e', h'⟩)
    obtain ⟨v, ev, hv⟩ := hsum
    rw [sumN_0s, ev, eT, nI_add, h5, nI_add] at hle
    have hv2 : n * 99 ≤ 15 * 99 := Nat.mul_le_mul_right _ (by omega)
    have hle2 : tt + (v + T) ≤ 99999 := (nI_leI (b := 99999) (by omega) (by omega)).mp hle
    obtain ⟨S, eS, hS, hS2, hO⟩ := runK_OK h n (fun j hj => hq j (by omega)) (by omega) (by rw [ev, h5, nI_add]; exact nI_le (b := 99999) (by omega) (by omega))
    have hSv : S = v := (nI_eq (by omega) (by omega)).mp (eS.symm.trans ev)
    subst hSv
    have c1 := flo_cl fa
    have c2 := flo_cl fb
    refine ⟨S + T, by rw [sumN_0s, eS, eT, nI_add], by omega, by omega, ?_⟩
    show OKf (travK (runK f k q n) (min (q.1 n).toNatClampNeg (q.2.1 n).toNatClampNeg) (max (q.1 n).toNatClampNeg (q.2.1 n).toNatClampNeg) k (q.2.2.1 n)) k m (tt + (S + T))
    rw [eT, ← Nat.add_assoc]
    exact OKf_trav hO (by omega) (by omega) (by omega)
theorem runK_congr {f : Nat → Int32} {k : Nat} {q q' : PT} : ∀ n, (∀ j, j < n → q.1 j = q'.1 j ∧ q.2.1 j = q'.2.1 j ∧ q.2.2.1 j = q'.2.2.1 j) → runK f k q n = runK f k q' n
  | 0, _ => rfl
  | n + 1, h => by
    obtain ⟨e1, e2, e3⟩ := h n (by omega)
    show travK (runK f k q n) _ _ k _ = travK (runK f k q' n) _ _ k _
    rw [runK_congr n (fun j hj => h j (by omega)), e1, e2, e3]
