/-! what the law's turns ask -/
theorem room_c {n : Nat} (h : n ≤ 600130) : n ≤ room_1.cells := h
theorem room_s {n : Nat} (h : n ≤ 7301080) : n ≤ room_1.slots := h
theorem rg_q {q d : Nat} (h1 : 1 ≤ q) (h2 : q ≤ d) (hd : d < 1000) : ¬ nI q < 1 ∧ nI q ≤ nI d := ⟨nI_nlt (a := q) (b := 1) h1 (by omega), nI_le h2 (by omega)⟩
theorem one_n (v : Nat) : (1 : Int32) + nI v = nI (1 + v) := nI_add 1 v
theorem four_n (j : Nat) : (4 : Int32) * nI j = nI (4 * j) := pk_mul 4 j
theorem c24_n {v : Nat} (h : v < 24) : (24 : Int32) - nI v = nI (24 - v) := pk_sub (a := 24) (by omega)
theorem c3_t {f : Nat → Int32} {z k kp : Nat} (h : ¬ canK f z k = 0) : countFigK f z k kp 3 = 1 := by
  show (if canK f z k = 0 then (0 : Int32) else 1) = 1
  rw [if_neg h]
theorem c3_f {f : Nat → Int32} {z k kp : Nat} (h : canK f z k = 0) : ¬ countFigK f z k kp 3 = 1 := by
  show ¬ (if canK f z k = 0 then (0 : Int32) else 1) = 1
  rw [if_pos h]
  decide
theorem tr_all (f : Nat → Int32) (z k kp v : Nat) : f 7 + nI (1 + v) = countFigK f z k kp 4 + 1 + nI v := by
  show f 7 + nI (1 + v) = f 7 + 1 + nI v
  rw [← one_n, Int32.add_assoc]
theorem tr_ge {f : Nat → Int32} {k m tt u : Nat} (h : OKf f k m tt) (hu : tt + u ≤ 99999) : ¬ f 7 + nI u < 0 := by
  rw [h.2.2.2.2.1, nI_add]
  exact nI_pos (by omega)
theorem ge_of {x : Int32} (h : ¬ x < 0) : 0 ≤ x := Int32.not_lt.mp h
theorem sum_ge {f : Nat → Int32} {k m tt i : Nat} (h : OKf f k m tt) (hi : i < k) : 0 ≤ sumN (colR (rowOf f i) true) 0 24 := by
  obtain ⟨c, v, e1, e2, e3, e4⟩ := (h.row hi).win (z := 1) h.tt (k := 0) (n := 24) (by omega)
  rw [e2]
  exact nI_pos' (by omega)
theorem cut_eq {k : Nat} (hk : 0 < k) (x : Int32) : nI (k - 1) - nI k + 1 + x = x := by
  obtain ⟨d, rfl⟩ : ∃ d, k = d + 1 := ⟨k - 1, by omega⟩
  rw [Nat.add_sub_cancel, ← nI_1]
  apply Int32.toBitVec_inj.mp
  rw [Int32.toBitVec_add, Int32.toBitVec_add, Int32.toBitVec_sub, Int32.toBitVec_add]
  show (nI d).toBitVec - ((nI d).toBitVec + 1#32) + 1#32 + x.toBitVec = x.toBitVec
  generalize (nI d).toBitVec = a
  generalize x.toBitVec = b
  rw [show a - (a + 1#32) + 1#32 = 0#32 by bv_omega, BitVec.zero_add]
theorem insp_ge {f : Nat → Int32} {k m tt i a n : Nat} {t : Int32} (h : OKf f k m tt) (hi : i < k) (hn : a + n ≤ 24) : 0 ≤ sumN (colR (rLook (rowOf f i) a n t) false) 0 24 - sumN (colR (rowOf f i) false) 0 24 := by
  obtain ⟨v, w, e1, e2, e3, e4⟩ := look_more (t := t) (h.row hi) h.tt hn
  rw [e1, e2, pk_sub e3]
  exact nI_pos' (by omega)
theorem set_ge {f : Nat → Int32} {k m tt i : Nat} (h : OKf f k m tt) (hi : i < 5) : 0 ≤ f (2 + i) := by
  obtain ⟨⟨a, b1, b2, b3⟩, ⟨c, c1, c2, c3⟩, ⟨d, d1, d2, d3⟩, ⟨e, e1, e2, e3⟩, ⟨g, g1, g2, g3⟩⟩ := h.2.2.2.2.2.2.1
  rcases (show i = 0 ∨ i = 1 ∨ i = 2 ∨ i = 3 ∨ i = 4 by omega) with rfl | rfl | rfl | rfl | rfl
  · show 0 ≤ f 2; rw [b1]; exact nI_pos' (by omega)
  · show 0 ≤ f 3; rw [c1]; exact nI_pos' (by omega)
  · show 0 ≤ f 4; rw [d1]; exact nI_pos' (by omega)
  · show 0 ≤ f 5; rw [e1]; exact nI_pos' (by omega)
  · show 0 ≤ f 6; rw [g1]; exact nI_pos' (by omega)
theorem OKf_pass2 {f : Nat → Int32} {k m tt q : Nat} (h : OKf f k m tt) (h2 : m + q ≤ 2000) : OKf (upd f 0 (f 0 + nI q)) k (m + q) tt := by
  obtain ⟨a1, a2, a3, a4, a5, a6, a7, a8⟩ := h
  refine ⟨by rw [upd_ne (by omega)]; exact a1, a2, by rw [upd_eq, a3, nI_add], h2, by rw [upd_ne (by omega)]; exact a5, a6, OKset_lo (fun w h1 h2 => upd_ne (by omega)) a7, fun i hi => ?_⟩
  exact OKrow_le (OKrow_congr (fun z hz => upd_ne (by omega)) (a8 i hi)) (by omega) (Nat.le_refl tt)
theorem OKf.z {f : Nat → Int32} {k m tt : Nat} (h : OKf f k m tt) : ∃ z, f 2 = nI z ∧ 1 ≤ z ∧ z ≤ 12 := h.2.2.2.2.2.2.1.1
theorem OKP_less {o kp T : Nat} {P : Nat → Nat → Int32} (h : OKP o (kp + 1) P T) : OKP o kp P T := fun j hj => h j (by omega)
theorem ret_trav2 {f : Nat → Int32} {a b k z kp kp2 : Nat} {t : Int32} (ha : a < 8) (hb : b < 8) : countFigK (travK f (min a b) (max a b) k t) z k kp2 2 = countFigK f z k kp 2 := by
  show nI (retK (travK f (min a b) (max a b) k t) z k) = nI (retK f z k)
  rw [ret_trav (by omega) (by omega) k (Nat.le_refl k)]
theorem OKf_trav2 {f : Nat → Int32} {k m tt a b T : Nat} (h : OKf f k m tt) (ha : a < 8) (hb : b < 8) (hT : tt + T ≤ 99999) : OKf (travK f (min a b) (max a b) k (nI T)) k m (tt + T) := OKf_trav h (by omega) (by omega) hT
