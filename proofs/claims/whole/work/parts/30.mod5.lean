/-! RopeThreadsModel: the calls -/
theorem inR_f {x y : Int32} {k : Nat} (hy : y = nI k) (hk : k ≤ 5) (h : inK x 0 (y - 1) = false) : x < 0 ∨ nI k ≤ x := by
  subst hy
  rcases pk_ix x (n := k) (by omega) with q | q | ⟨i, hi, rfl⟩
  · exact Or.inl q
  · exact Or.inr q
  · exfalso
    have h2 := of_decide_eq_false h
    rw [nI_m1 (by omega)] at h2
    exact h2 ⟨nI_pos' (by omega), nI_le (by omega) (by omega)⟩
theorem inR_t {x y : Int32} {k : Nat} (hy : y = nI k) (hk : k ≤ 5) (h : inK x 0 (y - 1) = true) : ∃ i, x = nI i ∧ i < k := by
  subst hy
  have h2 := of_decide_eq_true h
  rcases pk_ix x (n := k) (by omega) with q | q | ⟨i, hi, rfl⟩
  · exact absurd q (Int32.not_lt.mpr h2.1)
  · exfalso
    rcases Nat.eq_zero_or_pos k with z | z
    · subst z
      exact absurd (Int32.le_trans h2.1 h2.2) (by decide)
    · rw [nI_m1 z] at h2
      exact absurd (Int32.le_trans q h2.2) (nI_ge (by omega) (by omega))
  · exact ⟨i, rfl, hi⟩
theorem inG_f {x a b : Int32} (h : inK x a b = false) : x < a ∨ ¬ x ≤ b := by
  have h2 := of_decide_eq_false h
  by_cases q : x < a
  · exact Or.inl q
  · exact Or.inr fun z => h2 ⟨Int32.not_lt.mp q, z⟩
theorem inG_t {x a b : Int32} (h : inK x a b = true) : ¬ x < a ∧ x ≤ b := by
  have h2 := of_decide_eq_true h
  exact ⟨Int32.not_lt.mpr h2.1, h2.2⟩
set_option maxHeartbeats 4000000 in
set_option maxRecDepth 100000 in
theorem ct_M_rope {l : Launch} (hfl : l.stackTraces = false) {G : XG} {n : Nat} {h : XH} {g pa tr mx td F : Nat → Int32} (hn : 215 ≤ n) {k : Nat} (hm : g 1 = nI k) (hk : k ≤ 5) (hl : ∀ i, i < k → 0 < rowOf g i 0) {z : Nat} (hz : g 2 = nI z) (z1 : 1 ≤ z) (z2 : z ≤ 12) (x y : Int32) : XCt l G False (Cond.code yM_rope bM_rope 3 (some .int)) yM_rope 6 145 0 0 [.ref (213), .int (x), .int (y)] n (setM h g pa tr mx td F) (fun r' n' h' => n' = n ∧ (∃ v, r' = some (.int v)) ∧ ((((x < 0 ∨ nI k ≤ x)) ∧ h' = setM h g pa tr mx td (upd (upd F 6 0) 6 1)) ∨ ((¬ (x < 0 ∨ nI k ≤ x) ∧ (y < 0 ∨ ¬ y ≤ 9)) ∧ h' = setM h g pa tr mx td (upd (upd F 6 0) 6 2)) ∨ (∃ i w, (x = nI i ∧ i < k ∧ y = nI w ∧ w ≤ 9) ∧ r' = some (.int (ropeFigM g (rowOf g i) z w)) ∧ h' = setM h g pa tr mx td (upd F 6 0)))) (fun _ _ _ => False) := by
  refine XCt.of hfl (by decide +kernel) (Nat.le_of_ble_eq_true rfl) ?_
  intro p' e' s' m' g' b' t' c' C hret hname hnt hmd
  refine XV.run C okM_rope 2 (q := (2, ([some (.ref (213)), some (.int (x)), some (.int (y))], [.int (0), .ref (213)]))) rfl ?_
  refine XV.putf C (ci := 5) (kf := 6) (ty := .int) (xlk_ok okM_rope rfl) rfl (by decide) wF_M_25 (by omega) (by omega) (mw_o) rfl rfl rfl rfl (Nat.le_of_ble_eq_true rfl) ?_
  refine XV.cast (mw_f (upd F 6 (0))) ?_
  refine XV.run C okM_rope 2 (q := (7, ([some (.ref (213)), some (.int (x)), some (.int (y))], [.int (x), .ref (213)]))) rfl ?_
  refine XV.callV C (As := [.int (x)]) (rest := []) (ci := 5) (ct_M_isRope hfl hn (x)) (xlk_ok okM_rope rfl) rfl (by omega) (by omega) rfl (mw_o) rfl wM_M_73 wI_M_isRope wV_M_isRope wN_M wB_M_isRope hy_M_isRope (fun q => q.elim) ⟨Nat.le_of_ble_eq_true rfl, Nat.le_of_ble_eq_true rfl⟩ ⟨Nat.le_of_ble_eq_true rfl, Nat.le_of_ble_eq_true rfl⟩ (Nat.le_of_ble_eq_true rfl) (fun r n h hp => ?_) (fun _ _ _ q => q.elim)
  obtain ⟨rfl, rfl, rfl⟩ := hp
  refine XV.if_ne C (tgt := 19) (xlk_ok okM_rope rfl) rfl (fun c1 => ?_) (fun c1 => ?_)
  ·
    obtain ⟨i, hx, hi⟩ := inR_t hm hk (if1_1 c1)
    refine XV.run C okM_rope 3 (q := (23, ([some (.ref (213)), some (.int (x)), some (.int (y))], [.int (9), .int (0), .int (y)]))) rfl ?_
    refine XV.callS C (As := [.int (y), .int (0), .int (9)]) (rest := []) (ct_M_in hfl (y) (0) (9)) (xlk_ok okM_rope rfl) rfl wM_M_29 wS_M_in wN_M wB_M_in hy_M_in (fun q => q.elim) ⟨Nat.le_of_ble_eq_true rfl, Nat.le_of_ble_eq_true rfl⟩ ⟨Nat.le_of_ble_eq_true rfl, Nat.le_of_ble_eq_true rfl⟩ (Nat.le_of_ble_eq_true rfl) (fun r n h hp => ?_) (fun _ _ _ q => q.elim)
    obtain ⟨rfl, rfl, rfl⟩ := hp
    refine XV.if_eq C (tgt := 38) (xlk_ok okM_rope rfl) rfl (fun c2 => ?_) (fun c2 => ?_)
    ·
      have hb2 := inG_f (if1_0 c2)
      refine XV.run C okM_rope 2 (q := (40, ([some (.ref (213)), some (.int (x)), some (.int (y))], [.int (2), .ref (213)]))) rfl ?_
      refine XV.callV C (As := [.int (2)]) (rest := []) (ci := 5) (ct_M_fails hfl hn (2)) (xlk_ok okM_rope rfl) rfl (by omega) (by omega) rfl (mw_o) rfl wM_M_36 wI_M_fails wV_M_fails wN_M wB_M_fails hy_M_fails (fun q => q.elim) ⟨Nat.le_of_ble_eq_true rfl, Nat.le_of_ble_eq_true rfl⟩ ⟨Nat.le_of_ble_eq_true rfl, Nat.le_of_ble_eq_true rfl⟩ (Nat.le_of_ble_eq_true rfl) (fun r n h hp => ?_) (fun _ _ _ q => q.elim)
      obtain ⟨rfl, rfl, rfl⟩ := hp
      exact XV.iret C (xlk_ok okM_rope rfl) hret rfl (Nat.le_of_ble_eq_true rfl) (Nat.le_of_ble_eq_true rfl) (⟨rfl, ⟨_, rfl⟩, Or.inr (Or.inl (⟨⟨nbad hx hi hk, hb2⟩, rfl⟩))⟩)
    ·
      have hok := inG_t (if1_1 c2)
      obtain ⟨w, hw, hwl⟩ := rg_nat (d := 9) hok rfl (by omega)
      refine XV.run C okM_rope 3 (q := (32, ([some (.ref (213)), some (.int (x)), some (.int (y))], [.int (y), .int (x), .ref (213)]))) rfl ?_
      refine XV.callV C (As := [.int (x), .int (y)]) (rest := []) (ci := 5) (ct_M_ofRope hfl hn hz z1 z2 (i := i) (by omega) (hl i hi) hx hw hwl) (xlk_ok okM_rope rfl) rfl (by omega) (by omega) rfl (mw_o) rfl wM_M_137 wI_M_ofRope wV_M_ofRope wN_M wB_M_ofRope hy_M_ofRope (fun q => q.elim) ⟨Nat.le_of_ble_eq_true rfl, Nat.le_of_ble_eq_true rfl⟩ ⟨Nat.le_of_ble_eq_true rfl, Nat.le_of_ble_eq_true rfl⟩ (Nat.le_of_ble_eq_true rfl) (fun r n h hp => ?_) (fun _ _ _ q => q.elim)
      obtain ⟨rfl, rfl, rfl⟩ := hp
      refine XV.run C okM_rope 1 (q := (43, ([some (.ref (213)), some (.int (x)), some (.int (y))], [.int (ropeFigM g (rowOf g i) z w)]))) rfl ?_
      exact XV.iret C (xlk_ok okM_rope rfl) hret rfl (Nat.le_of_ble_eq_true rfl) (Nat.le_of_ble_eq_true rfl) (⟨rfl, ⟨_, rfl⟩, Or.inr (Or.inr (⟨i, w, ⟨hx, hi, hw, hwl⟩, rfl, rfl⟩))⟩)
  ·
    have hb := inR_f hm hk (if1_0 c1)
    refine XV.run C okM_rope 2 (q := (15, ([some (.ref (213)), some (.int (x)), some (.int (y))], [.int (1), .ref (213)]))) rfl ?_
    refine XV.callV C (As := [.int (1)]) (rest := []) (ci := 5) (ct_M_fails hfl hn (1)) (xlk_ok okM_rope rfl) rfl (by omega) (by omega) rfl (mw_o) rfl wM_M_36 wI_M_fails wV_M_fails wN_M wB_M_fails hy_M_fails (fun q => q.elim) ⟨Nat.le_of_ble_eq_true rfl, Nat.le_of_ble_eq_true rfl⟩ ⟨Nat.le_of_ble_eq_true rfl, Nat.le_of_ble_eq_true rfl⟩ (Nat.le_of_ble_eq_true rfl) (fun r n h hp => ?_) (fun _ _ _ q => q.elim)
    obtain ⟨rfl, rfl, rfl⟩ := hp
    exact XV.iret C (xlk_ok okM_rope rfl) hret rfl (Nat.le_of_ble_eq_true rfl) (Nat.le_of_ble_eq_true rfl) (⟨rfl, ⟨_, rfl⟩, Or.inl (⟨hb, rfl⟩)⟩)
set_option maxHeartbeats 4000000 in
set_option maxRecDepth 100000 in
theorem ct_M_unseen {l : Launch} (hfl : l.stackTraces = false) {G : XG} {n : Nat} {h : XH} {g pa tr mx td F : Nat → Int32} (hn : 215 ≤ n) {k : Nat} (hm : g 1 = nI k) (hk : k ≤ 5) (hl : ∀ i, i < k → 0 < rowOf g i 0) {z : Nat} (hz : g 2 = nI z) (z1 : 1 ≤ z) (z2 : z ≤ 12) : XCt l G False (Cond.code yM_unseen bM_unseen 1 (some .int)) yM_unseen 7 166 0 0 [.ref (213)] n (setM h g pa tr mx td F) (fun r' n' h' => r' = some (.int (luM g z k 0)) ∧ n' = n ∧ ∃ tr', h' = setM h g pa tr' mx td (upd F 6 0)) (fun _ _ _ => False) := by
  refine XCt.of hfl (by decide +kernel) (Nat.le_of_ble_eq_true rfl) ?_
  intro p' e' s' m' g' b' t' c' C hret hname hnt hmd
  refine XV.run C okM_unseen 2 (q := (2, ([some (.ref (213))], [.int (0), .ref (213)]))) rfl ?_
  refine XV.putf C (ci := 5) (kf := 6) (ty := .int) (xlk_ok okM_unseen rfl) rfl (by decide) wF_M_25 (by omega) (by omega) (mw_o) rfl rfl rfl rfl (Nat.le_of_ble_eq_true rfl) ?_
  refine XV.cast (mw_f (upd F 6 (0))) ?_
  refine XV.run C okM_unseen 1 (q := (6, ([some (.ref (213))], [.ref (213)]))) rfl ?_
  refine XV.callV C (As := []) (rest := []) (ci := 5) (ct_M_firstUnseen hfl hn hm hk hl hz z1 z2) (xlk_ok okM_unseen rfl) rfl (by omega) (by omega) rfl (mw_o) rfl wM_M_171 wI_M_firstUnseen wV_M_firstUnseen wN_M wB_M_firstUnseen hy_M_firstUnseen (fun q => q.elim) ⟨Nat.le_of_ble_eq_true rfl, Nat.le_of_ble_eq_true rfl⟩ ⟨Nat.le_of_ble_eq_true rfl, Nat.le_of_ble_eq_true rfl⟩ (Nat.le_of_ble_eq_true rfl) (fun r n h hp => ?_) (fun _ _ _ q => q.elim)
  obtain ⟨rfl, rfl, tr1, rfl⟩ := hp
  exact XV.iret C (xlk_ok okM_unseen rfl) hret rfl (Nat.le_of_ble_eq_true rfl) (Nat.le_of_ble_eq_true rfl) (⟨rfl, rfl, _, rfl⟩)
