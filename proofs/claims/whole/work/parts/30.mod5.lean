/-! RopeThreadsModel: the calls -/
theorem inR_f {x y : Int32} {k : Nat} (hy : y = nI k) (hk : k ≤ 5) (h : inK x 0 (y - 1) = false) : x < 0 ∨ nI k ≤ x := by
  subst hy
  rcases pk_ix x (n := k) (by omega) with q | q | ⟨i, hi, rfl⟩
  · exact Or.inl q
  · exact Or.inr q
  · exfalso
    have h2 := of_decide_eq_false h
    rw [nI_m1 (by omega)] at h2
    exact h2 ⟨nI_pos' (by omega), nI_le (by omega) (by omega)⟩
theorem inR_t {x y : Int32} {k : Nat} (hy : y = nI k) (hk : k ≤ 5) (h : inK x 0 (y - 1) = true) : ∃ i, x = nI i ∧ i < k := by
  subst hy
  have h2 := of_decide_eq_true h
  rcases pk_ix x (n := k) (by omega) with q | q | ⟨i, hi, rfl⟩
  · exact absurd q (Int32.not_lt.mpr h2.1)
  · exfalso
    rcases Nat.eq_zero_or_pos k with z | z
    · subst z
      exact absurd (Int32.le_trans h2.1 h2.2) (by decide)
    · rw [nI_m1 z] at h2
      exact absurd (Int32.le_trans q h2.2) (nI_ge (by omega) (by omega))
  · exact ⟨i, rfl, hi⟩
theorem inG_f {x a b : Int32} (h : inK x a b = false) : x < a ∨ ¬ x ≤ b := by
  have h2 := of_decide_eq_false h
  by_cases q : x < a
  · exact Or.inl q
  · exact Or.inr fun z => h2 ⟨Int32.not_lt.mp q, z⟩
theorem inG_t {x a b : Int32} (h : inK x a b = true) : ¬ x < a ∧ x ≤ b := by
  have h2 := of_decide_eq_true h
  exact ⟨Int32.not_lt.mpr h2.1, h2.2⟩
set_option maxHeartbeats 4000000 in
set_option maxRecDepth 100000 in
theorem ct_M_rope {l : Launch} (hfl : l.stackTraces = false) {G : XG} {n : Nat} {h : XH} {g pa tr mx td F : Nat → Int32} (hn : 215 ≤ n) {k : Nat} (hm : g 1 = nI k) (hk : k ≤ 5) (hl : ∀ i, i < k → 0 < rowOf g i 0) {z : Nat} (hz : g 2 = nI z) (z1 : 1 ≤ z) (z2 : z ≤ 12) (x y : Int32) : XCt l G False (Cond.code yM_rope bM_rope 3 (some .int)) yM_rope 6 145 0 0 [.ref (213), .int (x), .int (y)] n (setM h g pa tr mx td F) (fun r' n' h' => n' = n ∧ (∃ v, r' = some (.int v)) ∧ ((((x < 0 ∨ nI k ≤ x)) ∧ h' = setM h g pa tr mx td (upd (upd F 6 0) 6 1)) ∨ ((¬ (x < 0 ∨ nI k ≤ x) ∧ (y < 0 ∨ ¬ y ≤ 9)) ∧ h' = setM h g pa tr mx td (upd (upd F 6 0) 6 2)) ∨ (∃ i w, (x = nI i ∧ i < k ∧ y = nI w ∧ w ≤ 9) ∧ r' = some (.int (ropeFigM g (rowOf g i) z w)) ∧ h' = setM h g pa tr mx td (upd F 6 0)))) (fun _ _ _ => False) := by
  refine XCt.of hfl (by decide +kernel) (Nat.le_of_ble_eq_true rfl) ?_
  intro p' e' s' m' g' b' t' c' C hret hname hnt hmd
  refine XV.run C okM_rope 2 (q := (2, ([some (.ref (213)), some (.int (x)), some (.int (y))], [.int (0), .ref (213)]))) rfl ?_
  refine XV.putf C (ci := 5) (kf := 6) (ty := .int) (xlk_ok okM_rope rfl) rfl (by decide) wF_M_25 (by omega) (by omega) (mw_o) rfl rfl rfl rfl (Nat.le_of_ble_eq_true rfl) ?_
  refine XV.cast (mw_f (upd F 6 (0))) ?_
  refine XV.run C okM_rope 2 (q := (7, ([some (.ref (213)), some (.int (x)), some (.int (y))], [.int (x), .ref (213)]))) rfl ?_
  refine XV.callV C (As := [.int (x)]) (rest := []) (ci := 5) (ct_M_isRope hfl hn (x)) (xlk_ok okM_rope rfl) rfl (by omega) (by omega) rfl (mw_o) rfl wM_M_73 wI_M_isRope wV_M_isRope wN_M wB_M_isRope hy_M_isRope (fun q => q.elim) ⟨Nat.le_of_ble_eq_true rfl, Nat.le_of_ble_eq_true rfl⟩ ⟨Nat.le_of_ble_eq_true rfl, Nat.le_of_ble_eq_true rfl⟩ (Nat.le_of_ble_eq_true rfl) (fun r n h hp => ?_) (fun _ _ _ q => q.elim)
  obtain ⟨rfl, rfl, rfl⟩ := hp
  refine XV.if_ne C (tgt := 19) (xlk_ok okM_rope rfl) rfl (fun c1 => ?_) (fun c1 => ?_)
  ·
    obtain ⟨i, hx, hi⟩ := inR_t hm hk (if1_1 c1)
    refine XV.run C okM_rope 3 (q := (23, ([some (.ref (213)), some (.int (x)), some (.int (y))], [.int (9), .int (0), .int (y)]))) rfl ?_
    refine XV.callS C (As := [.int (y), .int (0), .int (9)]) (rest := []) (ct_M_in hfl (y) (0) (9)) (xlk_ok okM_rope rfl) rfl wM_M_29 wS_M_in wN_M wB_M_in hy_M_in (fun q => q.elim) ⟨Nat.le_of_ble_eq_true rfl, Nat.le_of_ble_eq_true rfl⟩ ⟨Nat.le_of_ble_eq_true rfl, Nat.le_of_ble_eq_true rfl⟩ (Nat.le_of_ble_eq_true rfl) (fun r n h hp => ?_) (fun _ _ _ q => q.elim)
    obtain ⟨rfl, rfl, rfl⟩ := hp
    refine XV.if_eq C (tgt := 38) (xlk_ok okM_rope rfl) rfl (fun c2 => ?_) (fun c2 => ?_)
    ·
      have hb2 := inG_f (if1_0 c2)
      refine XV.run C okM_rope 2 (q := (40, ([some (.ref (213)), some (.int (x)), some (.int (y))], [.int (2), .ref (213)]))) rfl ?_
      refine XV.callV C (As := [.int (2)]) (rest := []) (ci := 5) (ct_M_fails hfl hn (2)) (xlk_ok okM_rope rfl) rfl (by omega) (by omega) rfl (mw_o) rfl wM_M_36 wI_M_fails wV_M_fails wN_M wB_M_fails hy_M_fails (fun q => q.elim) ⟨Nat.le_of_ble_eq_true rfl, Nat.le_of_ble_eq_true rfl⟩ ⟨Nat.le_of_ble_eq_true rfl, Nat.le_of_ble_eq_true rfl⟩ (Nat.le_of_ble_eq_true rfl) (fun r n h hp => ?_) (fun _ _ _ q => q.elim)
      obtain ⟨rfl, rfl, rfl⟩ := hp
      exact XV.iret C (xlk_ok okM_rope rfl) hret rfl (Nat.le_of_ble_eq_true rfl) (Nat.le_of_ble_eq_true rfl) (⟨rfl, ⟨_, rfl⟩, Or.inr (Or.inl (⟨⟨nbad hx hi hk, hb2⟩, rfl⟩))⟩)
    ·
      have hok := inG_t (if1_1 c2)
      obtain ⟨w, hw, hwl⟩ := rg_nat (d := 9) hok rfl (by omega)
      refine XV.run C okM_rope 3 (q := (32, ([some (.ref (213)), some (.int (x)), some (.int (y))], [.int (y), .int (x), .ref (213)]))) rfl ?_
      refine XV.callV C (As := [.int (x), .int (y)]) (rest := []) (ci := 5) (ct_M_ofRope hfl hn hz z1 z2 (i := i) (by omega) (hl i hi) hx hw hwl) (xlk_ok okM_rope rfl) rfl (by omega) (by omega) rfl (mw_o) rfl wM_M_137 wI_M_ofRope wV_M_ofRope wN_M wB_M_ofRope hy_M_ofRope (fun q => q.elim) ⟨Nat.le_of_ble_eq_true rfl, Nat.le_of_ble_eq_true rfl⟩ ⟨Nat.le_of_ble_eq_true rfl, Nat.le_of_ble_eq_true rfl⟩ (Nat.le_of_ble_eq_true rfl) (fun r n h hp => ?_) (fun _ _ _ q => q.elim)
      obtain ⟨rfl, rfl, rfl⟩ := hp
      refine XV.run C okM_rope 1 (q := (43, ([some (.ref (213)), some (.int (x)), some (.int (y))], [.int (ropeFigM g (rowOf g i) z w)]))) rfl ?_
      exact XV.iret C (xlk_ok okM_rope rfl) hret rfl (Nat.le_of_ble_eq_true rfl) (Nat.le_of_ble_eq_true rfl) (⟨rfl, ⟨_, rfl⟩, Or.inr (Or.inr (⟨i, w, ⟨hx, hi, hw, hwl⟩, rfl, rfl⟩))⟩)
  ·
    have hb := inR_f hm hk (if1_0 c1)
    refine XV.run C okM_rope 2 (q := (15, ([some (.ref (213)), some (.int (x)), some (.int (y))], [.int (1), .ref (213)]))) rfl ?_
    refine XV.callV C (As := [.int (1)]) (rest := []) (ci := 5) (ct_M_fails hfl hn (1)) (xlk_ok okM_rope rfl) rfl (by omega) (by omega) rfl (mw_o) rfl wM_M_36 wI_M_fails wV_M_fails wN_M wB_M_fails hy_M_fails (fun q => q.elim) ⟨Nat.le_of_ble_eq_true rfl, Nat.le_of_ble_eq_true rfl⟩ ⟨Nat.le_of_ble_eq_true rfl, Nat.le_of_ble_eq_true rfl⟩ (Nat.le_of_ble_eq_true rfl) (fun r n h hp => ?_) (fun _ _ _ q => q.elim)
    obtain ⟨rfl, rfl, rfl⟩ := hp
    exact XV.iret C (xlk_ok okM_rope rfl) hret rfl (Nat.le_of_ble_eq_true rfl) (Nat.le_of_ble_eq_true rfl) (⟨rfl, ⟨_, rfl⟩, Or.inl (⟨hb, rfl⟩)⟩)
set_option maxHeartbeats 4000000 in
set_option maxRecDepth 100000 in
theorem ct_M_unseen {l : Launch} (hfl : l.stackTraces = false) {G : XG} {n : Nat} {h : XH} {g pa tr mx td F : Nat → Int32} (hn : 215 ≤ n) {k : Nat} (hm : g 1 = nI k) (hk : k ≤ 5) (hl : ∀ i, i < k → 0 < rowOf g i 0) {z : Nat} (hz : g 2 = nI z) (z1 : 1 ≤ z) (z2 : z ≤ 12) : XCt l G False (Cond.code yM_unseen bM_unseen 1 (some .int)) yM_unseen 7 166 0 0 [.ref (213)] n (setM h g pa tr mx td F) (fun r' n' h' => r' = some (.int (luM g z k 0)) ∧ n' = n ∧ ∃ tr', h' = setM h g pa tr' mx td (upd F 6 0)) (fun _ _ _ => False) := by
  refine XCt.of hfl (by decide +kernel) (Nat.le_of_ble_eq_true rfl) ?_
  intro p' e' s' m' g' b' t' c' C hret hname hnt hmd
  refine XV.run C okM_unseen 2 (q := (2, ([some (.ref (213))], [.int (0), .ref (213)]))) rfl ?_
  refine XV.putf C (ci := 5) (kf := 6) (ty := .int) (xlk_ok okM_unseen rfl) rfl (by decide) wF_M_25 (by omega) (by omega) (mw_o) rfl rfl rfl rfl (Nat.le_of_ble_eq_true rfl) ?_
  refine XV.cast (mw_f (upd F 6 (0))) ?_
  refine XV.run C okM_unseen 1 (q := (6, ([some (.ref (213))], [.ref (213)]))) rfl ?_
  refine XV.callV C (As := []) (rest := []) (ci := 5) (ct_M_firstUnseen hfl hn hm hk hl hz z1 z2) (xlk_ok okM_unseen rfl) rfl (by omega) (by omega) rfl (mw_o) rfl wM_M_171 wI_M_firstUnseen wV_M_firstUnseen wN_M wB_M_firstUnseen hy_M_firstUnseen (fun q => q.elim) ⟨Nat.le_of_ble_eq_true rfl, Nat.le_of_ble_eq_true rfl⟩ ⟨Nat.le_of_ble_eq_true rfl, Nat.le_of_ble_eq_true rfl⟩ (Nat.le_of_ble_eq_true rfl) (fun r n h hp => ?_) (fun _ _ _ q => q.elim)
  obtain ⟨rfl, rfl, tr1, rfl⟩ := hp
  exact XV.iret C (xlk_ok okM_unseen rfl) hret rfl (Nat.le_of_ble_eq_true rfl) (Nat.le_of_ble_eq_true rfl) (⟨rfl, rfl, _, rfl⟩)
set_option maxHeartbeats 4000000 in
set_option maxRecDepth 100000 in
theorem ct_M_count {l : Launch} (hfl : l.stackTraces = false) {G : XG} {n : Nat} {h : XH} {g pa tr mx td F : Nat → Int32} (hn : 215 ≤ n) {k : Nat} (hm : g 1 = nI k) (hk : k ≤ 5) (hl : ∀ i, i < k → 0 < rowOf g i 0) {z : Nat} (hz : g 2 = nI z) (z1 : 1 ≤ z) (z2 : z ≤ 12) (x : Int32) : XCt l G False (Cond.code yM_count bM_count 2 (some .int)) yM_count 8 185 0 0 [.ref (213), .int (x)] n (setM h g pa tr mx td F) (fun r' n' h' => n' = n ∧ (∃ v, r' = some (.int v)) ∧ ((((x < 0 ∨ ¬ x ≤ 8)) ∧ h' = setM h g pa tr mx td (upd (upd F 6 0) 6 1)) ∨ (∃ w, (x = nI w ∧ w ≤ 8) ∧ r' = some (.int (countFigM g (upd F 6 0) z k w)) ∧ h' = setM h g pa tr mx td (upd F 6 0)))) (fun _ _ _ => False) := by
  refine XCt.of hfl (by decide +kernel) (Nat.le_of_ble_eq_true rfl) ?_
  intro p' e' s' m' g' b' t' c' C hret hname hnt hmd
  refine XV.run C okM_count 2 (q := (2, ([some (.ref (213)), some (.int (x))], [.int (0), .ref (213)]))) rfl ?_
  refine XV.putf C (ci := 5) (kf := 6) (ty := .int) (xlk_ok okM_count rfl) rfl (by decide) wF_M_25 (by omega) (by omega) (mw_o) rfl rfl rfl rfl (Nat.le_of_ble_eq_true rfl) ?_
  refine XV.cast (mw_f (upd F 6 (0))) ?_
  refine XV.run C okM_count 3 (q := (9, ([some (.ref (213)), some (.int (x))], [.int (8), .int (0), .int (x)]))) rfl ?_
  refine XV.callS C (As := [.int (x), .int (0), .int (8)]) (rest := []) (ct_M_in hfl (x) (0) (8)) (xlk_ok okM_count rfl) rfl wM_M_29 wS_M_in wN_M wB_M_in hy_M_in (fun q => q.elim) ⟨Nat.le_of_ble_eq_true rfl, Nat.le_of_ble_eq_true rfl⟩ ⟨Nat.le_of_ble_eq_true rfl, Nat.le_of_ble_eq_true rfl⟩ (Nat.le_of_ble_eq_true rfl) (fun r n h hp => ?_) (fun _ _ _ q => q.elim)
  obtain ⟨rfl, rfl, rfl⟩ := hp
  refine XV.if_eq C (tgt := 23) (xlk_ok okM_count rfl) rfl (fun c2 => ?_) (fun c2 => ?_)
  ·
    have hb2 := inG_f (if1_0 c2)
    refine XV.run C okM_count 2 (q := (25, ([some (.ref (213)), some (.int (x))], [.int (1), .ref (213)]))) rfl ?_
    refine XV.callV C (As := [.int (1)]) (rest := []) (ci := 5) (ct_M_fails hfl hn (1)) (xlk_ok okM_count rfl) rfl (by omega) (by omega) rfl (mw_o) rfl wM_M_36 wI_M_fails wV_M_fails wN_M wB_M_fails hy_M_fails (fun q => q.elim) ⟨Nat.le_of_ble_eq_true rfl, Nat.le_of_ble_eq_true rfl⟩ ⟨Nat.le_of_ble_eq_true rfl, Nat.le_of_ble_eq_true rfl⟩ (Nat.le_of_ble_eq_true rfl) (fun r n h hp => ?_) (fun _ _ _ q => q.elim)
    obtain ⟨rfl, rfl, rfl⟩ := hp
    exact XV.iret C (xlk_ok okM_count rfl) hret rfl (Nat.le_of_ble_eq_true rfl) (Nat.le_of_ble_eq_true rfl) (⟨rfl, ⟨_, rfl⟩, Or.inl (⟨hb2, rfl⟩)⟩)
  ·
    have hok := inG_t (if1_1 c2)
    obtain ⟨w, hw, hwl⟩ := rg_nat (d := 8) hok rfl (by omega)
    refine XV.run C okM_count 2 (q := (17, ([some (.ref (213)), some (.int (x))], [.int (x), .ref (213)]))) rfl ?_
    refine XV.callV C (As := [.int (x)]) (rest := []) (ci := 5) (ct_M_counted hfl hn hm hk hl hz z1 z2 (w := w) (hw) (by omega)) (xlk_ok okM_count rfl) rfl (by omega) (by omega) rfl (mw_o) rfl wM_M_149 wI_M_counted wV_M_counted wN_M wB_M_counted hy_M_counted (fun q => q.elim) ⟨Nat.le_of_ble_eq_true rfl, Nat.le_of_ble_eq_true rfl⟩ ⟨Nat.le_of_ble_eq_true rfl, Nat.le_of_ble_eq_true rfl⟩ (Nat.le_of_ble_eq_true rfl) (fun r n h hp => ?_) (fun _ _ _ q => q.elim)
    obtain ⟨rfl, rfl, rfl⟩ := hp
    refine XV.run C okM_count 1 (q := (28, ([some (.ref (213)), some (.int (x))], [.int (countFigM g (upd F 6 (0)) z k w)]))) rfl ?_
    exact XV.iret C (xlk_ok okM_count rfl) hret rfl (Nat.le_of_ble_eq_true rfl) (Nat.le_of_ble_eq_true rfl) (⟨rfl, ⟨_, rfl⟩, Or.inr (⟨w, ⟨hw, hwl⟩, rfl, rfl⟩)⟩)
set_option maxHeartbeats 4000000 in
set_option maxRecDepth 100000 in
theorem ct_M_setting {l : Launch} (hfl : l.stackTraces = false) {G : XG} {n : Nat} {h : XH} {g pa tr mx td F : Nat → Int32} (hn : 215 ≤ n) (x : Int32) : XCt l G False (Cond.code yM_setting bM_setting 2 (some .int)) yM_setting 1 22 0 0 [.ref (213), .int (x)] n (setM h g pa tr mx td F) (fun r' n' h' => n' = n ∧ (∃ v, r' = some (.int v)) ∧ ((((x < 0 ∨ ¬ x ≤ 4)) ∧ h' = setM h g pa tr mx td (upd (upd F 6 0) 6 1)) ∨ (∃ w, (x = nI w ∧ w ≤ 4) ∧ r' = some (.int (g (2 + w))) ∧ h' = setM h g pa tr mx td (upd F 6 0)))) (fun _ _ _ => False) := by
  refine XCt.of hfl (by decide +kernel) (Nat.le_of_ble_eq_true rfl) ?_
  intro p' e' s' m' g' b' t' c' C hret hname hnt hmd
  refine XV.run C okM_setting 2 (q := (2, ([some (.ref (213)), some (.int (x))], [.int (0), .ref (213)]))) rfl ?_
  refine XV.putf C (ci := 5) (kf := 6) (ty := .int) (xlk_ok okM_setting rfl) rfl (by decide) wF_M_25 (by omega) (by omega) (mw_o) rfl rfl rfl rfl (Nat.le_of_ble_eq_true rfl) ?_
  refine XV.cast (mw_f (upd F 6 (0))) ?_
  refine XV.run C okM_setting 3 (q := (8, ([some (.ref (213)), some (.int (x))], [.int (4), .int (0), .int (x)]))) rfl ?_
  refine XV.callS C (As := [.int (x), .int (0), .int (4)]) (rest := []) (ct_M_in hfl (x) (0) (4)) (xlk_ok okM_setting rfl) rfl wM_M_29 wS_M_in wN_M wB_M_in hy_M_in (fun q => q.elim) ⟨Nat.le_of_ble_eq_true rfl, Nat.le_of_ble_eq_true rfl⟩ ⟨Nat.le_of_ble_eq_true rfl, Nat.le_of_ble_eq_true rfl⟩ (Nat.le_of_ble_eq_true rfl) (fun r n h hp => ?_) (fun _ _ _ q => q.elim)
  obtain ⟨rfl, rfl, rfl⟩ := hp
  refine XV.if_eq C (tgt := 25) (xlk_ok okM_setting rfl) rfl (fun c2 => ?_) (fun c2 => ?_)
  ·
    have hb2 := inG_f (if1_0 c2)
    refine XV.run C okM_setting 2 (q := (27, ([some (.ref (213)), some (.int (x))], [.int (1), .ref (213)]))) rfl ?_
    refine XV.callV C (As := [.int (1)]) (rest := []) (ci := 5) (ct_M_fails hfl hn (1)) (xlk_ok okM_setting rfl) rfl (by omega) (by omega) rfl (mw_o) rfl wM_M_36 wI_M_fails wV_M_fails wN_M wB_M_fails hy_M_fails (fun q => q.elim) ⟨Nat.le_of_ble_eq_true rfl, Nat.le_of_ble_eq_true rfl⟩ ⟨Nat.le_of_ble_eq_true rfl, Nat.le_of_ble_eq_true rfl⟩ (Nat.le_of_ble_eq_true rfl) (fun r n h hp => ?_) (fun _ _ _ q => q.elim)
    obtain ⟨rfl, rfl, rfl⟩ := hp
    exact XV.iret C (xlk_ok okM_setting rfl) hret rfl (Nat.le_of_ble_eq_true rfl) (Nat.le_of_ble_eq_true rfl) (⟨rfl, ⟨_, rfl⟩, Or.inl (⟨hb2, rfl⟩)⟩)
  ·
    have hok := inG_t (if1_1 c2)
    obtain ⟨w, hw, hwl⟩ := rg_nat (d := 4) hok rfl (by omega)
    refine XV.run C okM_setting 1 (q := (15, ([some (.ref (213)), some (.int (x))], [.ref (213)]))) rfl ?_
    refine XV.getf C (ci := 5) (kf := 0) (v := .ref (214)) (xlk_ok okM_setting rfl) rfl (by decide) wF_M_7 (by omega) (by omega) (mw_o) rfl ?_
    refine XV.run C okM_setting 3 (q := (21, ([some (.ref (213)), some (.int (x))], [.int (2 + x), .ref (214)]))) rfl ?_
    refine XV.ialdC C (N := 505) (f := g) (a := (2 + w)) (xlk_ok okM_setting rfl) (by omega) (by omega) (mw_1) (by rw [hw, show (2 : Int32) = nI 2 from rfl, nI_add]) (by omega) (by decide) ?_
    refine XV.run C okM_setting 1 (q := (30, ([some (.ref (213)), some (.int (x))], [.int (g (2 + w))]))) rfl ?_
    exact XV.iret C (xlk_ok okM_setting rfl) hret rfl (Nat.le_of_ble_eq_true rfl) (Nat.le_of_ble_eq_true rfl) (⟨rfl, ⟨_, rfl⟩, Or.inr (⟨w, ⟨hw, hwl⟩, rfl, rfl⟩)⟩)
set_option maxHeartbeats 4000000 in
set_option maxRecDepth 100000 in
theorem ct_M_tripsLeft {l : Launch} (hfl : l.stackTraces = false) {G : XG} {n : Nat} {h : XH} {g pa tr mx td F : Nat → Int32} (hn : 215 ≤ n) {k : Nat} (hm : g 1 = nI k) (hk : k ≤ 5) (hl : ∀ i, i < k → 0 < rowOf g i 0) {z : Nat} (hz : g 2 = nI z) (z1 : 1 ≤ z) (z2 : z ≤ 12) (x : Int32) : XCt l G False (Cond.code yM_tripsLeft bM_tripsLeft 2 (some .int)) yM_tripsLeft 6 144 0 0 [.ref (213), .int (x)] n (setM h g pa tr mx td F) (fun r' n' h' => n' = n ∧ (∃ v, r' = some (.int v)) ∧ ((((x < 0 ∨ nI k ≤ x)) ∧ h' = setM h g pa tr mx td (upd (upd F 6 0) 6 1)) ∨ (∃ i, (x = nI i ∧ i < k) ∧ r' = some (.int (nI (lfM g (rowOf g i) z 14 0 9801))) ∧ ∃ tr', h' = setM h g pa tr' mx td (upd F 6 0)))) (fun _ _ _ => False) := by
  refine XCt.of hfl (by decide +kernel) (Nat.le_of_ble_eq_true rfl) ?_
  intro p' e' s' m' g' b' t' c' C hret hname hnt hmd
  refine XV.run C okM_tripsLeft 2 (q := (2, ([some (.ref (213)), some (.int (x))], [.int (0), .ref (213)]))) rfl ?_
  refine XV.putf C (ci := 5) (kf := 6) (ty := .int) (xlk_ok okM_tripsLeft rfl) rfl (by decide) wF_M_25 (by omega) (by omega) (mw_o) rfl rfl rfl rfl (Nat.le_of_ble_eq_true rfl) ?_
  refine XV.cast (mw_f (upd F 6 (0))) ?_
  refine XV.run C okM_tripsLeft 2 (q := (7, ([some (.ref (213)), some (.int (x))], [.int (x), .ref (213)]))) rfl ?_
  refine XV.callV C (As := [.int (x)]) (rest := []) (ci := 5) (ct_M_isRope hfl hn (x)) (xlk_ok okM_tripsLeft rfl) rfl (by omega) (by omega) rfl (mw_o) rfl wM_M_73 wI_M_isRope wV_M_isRope wN_M wB_M_isRope hy_M_isRope (fun q => q.elim) ⟨Nat.le_of_ble_eq_true rfl, Nat.le_of_ble_eq_true rfl⟩ ⟨Nat.le_of_ble_eq_true rfl, Nat.le_of_ble_eq_true rfl⟩ (Nat.le_of_ble_eq_true rfl) (fun r n h hp => ?_) (fun _ _ _ q => q.elim)
  obtain ⟨rfl, rfl, rfl⟩ := hp
  refine XV.if_eq C (tgt := 21) (xlk_ok okM_tripsLeft rfl) rfl (fun c1 => ?_) (fun c1 => ?_)
  ·
    have hb := inR_f hm hk (if1_0 c1)
    refine XV.run C okM_tripsLeft 2 (q := (23, ([some (.ref (213)), some (.int (x))], [.int (1), .ref (213)]))) rfl ?_
    refine XV.callV C (As := [.int (1)]) (rest := []) (ci := 5) (ct_M_fails hfl hn (1)) (xlk_ok okM_tripsLeft rfl) rfl (by omega) (by omega) rfl (mw_o) rfl wM_M_36 wI_M_fails wV_M_fails wN_M wB_M_fails hy_M_fails (fun q => q.elim) ⟨Nat.le_of_ble_eq_true rfl, Nat.le_of_ble_eq_true rfl⟩ ⟨Nat.le_of_ble_eq_true rfl, Nat.le_of_ble_eq_true rfl⟩ (Nat.le_of_ble_eq_true rfl) (fun r n h hp => ?_) (fun _ _ _ q => q.elim)
    obtain ⟨rfl, rfl, rfl⟩ := hp
    exact XV.iret C (xlk_ok okM_tripsLeft rfl) hret rfl (Nat.le_of_ble_eq_true rfl) (Nat.le_of_ble_eq_true rfl) (⟨rfl, ⟨_, rfl⟩, Or.inl (⟨hb, rfl⟩)⟩)
  ·
    obtain ⟨i, hx, hi⟩ := inR_t hm hk (if1_1 c1)
    refine XV.run C okM_tripsLeft 2 (q := (15, ([some (.ref (213)), some (.int (x))], [.int (x), .ref (213)]))) rfl ?_
    refine XV.callV C (As := [.int (x)]) (rest := []) (ci := 5) (ct_M_leftFor hfl hn hz z1 z2 (i := i) (by omega) (hl i hi) hx) (xlk_ok okM_tripsLeft rfl) rfl (by omega) (by omega) rfl (mw_o) rfl wM_M_168 wI_M_leftFor wV_M_leftFor wN_M wB_M_leftFor hy_M_leftFor (fun q => q.elim) ⟨Nat.le_of_ble_eq_true rfl, Nat.le_of_ble_eq_true rfl⟩ ⟨Nat.le_of_ble_eq_true rfl, Nat.le_of_ble_eq_true rfl⟩ (Nat.le_of_ble_eq_true rfl) (fun r n h hp => ?_) (fun _ _ _ q => q.elim)
    obtain ⟨rfl, rfl, tr1, rfl⟩ := hp
    refine XV.run C okM_tripsLeft 1 (q := (26, ([some (.ref (213)), some (.int (x))], [.int (nI (lfM g (rowOf g i) z 14 0 9801))]))) rfl ?_
    exact XV.iret C (xlk_ok okM_tripsLeft rfl) hret rfl (Nat.le_of_ble_eq_true rfl) (Nat.le_of_ble_eq_true rfl) (⟨rfl, ⟨_, rfl⟩, Or.inr (⟨i, ⟨hx, hi⟩, rfl, _, rfl⟩)⟩)
set_option maxHeartbeats 4000000 in
set_option maxRecDepth 100000 in
theorem ct_M_section {l : Launch} (hfl : l.stackTraces = false) {G : XG} {n : Nat} {h : XH} {g pa tr mx td F : Nat → Int32} (hn : 215 ≤ n) {k : Nat} (hm : g 1 = nI k) (hk : k ≤ 5) (hl : ∀ i, i < k → 0 < rowOf g i 0) (x y u : Int32) : XCt l G False (Cond.code yM_section bM_section 4 (some .int)) yM_section 2 46 0 0 [.ref (213), .int (x), .int (y), .int (u)] n (setM h g pa tr mx td F) (fun r' n' h' => n' = n ∧ (∃ v, r' = some (.int v)) ∧ ((((x < 0 ∨ nI k ≤ x) ∨ ¬ (x < 0 ∨ nI k ≤ x) ∧ (y < 0 ∨ ¬ y ≤ 23)) ∧ h' = setM h g pa tr mx td (upd (upd F 6 0) 6 1)) ∨ ((¬ (x < 0 ∨ nI k ≤ x) ∧ ¬ (y < 0 ∨ ¬ y ≤ 23) ∧ (u < 0 ∨ ¬ u ≤ 4)) ∧ h' = setM h g pa tr mx td (upd (upd F 6 0) 6 2)) ∨ (∃ i s w, (x = nI i ∧ i < k ∧ y = nI s ∧ s < 24 ∧ u = nI w ∧ w ≤ 4) ∧ r' = some (.int (secF (rowOf g i) s w)) ∧ h' = setM h g pa tr mx td (upd F 6 0)))) (fun _ _ _ => False) := by
  refine XCt.of hfl (by decide +kernel) (Nat.le_of_ble_eq_true rfl) ?_
  intro p' e' s' m' g' b' t' c' C hret hname hnt hmd
  refine XV.run C okM_section 2 (q := (2, ([some (.ref (213)), some (.int (x)), some (.int (y)), some (.int (u))], [.int (0), .ref (213)]))) rfl ?_
  refine XV.putf C (ci := 5) (kf := 6) (ty := .int) (xlk_ok okM_section rfl) rfl (by decide) wF_M_25 (by omega) (by omega) (mw_o) rfl rfl rfl rfl (Nat.le_of_ble_eq_true rfl) ?_
  refine XV.cast (mw_f (upd F 6 (0))) ?_
  refine XV.run C okM_section 2 (q := (7, ([some (.ref (213)), some (.int (x)), some (.int (y)), some (.int (u))], [.int (x), .ref (213)]))) rfl ?_
  refine XV.callV C (As := [.int (x)]) (rest := []) (ci := 5) (ct_M_isRope hfl hn (x)) (xlk_ok okM_section rfl) rfl (by omega) (by omega) rfl (mw_o) rfl wM_M_73 wI_M_isRope wV_M_isRope wN_M wB_M_isRope hy_M_isRope (fun q => q.elim) ⟨Nat.le_of_ble_eq_true rfl, Nat.le_of_ble_eq_true rfl⟩ ⟨Nat.le_of_ble_eq_true rfl, Nat.le_of_ble_eq_true rfl⟩ (Nat.le_of_ble_eq_true rfl) (fun r n h hp => ?_) (fun _ _ _ q => q.elim)
  obtain ⟨rfl, rfl, rfl⟩ := hp
  refine XV.if_eq C (tgt := 20) (xlk_ok okM_section rfl) rfl (fun c1 => ?_) (fun c1 => ?_)
  ·
    have hb := inR_f hm hk (if1_0 c1)
    refine XV.run C okM_section 2 (q := (22, ([some (.ref (213)), some (.int (x)), some (.int (y)), some (.int (u))], [.int (1), .ref (213)]))) rfl ?_
    refine XV.callV C (As := [.int (1)]) (rest := []) (ci := 5) (ct_M_fails hfl hn (1)) (xlk_ok okM_section rfl) rfl (by omega) (by omega) rfl (mw_o) rfl wM_M_36 wI_M_fails wV_M_fails wN_M wB_M_fails hy_M_fails (fun q => q.elim) ⟨Nat.le_of_ble_eq_true rfl, Nat.le_of_ble_eq_true rfl⟩ ⟨Nat.le_of_ble_eq_true rfl, Nat.le_of_ble_eq_true rfl⟩ (Nat.le_of_ble_eq_true rfl) (fun r n h hp => ?_) (fun _ _ _ q => q.elim)
    obtain ⟨rfl, rfl, rfl⟩ := hp
    exact XV.iret C (xlk_ok okM_section rfl) hret rfl (Nat.le_of_ble_eq_true rfl) (Nat.le_of_ble_eq_true rfl) (⟨rfl, ⟨_, rfl⟩, Or.inl ⟨by first | exact Or.inl hb | exact Or.inr ⟨nbad hx hi hk, hb1⟩, rfl⟩⟩)
  ·
    obtain ⟨i, hx, hi⟩ := inR_t hm hk (if1_1 c1)
    refine XV.run C okM_section 1 (q := (14, ([some (.ref (213)), some (.int (x)), some (.int (y)), some (.int (u))], [.int (y)]))) rfl ?_
    refine XV.callS C (As := [.int (y)]) (rest := []) (ct_M_isSection hfl (y)) (xlk_ok okM_section rfl) rfl wM_M_76 wS_M_isSection wN_M wB_M_isSection hy_M_isSection (fun q => q.elim) ⟨Nat.le_of_ble_eq_true rfl, Nat.le_of_ble_eq_true rfl⟩ ⟨Nat.le_of_ble_eq_true rfl, Nat.le_of_ble_eq_true rfl⟩ (Nat.le_of_ble_eq_true rfl) (fun r n h hp => ?_) (fun _ _ _ q => q.elim)
    obtain ⟨rfl, rfl, rfl⟩ := hp
    refine XV.if_ne C (tgt := 26) (xlk_ok okM_section rfl) rfl (fun c2 => ?_) (fun c2 => ?_)
    ·
      have hok := inG_t (if1_1 c2)
      obtain ⟨sx, hs, hsl⟩ := rg_nat (d := 23) hok rfl (by omega)
      refine XV.run C okM_section 3 (q := (29, ([some (.ref (213)), some (.int (x)), some (.int (y)), some (.int (u))], [.int (4), .int (0), .int (u)]))) rfl ?_
      refine XV.callS C (As := [.int (u), .int (0), .int (4)]) (rest := []) (ct_M_in hfl (u) (0) (4)) (xlk_ok okM_section rfl) rfl wM_M_29 wS_M_in wN_M wB_M_in hy_M_in (fun q => q.elim) ⟨Nat.le_of_ble_eq_true rfl, Nat.le_of_ble_eq_true rfl⟩ ⟨Nat.le_of_ble_eq_true rfl, Nat.le_of_ble_eq_true rfl⟩ (Nat.le_of_ble_eq_true rfl) (fun r n h hp => ?_) (fun _ _ _ q => q.elim)
      obtain ⟨rfl, rfl, rfl⟩ := hp
      refine XV.if_eq C (tgt := 45) (xlk_ok okM_section rfl) rfl (fun c3 => ?_) (fun c3 => ?_)
      ·
        have hb2 := inG_f (if1_0 c3)
        refine XV.run C okM_section 2 (q := (47, ([some (.ref (213)), some (.int (x)), some (.int (y)), some (.int (u))], [.int (2), .ref (213)]))) rfl ?_
        refine XV.callV C (As := [.int (2)]) (rest := []) (ci := 5) (ct_M_fails hfl hn (2)) (xlk_ok okM_section rfl) rfl (by omega) (by omega) rfl (mw_o) rfl wM_M_36 wI_M_fails wV_M_fails wN_M wB_M_fails hy_M_fails (fun q => q.elim) ⟨Nat.le_of_ble_eq_true rfl, Nat.le_of_ble_eq_true rfl⟩ ⟨Nat.le_of_ble_eq_true rfl, Nat.le_of_ble_eq_true rfl⟩ (Nat.le_of_ble_eq_true rfl) (fun r n h hp => ?_) (fun _ _ _ q => q.elim)
        obtain ⟨rfl, rfl, rfl⟩ := hp
        exact XV.iret C (xlk_ok okM_section rfl) hret rfl (Nat.le_of_ble_eq_true rfl) (Nat.le_of_ble_eq_true rfl) (⟨rfl, ⟨_, rfl⟩, Or.inr (Or.inl (⟨⟨nbad hx hi hk, fun q => q.elim hok.1 (fun z => z hok.2), hb2⟩, rfl⟩))⟩)
      ·
        have hok2 := inG_t (if1_1 c3)
        obtain ⟨w, hw, hwl⟩ := rg_nat (d := 4) hok2 rfl (by omega)
        refine XV.run C okM_section 4 (q := (39, ([some (.ref (213)), some (.int (x)), some (.int (y)), some (.int (u))], [.int (u), .int (y), .int (x), .ref (213)]))) rfl ?_
        refine XV.callV C (As := [.int (x), .int (y), .int (u)]) (rest := []) (ci := 5) (ct_M_ofSection hfl hn (i := i) (by omega) (hl i hi) (s := sx) (w := w) hx hs hw (by omega) (by omega)) (xlk_ok okM_section rfl) rfl (by omega) (by omega) rfl (mw_o) rfl wM_M_141 wI_M_ofSection wV_M_ofSection wN_M wB_M_ofSection hy_M_ofSection (fun q => q.elim) ⟨Nat.le_of_ble_eq_true rfl, Nat.le_of_ble_eq_true rfl⟩ ⟨Nat.le_of_ble_eq_true rfl, Nat.le_of_ble_eq_true rfl⟩ (Nat.le_of_ble_eq_true rfl) (fun r n h hp => ?_) (fun _ _ _ q => q.elim)
        obtain ⟨rfl, rfl, rfl⟩ := hp
        refine XV.run C okM_section 1 (q := (50, ([some (.ref (213)), some (.int (x)), some (.int (y)), some (.int (u))], [.int (secF (rowOf g i) sx w)]))) rfl ?_
        exact XV.iret C (xlk_ok okM_section rfl) hret rfl (Nat.le_of_ble_eq_true rfl) (Nat.le_of_ble_eq_true rfl) (⟨rfl, ⟨_, rfl⟩, Or.inr (Or.inr (⟨i, sx, w, ⟨hx, hi, hs, by omega, hw, hwl⟩, rfl, rfl⟩))⟩)
    ·
      have hb1 := inG_f (if1_0 c2)
      refine XV.run C okM_section 2 (q := (22, ([some (.ref (213)), some (.int (x)), some (.int (y)), some (.int (u))], [.int (1), .ref (213)]))) rfl ?_
      refine XV.callV C (As := [.int (1)]) (rest := []) (ci := 5) (ct_M_fails hfl hn (1)) (xlk_ok okM_section rfl) rfl (by omega) (by omega) rfl (mw_o) rfl wM_M_36 wI_M_fails wV_M_fails wN_M wB_M_fails hy_M_fails (fun q => q.elim) ⟨Nat.le_of_ble_eq_true rfl, Nat.le_of_ble_eq_true rfl⟩ ⟨Nat.le_of_ble_eq_true rfl, Nat.le_of_ble_eq_true rfl⟩ (Nat.le_of_ble_eq_true rfl) (fun r n h hp => ?_) (fun _ _ _ q => q.elim)
      obtain ⟨rfl, rfl, rfl⟩ := hp
      exact XV.iret C (xlk_ok okM_section rfl) hret rfl (Nat.le_of_ble_eq_true rfl) (Nat.le_of_ble_eq_true rfl) (⟨rfl, ⟨_, rfl⟩, Or.inl ⟨by first | exact Or.inl hb | exact Or.inr ⟨nbad hx hi hk, hb1⟩, rfl⟩⟩)
set_option maxHeartbeats 4000000 in
set_option maxRecDepth 100000 in
theorem ct_M_bestInspection {l : Launch} (hfl : l.stackTraces = false) {G : XG} {n : Nat} {h : XH} {g pa tr mx td F : Nat → Int32} (hn : 215 ≤ n) {k : Nat} (hm : g 1 = nI k) (hk : k ≤ 5) (hl : ∀ i, i < k → 0 < rowOf g i 0) (x y : Int32) : XCt l G False (Cond.code yM_bestInspection bM_bestInspection 3 (some .int)) yM_bestInspection 4 95 0 0 [.ref (213), .int (x), .int (y)] n (setM h g pa tr mx td F) (fun r' n' h' => n' = n ∧ (∃ v, r' = some (.int v)) ∧ ((((x < 0 ∨ nI k ≤ x)) ∧ h' = setM h g pa tr mx td (upd (upd F 6 0) 6 1)) ∨ ((¬ (x < 0 ∨ nI k ≤ x) ∧ (y < 1 ∨ ¬ y ≤ 24)) ∧ h' = setM h g pa tr mx td (upd (upd F 6 0) 6 2)) ∨ (∃ i w, (x = nI i ∧ i < k ∧ y = nI w ∧ 1 ≤ w ∧ w ≤ 24) ∧ r' = some (.int (nI (bestI (rowOf g i) w))) ∧ h' = setM h g pa tr mx td (upd F 6 0)))) (fun _ _ _ => False) := by
  refine XCt.of hfl (by decide +kernel) (Nat.le_of_ble_eq_true rfl) ?_
  intro p' e' s' m' g' b' t' c' C hret hname hnt hmd
  refine XV.run C okM_bestInspection 2 (q := (2, ([some (.ref (213)), some (.int (x)), some (.int (y))], [.int (0), .ref (213)]))) rfl ?_
  refine XV.putf C (ci := 5) (kf := 6) (ty := .int) (xlk_ok okM_bestInspection rfl) rfl (by decide) wF_M_25 (by omega) (by omega) (mw_o) rfl rfl rfl rfl (Nat.le_of_ble_eq_true rfl) ?_
  refine XV.cast (mw_f (upd F 6 (0))) ?_
  refine XV.run C okM_bestInspection 2 (q := (7, ([some (.ref (213)), some (.int (x)), some (.int (y))], [.int (x), .ref (213)]))) rfl ?_
  refine XV.callV C (As := [.int (x)]) (rest := []) (ci := 5) (ct_M_isRope hfl hn (x)) (xlk_ok okM_bestInspection rfl) rfl (by omega) (by omega) rfl (mw_o) rfl wM_M_73 wI_M_isRope wV_M_isRope wN_M wB_M_isRope hy_M_isRope (fun q => q.elim) ⟨Nat.le_of_ble_eq_true rfl, Nat.le_of_ble_eq_true rfl⟩ ⟨Nat.le_of_ble_eq_true rfl, Nat.le_of_ble_eq_true rfl⟩ (Nat.le_of_ble_eq_true rfl) (fun r n h hp => ?_) (fun _ _ _ q => q.elim)
  obtain ⟨rfl, rfl, rfl⟩ := hp
  refine XV.if_ne C (tgt := 19) (xlk_ok okM_bestInspection rfl) rfl (fun c1 => ?_) (fun c1 => ?_)
  ·
    obtain ⟨i, hx, hi⟩ := inR_t hm hk (if1_1 c1)
    refine XV.run C okM_bestInspection 3 (q := (23, ([some (.ref (213)), some (.int (x)), some (.int (y))], [.int (24), .int (1), .int (y)]))) rfl ?_
    refine XV.callS C (As := [.int (y), .int (1), .int (24)]) (rest := []) (ct_M_in hfl (y) (1) (24)) (xlk_ok okM_bestInspection rfl) rfl wM_M_29 wS_M_in wN_M wB_M_in hy_M_in (fun q => q.elim) ⟨Nat.le_of_ble_eq_true rfl, Nat.le_of_ble_eq_true rfl⟩ ⟨Nat.le_of_ble_eq_true rfl, Nat.le_of_ble_eq_true rfl⟩ (Nat.le_of_ble_eq_true rfl) (fun r n h hp => ?_) (fun _ _ _ q => q.elim)
    obtain ⟨rfl, rfl, rfl⟩ := hp
    refine XV.if_eq C (tgt := 38) (xlk_ok okM_bestInspection rfl) rfl (fun c2 => ?_) (fun c2 => ?_)
    ·
      have hb2 := inG_f (if1_0 c2)
      refine XV.run C okM_bestInspection 2 (q := (40, ([some (.ref (213)), some (.int (x)), some (.int (y))], [.int (2), .ref (213)]))) rfl ?_
      refine XV.callV C (As := [.int (2)]) (rest := []) (ci := 5) (ct_M_fails hfl hn (2)) (xlk_ok okM_bestInspection rfl) rfl (by omega) (by omega) rfl (mw_o) rfl wM_M_36 wI_M_fails wV_M_fails wN_M wB_M_fails hy_M_fails (fun q => q.elim) ⟨Nat.le_of_ble_eq_true rfl, Nat.le_of_ble_eq_true rfl⟩ ⟨Nat.le_of_ble_eq_true rfl, Nat.le_of_ble_eq_true rfl⟩ (Nat.le_of_ble_eq_true rfl) (fun r n h hp => ?_) (fun _ _ _ q => q.elim)
      obtain ⟨rfl, rfl, rfl⟩ := hp
      exact XV.iret C (xlk_ok okM_bestInspection rfl) hret rfl (Nat.le_of_ble_eq_true rfl) (Nat.le_of_ble_eq_true rfl) (⟨rfl, ⟨_, rfl⟩, Or.inr (Or.inl (⟨⟨nbad hx hi hk, hb2⟩, rfl⟩))⟩)
    ·
      have hok := inG_t (if1_1 c2)
      obtain ⟨w, hw, hw1, hwl⟩ := rg1_nat (d := 24) hok rfl (by omega)
      refine XV.run C okM_bestInspection 3 (q := (32, ([some (.ref (213)), some (.int (x)), some (.int (y))], [.int (y), .int (x), .ref (213)]))) rfl ?_
      refine XV.callV C (As := [.int (x), .int (y)]) (rest := []) (ci := 5) (ct_M_best hfl hn hm hk hl (i := i) hi (v := w) hx hw (by omega) (by omega)) (xlk_ok okM_bestInspection rfl) rfl (by omega) (by omega) rfl (mw_o) rfl wM_M_162 wI_M_best wV_M_best wN_M wB_M_best hy_M_best (fun q => q.elim) ⟨Nat.le_of_ble_eq_true rfl, Nat.le_of_ble_eq_true rfl⟩ ⟨Nat.le_of_ble_eq_true rfl, Nat.le_of_ble_eq_true rfl⟩ (Nat.le_of_ble_eq_true rfl) (fun r n h hp => ?_) (fun _ _ _ q => q.elim)
      obtain ⟨rfl, rfl, rfl⟩ := hp
      refine XV.run C okM_bestInspection 1 (q := (43, ([some (.ref (213)), some (.int (x)), some (.int (y))], [.int (nI (bestI (rowOf g i) w))]))) rfl ?_
      exact XV.iret C (xlk_ok okM_bestInspection rfl) hret rfl (Nat.le_of_ble_eq_true rfl) (Nat.le_of_ble_eq_true rfl) (⟨rfl, ⟨_, rfl⟩, Or.inr (Or.inr (⟨i, w, ⟨hx, hi, hw, hw1, hwl⟩, rfl, rfl⟩))⟩)
  ·
    have hb := inR_f hm hk (if1_0 c1)
    refine XV.run C okM_bestInspection 2 (q := (15, ([some (.ref (213)), some (.int (x)), some (.int (y))], [.int (1), .ref (213)]))) rfl ?_
    refine XV.callV C (As := [.int (1)]) (rest := []) (ci := 5) (ct_M_fails hfl hn (1)) (xlk_ok okM_bestInspection rfl) rfl (by omega) (by omega) rfl (mw_o) rfl wM_M_36 wI_M_fails wV_M_fails wN_M wB_M_fails hy_M_fails (fun q => q.elim) ⟨Nat.le_of_ble_eq_true rfl, Nat.le_of_ble_eq_true rfl⟩ ⟨Nat.le_of_ble_eq_true rfl, Nat.le_of_ble_eq_true rfl⟩ (Nat.le_of_ble_eq_true rfl) (fun r n h hp => ?_) (fun _ _ _ q => q.elim)
    obtain ⟨rfl, rfl, rfl⟩ := hp
    exact XV.iret C (xlk_ok okM_bestInspection rfl) hret rfl (Nat.le_of_ble_eq_true rfl) (Nat.le_of_ble_eq_true rfl) (⟨rfl, ⟨_, rfl⟩, Or.inl (⟨hb, rfl⟩)⟩)
set_option maxHeartbeats 4000000 in
set_option maxRecDepth 100000 in
theorem ct_M_clearBuffer {l : Launch} (hfl : l.stackTraces = false) {G : XG} {n : Nat} {h : XH} {g pa tr mx td F : Nat → Int32} (hn : 215 ≤ n) : XCt l G False (Cond.code yM_clearBuffer bM_clearBuffer 2 (some .int)) yM_clearBuffer 0 0 0 0 [.ref (213)] n (setM h g pa tr mx td F) (fun r' n' h' => r' = some (.int (upd F 6 0 5)) ∧ n' = n ∧ h' = setM h g pa tr mx td (upd (upd F 6 0) 5 0)) (fun _ _ _ => False) := by
  refine XCt.of hfl (by decide +kernel) (Nat.le_of_ble_eq_true rfl) ?_
  intro p' e' s' m' g' b' t' c' C hret hname hnt hmd
  refine XV.run C okM_clearBuffer 2 (q := (2, ([some (.ref (213)), none], [.int (0), .ref (213)]))) rfl ?_
  refine XV.putf C (ci := 5) (kf := 6) (ty := .int) (xlk_ok okM_clearBuffer rfl) rfl (by decide) wF_M_25 (by omega) (by omega) (mw_o) rfl rfl rfl rfl (Nat.le_of_ble_eq_true rfl) ?_
  refine XV.cast (mw_f (upd F 6 (0))) ?_
  refine XV.run C okM_clearBuffer 1 (q := (6, ([some (.ref (213)), none], [.ref (213)]))) rfl ?_
  refine XV.getf C (ci := 5) (kf := 5) (v := .int ((upd F 6 (0)) 5)) (xlk_ok okM_clearBuffer rfl) rfl (by decide) wF_M_103 (by omega) (by omega) (mw_o) rfl ?_
  refine XV.run C okM_clearBuffer 3 (q := (12, ([some (.ref (213)), some (.int ((upd F 6 (0)) 5))], [.int (0), .ref (213)]))) rfl ?_
  refine XV.putf C (ci := 5) (kf := 5) (ty := .int) (xlk_ok okM_clearBuffer rfl) rfl (by decide) wF_M_103 (by omega) (by omega) (mw_o) rfl rfl rfl rfl (Nat.le_of_ble_eq_true rfl) ?_
  refine XV.cast (mw_f (upd (upd F 6 (0)) 5 (0))) ?_
  refine XV.run C okM_clearBuffer 1 (q := (16, ([some (.ref (213)), some (.int ((upd F 6 (0)) 5))], [.int ((upd F 6 (0)) 5)]))) rfl ?_
  exact XV.iret C (xlk_ok okM_clearBuffer rfl) hret rfl (Nat.le_of_ble_eq_true rfl) (Nat.le_of_ble_eq_true rfl) (⟨rfl, rfl, rfl⟩)
set_option maxHeartbeats 4000000 in
set_option maxRecDepth 100000 in
theorem ct_M_ifInspected {l : Launch} (hfl : l.stackTraces = false) {G : XG} {n : Nat} {h : XH} {g pa tr mx td F : Nat → Int32} (hn : 215 ≤ n) {k : Nat} (hm : g 1 = nI k) (hk : k ≤ 5) (hl : ∀ i, i < k → 0 < rowOf g i 0) {z : Nat} (hz : g 2 = nI z) (z1 : 1 ≤ z) (z2 : z ≤ 12) (x y u : Int32) : XCt l G False (Cond.code yM_ifInspected bM_ifInspected 4 (some .int)) yM_ifInspected 6 145 0 0 [.ref (213), .int (x), .int (y), .int (u)] n (setM h g pa tr mx td F) (fun r' n' h' => n' = n ∧ (∃ v, r' = some (.int v)) ∧ ((((x < 0 ∨ nI k ≤ x) ∨ ¬ (x < 0 ∨ nI k ≤ x) ∧ ((y < 0 ∨ ¬ y ≤ 23) ∨ (u < 0 ∨ ¬ u ≤ 23))) ∧ h' = setM h g pa tr mx td (upd (upd F 6 0) 6 1)) ∨ ((¬ (x < 0 ∨ nI k ≤ x) ∧ ¬ (y < 0 ∨ ¬ y ≤ 23) ∧ ¬ (u < 0 ∨ ¬ u ≤ 23) ∧ u < y) ∧ h' = setM h g pa tr mx td (upd (upd F 6 0) 6 2)) ∨ (∃ i a b, (x = nI i ∧ i < k ∧ y = nI a ∧ u = nI b ∧ a ≤ b ∧ b < 24) ∧ r' = some (.int (reasonM g (rLook (rowOf g i) a (b + 1 - a) (g 0)) z)) ∧ ∃ tr', h' = setM h g pa tr' mx td (upd F 6 0)))) (fun _ _ _ => False) := by
  refine XCt.of hfl (by decide +kernel) (Nat.le_of_ble_eq_true rfl) ?_
  intro p' e' s' m' g' b' t' c' C hret hname hnt hmd
  refine XV.run C okM_ifInspected 2 (q := (2, ([some (.ref (213)), some (.int (x)), some (.int (y)), some (.int (u))], [.int (0), .ref (213)]))) rfl ?_
  refine XV.putf C (ci := 5) (kf := 6) (ty := .int) (xlk_ok okM_ifInspected rfl) rfl (by decide) wF_M_25 (by omega) (by omega) (mw_o) rfl rfl rfl rfl (Nat.le_of_ble_eq_true rfl) ?_
  refine XV.cast (mw_f (upd F 6 (0))) ?_
  refine XV.run C okM_ifInspected 2 (q := (7, ([some (.ref (213)), some (.int (x)), some (.int (y)), some (.int (u))], [.int (x), .ref (213)]))) rfl ?_
  refine XV.callV C (As := [.int (x)]) (rest := []) (ci := 5) (ct_M_isRope hfl hn (x)) (xlk_ok okM_ifInspected rfl) rfl (by omega) (by omega) rfl (mw_o) rfl wM_M_73 wI_M_isRope wV_M_isRope wN_M wB_M_isRope hy_M_isRope (fun q => q.elim) ⟨Nat.le_of_ble_eq_true rfl, Nat.le_of_ble_eq_true rfl⟩ ⟨Nat.le_of_ble_eq_true rfl, Nat.le_of_ble_eq_true rfl⟩ (Nat.le_of_ble_eq_true rfl) (fun r n h hp => ?_) (fun _ _ _ q => q.elim)
  obtain ⟨rfl, rfl, rfl⟩ := hp
  refine XV.if_eq C (tgt := 27) (xlk_ok okM_ifInspected rfl) rfl (fun c1 => ?_) (fun c1 => ?_)
  ·
    have hb := inR_f hm hk (if1_0 c1)
    refine XV.run C okM_ifInspected 2 (q := (29, ([some (.ref (213)), some (.int (x)), some (.int (y)), some (.int (u))], [.int (1), .ref (213)]))) rfl ?_
    refine XV.callV C (As := [.int (1)]) (rest := []) (ci := 5) (ct_M_fails hfl hn (1)) (xlk_ok okM_ifInspected rfl) rfl (by omega) (by omega) rfl (mw_o) rfl wM_M_36 wI_M_fails wV_M_fails wN_M wB_M_fails hy_M_fails (fun q => q.elim) ⟨Nat.le_of_ble_eq_true rfl, Nat.le_of_ble_eq_true rfl⟩ ⟨Nat.le_of_ble_eq_true rfl, Nat.le_of_ble_eq_true rfl⟩ (Nat.le_of_ble_eq_true rfl) (fun r n h hp => ?_) (fun _ _ _ q => q.elim)
    obtain ⟨rfl, rfl, rfl⟩ := hp
    exact XV.iret C (xlk_ok okM_ifInspected rfl) hret rfl (Nat.le_of_ble_eq_true rfl) (Nat.le_of_ble_eq_true rfl) (⟨rfl, ⟨_, rfl⟩, Or.inl ⟨by first | exact Or.inl hb | exact Or.inr ⟨nbad hx hi hk, Or.inl hb1⟩ | exact Or.inr ⟨nbad hx hi hk, Or.inr hb2⟩, rfl⟩⟩)
  ·
    obtain ⟨i, hx, hi⟩ := inR_t hm hk (if1_1 c1)
    refine XV.run C okM_ifInspected 1 (q := (14, ([some (.ref (213)), some (.int (x)), some (.int (y)), some (.int (u))], [.int (y)]))) rfl ?_
    refine XV.callS C (As := [.int (y)]) (rest := []) (ct_M_isSection hfl (y)) (xlk_ok okM_ifInspected rfl) rfl wM_M_76 wS_M_isSection wN_M wB_M_isSection hy_M_isSection (fun q => q.elim) ⟨Nat.le_of_ble_eq_true rfl, Nat.le_of_ble_eq_true rfl⟩ ⟨Nat.le_of_ble_eq_true rfl, Nat.le_of_ble_eq_true rfl⟩ (Nat.le_of_ble_eq_true rfl) (fun r n h hp => ?_) (fun _ _ _ q => q.elim)
    obtain ⟨rfl, rfl, rfl⟩ := hp
    refine XV.if_eq C (tgt := 27) (xlk_ok okM_ifInspected rfl) rfl (fun c2 => ?_) (fun c2 => ?_)
    ·
      have hb1 := inG_f (if1_0 c2)
      refine XV.run C okM_ifInspected 2 (q := (29, ([some (.ref (213)), some (.int (x)), some (.int (y)), some (.int (u))], [.int (1), .ref (213)]))) rfl ?_
      refine XV.callV C (As := [.int (1)]) (rest := []) (ci := 5) (ct_M_fails hfl hn (1)) (xlk_ok okM_ifInspected rfl) rfl (by omega) (by omega) rfl (mw_o) rfl wM_M_36 wI_M_fails wV_M_fails wN_M wB_M_fails hy_M_fails (fun q => q.elim) ⟨Nat.le_of_ble_eq_true rfl, Nat.le_of_ble_eq_true rfl⟩ ⟨Nat.le_of_ble_eq_true rfl, Nat.le_of_ble_eq_true rfl⟩ (Nat.le_of_ble_eq_true rfl) (fun r n h hp => ?_) (fun _ _ _ q => q.elim)
      obtain ⟨rfl, rfl, rfl⟩ := hp
      exact XV.iret C (xlk_ok okM_ifInspected rfl) hret rfl (Nat.le_of_ble_eq_true rfl) (Nat.le_of_ble_eq_true rfl) (⟨rfl, ⟨_, rfl⟩, Or.inl ⟨by first | exact Or.inl hb | exact Or.inr ⟨nbad hx hi hk, Or.inl hb1⟩ | exact Or.inr ⟨nbad hx hi hk, Or.inr hb2⟩, rfl⟩⟩)
    ·
      have ok1 := inG_t (if1_1 c2)
      obtain ⟨a, hy, hal⟩ := rg_nat (d := 23) ok1 rfl (by omega)
      refine XV.run C okM_ifInspected 1 (q := (21, ([some (.ref (213)), some (.int (x)), some (.int (y)), some (.int (u))], [.int (u)]))) rfl ?_
      refine XV.callS C (As := [.int (u)]) (rest := []) (ct_M_isSection hfl (u)) (xlk_ok okM_ifInspected rfl) rfl wM_M_76 wS_M_isSection wN_M wB_M_isSection hy_M_isSection (fun q => q.elim) ⟨Nat.le_of_ble_eq_true rfl, Nat.le_of_ble_eq_true rfl⟩ ⟨Nat.le_of_ble_eq_true rfl, Nat.le_of_ble_eq_true rfl⟩ (Nat.le_of_ble_eq_true rfl) (fun r n h hp => ?_) (fun _ _ _ q => q.elim)
      obtain ⟨rfl, rfl, rfl⟩ := hp
      refine XV.if_ne C (tgt := 33) (xlk_ok okM_ifInspected rfl) rfl (fun c3 => ?_) (fun c3 => ?_)
      ·
        have ok2 := inG_t (if1_1 c3)
        obtain ⟨b, hu, hbl⟩ := rg_nat (d := 23) ok2 rfl (by omega)
        refine XV.run C okM_ifInspected 2 (q := (35, ([some (.ref (213)), some (.int (x)), some (.int (y)), some (.int (u))], [.int (y), .int (u)]))) rfl ?_
        refine XV.icmp_ge C (tgt := 46) (xlk_ok okM_ifInspected rfl) rfl (fun c4 => ?_) (fun c4 => ?_)
        ·
          have hab : a ≤ b := by
            rw [hy, hu] at c4
            exact (nI_leI (by omega) (by omega)).mp c4
          refine XV.run C okM_ifInspected 4 (q := (50, ([some (.ref (213)), some (.int (x)), some (.int (y)), some (.int (u))], [.int (u), .int (y), .int (x), .ref (213)]))) rfl ?_
          refine XV.callV C (As := [.int (x), .int (y), .int (u)]) (rest := []) (ci := 5) (ct_M_reasonThen hfl hn hz z1 z2 (i := i) (by omega) (hl i hi) (a := a) (v := b + 1 - a) (b := b) hx hy hu (by omega) (by omega)) (xlk_ok okM_ifInspected rfl) rfl (by omega) (by omega) rfl (mw_o) rfl wM_M_156 wI_M_reasonThen wV_M_reasonThen wN_M wB_M_reasonThen hy_M_reasonThen (fun q => q.elim) ⟨Nat.le_of_ble_eq_true rfl, Nat.le_of_ble_eq_true rfl⟩ ⟨Nat.le_of_ble_eq_true rfl, Nat.le_of_ble_eq_true rfl⟩ (Nat.le_of_ble_eq_true rfl) (fun r n h hp => ?_) (fun _ _ _ q => q.elim)
          obtain ⟨rfl, rfl, tr1, rfl⟩ := hp
          exact XV.iret C (xlk_ok okM_ifInspected rfl) hret rfl (Nat.le_of_ble_eq_true rfl) (Nat.le_of_ble_eq_true rfl) (⟨rfl, ⟨_, rfl⟩, Or.inr (Or.inr (⟨i, a, b, ⟨hx, hi, hy, hu, hab, by omega⟩, rfl, _, rfl⟩))⟩)
        ·
          refine XV.run C okM_ifInspected 2 (q := (40, ([some (.ref (213)), some (.int (x)), some (.int (y)), some (.int (u))], [.int (2), .ref (213)]))) rfl ?_
          refine XV.callV C (As := [.int (2)]) (rest := []) (ci := 5) (ct_M_fails hfl hn (2)) (xlk_ok okM_ifInspected rfl) rfl (by omega) (by omega) rfl (mw_o) rfl wM_M_36 wI_M_fails wV_M_fails wN_M wB_M_fails hy_M_fails (fun q => q.elim) ⟨Nat.le_of_ble_eq_true rfl, Nat.le_of_ble_eq_true rfl⟩ ⟨Nat.le_of_ble_eq_true rfl, Nat.le_of_ble_eq_true rfl⟩ (Nat.le_of_ble_eq_true rfl) (fun r n h hp => ?_) (fun _ _ _ q => q.elim)
          obtain ⟨rfl, rfl, rfl⟩ := hp
          refine XV.run C okM_ifInspected 1 (q := (53, ([some (.ref (213)), some (.int (x)), some (.int (y)), some (.int (u))], [.int (0)]))) rfl ?_
          exact XV.iret C (xlk_ok okM_ifInspected rfl) hret rfl (Nat.le_of_ble_eq_true rfl) (Nat.le_of_ble_eq_true rfl) (⟨rfl, ⟨_, rfl⟩, Or.inr (Or.inl (⟨⟨nbad hx hi hk, fun q => q.elim ok1.1 (fun z => z ok1.2), fun q => q.elim ok2.1 (fun z => z ok2.2), Int32.not_le.mp c4⟩, rfl⟩))⟩)
      ·
        have hb2 := inG_f (if1_0 c3)
        refine XV.run C okM_ifInspected 2 (q := (29, ([some (.ref (213)), some (.int (x)), some (.int (y)), some (.int (u))], [.int (1), .ref (213)]))) rfl ?_
        refine XV.callV C (As := [.int (1)]) (rest := []) (ci := 5) (ct_M_fails hfl hn (1)) (xlk_ok okM_ifInspected rfl) rfl (by omega) (by omega) rfl (mw_o) rfl wM_M_36 wI_M_fails wV_M_fails wN_M wB_M_fails hy_M_fails (fun q => q.elim) ⟨Nat.le_of_ble_eq_true rfl, Nat.le_of_ble_eq_true rfl⟩ ⟨Nat.le_of_ble_eq_true rfl, Nat.le_of_ble_eq_true rfl⟩ (Nat.le_of_ble_eq_true rfl) (fun r n h hp => ?_) (fun _ _ _ q => q.elim)
        obtain ⟨rfl, rfl, rfl⟩ := hp
        exact XV.iret C (xlk_ok okM_ifInspected rfl) hret rfl (Nat.le_of_ble_eq_true rfl) (Nat.le_of_ble_eq_true rfl) (⟨rfl, ⟨_, rfl⟩, Or.inl ⟨by first | exact Or.inl hb | exact Or.inr ⟨nbad hx hi hk, Or.inl hb1⟩ | exact Or.inr ⟨nbad hx hi hk, Or.inr hb2⟩, rfl⟩⟩)
set_option maxHeartbeats 4000000 in
set_option maxRecDepth 100000 in
theorem ct_M_countedShare {l : Launch} (hfl : l.stackTraces = false) {G : XG} {n : Nat} {h : XH} {g pa tr mx td F : Nat → Int32} (hn : 215 ≤ n) {k : Nat} (hm : g 1 = nI k) (hk : k ≤ 5) (hl : ∀ i, i < k → 0 < rowOf g i 0) (hdv : ¬ sumRK g true k = 0 → vf_n64 (FP.ddiv (FP.i2d (sumRK g false k)) (FP.i2d (sumRK g true k)))) : XCt l G False (Cond.code yM_countedShare bM_countedShare 1 (some .double)) yM_countedShare 4 92 0 0 [.ref (213)] n (setM h g pa tr mx td F) (fun r' n' h' => r' = some (.double (shrK g k)) ∧ n' = n ∧ h' = setM h g pa tr mx td (upd F 6 0)) (fun _ _ _ => False) := by
  refine XCt.of hfl (by decide +kernel) (Nat.le_of_ble_eq_true rfl) ?_
  intro p' e' s' m' g' b' t' c' C hret hname hnt hmd
  refine XV.run C okM_countedShare 2 (q := (2, ([some (.ref (213))], [.int (0), .ref (213)]))) rfl ?_
  refine XV.putf C (ci := 5) (kf := 6) (ty := .int) (xlk_ok okM_countedShare rfl) rfl (by decide) wF_M_25 (by omega) (by omega) (mw_o) rfl rfl rfl rfl (Nat.le_of_ble_eq_true rfl) ?_
  refine XV.cast (mw_f (upd F 6 (0))) ?_
  refine XV.run C okM_countedShare 1 (q := (6, ([some (.ref (213))], [.ref (213)]))) rfl ?_
  refine XV.callV C (As := []) (rest := []) (ci := 5) (ct_M_share hfl hn hm hk hl hdv) (xlk_ok okM_countedShare rfl) rfl (by omega) (by omega) rfl (mw_o) rfl wM_M_174 wI_M_share wV_M_share wN_M wB_M_share hy_M_share (fun q => q.elim) ⟨Nat.le_of_ble_eq_true rfl, Nat.le_of_ble_eq_true rfl⟩ ⟨Nat.le_of_ble_eq_true rfl, Nat.le_of_ble_eq_true rfl⟩ (Nat.le_of_ble_eq_true rfl) (fun r n h hp => ?_) (fun _ _ _ q => q.elim)
  obtain ⟨rfl, rfl, rfl⟩ := hp
  exact XV.dret C (xlk_ok okM_countedShare rfl) hret (Nat.le_of_ble_eq_true rfl) (Nat.le_of_ble_eq_true rfl) (⟨rfl, rfl, rfl⟩)
set_option maxHeartbeats 4000000 in
set_option maxRecDepth 100000 in
theorem ct_M_window {l : Launch} (hfl : l.stackTraces = false) {G : XG} {n : Nat} {h : XH} {g pa tr mx td F : Nat → Int32} (hn : 215 ≤ n) {k : Nat} (hm : g 1 = nI k) (hk : k ≤ 5) (hl : ∀ i, i < k → 0 < rowOf g i 0) {z : Nat} (hz : g 2 = nI z) (z1 : 1 ≤ z) (z2 : z ≤ 12) (x y u : Int32) : XCt l G False (Cond.code yM_window bM_window 4 (some .int)) yM_window 2 48 0 0 [.ref (213), .int (x), .int (y), .int (u)] n (setM h g pa tr mx td F) (fun r' n' h' => n' = n ∧ (∃ v, r' = some (.int v)) ∧ ((((x < 0 ∨ nI k ≤ x) ∨ ¬ (x < 0 ∨ nI k ≤ x) ∧ (y < 0 ∨ ¬ y ≤ nI (25 - z) - 1)) ∧ h' = setM h g pa tr mx td (upd (upd F 6 0) 6 1)) ∨ ((¬ (x < 0 ∨ nI k ≤ x) ∧ ¬ (y < 0 ∨ ¬ y ≤ nI (25 - z) - 1) ∧ (u < 0 ∨ ¬ u ≤ 1)) ∧ h' = setM h g pa tr mx td (upd (upd F 6 0) 6 2)) ∨ (∃ i j w, (x = nI i ∧ i < k ∧ y = nI j ∧ j < 25 - z ∧ u = nI w ∧ w ≤ 1) ∧ r' = some (.int (winS (rowOf g i) (decide (w = 1)) z j)) ∧ h' = setM h g pa tr mx td (upd F 6 0)))) (fun _ _ _ => False) := by
  refine XCt.of hfl (by decide +kernel) (Nat.le_of_ble_eq_true rfl) ?_
  intro p' e' s' m' g' b' t' c' C hret hname hnt hmd
  refine XV.run C okM_window 2 (q := (2, ([some (.ref (213)), some (.int (x)), some (.int (y)), some (.int (u))], [.int (0), .ref (213)]))) rfl ?_
  refine XV.putf C (ci := 5) (kf := 6) (ty := .int) (xlk_ok okM_window rfl) rfl (by decide) wF_M_25 (by omega) (by omega) (mw_o) rfl rfl rfl rfl (Nat.le_of_ble_eq_true rfl) ?_
  refine XV.cast (mw_f (upd F 6 (0))) ?_
  refine XV.run C okM_window 2 (q := (7, ([some (.ref (213)), some (.int (x)), some (.int (y)), some (.int (u))], [.int (x), .ref (213)]))) rfl ?_
  refine XV.callV C (As := [.int (x)]) (rest := []) (ci := 5) (ct_M_isRope hfl hn (x)) (xlk_ok okM_window rfl) rfl (by omega) (by omega) rfl (mw_o) rfl wM_M_73 wI_M_isRope wV_M_isRope wN_M wB_M_isRope hy_M_isRope (fun q => q.elim) ⟨Nat.le_of_ble_eq_true rfl, Nat.le_of_ble_eq_true rfl⟩ ⟨Nat.le_of_ble_eq_true rfl, Nat.le_of_ble_eq_true rfl⟩ (Nat.le_of_ble_eq_true rfl) (fun r n h hp => ?_) (fun _ _ _ q => q.elim)
  obtain ⟨rfl, rfl, rfl⟩ := hp
  refine XV.if_eq C (tgt := 27) (xlk_ok okM_window rfl) rfl (fun c1 => ?_) (fun c1 => ?_)
  ·
    have hb := inR_f hm hk (if1_0 c1)
    refine XV.run C okM_window 2 (q := (29, ([some (.ref (213)), some (.int (x)), some (.int (y)), some (.int (u))], [.int (1), .ref (213)]))) rfl ?_
    refine XV.callV C (As := [.int (1)]) (rest := []) (ci := 5) (ct_M_fails hfl hn (1)) (xlk_ok okM_window rfl) rfl (by omega) (by omega) rfl (mw_o) rfl wM_M_36 wI_M_fails wV_M_fails wN_M wB_M_fails hy_M_fails (fun q => q.elim) ⟨Nat.le_of_ble_eq_true rfl, Nat.le_of_ble_eq_true rfl⟩ ⟨Nat.le_of_ble_eq_true rfl, Nat.le_of_ble_eq_true rfl⟩ (Nat.le_of_ble_eq_true rfl) (fun r n h hp => ?_) (fun _ _ _ q => q.elim)
    obtain ⟨rfl, rfl, rfl⟩ := hp
    exact XV.iret C (xlk_ok okM_window rfl) hret rfl (Nat.le_of_ble_eq_true rfl) (Nat.le_of_ble_eq_true rfl) (⟨rfl, ⟨_, rfl⟩, Or.inl ⟨by first | exact Or.inl hb | exact Or.inr ⟨nbad hx hi hk, hb1⟩, rfl⟩⟩)
  ·
    obtain ⟨i, hx, hi⟩ := inR_t hm hk (if1_1 c1)
    refine XV.run C okM_window 3 (q := (16, ([some (.ref (213)), some (.int (x)), some (.int (y)), some (.int (u))], [.ref (213), .int (0), .int (y)]))) rfl ?_
    refine XV.callV C (As := []) (rest := [.int (0), .int (y)]) (ci := 5) (ct_M_windows hfl hn hz z1 z2) (xlk_ok okM_window rfl) rfl (by omega) (by omega) rfl (mw_o) rfl wM_M_44 wI_M_windows wV_M_windows wN_M wB_M_windows hy_M_windows (fun q => q.elim) ⟨Nat.le_of_ble_eq_true rfl, Nat.le_of_ble_eq_true rfl⟩ ⟨Nat.le_of_ble_eq_true rfl, Nat.le_of_ble_eq_true rfl⟩ (Nat.le_of_ble_eq_true rfl) (fun r n h hp => ?_) (fun _ _ _ q => q.elim)
    obtain ⟨rfl, rfl, rfl⟩ := hp
    refine XV.run C okM_window 2 (q := (21, ([some (.ref (213)), some (.int (x)), some (.int (y)), some (.int (u))], [.int ((nI (25 - z)) - 1), .int (0), .int (y)]))) rfl ?_
    refine XV.callS C (As := [.int (y), .int (0), .int ((nI (25 - z)) - 1)]) (rest := []) (ct_M_in hfl (y) (0) ((nI (25 - z)) - 1)) (xlk_ok okM_window rfl) rfl wM_M_29 wS_M_in wN_M wB_M_in hy_M_in (fun q => q.elim) ⟨Nat.le_of_ble_eq_true rfl, Nat.le_of_ble_eq_true rfl⟩ ⟨Nat.le_of_ble_eq_true rfl, Nat.le_of_ble_eq_true rfl⟩ (Nat.le_of_ble_eq_true rfl) (fun r n h hp => ?_) (fun _ _ _ q => q.elim)
    obtain ⟨rfl, rfl, rfl⟩ := hp
    refine XV.if_ne C (tgt := 33) (xlk_ok okM_window rfl) rfl (fun c2 => ?_) (fun c2 => ?_)
    ·
      have ok1 := inG_t (if1_1 c2)
      obtain ⟨j, hy, hjl⟩ := rg_nat (d := 24 - z) ok1 (by rw [nI_m1 (by omega)]; exact congrArg nI (by omega)) (by omega)
      refine XV.run C okM_window 3 (q := (36, ([some (.ref (213)), some (.int (x)), some (.int (y)), some (.int (u))], [.int (1), .int (0), .int (u)]))) rfl ?_
      refine XV.callS C (As := [.int (u), .int (0), .int (1)]) (rest := []) (ct_M_in hfl (u) (0) (1)) (xlk_ok okM_window rfl) rfl wM_M_29 wS_M_in wN_M wB_M_in hy_M_in (fun q => q.elim) ⟨Nat.le_of_ble_eq_true rfl, Nat.le_of_ble_eq_true rfl⟩ ⟨Nat.le_of_ble_eq_true rfl, Nat.le_of_ble_eq_true rfl⟩ (Nat.le_of_ble_eq_true rfl) (fun r n h hp => ?_) (fun _ _ _ q => q.elim)
      obtain ⟨rfl, rfl, rfl⟩ := hp
      refine XV.if_eq C (tgt := 73) (xlk_ok okM_window rfl) rfl (fun c3 => ?_) (fun c3 => ?_)
      ·
        have hb2 := inG_f (if1_0 c3)
        refine XV.run C okM_window 2 (q := (75, ([some (.ref (213)), some (.int (x)), some (.int (y)), some (.int (u))], [.int (2), .ref (213)]))) rfl ?_
        refine XV.callV C (As := [.int (2)]) (rest := []) (ci := 5) (ct_M_fails hfl hn (2)) (xlk_ok okM_window rfl) rfl (by omega) (by omega) rfl (mw_o) rfl wM_M_36 wI_M_fails wV_M_fails wN_M wB_M_fails hy_M_fails (fun q => q.elim) ⟨Nat.le_of_ble_eq_true rfl, Nat.le_of_ble_eq_true rfl⟩ ⟨Nat.le_of_ble_eq_true rfl, Nat.le_of_ble_eq_true rfl⟩ (Nat.le_of_ble_eq_true rfl) (fun r n h hp => ?_) (fun _ _ _ q => q.elim)
        obtain ⟨rfl, rfl, rfl⟩ := hp
        exact XV.iret C (xlk_ok okM_window rfl) hret rfl (Nat.le_of_ble_eq_true rfl) (Nat.le_of_ble_eq_true rfl) (⟨rfl, ⟨_, rfl⟩, Or.inr (Or.inl (⟨⟨nbad hx hi hk, fun q => q.elim ok1.1 (fun z => z ok1.2), hb2⟩, rfl⟩))⟩)
      ·
        have ok2 := inG_t (if1_1 c3)
        obtain ⟨w, hu, hwl⟩ := rg_nat (d := 1) ok2 rfl (by omega)
        refine XV.run C okM_window 1 (q := (43, ([some (.ref (213)), some (.int (x)), some (.int (y)), some (.int (u))], [.ref (213)]))) rfl ?_
        refine XV.getf C (ci := 5) (kf := 0) (v := .ref (214)) (xlk_ok okM_window rfl) rfl (by decide) wF_M_7 (by omega) (by omega) (mw_o) rfl ?_
        refine XV.run C okM_window 1 (q := (47, ([some (.ref (213)), some (.int (x)), some (.int (y)), some (.int (u))], [.int (x), .ref (214)]))) rfl ?_
        refine XV.callS C (As := [.int (x)]) (rest := [.ref (214)]) (ct_M_row hfl (i := i) (hx)) (xlk_ok okM_window rfl) rfl wM_M_59 wS_M_row wN_M wB_M_row hy_M_row (fun q => q.elim) ⟨Nat.le_of_ble_eq_true rfl, Nat.le_of_ble_eq_true rfl⟩ ⟨Nat.le_of_ble_eq_true rfl, Nat.le_of_ble_eq_true rfl⟩ (Nat.le_of_ble_eq_true rfl) (fun r n h hp => ?_) (fun _ _ _ q => q.elim)
        obtain ⟨rfl, rfl, rfl⟩ := hp
        refine XV.run C okM_window 2 (q := (52, ([some (.ref (213)), some (.int (x)), some (.int (y)), some (.int (u))], [.ref (213), .int (y), .int (nI (10 + 99 * i)), .ref (214)]))) rfl ?_
        refine XV.getf C (ci := 5) (kf := 0) (v := .ref (214)) (xlk_ok okM_window rfl) rfl (by decide) wF_M_7 (by omega) (by omega) (mw_o) rfl ?_
        refine XV.run C okM_window 1 (q := (56, ([some (.ref (213)), some (.int (x)), some (.int (y)), some (.int (u))], [.int (2), .ref (214), .int (y), .int (nI (10 + 99 * i)), .ref (214)]))) rfl ?_
        refine XV.ialdC C (N := 505) (f := g) (a := 2) (xlk_ok okM_window rfl) (by omega) (by omega) (mw_1) (rfl) (by decide) (by decide) ?_
        refine XV.run C okM_window 2 (q := (59, ([some (.ref (213)), some (.int (x)), some (.int (y)), some (.int (u))], [.int (1), .int (u), .int (g 2), .int (y), .int (nI (10 + 99 * i)), .ref (214)]))) rfl ?_
        refine XV.icmp_ne C (tgt := 66) (xlk_ok okM_window rfl) rfl (fun c4 => ?_) (fun c4 => ?_)
        ·
          have hw0 : w = 0 := by
            rcases (show w = 0 ∨ w = 1 by omega) with q | q
            · exact q
            · exact absurd (by rw [hu, q]; rfl) c4
          refine XV.run C okM_window 1 (q := (67, ([some (.ref (213)), some (.int (x)), some (.int (y)), some (.int (u))], [.int (0), .int (g 2), .int (y), .int (nI (10 + 99 * i)), .ref (214)]))) rfl ?_
          refine XV.callS C (As := [.ref (214), .int (nI (10 + 99 * i)), .int (y), .int (g 2), .int (0)]) (rest := []) (ct_M_sumOf hfl (X := 10 + 99 * i) (mw_1) (by omega) (by omega) (by decide) (by omega) (i := j) (v := z) false (rfl) (hy) (hz) (by omega) (fun _ => ne_of_gt (hl i hi))) (xlk_ok okM_window rfl) rfl wM_M_48 wS_M_sumOf wN_M wB_M_sumOf hy_M_sumOf (fun q => q.elim) ⟨Nat.le_of_ble_eq_true rfl, Nat.le_of_ble_eq_true rfl⟩ ⟨Nat.le_of_ble_eq_true rfl, Nat.le_of_ble_eq_true rfl⟩ (Nat.le_of_ble_eq_true rfl) (fun r n h hp => ?_) (fun _ _ _ q => q.elim)
          obtain ⟨rfl, rfl, rfl⟩ := hp
          refine XV.run C okM_window 1 (q := (78, ([some (.ref (213)), some (.int (x)), some (.int (y)), some (.int (u))], [.int (winS (rowOf g i) false z j)]))) rfl ?_
          exact XV.iret C (xlk_ok okM_window rfl) hret rfl (Nat.le_of_ble_eq_true rfl) (Nat.le_of_ble_eq_true rfl) (⟨rfl, ⟨_, rfl⟩, Or.inr (Or.inr (⟨i, j, w, ⟨hx, hi, hy, by omega, hu, hwl⟩, by first | (subst hw0; rfl) | (subst hw1; rfl), rfl⟩))⟩)
        ·
          have hw1 : w = 1 := (nI_eq (b := 1) (by omega) (by omega)).mp (hu.symm.trans c4)
          refine XV.run C okM_window 2 (q := (67, ([some (.ref (213)), some (.int (x)), some (.int (y)), some (.int (u))], [.int (1), .int (g 2), .int (y), .int (nI (10 + 99 * i)), .ref (214)]))) rfl ?_
          refine XV.callS C (As := [.ref (214), .int (nI (10 + 99 * i)), .int (y), .int (g 2), .int (1)]) (rest := []) (ct_M_sumOf hfl (X := 10 + 99 * i) (mw_1) (by omega) (by omega) (by decide) (by omega) (i := j) (v := z) true (rfl) (hy) (hz) (by omega) (fun _ => ne_of_gt (hl i hi))) (xlk_ok okM_window rfl) rfl wM_M_48 wS_M_sumOf wN_M wB_M_sumOf hy_M_sumOf (fun q => q.elim) ⟨Nat.le_of_ble_eq_true rfl, Nat.le_of_ble_eq_true rfl⟩ ⟨Nat.le_of_ble_eq_true rfl, Nat.le_of_ble_eq_true rfl⟩ (Nat.le_of_ble_eq_true rfl) (fun r n h hp => ?_) (fun _ _ _ q => q.elim)
          obtain ⟨rfl, rfl, rfl⟩ := hp
          refine XV.run C okM_window 1 (q := (78, ([some (.ref (213)), some (.int (x)), some (.int (y)), some (.int (u))], [.int (winS (rowOf g i) true z j)]))) rfl ?_
          exact XV.iret C (xlk_ok okM_window rfl) hret rfl (Nat.le_of_ble_eq_true rfl) (Nat.le_of_ble_eq_true rfl) (⟨rfl, ⟨_, rfl⟩, Or.inr (Or.inr (⟨i, j, w, ⟨hx, hi, hy, by omega, hu, hwl⟩, by first | (subst hw0; rfl) | (subst hw1; rfl), rfl⟩))⟩)
    ·
      have hb1 := inG_f (if1_0 c2)
      refine XV.run C okM_window 2 (q := (29, ([some (.ref (213)), some (.int (x)), some (.int (y)), some (.int (u))], [.int (1), .ref (213)]))) rfl ?_
      refine XV.callV C (As := [.int (1)]) (rest := []) (ci := 5) (ct_M_fails hfl hn (1)) (xlk_ok okM_window rfl) rfl (by omega) (by omega) rfl (mw_o) rfl wM_M_36 wI_M_fails wV_M_fails wN_M wB_M_fails hy_M_fails (fun q => q.elim) ⟨Nat.le_of_ble_eq_true rfl, Nat.le_of_ble_eq_true rfl⟩ ⟨Nat.le_of_ble_eq_true rfl, Nat.le_of_ble_eq_true rfl⟩ (Nat.le_of_ble_eq_true rfl) (fun r n h hp => ?_) (fun _ _ _ q => q.elim)
      obtain ⟨rfl, rfl, rfl⟩ := hp
      exact XV.iret C (xlk_ok okM_window rfl) hret rfl (Nat.le_of_ble_eq_true rfl) (Nat.le_of_ble_eq_true rfl) (⟨rfl, ⟨_, rfl⟩, Or.inl ⟨by first | exact Or.inl hb | exact Or.inr ⟨nbad hx hi hk, hb1⟩, rfl⟩⟩)
def svP (pa g : Nat → Int32) (kp : Nat) : Nat → Int32 := if kp = 6 then ovF (shP pa 2525) g (505 * 5) 505 else ovF pa g (505 * kp) 505
theorem ct_M_saves {l : Launch} (hfl : l.stackTraces = false) {G : XG} {n : Nat} {h : XH} {g pa tr mx td F : Nat → Int32} (hn : 215 ≤ n) {kp : Nat} (hkp : F 2 = nI kp) (hk6 : kp ≤ 6) : XCt l G False (Cond.code yM_saves bM_saves 2 none) yM_saves 0 0 0 0 [.ref (213)] n (setM h g pa tr mx td F) (fun r' n' h' => r' = none ∧ n' = n ∧ h' = setM h g (svP pa g kp) tr mx td (upd F 2 (nI (kK kp)))) (fun _ _ _ => False) := by
  by_cases h6 : kp = 6
  · subst h6
    have := ct_M_saves_full hfl (G := G) (h := h) (g := g) (pa := pa) (tr := tr) (mx := mx) (td := td) hn hkp
    rw [upd_upd2] at this
    exact this
  · have := ct_M_saves_free hfl (G := G) (h := h) (g := g) (pa := pa) (tr := tr) (mx := mx) (td := td) hn hkp (by omega)
    rw [show svP pa g kp = ovF pa g (505 * kp) 505 from if_neg h6, show kK kp = kp + 1 from if_neg h6]
    exact this
