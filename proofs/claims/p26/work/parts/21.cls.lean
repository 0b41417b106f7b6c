/-! RopeThreads: what the calls require, the calls -/
set_option maxHeartbeats 4000000 in
set_option maxRecDepth 100000 in
theorem ct_C_requireIndex {l : Launch} (hfl : l.stackTraces = false) {G : XG} {n : Nat} {h : XH} (x y : Int32) : XCt l G False (Cond.code yC_requireIndex bC_requireIndex 2 none) yC_requireIndex 6 90 1 6 [.int (x), .int (y)] n h (fun r' n' h' => r' = none ∧ (¬ x < 0 ∧ x < y) ∧ n' = n ∧ h' = h) (fun E n' h' => (E = XIOB ∧ (x < 0 ∨ ¬ x < y)) ∧ n' = n ∧ h' = h) := by
  refine XCt.of hfl (by decide +kernel) (Nat.le_of_ble_eq_true rfl) ?_
  intro p' e' s' m' g' b' t' c' C hret hname hnt hmd
  refine XV.run C okC_requireIndex 1 (q := (1, ([some (.int (x)), some (.int (y))], [.int (x)]))) rfl ?_
  refine XV.if_lt C (tgt := 9) (xlk_ok okC_requireIndex rfl) rfl (fun c1 => ?_) (fun c1 => ?_)
  ·
    refine XV.throwS C hnt (E := XIOB) (Or.inr (Or.inr ⟨rfl, rfl, rfl⟩)) (List.mem_of_getElem? (i := 3) rfl) (xlk_ok okC_requireIndex (pc := 9) rfl) (xlk_ok okC_requireIndex (pc := 12) rfl) (xlk_ok okC_requireIndex (pc := 13) rfl) (xlk_ok okC_requireIndex (pc := 15) rfl) (xlk_ok okC_requireIndex (pc := 18) rfl) (Nat.le_of_ble_eq_true rfl) (Nat.le_of_ble_eq_true rfl) (Nat.le_of_ble_eq_true rfl) (Nat.le_of_ble_eq_true rfl) (Nat.le_of_ble_eq_true rfl) (Nat.le_of_ble_eq_true rfl) ?_
    exact ⟨⟨rfl, by first | exact Or.inl c1 | exact Or.inr c2⟩, rfl, rfl⟩
  ·
    refine XV.run C okC_requireIndex 2 (q := (6, ([some (.int (x)), some (.int (y))], [.int (y), .int (x)]))) rfl ?_
    refine XV.icmp_lt C (tgt := 19) (xlk_ok okC_requireIndex rfl) rfl (fun c2 => ?_) (fun c2 => ?_)
    ·
      exact XV.vret C (xlk_ok okC_requireIndex rfl) hret (Nat.le_of_ble_eq_true rfl) (Nat.le_of_ble_eq_true rfl) (⟨rfl, ⟨c1, c2⟩, rfl, rfl⟩)
    ·
      refine XV.throwS C hnt (E := XIOB) (Or.inr (Or.inr ⟨rfl, rfl, rfl⟩)) (List.mem_of_getElem? (i := 3) rfl) (xlk_ok okC_requireIndex (pc := 9) rfl) (xlk_ok okC_requireIndex (pc := 12) rfl) (xlk_ok okC_requireIndex (pc := 13) rfl) (xlk_ok okC_requireIndex (pc := 15) rfl) (xlk_ok okC_requireIndex (pc := 18) rfl) (Nat.le_of_ble_eq_true rfl) (Nat.le_of_ble_eq_true rfl) (Nat.le_of_ble_eq_true rfl) (Nat.le_of_ble_eq_true rfl) (Nat.le_of_ble_eq_true rfl) (Nat.le_of_ble_eq_true rfl) ?_
      exact ⟨⟨rfl, by first | exact Or.inl c1 | exact Or.inr c2⟩, rfl, rfl⟩
set_option maxHeartbeats 4000000 in
set_option maxRecDepth 100000 in
theorem ct_C_requireRange {l : Launch} (hfl : l.stackTraces = false) {G : XG} {n : Nat} {h : XH} (x a b : Int32) : XCt l G False (Cond.code yC_requireRange bC_requireRange 3 none) yC_requireRange 6 90 1 6 [.int (x), .int (a), .int (b)] n h (fun r' n' h' => r' = none ∧ (¬ x < a ∧ x ≤ b) ∧ n' = n ∧ h' = h) (fun E n' h' => (E = XIAE ∧ (x < a ∨ ¬ x ≤ b)) ∧ n' = n ∧ h' = h) := by
  refine XCt.of hfl (by decide +kernel) (Nat.le_of_ble_eq_true rfl) ?_
  intro p' e' s' m' g' b' t' c' C hret hname hnt hmd
  refine XV.run C okC_requireRange 2 (q := (2, ([some (.int (x)), some (.int (a)), some (.int (b))], [.int (a), .int (x)]))) rfl ?_
  refine XV.icmp_lt C (tgt := 10) (xlk_ok okC_requireRange rfl) rfl (fun c1 => ?_) (fun c1 => ?_)
  ·
    refine XV.throwS C hnt (E := XIAE) (Or.inr (Or.inl ⟨rfl, rfl, rfl⟩)) (List.mem_of_getElem? (i := 0) rfl) (xlk_ok okC_requireRange (pc := 10) rfl) (xlk_ok okC_requireRange (pc := 13) rfl) (xlk_ok okC_requireRange (pc := 14) rfl) (xlk_ok okC_requireRange (pc := 16) rfl) (xlk_ok okC_requireRange (pc := 19) rfl) (Nat.le_of_ble_eq_true rfl) (Nat.le_of_ble_eq_true rfl) (Nat.le_of_ble_eq_true rfl) (Nat.le_of_ble_eq_true rfl) (Nat.le_of_ble_eq_true rfl) (Nat.le_of_ble_eq_true rfl) ?_
    exact ⟨⟨rfl, by first | exact Or.inl c1 | exact Or.inr c2⟩, rfl, rfl⟩
  ·
    refine XV.run C okC_requireRange 2 (q := (7, ([some (.int (x)), some (.int (a)), some (.int (b))], [.int (b), .int (x)]))) rfl ?_
    refine XV.icmp_le C (tgt := 20) (xlk_ok okC_requireRange rfl) rfl (fun c2 => ?_) (fun c2 => ?_)
    ·
      exact XV.vret C (xlk_ok okC_requireRange rfl) hret (Nat.le_of_ble_eq_true rfl) (Nat.le_of_ble_eq_true rfl) (⟨rfl, ⟨c1, c2⟩, rfl, rfl⟩)
    ·
      refine XV.throwS C hnt (E := XIAE) (Or.inr (Or.inl ⟨rfl, rfl, rfl⟩)) (List.mem_of_getElem? (i := 0) rfl) (xlk_ok okC_requireRange (pc := 10) rfl) (xlk_ok okC_requireRange (pc := 13) rfl) (xlk_ok okC_requireRange (pc := 14) rfl) (xlk_ok okC_requireRange (pc := 16) rfl) (xlk_ok okC_requireRange (pc := 19) rfl) (Nat.le_of_ble_eq_true rfl) (Nat.le_of_ble_eq_true rfl) (Nat.le_of_ble_eq_true rfl) (Nat.le_of_ble_eq_true rfl) (Nat.le_of_ble_eq_true rfl) (Nat.le_of_ble_eq_true rfl) ?_
      exact ⟨⟨rfl, by first | exact Or.inl c1 | exact Or.inr c2⟩, rfl, rfl⟩
set_option maxHeartbeats 4000000 in
set_option maxRecDepth 100000 in
theorem ct_C_requireSections {l : Launch} (hfl : l.stackTraces = false) {G : XG} {n : Nat} {h : XH} (x y : Int32) : XCt l G False (Cond.code yC_requireSections bC_requireSections 2 none) yC_requireSections 7 111 3 18 [.int (x), .int (y)] n h (fun r' n' h' => r' = none ∧ ((¬ x < 0 ∧ x < 24) ∧ (¬ y < 0 ∧ y < 24) ∧ x ≤ y) ∧ n' = n ∧ h' = h) (fun E n' h' => ((E = XIOB ∧ ((x < 0 ∨ ¬ x < 24) ∨ (y < 0 ∨ ¬ y < 24))) ∨ (E = XIAE ∧ ((¬ x < 0 ∧ x < 24) ∧ (¬ y < 0 ∧ y < 24) ∧ ¬ x ≤ y))) ∧ n' = n ∧ h' = h) := by
  refine XCt.of hfl (by decide +kernel) (Nat.le_of_ble_eq_true rfl) ?_
  intro p' e' s' m' g' b' t' c' C hret hname hnt hmd
  refine XV.run C okC_requireSections 2 (q := (3, ([some (.int (x)), some (.int (y))], [.int (24), .int (x)]))) rfl ?_
  refine XV.callS C (As := [.int (x), .int (24)]) (rest := []) (ct_C_requireIndex hfl x 24) (xlk_ok okC_requireSections rfl) rfl wM_C_93 wS_C_requireIndex wN_C wB_C_requireIndex hy_C_requireIndex (fun q => q.elim) ⟨Nat.le_of_ble_eq_true rfl, Nat.le_of_ble_eq_true rfl⟩ ⟨Nat.le_of_ble_eq_true rfl, Nat.le_of_ble_eq_true rfl⟩ (Nat.le_of_ble_eq_true rfl) (fun r n h hp => ?_) (fun E n1 h1 q => by obtain ⟨⟨rfl, hbad⟩, rfl, rfl⟩ := q; exact XT.out C hnt (Nat.le_of_ble_eq_true rfl) (Nat.le_of_ble_eq_true rfl) (⟨Or.inl ⟨rfl, Or.inl hbad⟩, rfl, rfl⟩))
  obtain ⟨rfl, h1, rfl, rfl⟩ := hp
  refine XV.run C okC_requireSections 2 (q := (9, ([some (.int (x)), some (.int (y))], [.int (24), .int (y)]))) rfl ?_
  refine XV.callS C (As := [.int (y), .int (24)]) (rest := []) (ct_C_requireIndex hfl y 24) (xlk_ok okC_requireSections rfl) rfl wM_C_93 wS_C_requireIndex wN_C wB_C_requireIndex hy_C_requireIndex (fun q => q.elim) ⟨Nat.le_of_ble_eq_true rfl, Nat.le_of_ble_eq_true rfl⟩ ⟨Nat.le_of_ble_eq_true rfl, Nat.le_of_ble_eq_true rfl⟩ (Nat.le_of_ble_eq_true rfl) (fun r n h hp => ?_) (fun E n1 h1 q => by obtain ⟨⟨rfl, hbad⟩, rfl, rfl⟩ := q; exact XT.out C hnt (Nat.le_of_ble_eq_true rfl) (Nat.le_of_ble_eq_true rfl) (⟨Or.inl ⟨rfl, Or.inr hbad⟩, rfl, rfl⟩))
  obtain ⟨rfl, h2, rfl, rfl⟩ := hp
  refine XV.run C okC_requireSections 2 (q := (14, ([some (.int (x)), some (.int (y))], [.int (x), .int (y)]))) rfl ?_
  refine XV.icmp_ge C (tgt := 27) (xlk_ok okC_requireSections rfl) rfl (fun c1 => ?_) (fun c1 => ?_)
  ·
    exact XV.vret C (xlk_ok okC_requireSections rfl) hret (Nat.le_of_ble_eq_true rfl) (Nat.le_of_ble_eq_true rfl) (⟨rfl, ⟨h1, h2, c1⟩, rfl, rfl⟩)
  ·
    refine XV.throwS C hnt (E := XIAE) (Or.inr (Or.inl ⟨rfl, rfl, rfl⟩)) (List.mem_of_getElem? (i := 4) rfl) (xlk_ok okC_requireSections (pc := 17) rfl) (xlk_ok okC_requireSections (pc := 20) rfl) (xlk_ok okC_requireSections (pc := 21) rfl) (xlk_ok okC_requireSections (pc := 23) rfl) (xlk_ok okC_requireSections (pc := 26) rfl) (Nat.le_of_ble_eq_true rfl) (Nat.le_of_ble_eq_true rfl) (Nat.le_of_ble_eq_true rfl) (Nat.le_of_ble_eq_true rfl) (Nat.le_of_ble_eq_true rfl) (Nat.le_of_ble_eq_true rfl) ?_
    exact ⟨Or.inr ⟨rfl, h1, h2, c1⟩, rfl, rfl⟩
set_option maxHeartbeats 4000000 in
set_option maxRecDepth 100000 in
theorem ct_C_existingRope {l : Launch} (hfl : l.stackTraces = false) {G : XG} {n : Nat} {h : XH} {f : Nat → Int32} {o kp : Nat} {P : Nat → Nat → Int32} {tx : Nat → Int32} {len : Nat} {p : PT} {ρ : Nat → Int32} (hn : 209 ≤ n) {k : Nat} (hm : f 1 = nI k) (hk : k ≤ 5) (hl : ∀ i, i < k → 0 < rowOf f i 0) (x : Int32) : XCt l G False (Cond.code yC_existingRope bC_existingRope 3 (some (.object "RopeThreads$Rope"))) yC_existingRope 6 90 1 6 [.ref (4), .int (x)] n (setCW h f o kp P tx len p ρ) (fun r' n' h' => ∃ i, x = nI i ∧ i < k ∧ r' = some (.ref (5 + 3 + 5 * i)) ∧ n' = n ∧ h' = setCW h f o kp P tx len p ρ) (fun E n' h' => (E = XIOB ∧ (x < 0 ∨ nI k ≤ x)) ∧ n' = n ∧ h' = setCW h f o kp P tx len p ρ) := by
  refine XCt.of hfl (by decide +kernel) (Nat.le_of_ble_eq_true rfl) ?_
  intro p' e' s' m' g' b' t' c' C hret hname hnt hmd
  refine XV.run C okC_existingRope 1 (q := (1, ([some (.ref (4)), some (.int (x)), none], [.ref (4)]))) rfl ?_
  refine XV.getf C (ci := 4) (kf := 0) (v := .ref (5)) (xlk_ok okC_existingRope rfl) rfl (by decide) wF_C_10 (by omega) (by omega) (cw_o) rfl ?_
  refine XV.run C okC_existingRope 1 (q := (5, ([some (.ref (4)), some (.int (x)), none], [.int (x), .ref (5)]))) rfl ?_
  rcases pk_ix x (n := k) (by omega) with hx | hx | ⟨i, hi, hx⟩
  ·
    refine XV.callV C (As := [.int (x)]) (rest := []) (ci := 0) (ct_E_ropeAt_no hfl cw_e (by omega) (by omega) (hm) (by omega) (Or.inl hx)) (xlk_ok okC_existingRope rfl) rfl (by omega) (by omega) rfl (cw_e 0 (by decide)) rfl wM_C_205 wI_E_ropeAt wV_E_ropeAt wN_E wB_E_ropeAt hy_E_ropeAt (fun q => q.elim) ⟨Nat.le_of_ble_eq_true rfl, Nat.le_of_ble_eq_true rfl⟩ ⟨Nat.le_of_ble_eq_true rfl, Nat.le_of_ble_eq_true rfl⟩ (Nat.le_of_ble_eq_true rfl) (fun r n h hp => ?_) (fun _ _ _ q => q.elim)
    obtain ⟨rfl, rfl, rfl⟩ := hp
    refine XV.run C okC_existingRope 2 (q := (10, ([some (.ref (4)), some (.int (x)), some (.null)], [.null]))) rfl ?_
    refine XV.nonnull_n C (xlk_ok okC_existingRope rfl) ?_
    refine XV.throwS C hnt (E := XIOB) (Or.inr (Or.inr ⟨rfl, rfl, rfl⟩)) (List.mem_of_getElem? (i := 2) rfl) (xlk_ok okC_existingRope (pc := 13) rfl) (xlk_ok okC_existingRope (pc := 16) rfl) (xlk_ok okC_existingRope (pc := 17) rfl) (xlk_ok okC_existingRope (pc := 19) rfl) (xlk_ok okC_existingRope (pc := 22) rfl) (Nat.le_of_ble_eq_true rfl) (Nat.le_of_ble_eq_true rfl) (Nat.le_of_ble_eq_true rfl) (Nat.le_of_ble_eq_true rfl) (Nat.le_of_ble_eq_true rfl) (Nat.le_of_ble_eq_true rfl) ?_
    exact ⟨⟨rfl, Or.inl hx⟩, rfl, rfl⟩
  ·
    refine XV.callV C (As := [.int (x)]) (rest := []) (ci := 0) (ct_E_ropeAt_no hfl cw_e (by omega) (by omega) (hm) (by omega) (Or.inr hx)) (xlk_ok okC_existingRope rfl) rfl (by omega) (by omega) rfl (cw_e 0 (by decide)) rfl wM_C_205 wI_E_ropeAt wV_E_ropeAt wN_E wB_E_ropeAt hy_E_ropeAt (fun q => q.elim) ⟨Nat.le_of_ble_eq_true rfl, Nat.le_of_ble_eq_true rfl⟩ ⟨Nat.le_of_ble_eq_true rfl, Nat.le_of_ble_eq_true rfl⟩ (Nat.le_of_ble_eq_true rfl) (fun r n h hp => ?_) (fun _ _ _ q => q.elim)
    obtain ⟨rfl, rfl, rfl⟩ := hp
    refine XV.run C okC_existingRope 2 (q := (10, ([some (.ref (4)), some (.int (x)), some (.null)], [.null]))) rfl ?_
    refine XV.nonnull_n C (xlk_ok okC_existingRope rfl) ?_
    refine XV.throwS C hnt (E := XIOB) (Or.inr (Or.inr ⟨rfl, rfl, rfl⟩)) (List.mem_of_getElem? (i := 2) rfl) (xlk_ok okC_existingRope (pc := 13) rfl) (xlk_ok okC_existingRope (pc := 16) rfl) (xlk_ok okC_existingRope (pc := 17) rfl) (xlk_ok okC_existingRope (pc := 19) rfl) (xlk_ok okC_existingRope (pc := 22) rfl) (Nat.le_of_ble_eq_true rfl) (Nat.le_of_ble_eq_true rfl) (Nat.le_of_ble_eq_true rfl) (Nat.le_of_ble_eq_true rfl) (Nat.le_of_ble_eq_true rfl) (Nat.le_of_ble_eq_true rfl) ?_
    exact ⟨⟨rfl, Or.inr hx⟩, rfl, rfl⟩
  ·
    refine XV.callV C (As := [.int (x)]) (rest := []) (ci := 0) (ct_E_ropeAt hfl cw_e (by omega) (by omega) (i := i) (hx) (hm) (by omega) (by omega)) (xlk_ok okC_existingRope rfl) rfl (by omega) (by omega) rfl (cw_e 0 (by decide)) rfl wM_C_205 wI_E_ropeAt wV_E_ropeAt wN_E wB_E_ropeAt hy_E_ropeAt (fun q => q.elim) ⟨Nat.le_of_ble_eq_true rfl, Nat.le_of_ble_eq_true rfl⟩ ⟨Nat.le_of_ble_eq_true rfl, Nat.le_of_ble_eq_true rfl⟩ (Nat.le_of_ble_eq_true rfl) (fun r n h hp => ?_) (fun _ _ _ q => q.elim)
    obtain ⟨rfl, rfl, rfl⟩ := hp
    refine XV.run C okC_existingRope 2 (q := (10, ([some (.ref (4)), some (.int (x)), some (.ref (5 + 3 + 5 * i))], [.ref (5 + 3 + 5 * i)]))) rfl ?_
    refine XV.nonnull_r C (tgt := 23) (xlk_ok okC_existingRope rfl) rfl ?_
    refine XV.run C okC_existingRope 1 (q := (24, ([some (.ref (4)), some (.int (x)), some (.ref (5 + 3 + 5 * i))], [.ref (5 + 3 + 5 * i)]))) rfl ?_
    exact XV.aret C (o := some (5 + 3 + 5 * i)) (xlk_ok okC_existingRope rfl) hret (Nat.le_of_ble_eq_true rfl) (Nat.le_of_ble_eq_true rfl) (⟨i, hx, hi, rfl, rfl, rfl⟩)
set_option maxHeartbeats 4000000 in
set_option maxRecDepth 100000 in
theorem ct_C_ropeFigure {l : Launch} (hfl : l.stackTraces = false) {G : XG} {n : Nat} {h : XH} {f : Nat → Int32} {o kp : Nat} {P : Nat → Nat → Int32} {tx : Nat → Int32} {len : Nat} {p : PT} {ρ : Nat → Int32} (hn : 209 ≤ n) {k : Nat} (hm : f 1 = nI k) (hk : k ≤ 5) (hl : ∀ i, i < k → 0 < rowOf f i 0) {i : Nat} (hi : i < k) {z : Nat} (hz : f 2 = nI z) (z1 : 1 ≤ z) (z2 : z ≤ 12) {x : Int32} {w : Nat} (hx : x = nI w) (hw : w ≤ 9) : XCt l G False (Cond.code yC_ropeFigure bC_ropeFigure 4 (some .int)) yC_ropeFigure 4 85 0 0 [.ref (4), .ref (5 + 3 + 5 * i), .int (x)] n (setCW h f o kp P tx len p ρ) (fun r' n' h' => r' = some (.int (ropeFigK f (rowOf f i) z w)) ∧ n' = n ∧ h' = setCW h f o kp P tx len p ρ) (fun _ _ _ => False) := by
  subst hx
  refine XCt.of hfl (by decide +kernel) (Nat.le_of_ble_eq_true rfl) ?_
  intro p' e' s' m' g' b' t' c' C hret hname hnt hmd
  refine XV.run C okC_ropeFigure 1 (q := (1, ([some (.ref (4)), some (.ref (5 + 3 + 5 * i)), some (.int (nI w)), none], [.ref (4)]))) rfl ?_
  refine XV.getf C (ci := 4) (kf := 0) (v := .ref (5)) (xlk_ok okC_ropeFigure rfl) rfl (by decide) wF_C_10 (by omega) (by omega) (cw_o) rfl ?_
  refine XV.getfN C (ci := 0) (kf := 0) (v := .ref (5 + 1)) (xlk_ok okC_ropeFigure rfl) rfl (by decide) (List.mem_of_getElem? (i := 13) rfl) (by omega) (by omega) (cw_e 0 (by decide)) rfl ?_
  refine XV.run C okC_ropeFigure 1 (q := (8, ([some (.ref (4)), some (.ref (5 + 3 + 5 * i)), some (.int (nI w)), none], [.int (0), .ref (5 + 1)]))) rfl ?_
  refine XV.ialdC C (N := 5) (f := (fun i => f (2 + i))) (a := 0) (xlk_ok okC_ropeFigure rfl) (by omega) (by omega) (cw_e 1 (by decide)) (rfl) (by decide) (by decide) ?_
  refine XV.run C okC_ropeFigure 2 (q := (11, ([some (.ref (4)), some (.ref (5 + 3 + 5 * i)), some (.int (nI w)), some (.int (f 2))], [.int (nI w)]))) rfl ?_
  rcases (show w = 0 ∨ w = 1 ∨ w = 2 ∨ w = 3 ∨ w = 4 ∨ w = 5 ∨ w = 6 ∨ w = 7 ∨ w = 8 ∨ w = 9 by omega) with rfl | rfl | rfl | rfl | rfl | rfl | rfl | rfl | rfl | rfl
  ·
    refine XV.tabIn C (off := 49) (tgt := 60) (xlk_ok okC_ropeFigure rfl) (by decide) (by decide) rfl rfl ?_
    refine XV.run C okC_ropeFigure 1 (q := (61, ([some (.ref (4)), some (.ref (5 + 3 + 5 * i)), some (.int (nI 0)), some (.int (f 2))], [.ref (5 + 3 + 5 * i)]))) rfl ?_
    refine XV.getfN C (ci := 2) (kf := 4) (v := .int ((rowOf f i) 0)) (xlk_ok okC_ropeFigure rfl) rfl (by decide) (List.mem_of_getElem? (i := 10) rfl) (by omega) (by omega) ((elev_ropeL cw_e (by omega) (hl i hi)) 0 (by decide)) rfl ?_
    exact XV.iret C (xlk_ok okC_ropeFigure rfl) hret rfl (Nat.le_of_ble_eq_true rfl) (Nat.le_of_ble_eq_true rfl) (⟨rfl, rfl, rfl⟩)
  ·
    refine XV.tabIn C (off := 54) (tgt := 65) (xlk_ok okC_ropeFigure rfl) (by decide) (by decide) rfl rfl ?_
    refine XV.run C okC_ropeFigure 1 (q := (66, ([some (.ref (4)), some (.ref (5 + 3 + 5 * i)), some (.int (nI 1)), some (.int (f 2))], [.ref (5 + 3 + 5 * i)]))) rfl ?_
    refine XV.getfN C (ci := 2) (kf := 5) (v := .int ((rowOf f i) 1)) (xlk_ok okC_ropeFigure rfl) rfl (by decide) (List.mem_of_getElem? (i := 11) rfl) (by omega) (by omega) ((elev_ropeL cw_e (by omega) (hl i hi)) 0 (by decide)) rfl ?_
    exact XV.iret C (xlk_ok okC_ropeFigure rfl) hret rfl (Nat.le_of_ble_eq_true rfl) (Nat.le_of_ble_eq_true rfl) (⟨rfl, rfl, rfl⟩)
  ·
    refine XV.tabIn C (off := 59) (tgt := 70) (xlk_ok okC_ropeFigure rfl) (by decide) (by decide) rfl rfl ?_
    refine XV.run C okC_ropeFigure 1 (q := (71, ([some (.ref (4)), some (.ref (5 + 3 + 5 * i)), some (.int (nI 2)), some (.int (f 2))], [.ref (5 + 3 + 5 * i)]))) rfl ?_
    refine XV.callV C (As := []) (rest := []) (ci := 2) (ct_R_allCounts hfl (elev_ropeL cw_e (by omega) (hl i hi)) (by omega) (by omega) ) (xlk_ok okC_ropeFigure rfl) rfl (by omega) (by omega) rfl ((elev_ropeL cw_e (by omega) (hl i hi)) 0 (by decide)) rfl wM_C_84 wI_R_allCounts wV_R_allCounts wN_R wB_R_allCounts hy_R_allCounts (fun q => q.elim) ⟨Nat.le_of_ble_eq_true rfl, Nat.le_of_ble_eq_true rfl⟩ ⟨Nat.le_of_ble_eq_true rfl, Nat.le_of_ble_eq_true rfl⟩ (Nat.le_of_ble_eq_true rfl) (fun r n h hp => ?_) (fun _ _ _ q => q.elim)
    obtain ⟨rfl, rfl, rfl⟩ := hp
    exact XV.iret C (xlk_ok okC_ropeFigure rfl) hret rfl (Nat.le_of_ble_eq_true rfl) (Nat.le_of_ble_eq_true rfl) (⟨rfl, rfl, rfl⟩)
  ·
    refine XV.tabIn C (off := 64) (tgt := 75) (xlk_ok okC_ropeFigure rfl) (by decide) (by decide) rfl rfl ?_
    refine XV.run C okC_ropeFigure 1 (q := (76, ([some (.ref (4)), some (.ref (5 + 3 + 5 * i)), some (.int (nI 3)), some (.int (f 2))], [.ref (5 + 3 + 5 * i)]))) rfl ?_
    refine XV.callV C (As := []) (rest := []) (ci := 2) (ct_R_allBroken hfl (elev_ropeL cw_e (by omega) (hl i hi)) (by omega) (by omega)  (hl i hi)) (xlk_ok okC_ropeFigure rfl) rfl (by omega) (by omega) rfl ((elev_ropeL cw_e (by omega) (hl i hi)) 0 (by decide)) rfl wM_C_67 wI_R_allBroken wV_R_allBroken wN_R wB_R_allBroken hy_R_allBroken (fun q => q.elim) ⟨Nat.le_of_ble_eq_true rfl, Nat.le_of_ble_eq_true rfl⟩ ⟨Nat.le_of_ble_eq_true rfl, Nat.le_of_ble_eq_true rfl⟩ (Nat.le_of_ble_eq_true rfl) (fun r n h hp => ?_) (fun _ _ _ q => q.elim)
    obtain ⟨rfl, rfl, rfl⟩ := hp
    exact XV.iret C (xlk_ok okC_ropeFigure rfl) hret rfl (Nat.le_of_ble_eq_true rfl) (Nat.le_of_ble_eq_true rfl) (⟨rfl, rfl, rfl⟩)
  ·
    refine XV.tabIn C (off := 69) (tgt := 80) (xlk_ok okC_ropeFigure rfl) (by decide) (by decide) rfl rfl ?_
    refine XV.run C okC_ropeFigure 2 (q := (82, ([some (.ref (4)), some (.ref (5 + 3 + 5 * i)), some (.int (nI 4)), some (.int (f 2))], [.int (f 2), .ref (5 + 3 + 5 * i)]))) rfl ?_
    refine XV.callV C (As := [.int (f 2)]) (rest := []) (ci := 2) (ct_R_greatestCounts hfl (elev_ropeL cw_e (by omega) (hl i hi)) (by omega) (by omega) (z := z) (hz) (by omega) (by omega)) (xlk_ok okC_ropeFigure rfl) rfl (by omega) (by omega) rfl ((elev_ropeL cw_e (by omega) (hl i hi)) 0 (by decide)) rfl wM_C_242 wI_R_greatestCounts wV_R_greatestCounts wN_R wB_R_greatestCounts hy_R_greatestCounts (fun q => q.elim) ⟨Nat.le_of_ble_eq_true rfl, Nat.le_of_ble_eq_true rfl⟩ ⟨Nat.le_of_ble_eq_true rfl, Nat.le_of_ble_eq_true rfl⟩ (Nat.le_of_ble_eq_true rfl) (fun r n h hp => ?_) (fun _ _ _ q => q.elim)
    obtain ⟨rfl, rfl, rfl⟩ := hp
    exact XV.iret C (xlk_ok okC_ropeFigure rfl) hret rfl (Nat.le_of_ble_eq_true rfl) (Nat.le_of_ble_eq_true rfl) (⟨rfl, rfl, rfl⟩)
  ·
    refine XV.tabIn C (off := 75) (tgt := 86) (xlk_ok okC_ropeFigure rfl) (by decide) (by decide) rfl rfl ?_
    refine XV.run C okC_ropeFigure 2 (q := (88, ([some (.ref (4)), some (.ref (5 + 3 + 5 * i)), some (.int (nI 5)), some (.int (f 2))], [.int (f 2), .ref (5 + 3 + 5 * i)]))) rfl ?_
    refine XV.callV C (As := [.int (f 2)]) (rest := []) (ci := 2) (ct_R_windowOfGreatestCounts hfl (elev_ropeL cw_e (by omega) (hl i hi)) (by omega) (by omega) (z := z) (hz) (by omega) (by omega)) (xlk_ok okC_ropeFigure rfl) rfl (by omega) (by omega) rfl ((elev_ropeL cw_e (by omega) (hl i hi)) 0 (by decide)) rfl wM_C_245 wI_R_windowOfGreatestCounts wV_R_windowOfGreatestCounts wN_R wB_R_windowOfGreatestCounts hy_R_windowOfGreatestCounts (fun q => q.elim) ⟨Nat.le_of_ble_eq_true rfl, Nat.le_of_ble_eq_true rfl⟩ ⟨Nat.le_of_ble_eq_true rfl, Nat.le_of_ble_eq_true rfl⟩ (Nat.le_of_ble_eq_true rfl) (fun r n h hp => ?_) (fun _ _ _ q => q.elim)
    obtain ⟨rfl, rfl, rfl⟩ := hp
    exact XV.iret C (xlk_ok okC_ropeFigure rfl) hret rfl (Nat.le_of_ble_eq_true rfl) (Nat.le_of_ble_eq_true rfl) (⟨rfl, rfl, rfl⟩)
  ·
    refine XV.tabIn C (off := 81) (tgt := 92) (xlk_ok okC_ropeFigure rfl) (by decide) (by decide) rfl rfl ?_
    refine XV.run C okC_ropeFigure 2 (q := (94, ([some (.ref (4)), some (.ref (5 + 3 + 5 * i)), some (.int (nI 6)), some (.int (f 2))], [.int (f 2), .ref (5 + 3 + 5 * i)]))) rfl ?_
    refine XV.callV C (As := [.int (f 2)]) (rest := []) (ci := 2) (ct_R_greatestBroken hfl (elev_ropeL cw_e (by omega) (hl i hi)) (by omega) (by omega) (z := z) (hz) (by omega) (by omega) (hl i hi)) (xlk_ok okC_ropeFigure rfl) rfl (by omega) (by omega) rfl ((elev_ropeL cw_e (by omega) (hl i hi)) 0 (by decide)) rfl wM_C_248 wI_R_greatestBroken wV_R_greatestBroken wN_R wB_R_greatestBroken hy_R_greatestBroken (fun q => q.elim) ⟨Nat.le_of_ble_eq_true rfl, Nat.le_of_ble_eq_true rfl⟩ ⟨Nat.le_of_ble_eq_true rfl, Nat.le_of_ble_eq_true rfl⟩ (Nat.le_of_ble_eq_true rfl) (fun r n h hp => ?_) (fun _ _ _ q => q.elim)
    obtain ⟨rfl, rfl, rfl⟩ := hp
    exact XV.iret C (xlk_ok okC_ropeFigure rfl) hret rfl (Nat.le_of_ble_eq_true rfl) (Nat.le_of_ble_eq_true rfl) (⟨rfl, rfl, rfl⟩)
  ·
    refine XV.tabIn C (off := 87) (tgt := 98) (xlk_ok okC_ropeFigure rfl) (by decide) (by decide) rfl rfl ?_
    refine XV.run C okC_ropeFigure 1 (q := (99, ([some (.ref (4)), some (.ref (5 + 3 + 5 * i)), some (.int (nI 7)), some (.int (f 2))], [.ref (4)]))) rfl ?_
    refine XV.getf C (ci := 4) (kf := 0) (v := .ref (5)) (xlk_ok okC_ropeFigure rfl) rfl (by decide) wF_C_10 (by omega) (by omega) (cw_o) rfl ?_
    refine XV.run C okC_ropeFigure 1 (q := (103, ([some (.ref (4)), some (.ref (5 + 3 + 5 * i)), some (.int (nI 7)), some (.int (f 2))], [.ref (5 + 3 + 5 * i), .ref (5)]))) rfl ?_
    refine XV.callV C (As := [.ref (5 + 3 + 5 * i)]) (rest := []) (ci := 0) (ct_E_reasonFor hfl cw_e (by omega) (by omega) (elev_ropeL cw_e (by omega) (hl i hi)) (by omega) (by omega) (z := z) (hz) (by omega) (by omega)) (xlk_ok okC_ropeFigure rfl) rfl (by omega) (by omega) rfl (cw_e 0 (by decide)) rfl wM_C_251 wI_E_reasonFor wV_E_reasonFor wN_E wB_E_reasonFor hy_E_reasonFor (fun q => q.elim) ⟨Nat.le_of_ble_eq_true rfl, Nat.le_of_ble_eq_true rfl⟩ ⟨Nat.le_of_ble_eq_true rfl, Nat.le_of_ble_eq_true rfl⟩ (Nat.le_of_ble_eq_true rfl) (fun r n h hp => ?_) (fun _ _ _ q => q.elim)
    obtain ⟨rfl, rfl, rfl⟩ := hp
    exact XV.iret C (xlk_ok okC_ropeFigure rfl) hret rfl (Nat.le_of_ble_eq_true rfl) (Nat.le_of_ble_eq_true rfl) (⟨rfl, rfl, rfl⟩)
  ·
    refine XV.tabIn C (off := 96) (tgt := 107) (xlk_ok okC_ropeFigure rfl) (by decide) (by decide) rfl rfl ?_
    refine XV.run C okC_ropeFigure 1 (q := (108, ([some (.ref (4)), some (.ref (5 + 3 + 5 * i)), some (.int (nI 8)), some (.int (f 2))], [.ref (4)]))) rfl ?_
    refine XV.getf C (ci := 4) (kf := 0) (v := .ref (5)) (xlk_ok okC_ropeFigure rfl) rfl (by decide) wF_C_10 (by omega) (by omega) (cw_o) rfl ?_
    refine XV.run C okC_ropeFigure 1 (q := (112, ([some (.ref (4)), some (.ref (5 + 3 + 5 * i)), some (.int (nI 8)), some (.int (f 2))], [.ref (5 + 3 + 5 * i), .ref (5)]))) rfl ?_
    refine XV.callV C (As := [.ref (5 + 3 + 5 * i)]) (rest := []) (ci := 0) (ct_E_monthsLeft hfl cw_e (by omega) (by omega) (elev_ropeL cw_e (by omega) (hl i hi)) (by omega) (by omega)) (xlk_ok okC_ropeFigure rfl) rfl (by omega) (by omega) rfl (cw_e 0 (by decide)) rfl wM_C_254 wI_E_monthsLeft wV_E_monthsLeft wN_E wB_E_monthsLeft hy_E_monthsLeft (fun q => q.elim) ⟨Nat.le_of_ble_eq_true rfl, Nat.le_of_ble_eq_true rfl⟩ ⟨Nat.le_of_ble_eq_true rfl, Nat.le_of_ble_eq_true rfl⟩ (Nat.le_of_ble_eq_true rfl) (fun r n h hp => ?_) (fun _ _ _ q => q.elim)
    obtain ⟨rfl, rfl, rfl⟩ := hp
    exact XV.iret C (xlk_ok okC_ropeFigure rfl) hret rfl (Nat.le_of_ble_eq_true rfl) (Nat.le_of_ble_eq_true rfl) (⟨rfl, rfl, rfl⟩)
  ·
    refine XV.tabOut C (tgt := 116) (xlk_ok okC_ropeFigure rfl) (by decide) rfl ?_
    refine XV.run C okC_ropeFigure 1 (q := (117, ([some (.ref (4)), some (.ref (5 + 3 + 5 * i)), some (.int (nI 9)), some (.int (f 2))], [.ref (5 + 3 + 5 * i)]))) rfl ?_
    refine XV.getfN C (ci := 2) (kf := 6) (v := .int ((rowOf f i) 2)) (xlk_ok okC_ropeFigure rfl) rfl (by decide) (List.mem_of_getElem? (i := 12) rfl) (by omega) (by omega) ((elev_ropeL cw_e (by omega) (hl i hi)) 0 (by decide)) rfl ?_
    exact XV.iret C (xlk_ok okC_ropeFigure rfl) hret rfl (Nat.le_of_ble_eq_true rfl) (Nat.le_of_ble_eq_true rfl) (⟨rfl, rfl, rfl⟩)
set_option maxHeartbeats 4000000 in
set_option maxRecDepth 100000 in
theorem ct_C_windowFigure {l : Launch} (hfl : l.stackTraces = false) {G : XG} {n : Nat} {h : XH} {f : Nat → Int32} {o kp : Nat} {P : Nat → Nat → Int32} {tx : Nat → Int32} {len : Nat} {p : PT} {ρ : Nat → Int32} (hn : 209 ≤ n) {k : Nat} (hm : f 1 = nI k) (hk : k ≤ 5) (hl : ∀ i, i < k → 0 < rowOf f i 0) {i : Nat} (hi : i < k) {z : Nat} (hz : f 2 = nI z) (z1 : 1 ≤ z) (z2 : z ≤ 12) {x y : Int32} {j w : Nat} (hx : x = nI j) (hy : y = nI w) (hw : w ≤ 1) (hj : j + z ≤ 24) : XCt l G False (Cond.code yC_windowFigure bC_windowFigure 5 (some .int)) yC_windowFigure 2 45 0 0 [.ref (4), .ref (5 + 3 + 5 * i), .int (x), .int (y)] n (setCW h f o kp P tx len p ρ) (fun r' n' h' => r' = some (.int (winS (rowOf f i) (decide (w = 1)) z j)) ∧ n' = n ∧ h' = setCW h f o kp P tx len p ρ) (fun _ _ _ => False) := by
  subst hx; subst hy
  refine XCt.of hfl (by decide +kernel) (Nat.le_of_ble_eq_true rfl) ?_
  intro p' e' s' m' g' b' t' c' C hret hname hnt hmd
  refine XV.run C okC_windowFigure 2 (q := (2, ([some (.ref (4)), some (.ref (5 + 3 + 5 * i)), some (.int (nI j)), some (.int (nI w)), none], [.ref (4), .int (nI j)]))) rfl ?_
  refine XV.getf C (ci := 4) (kf := 0) (v := .ref (5)) (xlk_ok okC_windowFigure rfl) rfl (by decide) wF_C_10 (by omega) (by omega) (cw_o) rfl ?_
  refine XV.getfN C (ci := 0) (kf := 0) (v := .ref (5 + 1)) (xlk_ok okC_windowFigure rfl) rfl (by decide) (List.mem_of_getElem? (i := 13) rfl) (by omega) (by omega) (cw_e 0 (by decide)) rfl ?_
  refine XV.run C okC_windowFigure 1 (q := (9, ([some (.ref (4)), some (.ref (5 + 3 + 5 * i)), some (.int (nI j)), some (.int (nI w)), none], [.int (0), .ref (5 + 1), .int (nI j)]))) rfl ?_
  refine XV.ialdC C (N := 5) (f := (fun i => f (2 + i))) (a := 0) (xlk_ok okC_windowFigure rfl) (by omega) (by omega) (cw_e 1 (by decide)) (rfl) (by decide) (by decide) ?_
  refine XV.run C okC_windowFigure 3 (q := (13, ([some (.ref (4)), some (.ref (5 + 3 + 5 * i)), some (.int (nI j)), some (.int (nI w)), none], [.int (((nI j) + (f 2)) - 1)]))) rfl ?_
  rw [show (((nI j) + (f 2)) - 1 : Int32) = nI (j + z - 1) from by rw [hz, nI_add]; exact nI_m1 (by omega)]
  refine XV.run C okC_windowFigure 2 (q := (16, ([some (.ref (4)), some (.ref (5 + 3 + 5 * i)), some (.int (nI j)), some (.int (nI w)), some (.int (nI (j + z - 1)))], [.int (nI w)]))) rfl ?_
  refine XV.if_ne C (tgt := 29) (xlk_ok okC_windowFigure rfl) rfl (fun c1 => ?_) (fun c1 => ?_)
  ·
    have hw1 : w = 1 := by
      rcases (show w = 0 ∨ w = 1 by omega) with q | q
      · subst q; exact absurd rfl c1
      · exact q
    refine XV.run C okC_windowFigure 3 (q := (33, ([some (.ref (4)), some (.ref (5 + 3 + 5 * i)), some (.int (nI j)), some (.int (nI w)), some (.int (nI (j + z - 1)))], [.int (nI (j + z - 1)), .int (nI j), .ref (5 + 3 + 5 * i)]))) rfl ?_
    refine XV.callV C (As := [.int (nI j), .int (nI (j + z - 1))]) (rest := []) (ci := 2) (ct_R_sumOfBroken hfl (elev_ropeL cw_e (by omega) (hl i hi)) (by omega) (by omega) (i := j) (w := z) (b := j + z - 1) (rfl) (rfl) (by omega) (by omega) (hl i hi)) (xlk_ok okC_windowFigure rfl) rfl (by omega) (by omega) rfl ((elev_ropeL cw_e (by omega) (hl i hi)) 0 (by decide)) rfl wM_C_261 wI_R_sumOfBroken wV_R_sumOfBroken wN_R wB_R_sumOfBroken hy_R_sumOfBroken (fun q => q.elim) ⟨Nat.le_of_ble_eq_true rfl, Nat.le_of_ble_eq_true rfl⟩ ⟨Nat.le_of_ble_eq_true rfl, Nat.le_of_ble_eq_true rfl⟩ (Nat.le_of_ble_eq_true rfl) (fun r n h hp => ?_) (fun _ _ _ q => q.elim)
    obtain ⟨rfl, rfl, rfl⟩ := hp
    exact XV.iret C (xlk_ok okC_windowFigure rfl) hret rfl (Nat.le_of_ble_eq_true rfl) (Nat.le_of_ble_eq_true rfl) (⟨by subst hw1; rfl, rfl, rfl⟩)
  ·
    have hw1 : w = 0 := (nI_eq (b := 0) (by omega) (by omega)).mp c1
    refine XV.run C okC_windowFigure 3 (q := (23, ([some (.ref (4)), some (.ref (5 + 3 + 5 * i)), some (.int (nI j)), some (.int (nI w)), some (.int (nI (j + z - 1)))], [.int (nI (j + z - 1)), .int (nI j), .ref (5 + 3 + 5 * i)]))) rfl ?_
    refine XV.callV C (As := [.int (nI j), .int (nI (j + z - 1))]) (rest := []) (ci := 2) (ct_R_sumOfCounts hfl (elev_ropeL cw_e (by omega) (hl i hi)) (by omega) (by omega) (i := j) (w := z) (b := j + z - 1) (rfl) (rfl) (by omega) (by omega)) (xlk_ok okC_windowFigure rfl) rfl (by omega) (by omega) rfl ((elev_ropeL cw_e (by omega) (hl i hi)) 0 (by decide)) rfl wM_C_258 wI_R_sumOfCounts wV_R_sumOfCounts wN_R wB_R_sumOfCounts hy_R_sumOfCounts (fun q => q.elim) ⟨Nat.le_of_ble_eq_true rfl, Nat.le_of_ble_eq_true rfl⟩ ⟨Nat.le_of_ble_eq_true rfl, Nat.le_of_ble_eq_true rfl⟩ (Nat.le_of_ble_eq_true rfl) (fun r n h hp => ?_) (fun _ _ _ q => q.elim)
    obtain ⟨rfl, rfl, rfl⟩ := hp
    refine XV.run C okC_windowFigure 1 (q := (36, ([some (.ref (4)), some (.ref (5 + 3 + 5 * i)), some (.int (nI j)), some (.int (nI w)), some (.int (nI (j + z - 1)))], [.int (sumN (colR (rowOf f i) false) j z)]))) rfl ?_
    exact XV.iret C (xlk_ok okC_windowFigure rfl) hret rfl (Nat.le_of_ble_eq_true rfl) (Nat.le_of_ble_eq_true rfl) (⟨by subst hw1; rfl, rfl, rfl⟩)
set_option maxHeartbeats 4000000 in
set_option maxRecDepth 100000 in
theorem ct_C_countFigure {l : Launch} (hfl : l.stackTraces = false) {G : XG} {n : Nat} {h : XH} {f : Nat → Int32} {o kp : Nat} {P : Nat → Nat → Int32} {tx : Nat → Int32} {len : Nat} {p : PT} {ρ : Nat → Int32} (hn : 209 ≤ n) {k : Nat} (hm : f 1 = nI k) (hk : k ≤ 5) (hl : ∀ i, i < k → 0 < rowOf f i 0) {z : Nat} (hz : f 2 = nI z) (z1 : 1 ≤ z) (z2 : z ≤ 12) (ho : o < 6) (hkp : kp ≤ 6) {x : Int32} {w : Nat} (hx : x = nI w) (hw : w ≤ 8) : XCt l G False (Cond.code yC_countFigure bC_countFigure 2 (some .int)) yC_countFigure 6 128 0 0 [.ref (4), .int (x)] n (setCW h f o kp P tx len p ρ) (fun r' n' h' => r' = some (.int (countFigK f z k kp w)) ∧ n' = n ∧ h' = setCW h f o kp P tx len p ρ) (fun _ _ _ => False) := by
  subst hx
  have hrk := retK_le f z k
  refine XCt.of hfl (by decide +kernel) (Nat.le_of_ble_eq_true rfl) ?_
  intro p' e' s' m' g' b' t' c' C hret hname hnt hmd
  refine XV.run C okC_countFigure 1 (q := (1, ([some (.ref (4)), some (.int (nI w))], [.int (nI w)]))) rfl ?_
  rcases (show w = 0 ∨ w = 1 ∨ w = 2 ∨ w = 3 ∨ w = 4 ∨ w = 5 ∨ w = 6 ∨ w = 7 ∨ w = 8 by omega) with rfl | rfl | rfl | rfl | rfl | rfl | rfl | rfl | rfl
  ·
    refine XV.tabIn C (off := 47) (tgt := 48) (xlk_ok okC_countFigure rfl) (by decide) (by decide) rfl rfl ?_
    refine XV.run C okC_countFigure 1 (q := (49, ([some (.ref (4)), some (.int (nI 0))], [.ref (4)]))) rfl ?_
    refine XV.getf C (ci := 4) (kf := 0) (v := .ref (5)) (xlk_ok okC_countFigure rfl) rfl (by decide) wF_C_10 (by omega) (by omega) (cw_o) rfl ?_
    refine XV.getfN C (ci := 0) (kf := 3) (v := .int (f 0)) (xlk_ok okC_countFigure rfl) rfl (by decide) (List.mem_of_getElem? (i := 15) rfl) (by omega) (by omega) (cw_e 0 (by decide)) rfl ?_
    exact XV.iret C (xlk_ok okC_countFigure rfl) hret rfl (Nat.le_of_ble_eq_true rfl) (Nat.le_of_ble_eq_true rfl) (⟨rfl, rfl, rfl⟩)
  ·
    refine XV.tabIn C (off := 55) (tgt := 56) (xlk_ok okC_countFigure rfl) (by decide) (by decide) rfl rfl ?_
    refine XV.run C okC_countFigure 1 (q := (57, ([some (.ref (4)), some (.int (nI 1))], [.ref (4)]))) rfl ?_
    refine XV.getf C (ci := 4) (kf := 0) (v := .ref (5)) (xlk_ok okC_countFigure rfl) rfl (by decide) wF_C_10 (by omega) (by omega) (cw_o) rfl ?_
    refine XV.getfN C (ci := 0) (kf := 2) (v := .int (f 1)) (xlk_ok okC_countFigure rfl) rfl (by decide) (List.mem_of_getElem? (i := 14) rfl) (by omega) (by omega) (cw_e 0 (by decide)) rfl ?_
    exact XV.iret C (xlk_ok okC_countFigure rfl) hret rfl (Nat.le_of_ble_eq_true rfl) (Nat.le_of_ble_eq_true rfl) (⟨rfl, rfl, rfl⟩)
  ·
    refine XV.tabIn C (off := 63) (tgt := 64) (xlk_ok okC_countFigure rfl) (by decide) (by decide) rfl rfl ?_
    refine XV.run C okC_countFigure 1 (q := (65, ([some (.ref (4)), some (.int (nI 2))], [.ref (4)]))) rfl ?_
    refine XV.getf C (ci := 4) (kf := 0) (v := .ref (5)) (xlk_ok okC_countFigure rfl) rfl (by decide) wF_C_10 (by omega) (by omega) (cw_o) rfl ?_
    refine XV.callV C (As := []) (rest := []) (ci := 0) (ct_E_ropesToRetire hfl cw_e (by omega) (by omega) (k := k) (hm) (by omega) (hl) (z := z) (hz) (by omega) (by omega)) (xlk_ok okC_countFigure rfl) rfl (by omega) (by omega) rfl (cw_e 0 (by decide)) rfl wM_C_117 wI_E_ropesToRetire wV_E_ropesToRetire wN_E wB_E_ropesToRetire hy_E_ropesToRetire (fun q => q.elim) ⟨Nat.le_of_ble_eq_true rfl, Nat.le_of_ble_eq_true rfl⟩ ⟨Nat.le_of_ble_eq_true rfl, Nat.le_of_ble_eq_true rfl⟩ (Nat.le_of_ble_eq_true rfl) (fun r n h hp => ?_) (fun _ _ _ q => q.elim)
    obtain ⟨rfl, rfl, rfl⟩ := hp
    exact XV.iret C (xlk_ok okC_countFigure rfl) hret rfl (Nat.le_of_ble_eq_true rfl) (Nat.le_of_ble_eq_true rfl) (⟨rfl, rfl, rfl⟩)
  ·
    refine XV.tabIn C (off := 71) (tgt := 72) (xlk_ok okC_countFigure rfl) (by decide) (by decide) rfl rfl ?_
    refine XV.run C okC_countFigure 1 (q := (73, ([some (.ref (4)), some (.int (nI 3))], [.ref (4)]))) rfl ?_
    refine XV.getf C (ci := 4) (kf := 0) (v := .ref (5)) (xlk_ok okC_countFigure rfl) rfl (by decide) wF_C_10 (by omega) (by omega) (cw_o) rfl ?_
    refine XV.callV C (As := []) (rest := []) (ci := 0) (ct_E_canRun hfl cw_e (by omega) (by omega) (k := k) (hm) (by omega) (hl) (z := z) (hz) (by omega) (by omega)) (xlk_ok okC_countFigure rfl) rfl (by omega) (by omega) rfl (cw_e 0 (by decide)) rfl wM_C_230 wI_E_canRun wV_E_canRun wN_E wB_E_canRun hy_E_canRun (fun q => q.elim) ⟨Nat.le_of_ble_eq_true rfl, Nat.le_of_ble_eq_true rfl⟩ ⟨Nat.le_of_ble_eq_true rfl, Nat.le_of_ble_eq_true rfl⟩ (Nat.le_of_ble_eq_true rfl) (fun r n h hp => ?_) (fun _ _ _ q => q.elim)
    obtain ⟨rfl, rfl, rfl⟩ := hp
    refine XV.if_eq C (tgt := 86) (xlk_ok okC_countFigure rfl) rfl (fun c1 => ?_) (fun c1 => ?_)
    ·
      refine XV.run C okC_countFigure 1 (q := (87, ([some (.ref (4)), some (.int (nI 3))], [.int (0)]))) rfl ?_
      exact XV.iret C (xlk_ok okC_countFigure rfl) hret rfl (Nat.le_of_ble_eq_true rfl) (Nat.le_of_ble_eq_true rfl) (⟨by show _ = some (Value.int (if _ then _ else _)); first | rw [if_pos c1] | rw [if_neg c1], rfl, rfl⟩)
    ·
      refine XV.run C okC_countFigure 2 (q := (87, ([some (.ref (4)), some (.int (nI 3))], [.int (1)]))) rfl ?_
      exact XV.iret C (xlk_ok okC_countFigure rfl) hret rfl (Nat.le_of_ble_eq_true rfl) (Nat.le_of_ble_eq_true rfl) (⟨by show _ = some (Value.int (if _ then _ else _)); first | rw [if_pos c1] | rw [if_neg c1], rfl, rfl⟩)
  ·
    refine XV.tabIn C (off := 87) (tgt := 88) (xlk_ok okC_countFigure rfl) (by decide) (by decide) rfl rfl ?_
    refine XV.run C okC_countFigure 1 (q := (89, ([some (.ref (4)), some (.int (nI 4))], [.ref (4)]))) rfl ?_
    refine XV.getf C (ci := 4) (kf := 0) (v := .ref (5)) (xlk_ok okC_countFigure rfl) rfl (by decide) wF_C_10 (by omega) (by omega) (cw_o) rfl ?_
    refine XV.getfN C (ci := 0) (kf := 4) (v := .int (f 7)) (xlk_ok okC_countFigure rfl) rfl (by decide) (List.mem_of_getElem? (i := 16) rfl) (by omega) (by omega) (cw_e 0 (by decide)) rfl ?_
    exact XV.iret C (xlk_ok okC_countFigure rfl) hret rfl (Nat.le_of_ble_eq_true rfl) (Nat.le_of_ble_eq_true rfl) (⟨rfl, rfl, rfl⟩)
  ·
    refine XV.tabIn C (off := 95) (tgt := 96) (xlk_ok okC_countFigure rfl) (by decide) (by decide) rfl rfl ?_
    refine XV.run C okC_countFigure 1 (q := (97, ([some (.ref (4)), some (.int (nI 5))], [.ref (4)]))) rfl ?_
    refine XV.getf C (ci := 4) (kf := 0) (v := .ref (5)) (xlk_ok okC_countFigure rfl) rfl (by decide) wF_C_10 (by omega) (by omega) (cw_o) rfl ?_
    refine XV.getfN C (ci := 0) (kf := 5) (v := .int (f 8)) (xlk_ok okC_countFigure rfl) rfl (by decide) (List.mem_of_getElem? (i := 17) rfl) (by omega) (by omega) (cw_e 0 (by decide)) rfl ?_
    exact XV.iret C (xlk_ok okC_countFigure rfl) hret rfl (Nat.le_of_ble_eq_true rfl) (Nat.le_of_ble_eq_true rfl) (⟨rfl, rfl, rfl⟩)
  ·
    refine XV.tabIn C (off := 103) (tgt := 104) (xlk_ok okC_countFigure rfl) (by decide) (by decide) rfl rfl ?_
    refine XV.run C okC_countFigure 1 (q := (105, ([some (.ref (4)), some (.int (nI 6))], [.ref (4)]))) rfl ?_
    refine XV.getf C (ci := 4) (kf := 0) (v := .ref (5)) (xlk_ok okC_countFigure rfl) rfl (by decide) wF_C_10 (by omega) (by omega) (cw_o) rfl ?_
    refine XV.getfN C (ci := 0) (kf := 6) (v := .int (f 9)) (xlk_ok okC_countFigure rfl) rfl (by decide) (List.mem_of_getElem? (i := 18) rfl) (by omega) (by omega) (cw_e 0 (by decide)) rfl ?_
    exact XV.iret C (xlk_ok okC_countFigure rfl) hret rfl (Nat.le_of_ble_eq_true rfl) (Nat.le_of_ble_eq_true rfl) (⟨rfl, rfl, rfl⟩)
  ·
    refine XV.tabIn C (off := 111) (tgt := 112) (xlk_ok okC_countFigure rfl) (by decide) (by decide) rfl rfl ?_
    refine XV.run C okC_countFigure 1 (q := (113, ([some (.ref (4)), some (.int (nI 7))], [.ref (4)]))) rfl ?_
    refine XV.getf C (ci := 4) (kf := 0) (v := .ref (5)) (xlk_ok okC_countFigure rfl) rfl (by decide) wF_C_10 (by omega) (by omega) (cw_o) rfl ?_
    refine XV.callV C (As := []) (rest := []) (ci := 0) (ct_E_brokenOfRopes hfl cw_e (by omega) (by omega) (k := k) (hm) (by omega) (hl)) (xlk_ok okC_countFigure rfl) rfl (by omega) (by omega) rfl (cw_e 0 (by decide)) rfl wM_C_264 wI_E_brokenOfRopes wV_E_brokenOfRopes wN_E wB_E_brokenOfRopes hy_E_brokenOfRopes (fun q => q.elim) ⟨Nat.le_of_ble_eq_true rfl, Nat.le_of_ble_eq_true rfl⟩ ⟨Nat.le_of_ble_eq_true rfl, Nat.le_of_ble_eq_true rfl⟩ (Nat.le_of_ble_eq_true rfl) (fun r n h hp => ?_) (fun _ _ _ q => q.elim)
    obtain ⟨rfl, rfl, rfl⟩ := hp
    refine XV.run C okC_countFigure 1 (q := (120, ([some (.ref (4)), some (.int (nI 7))], [.ref (4), .int (sumRK f true k)]))) rfl ?_
    refine XV.getf C (ci := 4) (kf := 0) (v := .ref (5)) (xlk_ok okC_countFigure rfl) rfl (by decide) wF_C_10 (by omega) (by omega) (cw_o) rfl ?_
    refine XV.callV C (As := []) (rest := [.int (sumRK f true k)]) (ci := 0) (ct_E_countsOfRopes hfl cw_e (by omega) (by omega) (k := k) (hm) (by omega) (hl)) (xlk_ok okC_countFigure rfl) rfl (by omega) (by omega) rfl (cw_e 0 (by decide)) rfl wM_C_267 wI_E_countsOfRopes wV_E_countsOfRopes wN_E wB_E_countsOfRopes hy_E_countsOfRopes (fun q => q.elim) ⟨Nat.le_of_ble_eq_true rfl, Nat.le_of_ble_eq_true rfl⟩ ⟨Nat.le_of_ble_eq_true rfl, Nat.le_of_ble_eq_true rfl⟩ (Nat.le_of_ble_eq_true rfl) (fun r n h hp => ?_) (fun _ _ _ q => q.elim)
    obtain ⟨rfl, rfl, rfl⟩ := hp
    refine XV.run C okC_countFigure 1 (q := (127, ([some (.ref (4)), some (.int (nI 7))], [.int ((sumRK f true k) - (sumRK f false k))]))) rfl ?_
    exact XV.iret C (xlk_ok okC_countFigure rfl) hret rfl (Nat.le_of_ble_eq_true rfl) (Nat.le_of_ble_eq_true rfl) (⟨rfl, rfl, rfl⟩)
  ·
    refine XV.tabOut C (tgt := 128) (xlk_ok okC_countFigure rfl) (by decide) rfl ?_
    refine XV.run C okC_countFigure 1 (q := (129, ([some (.ref (4)), some (.int (nI 8))], [.ref (4)]))) rfl ?_
    refine XV.getf C (ci := 4) (kf := 1) (v := .ref (33)) (xlk_ok okC_countFigure rfl) rfl (by decide) wF_C_19 (by omega) (by omega) (cw_o) rfl ?_
    refine XV.getfN C (ci := 1) (kf := 2) (v := .int (nI kp)) (xlk_ok okC_countFigure rfl) rfl (by decide) (List.mem_of_getElem? (i := 19) rfl) (by omega) (by omega) (cw_h 0 (by decide)) rfl ?_
    exact XV.iret C (xlk_ok okC_countFigure rfl) hret rfl (Nat.le_of_ble_eq_true rfl) (Nat.le_of_ble_eq_true rfl) (⟨rfl, rfl, rfl⟩)
set_option maxHeartbeats 4000000 in
set_option maxRecDepth 100000 in
theorem ct_C_reasonIfInspected {l : Launch} (hfl : l.stackTraces = false) {G : XG} {n : Nat} {h : XH} {f : Nat → Int32} {o kp : Nat} {P : Nat → Nat → Int32} {tx : Nat → Int32} {len : Nat} {p : PT} {ρ : Nat → Int32} (hn : 209 ≤ n) {k : Nat} (hm : f 1 = nI k) (hk : k ≤ 5) (hl : ∀ i, i < k → 0 < rowOf f i 0) {i : Nat} (hi : i < k) {z : Nat} (hz : f 2 = nI z) (z1 : 1 ≤ z) (z2 : z ≤ 12) {x y : Int32} {j w b : Nat} (hx : x = nI j) (hy : y = nI b) (hb : b < 24) (hw : j + w = b + 1) : XCt l G False (Cond.code yC_reasonIfInspected bC_reasonIfInspected 4 (some .int)) yC_reasonIfInspected 4 85 0 0 [.ref (4), .ref (5 + 3 + 5 * i), .int (x), .int (y)] n (setCW h f o kp P tx len p ρ) (fun r' n' h' => r' = some (.int (reasonK f (rLook (rowOf f i) j w (f 0)) z)) ∧ n' = n ∧ h' = setCW h f o kp P tx len p (rLook (rowOf f i) j w (f 0))) (fun _ _ _ => False) := by
  subst hx; subst hy
  refine XCt.of hfl (by decide +kernel) (Nat.le_of_ble_eq_true rfl) ?_
  intro p' e' s' m' g' b' t' c' C hret hname hnt hmd
  refine XV.run C okC_reasonIfInspected 1 (q := (1, ([some (.ref (4)), some (.ref (5 + 3 + 5 * i)), some (.int (nI j)), some (.int (nI b))], [.ref (4)]))) rfl ?_
  refine XV.getf C (ci := 4) (kf := 3) (v := .ref (208)) (xlk_ok okC_reasonIfInspected rfl) rfl (by decide) wF_C_33 (by omega) (by omega) (cw_o) rfl ?_
  refine XV.run C okC_reasonIfInspected 1 (q := (5, ([some (.ref (4)), some (.ref (5 + 3 + 5 * i)), some (.int (nI j)), some (.int (nI b))], [.ref (5 + 3 + 5 * i), .ref (208)]))) rfl ?_
  refine XV.callV C (As := [.ref (5 + 3 + 5 * i)]) (rest := []) (ci := 2) (ct_R_copyFrom hfl cw_r (by omega) (by omega) (elev_ropeL cw_e (by omega) (hl i hi)) (by omega) (by omega) (by omega)) (xlk_ok okC_reasonIfInspected rfl) rfl (by omega) (by omega) rfl (cw_r 0 (by decide)) rfl wM_C_270 wI_R_copyFrom wV_R_copyFrom wN_R wB_R_copyFrom hy_R_copyFrom (fun q => q.elim) ⟨Nat.le_of_ble_eq_true rfl, Nat.le_of_ble_eq_true rfl⟩ ⟨Nat.le_of_ble_eq_true rfl, Nat.le_of_ble_eq_true rfl⟩ (Nat.le_of_ble_eq_true rfl) (fun r n h hp => ?_) (fun _ _ _ q => q.elim)
  obtain ⟨rfl, rfl, rfl⟩ := hp
  refine XV.cast (cw_setR _) ?_
  refine XV.run C okC_reasonIfInspected 1 (q := (9, ([some (.ref (4)), some (.ref (5 + 3 + 5 * i)), some (.int (nI j)), some (.int (nI b))], [.ref (4)]))) rfl ?_
  refine XV.getf C (ci := 4) (kf := 3) (v := .ref (208)) (xlk_ok okC_reasonIfInspected rfl) rfl (by decide) wF_C_33 (by omega) (by omega) (cw_o) rfl ?_
  refine XV.run C okC_reasonIfInspected 3 (q := (15, ([some (.ref (4)), some (.ref (5 + 3 + 5 * i)), some (.int (nI j)), some (.int (nI b))], [.ref (4), .int (nI b), .int (nI j), .ref (208)]))) rfl ?_
  refine XV.getf C (ci := 4) (kf := 0) (v := .ref (5)) (xlk_ok okC_reasonIfInspected rfl) rfl (by decide) wF_C_10 (by omega) (by omega) (cw_o) rfl ?_
  refine XV.getfN C (ci := 0) (kf := 3) (v := .int (f 0)) (xlk_ok okC_reasonIfInspected rfl) rfl (by decide) (List.mem_of_getElem? (i := 15) rfl) (by omega) (by omega) (cw_e 0 (by decide)) rfl ?_
  refine XV.callV C (As := [.int (nI j), .int (nI b), .int (f 0)]) (rest := []) (ci := 2) (ct_R_lookAt hfl cw_r (by omega) (by omega) (i := j) (w := w) (b := b) (rfl) (rfl) (by omega) (by omega) (f 0) (hl i hi)) (xlk_ok okC_reasonIfInspected rfl) rfl (by omega) (by omega) rfl (cw_r 0 (by decide)) rfl wM_C_87 wI_R_lookAt wV_R_lookAt wN_R wB_R_lookAt hy_R_lookAt (fun q => q.elim) ⟨Nat.le_of_ble_eq_true rfl, Nat.le_of_ble_eq_true rfl⟩ ⟨Nat.le_of_ble_eq_true rfl, Nat.le_of_ble_eq_true rfl⟩ (Nat.le_of_ble_eq_true rfl) (fun r n h hp => ?_) (fun _ _ _ q => q.elim)
  obtain ⟨rfl, rfl, rfl⟩ := hp
  refine XV.cast (cw_setR _) ?_
  refine XV.run C okC_reasonIfInspected 1 (q := (25, ([some (.ref (4)), some (.ref (5 + 3 + 5 * i)), some (.int (nI j)), some (.int (nI b))], [.ref (4)]))) rfl ?_
  refine XV.getf C (ci := 4) (kf := 0) (v := .ref (5)) (xlk_ok okC_reasonIfInspected rfl) rfl (by decide) wF_C_10 (by omega) (by omega) (cw_o) rfl ?_
  refine XV.run C okC_reasonIfInspected 1 (q := (29, ([some (.ref (4)), some (.ref (5 + 3 + 5 * i)), some (.int (nI j)), some (.int (nI b))], [.ref (4), .ref (5)]))) rfl ?_
  refine XV.getf C (ci := 4) (kf := 3) (v := .ref (208)) (xlk_ok okC_reasonIfInspected rfl) rfl (by decide) wF_C_33 (by omega) (by omega) (cw_o) rfl ?_
  refine XV.callV C (As := [.ref (208)]) (rest := []) (ci := 0) (ct_E_reasonFor hfl cw_e (by omega) (by omega) cw_r (by omega) (by omega) (z := z) (hz) (by omega) (by omega)) (xlk_ok okC_reasonIfInspected rfl) rfl (by omega) (by omega) rfl (cw_e 0 (by decide)) rfl wM_C_251 wI_E_reasonFor wV_E_reasonFor wN_E wB_E_reasonFor hy_E_reasonFor (fun q => q.elim) ⟨Nat.le_of_ble_eq_true rfl, Nat.le_of_ble_eq_true rfl⟩ ⟨Nat.le_of_ble_eq_true rfl, Nat.le_of_ble_eq_true rfl⟩ (Nat.le_of_ble_eq_true rfl) (fun r n h hp => ?_) (fun _ _ _ q => q.elim)
  obtain ⟨rfl, rfl, rfl⟩ := hp
  exact XV.iret C (xlk_ok okC_reasonIfInspected rfl) hret rfl (Nat.le_of_ble_eq_true rfl) (Nat.le_of_ble_eq_true rfl) (⟨rfl, rfl, rfl⟩)
set_option maxHeartbeats 4000000 in
set_option maxRecDepth 100000 in
theorem ct_C_reachesLimit {l : Launch} (hfl : l.stackTraces = false) {G : XG} {n : Nat} {h : XH} {f : Nat → Int32} {o kp : Nat} {P : Nat → Nat → Int32} {tx : Nat → Int32} {len : Nat} {p : PT} {ρ : Nat → Int32} (hn : 209 ≤ n) {k : Nat} (hm : f 1 = nI k) (hk : k ≤ 5) (hl : ∀ i, i < k → 0 < rowOf f i 0) {i : Nat} (hi : i < k) {z : Nat} (hz : f 2 = nI z) (z1 : 1 ≤ z) (z2 : z ≤ 12) (t : Int32) : XCt l G False (Cond.code yC_reachesLimit bC_reachesLimit 3 (some .boolean)) yC_reachesLimit 3 68 0 0 [.ref (4), .ref (5 + 3 + 5 * i), .int (t)] n (setCW h f o kp P tx len p ρ) (fun r' n' h' => r' = some (.int (if rchK f (rowOf f i) z t then 1 else 0)) ∧ n' = n ∧ h' = setCW h f o kp P tx len p (rBendT (rowOf f i) 0 24 t)) (fun _ _ _ => False) := by
  refine XCt.of hfl (by decide +kernel) (Nat.le_of_ble_eq_true rfl) ?_
  intro p' e' s' m' g' b' t' c' C hret hname hnt hmd
  refine XV.run C okC_reachesLimit 1 (q := (1, ([some (.ref (4)), some (.ref (5 + 3 + 5 * i)), some (.int (t))], [.ref (4)]))) rfl ?_
  refine XV.getf C (ci := 4) (kf := 3) (v := .ref (208)) (xlk_ok okC_reachesLimit rfl) rfl (by decide) wF_C_33 (by omega) (by omega) (cw_o) rfl ?_
  refine XV.run C okC_reachesLimit 1 (q := (5, ([some (.ref (4)), some (.ref (5 + 3 + 5 * i)), some (.int (t))], [.ref (5 + 3 + 5 * i), .ref (208)]))) rfl ?_
  refine XV.callV C (As := [.ref (5 + 3 + 5 * i)]) (rest := []) (ci := 2) (ct_R_copyFrom hfl cw_r (by omega) (by omega) (elev_ropeL cw_e (by omega) (hl i hi)) (by omega) (by omega) (by omega)) (xlk_ok okC_reachesLimit rfl) rfl (by omega) (by omega) rfl (cw_r 0 (by decide)) rfl wM_C_270 wI_R_copyFrom wV_R_copyFrom wN_R wB_R_copyFrom hy_R_copyFrom (fun q => q.elim) ⟨Nat.le_of_ble_eq_true rfl, Nat.le_of_ble_eq_true rfl⟩ ⟨Nat.le_of_ble_eq_true rfl, Nat.le_of_ble_eq_true rfl⟩ (Nat.le_of_ble_eq_true rfl) (fun r n h hp => ?_) (fun _ _ _ q => q.elim)
  obtain ⟨rfl, rfl, rfl⟩ := hp
  refine XV.cast (cw_setR _) ?_
  refine XV.run C okC_reachesLimit 1 (q := (9, ([some (.ref (4)), some (.ref (5 + 3 + 5 * i)), some (.int (t))], [.ref (4)]))) rfl ?_
  refine XV.getf C (ci := 4) (kf := 3) (v := .ref (208)) (xlk_ok okC_reachesLimit rfl) rfl (by decide) wF_C_33 (by omega) (by omega) (cw_o) rfl ?_
  refine XV.run C okC_reachesLimit 3 (q := (16, ([some (.ref (4)), some (.ref (5 + 3 + 5 * i)), some (.int (t))], [.int (t), .int (23), .int (0), .ref (208)]))) rfl ?_
  refine XV.callV C (As := [.int (0), .int (23), .int (t)]) (rest := []) (ci := 2) (ct_R_bend hfl cw_r (by omega) (by omega) (i := 0) (w := 24) (b := 23) (rfl) (rfl) (by omega) (by omega) (t)) (xlk_ok okC_reachesLimit rfl) rfl (by omega) (by omega) rfl (cw_r 0 (by decide)) rfl wM_C_278 wI_R_bend wV_R_bend wN_R wB_R_bend hy_R_bend (fun q => q.elim) ⟨Nat.le_of_ble_eq_true rfl, Nat.le_of_ble_eq_true rfl⟩ ⟨Nat.le_of_ble_eq_true rfl, Nat.le_of_ble_eq_true rfl⟩ (Nat.le_of_ble_eq_true rfl) (fun r n h hp => ?_) (fun _ _ _ q => q.elim)
  obtain ⟨rfl, rfl, rfl⟩ := hp
  refine XV.cast (cw_setR _) ?_
  refine XV.run C okC_reachesLimit 1 (q := (20, ([some (.ref (4)), some (.ref (5 + 3 + 5 * i)), some (.int (t))], [.ref (4)]))) rfl ?_
  refine XV.getf C (ci := 4) (kf := 3) (v := .ref (208)) (xlk_ok okC_reachesLimit rfl) rfl (by decide) wF_C_33 (by omega) (by omega) (cw_o) rfl ?_
  refine XV.run C okC_reachesLimit 1 (q := (24, ([some (.ref (4)), some (.ref (5 + 3 + 5 * i)), some (.int (t))], [.ref (4), .ref (208)]))) rfl ?_
  refine XV.getf C (ci := 4) (kf := 0) (v := .ref (5)) (xlk_ok okC_reachesLimit rfl) rfl (by decide) wF_C_10 (by omega) (by omega) (cw_o) rfl ?_
  refine XV.getfN C (ci := 0) (kf := 0) (v := .ref (5 + 1)) (xlk_ok okC_reachesLimit rfl) rfl (by decide) (List.mem_of_getElem? (i := 13) rfl) (by omega) (by omega) (cw_e 0 (by decide)) rfl ?_
  refine XV.run C okC_reachesLimit 1 (q := (31, ([some (.ref (4)), some (.ref (5 + 3 + 5 * i)), some (.int (t))], [.int (0), .ref (5 + 1), .ref (208)]))) rfl ?_
  refine XV.ialdC C (N := 5) (f := (fun i => f (2 + i))) (a := 0) (xlk_ok okC_reachesLimit rfl) (by omega) (by omega) (cw_e 1 (by decide)) (rfl) (by decide) (by decide) ?_
  refine XV.callV C (As := [.int (f 2)]) (rest := []) (ci := 2) (ct_R_greatestBroken hfl cw_r (by omega) (by omega) (z := z) (hz) (by omega) (by omega) (by rw [rBendT_0]; exact hl i hi)) (xlk_ok okC_reachesLimit rfl) rfl (by omega) (by omega) rfl (cw_r 0 (by decide)) rfl wM_C_248 wI_R_greatestBroken wV_R_greatestBroken wN_R wB_R_greatestBroken hy_R_greatestBroken (fun q => q.elim) ⟨Nat.le_of_ble_eq_true rfl, Nat.le_of_ble_eq_true rfl⟩ ⟨Nat.le_of_ble_eq_true rfl, Nat.le_of_ble_eq_true rfl⟩ (Nat.le_of_ble_eq_true rfl) (fun r n h hp => ?_) (fun _ _ _ q => q.elim)
  obtain ⟨rfl, rfl, rfl⟩ := hp
  refine XV.run C okC_reachesLimit 1 (q := (36, ([some (.ref (4)), some (.ref (5 + 3 + 5 * i)), some (.int (t))], [.ref (4), .int (gmx (winS (rBendT (rowOf f i) 0 24 t) true z) (25 - z))]))) rfl ?_
  refine XV.getf C (ci := 4) (kf := 0) (v := .ref (5)) (xlk_ok okC_reachesLimit rfl) rfl (by decide) wF_C_10 (by omega) (by omega) (cw_o) rfl ?_
  refine XV.getfN C (ci := 0) (kf := 0) (v := .ref (5 + 1)) (xlk_ok okC_reachesLimit rfl) rfl (by decide) (List.mem_of_getElem? (i := 13) rfl) (by omega) (by omega) (cw_e 0 (by decide)) rfl ?_
  refine XV.run C okC_reachesLimit 1 (q := (43, ([some (.ref (4)), some (.ref (5 + 3 + 5 * i)), some (.int (t))], [.int (1), .ref (5 + 1), .int (gmx (winS (rBendT (rowOf f i) 0 24 t) true z) (25 - z))]))) rfl ?_
  refine XV.ialdC C (N := 5) (f := (fun i => f (2 + i))) (a := 1) (xlk_ok okC_reachesLimit rfl) (by omega) (by omega) (cw_e 1 (by decide)) (rfl) (by decide) (by decide) ?_
  refine XV.icmp_lt C (tgt := 51) (xlk_ok okC_reachesLimit rfl) rfl (fun c1 => ?_) (fun c1 => ?_)
  ·
    refine XV.run C okC_reachesLimit 1 (q := (52, ([some (.ref (4)), some (.ref (5 + 3 + 5 * i)), some (.int (t))], [.int (0)]))) rfl ?_
    exact XV.iret C (xlk_ok okC_reachesLimit rfl) hret (rfl) (Nat.le_of_ble_eq_true rfl) (Nat.le_of_ble_eq_true rfl) (⟨by rw [show rchK f (rowOf f i) z t = false from decide_eq_false (Int32.not_le.mpr c1)]; rfl, rfl, rfl⟩)
  ·
    refine XV.run C okC_reachesLimit 2 (q := (52, ([some (.ref (4)), some (.ref (5 + 3 + 5 * i)), some (.int (t))], [.int (1)]))) rfl ?_
    exact XV.iret C (xlk_ok okC_reachesLimit rfl) hret (rfl) (Nat.le_of_ble_eq_true rfl) (Nat.le_of_ble_eq_true rfl) (⟨by rw [show rchK f (rowOf f i) z t = true from decide_eq_true (Int32.not_lt.mp c1)]; rfl, rfl, rfl⟩)
set_option maxHeartbeats 4000000 in
set_option maxRecDepth 100000 in
theorem ct_C_tripsToLimit {l : Launch} (hfl : l.stackTraces = false) {G : XG} {n : Nat} {h : XH} {f : Nat → Int32} {o kp : Nat} {P : Nat → Nat → Int32} {tx : Nat → Int32} {len : Nat} {p : PT} {ρ : Nat → Int32} (hn : 209 ≤ n) {k : Nat} (hm : f 1 = nI k) (hk : k ≤ 5) (hl : ∀ i, i < k → 0 < rowOf f i 0) {i : Nat} (hi : i < k) {z : Nat} (hz : f 2 = nI z) (z1 : 1 ≤ z) (z2 : z ≤ 12) : XCt l G False (Cond.code yC_tripsToLimit bC_tripsToLimit 6 (some .int)) yC_tripsToLimit 4 90 0 0 [.ref (4), .ref (5 + 3 + 5 * i)] n (setCW h f o kp P tx len p ρ) (fun r' n' h' => r' = some (.int (tlK f (rowOf f i) z 32 0 (f 3 * rowOf f i 0))) ∧ n' = n ∧ ∃ ρ', h' = setCW h f o kp P tx len p ρ') (fun _ _ _ => False) := by
  refine XCt.of hfl (by decide +kernel) (Nat.le_of_ble_eq_true rfl) ?_
  intro p' e' s' m' g' b' t' c' C hret hname hnt hmd
  refine XV.run C okC_tripsToLimit 3 (q := (3, ([some (.ref (4)), some (.ref (5 + 3 + 5 * i)), some (.int (0)), none, none, none], [.ref (4)]))) rfl ?_
  refine XV.getf C (ci := 4) (kf := 0) (v := .ref (5)) (xlk_ok okC_tripsToLimit rfl) rfl (by decide) wF_C_10 (by omega) (by omega) (cw_o) rfl ?_
  refine XV.getfN C (ci := 0) (kf := 0) (v := .ref (5 + 1)) (xlk_ok okC_tripsToLimit rfl) rfl (by decide) (List.mem_of_getElem? (i := 13) rfl) (by omega) (by omega) (cw_e 0 (by decide)) rfl ?_
  refine XV.run C okC_tripsToLimit 1 (q := (10, ([some (.ref (4)), some (.ref (5 + 3 + 5 * i)), some (.int (0)), none, none, none], [.int (1), .ref (5 + 1)]))) rfl ?_
  refine XV.ialdC C (N := 5) (f := (fun i => f (2 + i))) (a := 1) (xlk_ok okC_tripsToLimit rfl) (by omega) (by omega) (cw_e 1 (by decide)) (rfl) (by decide) (by decide) ?_
  refine XV.run C okC_tripsToLimit 1 (q := (12, ([some (.ref (4)), some (.ref (5 + 3 + 5 * i)), some (.int (0)), none, none, none], [.ref (5 + 3 + 5 * i), .int (f 3)]))) rfl ?_
  refine XV.getfN C (ci := 2) (kf := 4) (v := .int ((rowOf f i) 0)) (xlk_ok okC_tripsToLimit rfl) rfl (by decide) (List.mem_of_getElem? (i := 10) rfl) (by omega) (by omega) ((elev_ropeL cw_e (by omega) (hl i hi)) 0 (by decide)) rfl ?_
  refine XV.run C okC_tripsToLimit 4 (q := (20, ([some (.ref (4)), some (.ref (5 + 3 + 5 * i)), some (.int (0)), some (.int ((f 3) * ((rowOf f i) 0))), some (.int (0)), none], []))) rfl ?_
  obtain ⟨V, hV⟩ : ∃ V, V = tlK f (rowOf f i) z 32 0 (f 3 * rowOf f i 0) := ⟨_, rfl⟩
  rw [← hV]
  have loop : ∀ (d j : Nat) (lo hg : Int32) (σ : Nat → Int32), j + d = 32 → tlK f (rowOf f i) z d lo hg = V → XV G 6 p' l e' ({ frames := 4, cells := 0, slots := 0, locals := 90 } : Room) s' m' g' b' t' c' (XEnd G b' (fun r' n' h' => r' = some (.int (V)) ∧ n' = n ∧ ∃ ρ', h' = setCW h f o kp P tx len p ρ') (fun _ _ _ => False) g' s' 0 0) 20 [some (.ref (4)), some (.ref (5 + 3 + 5 * i)), some (.int (lo)), some (.int (hg)), some (.int (nI j)), none] [] n (setCW h f o kp P tx len p σ) 0 0 := by
    intro d
    induction d with
    | zero =>
      intro j lo hg σ hj hv
      refine XV.run C okC_tripsToLimit 2 (q := (24, ([some (.ref (4)), some (.ref (5 + 3 + 5 * i)), some (.int (lo)), some (.int (hg)), some (.int (nI j)), none], [.int (32), .int (nI j)]))) rfl ?_
      refine XV.icmp_ge C (tgt := 66) (xlk_ok okC_tripsToLimit rfl) rfl (fun _ => ?_) (fun hc => absurd (nI_le (a := 32) (by omega) (by omega)) hc)
      refine XV.run C okC_tripsToLimit 1 (q := (67, ([some (.ref (4)), some (.ref (5 + 3 + 5 * i)), some (.int (lo)), some (.int (hg)), some (.int (nI j)), none], [.int (lo)]))) rfl ?_
      exact XV.iret C (xlk_ok okC_tripsToLimit rfl) hret rfl (Nat.le_of_ble_eq_true rfl) (Nat.le_of_ble_eq_true rfl) (⟨by first | rw [hv1] | rw [← hv]; rfl, rfl, _, rfl⟩)
    | succ d ih =>
      intro j lo hg σ hj hv
      refine XV.run C okC_tripsToLimit 2 (q := (24, ([some (.ref (4)), some (.ref (5 + 3 + 5 * i)), some (.int (lo)), some (.int (hg)), some (.int (nI j)), none], [.int (32), .int (nI j)]))) rfl ?_
      refine XV.icmp_ge C (tgt := 66) (xlk_ok okC_tripsToLimit rfl) rfl (fun hc => absurd hc (nI_ge (b := 32) (by omega) (by omega))) (fun _ => ?_)
      refine XV.run C okC_tripsToLimit 2 (q := (29, ([some (.ref (4)), some (.ref (5 + 3 + 5 * i)), some (.int (lo)), some (.int (hg)), some (.int (nI j)), none], [.int (hg), .int (lo)]))) rfl ?_
      refine XV.icmp_ge C (tgt := 66) (xlk_ok okC_tripsToLimit rfl) rfl (fun c1 => ?_) (fun c1 => ?_)
      ·
        have hv1 : lo = V := by rw [← hv]; exact (if_neg (Int32.not_lt.mpr c1)).symm
        refine XV.run C okC_tripsToLimit 1 (q := (67, ([some (.ref (4)), some (.ref (5 + 3 + 5 * i)), some (.int (lo)), some (.int (hg)), some (.int (nI j)), none], [.int (lo)]))) rfl ?_
        exact XV.iret C (xlk_ok okC_tripsToLimit rfl) hret rfl (Nat.le_of_ble_eq_true rfl) (Nat.le_of_ble_eq_true rfl) (⟨by first | rw [hv1] | rw [← hv]; rfl, rfl, _, rfl⟩)
      ·
        have c1 : lo < hg := Int32.not_le.mp c1
        refine XV.run C okC_tripsToLimit 4 (q := (36, ([some (.ref (4)), some (.ref (5 + 3 + 5 * i)), some (.int (lo)), some (.int (hg)), some (.int (nI j)), none], [.int (2), .int (lo + hg)]))) rfl ?_
        refine XV.idiv C (xlk_ok okC_tripsToLimit rfl) (by decide) ?_
        refine XV.run C okC_tripsToLimit 4 (q := (43, ([some (.ref (4)), some (.ref (5 + 3 + 5 * i)), some (.int (lo)), some (.int (hg)), some (.int (nI j)), some (.int ((lo + hg) / 2))], [.int ((lo + hg) / 2), .ref (5 + 3 + 5 * i), .ref (4)]))) rfl ?_
        refine XV.callV C (As := [.ref (5 + 3 + 5 * i), .int ((lo + hg) / 2)]) (rest := []) (ci := 4) (ct_C_reachesLimit hfl hn hm hk hl (i := i) hi hz z1 z2 ((lo + hg) / 2)) (xlk_ok okC_tripsToLimit rfl) rfl (by omega) (by omega) rfl (cw_o) rfl wM_C_274 wI_C_reachesLimit wV_C_reachesLimit wN_C wB_C_reachesLimit hy_C_reachesLimit (fun q => q.elim) ⟨Nat.le_of_ble_eq_true rfl, Nat.le_of_ble_eq_true rfl⟩ ⟨Nat.le_of_ble_eq_true rfl, Nat.le_of_ble_eq_true rfl⟩ (Nat.le_of_ble_eq_true rfl) (fun r n h hp => ?_) (fun _ _ _ q => q.elim)
        obtain ⟨rfl, rfl, rfl⟩ := hp
        refine XV.if_eq C (tgt := 55) (xlk_ok okC_tripsToLimit rfl) rfl (fun c2 => ?_) (fun c2 => ?_)
        ·
          have hv2 : tlK f (rowOf f i) z d ((lo + hg) / 2 + 1) hg = V := by rw [← hv]; show _ = if _ then (if _ then _ else _) else _; rw [if_pos c1, if1_0 c2]; rfl
          refine XV.run C okC_tripsToLimit 6 (q := (20, ([some (.ref (4)), some (.ref (5 + 3 + 5 * i)), some (.int (((lo + hg) / 2) + 1)), some (.int (hg)), some (.int ((nI j) + 1)), some (.int ((lo + hg) / 2))], []))) rfl ?_
          rw [nI_1]
          exact XV.drop (ih (j + 1) _ _ _ (by omega) hv2) rfl (by simp [xle])
        ·
          have hv2 : tlK f (rowOf f i) z d lo ((lo + hg) / 2) = V := by rw [← hv]; show _ = if _ then (if _ then _ else _) else _; rw [if_pos c1, if1_1 c2]; rfl
          refine XV.run C okC_tripsToLimit 5 (q := (20, ([some (.ref (4)), some (.ref (5 + 3 + 5 * i)), some (.int (lo)), some (.int ((lo + hg) / 2)), some (.int ((nI j) + 1)), some (.int ((lo + hg) / 2))], []))) rfl ?_
          rw [nI_1]
          exact XV.drop (ih (j + 1) _ _ _ (by omega) hv2) rfl (by simp [xle])
  exact loop 32 0 0 _ ρ (by omega) hV.symm
