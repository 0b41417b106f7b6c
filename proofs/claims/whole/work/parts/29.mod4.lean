/-! RopeThreadsModel: figures -/
def ropeFigM (g r : Nat → Int32) (z w : Nat) : Int32 := match w with
  | 0 => r 0
  | 1 => r 1
  | 2 => sumN (colR r false) 0 24
  | 3 => sumN (colR r true) 0 24
  | 4 => gmost r false z
  | 5 => nI (gwin r false z)
  | 6 => gmost r true z
  | 7 => reasonM g r z
  | 8 => mleM g r
  | _ => r 2
def countFigM (g F : Nat → Int32) (z k w : Nat) : Int32 := match w with
  | 0 => g 0
  | 1 => g 1
  | 2 => nI (retM g z k)
  | 3 => if canM g z k then 1 else 0
  | 4 => g 7
  | 5 => g 8
  | 6 => g 9
  | 7 => sumRK g true k - sumRK g false k
  | _ => F 2
set_option maxHeartbeats 4000000 in
set_option maxRecDepth 100000 in
theorem ct_M_ofRope {l : Launch} (hfl : l.stackTraces = false) {G : XG} {n : Nat} {h : XH} {g pa tr mx td F : Nat → Int32} (hn : 215 ≤ n) {z : Nat} (hz : g 2 = nI z) (z1 : 1 ≤ z) (z2 : z ≤ 12) {i : Nat} (hi : i < 5) (hq : 0 < rowOf g i 0) {w : Nat} {x y : Int32} (hx : x = nI i) (hy : y = nI w) (hw : w ≤ 9) : XCt l G False (Cond.code yM_ofRope bM_ofRope 4 (some .int)) yM_ofRope 5 122 0 0 [.ref (213), .int (x), .int (y)] n (setM h g pa tr mx td F) (fun r' n' h' => r' = some (.int (ropeFigM g (rowOf g i) z w)) ∧ n' = n ∧ h' = setM h g pa tr mx td F) (fun _ _ _ => False) := by
  subst hx; subst hy
  refine XCt.of hfl (by decide +kernel) (Nat.le_of_ble_eq_true rfl) ?_
  intro p' e' s' m' g' b' t' c' C hret hname hnt hmd
  refine XV.run C okM_ofRope 1 (q := (1, ([some (.ref (213)), some (.int (nI i)), some (.int (nI w)), none], [.int (nI i)]))) rfl ?_
  refine XV.callS C (As := [.int (nI i)]) (rest := []) (ct_M_row hfl (i := i) (rfl)) (xlk_ok okM_ofRope rfl) rfl wM_M_59 wS_M_row wN_M wB_M_row hy_M_row (fun q => q.elim) ⟨Nat.le_of_ble_eq_true rfl, Nat.le_of_ble_eq_true rfl⟩ ⟨Nat.le_of_ble_eq_true rfl, Nat.le_of_ble_eq_true rfl⟩ (Nat.le_of_ble_eq_true rfl) (fun r n h hp => ?_) (fun _ _ _ q => q.elim)
  obtain ⟨rfl, rfl, rfl⟩ := hp
  refine XV.run C okM_ofRope 2 (q := (6, ([some (.ref (213)), some (.int (nI i)), some (.int (nI w)), some (.int (nI (10 + 99 * i)))], [.int (nI w)]))) rfl ?_
  rcases (show w = 0 ∨ w = 1 ∨ w = 2 ∨ w = 3 ∨ w = 4 ∨ w = 5 ∨ w = 6 ∨ w = 7 ∨ w = 8 ∨ w = 9 by omega) with rfl | rfl | rfl | rfl | rfl | rfl | rfl | rfl | rfl | rfl
  ·
    refine XV.tabIn C (off := 50) (tgt := 56) (xlk_ok okM_ofRope rfl) (by decide) (by decide) rfl rfl ?_
    refine XV.run C okM_ofRope 1 (q := (57, ([some (.ref (213)), some (.int (nI i)), some (.int (nI 0)), some (.int (nI (10 + 99 * i)))], [.ref (213)]))) rfl ?_
    refine XV.getf C (ci := 5) (kf := 0) (v := .ref (214)) (xlk_ok okM_ofRope rfl) rfl (by decide) wF_M_7 (by omega) (by omega) (mw_o) rfl ?_
    refine XV.run C okM_ofRope 3 (q := (63, ([some (.ref (213)), some (.int (nI i)), some (.int (nI 0)), some (.int (nI (10 + 99 * i)))], [.int ((nI (10 + 99 * i)) + 0), .ref (214)]))) rfl ?_
    refine XV.ialdC C (N := 505) (f := g) (a := (10 + 99 * i + 0)) (xlk_ok okM_ofRope rfl) (by omega) (by omega) (mw_1) (by rw [show (0 : Int32) = nI 0 from rfl, nI_add]) (by omega) (by decide) ?_
    exact XV.iret C (xlk_ok okM_ofRope rfl) hret rfl (Nat.le_of_ble_eq_true rfl) (Nat.le_of_ble_eq_true rfl) (⟨rfl, rfl, rfl⟩)
  ·
    refine XV.tabIn C (off := 59) (tgt := 65) (xlk_ok okM_ofRope rfl) (by decide) (by decide) rfl rfl ?_
    refine XV.run C okM_ofRope 1 (q := (66, ([some (.ref (213)), some (.int (nI i)), some (.int (nI 1)), some (.int (nI (10 + 99 * i)))], [.ref (213)]))) rfl ?_
    refine XV.getf C (ci := 5) (kf := 0) (v := .ref (214)) (xlk_ok okM_ofRope rfl) rfl (by decide) wF_M_7 (by omega) (by omega) (mw_o) rfl ?_
    refine XV.run C okM_ofRope 3 (q := (72, ([some (.ref (213)), some (.int (nI i)), some (.int (nI 1)), some (.int (nI (10 + 99 * i)))], [.int ((nI (10 + 99 * i)) + 1), .ref (214)]))) rfl ?_
    refine XV.ialdC C (N := 505) (f := g) (a := (10 + 99 * i + 1)) (xlk_ok okM_ofRope rfl) (by omega) (by omega) (mw_1) (by rw [show (1 : Int32) = nI 1 from rfl, nI_add]) (by omega) (by decide) ?_
    exact XV.iret C (xlk_ok okM_ofRope rfl) hret rfl (Nat.le_of_ble_eq_true rfl) (Nat.le_of_ble_eq_true rfl) (⟨rfl, rfl, rfl⟩)
  ·
    refine XV.tabIn C (off := 68) (tgt := 74) (xlk_ok okM_ofRope rfl) (by decide) (by decide) rfl rfl ?_
    refine XV.run C okM_ofRope 1 (q := (75, ([some (.ref (213)), some (.int (nI i)), some (.int (nI 2)), some (.int (nI (10 + 99 * i)))], [.ref (213)]))) rfl ?_
    refine XV.getf C (ci := 5) (kf := 0) (v := .ref (214)) (xlk_ok okM_ofRope rfl) rfl (by decide) wF_M_7 (by omega) (by omega) (mw_o) rfl ?_
    refine XV.run C okM_ofRope 4 (q := (83, ([some (.ref (213)), some (.int (nI i)), some (.int (nI 2)), some (.int (nI (10 + 99 * i)))], [.int (0), .int (24), .int (0), .int (nI (10 + 99 * i)), .ref (214)]))) rfl ?_
    refine XV.callS C (As := [.ref (214), .int (nI (10 + 99 * i)), .int (0), .int (24), .int (0)]) (rest := []) (ct_M_sumOf hfl (X := 10 + 99 * i) (mw_1) (by omega) (by omega) (by decide) (by omega) (i := 0) (v := 24) false (rfl) (rfl) (rfl) (by omega) (fun q => Bool.noConfusion q)) (xlk_ok okM_ofRope rfl) rfl wM_M_48 wS_M_sumOf wN_M wB_M_sumOf hy_M_sumOf (fun q => q.elim) ⟨Nat.le_of_ble_eq_true rfl, Nat.le_of_ble_eq_true rfl⟩ ⟨Nat.le_of_ble_eq_true rfl, Nat.le_of_ble_eq_true rfl⟩ (Nat.le_of_ble_eq_true rfl) (fun r n h hp => ?_) (fun _ _ _ q => q.elim)
    obtain ⟨rfl, rfl, rfl⟩ := hp
    exact XV.iret C (xlk_ok okM_ofRope rfl) hret rfl (Nat.le_of_ble_eq_true rfl) (Nat.le_of_ble_eq_true rfl) (⟨rfl, rfl, rfl⟩)
  ·
    refine XV.tabIn C (off := 81) (tgt := 87) (xlk_ok okM_ofRope rfl) (by decide) (by decide) rfl rfl ?_
    refine XV.run C okM_ofRope 1 (q := (88, ([some (.ref (213)), some (.int (nI i)), some (.int (nI 3)), some (.int (nI (10 + 99 * i)))], [.ref (213)]))) rfl ?_
    refine XV.getf C (ci := 5) (kf := 0) (v := .ref (214)) (xlk_ok okM_ofRope rfl) rfl (by decide) wF_M_7 (by omega) (by omega) (mw_o) rfl ?_
    refine XV.run C okM_ofRope 4 (q := (96, ([some (.ref (213)), some (.int (nI i)), some (.int (nI 3)), some (.int (nI (10 + 99 * i)))], [.int (1), .int (24), .int (0), .int (nI (10 + 99 * i)), .ref (214)]))) rfl ?_
    refine XV.callS C (As := [.ref (214), .int (nI (10 + 99 * i)), .int (0), .int (24), .int (1)]) (rest := []) (ct_M_sumOf hfl (X := 10 + 99 * i) (mw_1) (by omega) (by omega) (by decide) (by omega) (i := 0) (v := 24) true (rfl) (rfl) (rfl) (by omega) (fun _ => ne_of_gt hq)) (xlk_ok okM_ofRope rfl) rfl wM_M_48 wS_M_sumOf wN_M wB_M_sumOf hy_M_sumOf (fun q => q.elim) ⟨Nat.le_of_ble_eq_true rfl, Nat.le_of_ble_eq_true rfl⟩ ⟨Nat.le_of_ble_eq_true rfl, Nat.le_of_ble_eq_true rfl⟩ (Nat.le_of_ble_eq_true rfl) (fun r n h hp => ?_) (fun _ _ _ q => q.elim)
    obtain ⟨rfl, rfl, rfl⟩ := hp
    exact XV.iret C (xlk_ok okM_ofRope rfl) hret rfl (Nat.le_of_ble_eq_true rfl) (Nat.le_of_ble_eq_true rfl) (⟨rfl, rfl, rfl⟩)
  ·
    refine XV.tabIn C (off := 94) (tgt := 100) (xlk_ok okM_ofRope rfl) (by decide) (by decide) rfl rfl ?_
    refine XV.run C okM_ofRope 2 (q := (102, ([some (.ref (213)), some (.int (nI i)), some (.int (nI 4)), some (.int (nI (10 + 99 * i)))], [.ref (213), .ref (213)]))) rfl ?_
    refine XV.getf C (ci := 5) (kf := 0) (v := .ref (214)) (xlk_ok okM_ofRope rfl) rfl (by decide) wF_M_7 (by omega) (by omega) (mw_o) rfl ?_
    refine XV.run C okM_ofRope 2 (q := (107, ([some (.ref (213)), some (.int (nI i)), some (.int (nI 4)), some (.int (nI (10 + 99 * i)))], [.int (0), .int (nI (10 + 99 * i)), .ref (214), .ref (213)]))) rfl ?_
    refine XV.callV C (As := [.ref (214), .int (nI (10 + 99 * i)), .int (0)]) (rest := []) (ci := 5) (ct_M_most hfl hn (X := 10 + 99 * i) (mw_1) (by omega) (by omega) (by decide) (by omega) hz z1 z2 false rfl (fun q => Bool.noConfusion q)) (xlk_ok okM_ofRope rfl) rfl (by omega) (by omega) rfl (mw_o) rfl wM_M_56 wI_M_most wV_M_most wN_M wB_M_most hy_M_most (fun q => q.elim) ⟨Nat.le_of_ble_eq_true rfl, Nat.le_of_ble_eq_true rfl⟩ ⟨Nat.le_of_ble_eq_true rfl, Nat.le_of_ble_eq_true rfl⟩ (Nat.le_of_ble_eq_true rfl) (fun r n h hp => ?_) (fun _ _ _ q => q.elim)
    obtain ⟨rfl, rfl, rfl⟩ := hp
    exact XV.iret C (xlk_ok okM_ofRope rfl) hret rfl (Nat.le_of_ble_eq_true rfl) (Nat.le_of_ble_eq_true rfl) (⟨rfl, rfl, rfl⟩)
  ·
    refine XV.tabIn C (off := 105) (tgt := 111) (xlk_ok okM_ofRope rfl) (by decide) (by decide) rfl rfl ?_
    refine XV.run C okM_ofRope 2 (q := (113, ([some (.ref (213)), some (.int (nI i)), some (.int (nI 5)), some (.int (nI (10 + 99 * i)))], [.ref (213), .ref (213)]))) rfl ?_
    refine XV.getf C (ci := 5) (kf := 0) (v := .ref (214)) (xlk_ok okM_ofRope rfl) rfl (by decide) wF_M_7 (by omega) (by omega) (mw_o) rfl ?_
    refine XV.run C okM_ofRope 2 (q := (118, ([some (.ref (213)), some (.int (nI i)), some (.int (nI 5)), some (.int (nI (10 + 99 * i)))], [.int (0), .int (nI (10 + 99 * i)), .ref (214), .ref (213)]))) rfl ?_
    refine XV.callV C (As := [.ref (214), .int (nI (10 + 99 * i)), .int (0)]) (rest := []) (ci := 5) (ct_M_greatest hfl hn (X := 10 + 99 * i) (mw_1) (by omega) (by omega) (by decide) (by omega) hz z1 z2 false rfl (fun q => Bool.noConfusion q)) (xlk_ok okM_ofRope rfl) rfl (by omega) (by omega) rfl (mw_o) rfl wM_M_52 wI_M_greatest wV_M_greatest wN_M wB_M_greatest hy_M_greatest (fun q => q.elim) ⟨Nat.le_of_ble_eq_true rfl, Nat.le_of_ble_eq_true rfl⟩ ⟨Nat.le_of_ble_eq_true rfl, Nat.le_of_ble_eq_true rfl⟩ (Nat.le_of_ble_eq_true rfl) (fun r n h hp => ?_) (fun _ _ _ q => q.elim)
    obtain ⟨rfl, rfl, rfl⟩ := hp
    exact XV.iret C (xlk_ok okM_ofRope rfl) hret rfl (Nat.le_of_ble_eq_true rfl) (Nat.le_of_ble_eq_true rfl) (⟨rfl, rfl, rfl⟩)
  ·
    refine XV.tabIn C (off := 116) (tgt := 122) (xlk_ok okM_ofRope rfl) (by decide) (by decide) rfl rfl ?_
    refine XV.run C okM_ofRope 2 (q := (124, ([some (.ref (213)), some (.int (nI i)), some (.int (nI 6)), some (.int (nI (10 + 99 * i)))], [.ref (213), .ref (213)]))) rfl ?_
    refine XV.getf C (ci := 5) (kf := 0) (v := .ref (214)) (xlk_ok okM_ofRope rfl) rfl (by decide) wF_M_7 (by omega) (by omega) (mw_o) rfl ?_
    refine XV.run C okM_ofRope 2 (q := (129, ([some (.ref (213)), some (.int (nI i)), some (.int (nI 6)), some (.int (nI (10 + 99 * i)))], [.int (1), .int (nI (10 + 99 * i)), .ref (214), .ref (213)]))) rfl ?_
    refine XV.callV C (As := [.ref (214), .int (nI (10 + 99 * i)), .int (1)]) (rest := []) (ci := 5) (ct_M_most hfl hn (X := 10 + 99 * i) (mw_1) (by omega) (by omega) (by decide) (by omega) hz z1 z2 true rfl (fun _ => ne_of_gt hq)) (xlk_ok okM_ofRope rfl) rfl (by omega) (by omega) rfl (mw_o) rfl wM_M_56 wI_M_most wV_M_most wN_M wB_M_most hy_M_most (fun q => q.elim) ⟨Nat.le_of_ble_eq_true rfl, Nat.le_of_ble_eq_true rfl⟩ ⟨Nat.le_of_ble_eq_true rfl, Nat.le_of_ble_eq_true rfl⟩ (Nat.le_of_ble_eq_true rfl) (fun r n h hp => ?_) (fun _ _ _ q => q.elim)
    obtain ⟨rfl, rfl, rfl⟩ := hp
    exact XV.iret C (xlk_ok okM_ofRope rfl) hret rfl (Nat.le_of_ble_eq_true rfl) (Nat.le_of_ble_eq_true rfl) (⟨rfl, rfl, rfl⟩)
  ·
    refine XV.tabIn C (off := 127) (tgt := 133) (xlk_ok okM_ofRope rfl) (by decide) (by decide) rfl rfl ?_
    refine XV.run C okM_ofRope 2 (q := (135, ([some (.ref (213)), some (.int (nI i)), some (.int (nI 7)), some (.int (nI (10 + 99 * i)))], [.ref (213), .ref (213)]))) rfl ?_
    refine XV.getf C (ci := 5) (kf := 0) (v := .ref (214)) (xlk_ok okM_ofRope rfl) rfl (by decide) wF_M_7 (by omega) (by omega) (mw_o) rfl ?_
    refine XV.run C okM_ofRope 1 (q := (139, ([some (.ref (213)), some (.int (nI i)), some (.int (nI 7)), some (.int (nI (10 + 99 * i)))], [.int (nI (10 + 99 * i)), .ref (214), .ref (213)]))) rfl ?_
    refine XV.callV C (As := [.ref (214), .int (nI (10 + 99 * i))]) (rest := []) (ci := 5) (ct_M_reason hfl hn (X := 10 + 99 * i) (mw_1) (by omega) (by omega) (by decide) (by omega) hz z1 z2 (rfl)) (xlk_ok okM_ofRope rfl) rfl (by omega) (by omega) rfl (mw_o) rfl wM_M_87 wI_M_reason wV_M_reason wN_M wB_M_reason hy_M_reason (fun q => q.elim) ⟨Nat.le_of_ble_eq_true rfl, Nat.le_of_ble_eq_true rfl⟩ ⟨Nat.le_of_ble_eq_true rfl, Nat.le_of_ble_eq_true rfl⟩ (Nat.le_of_ble_eq_true rfl) (fun r n h hp => ?_) (fun _ _ _ q => q.elim)
    obtain ⟨rfl, rfl, rfl⟩ := hp
    exact XV.iret C (xlk_ok okM_ofRope rfl) hret rfl (Nat.le_of_ble_eq_true rfl) (Nat.le_of_ble_eq_true rfl) (⟨rfl, rfl, rfl⟩)
  ·
    refine XV.tabIn C (off := 137) (tgt := 143) (xlk_ok okM_ofRope rfl) (by decide) (by decide) rfl rfl ?_
    refine XV.run C okM_ofRope 2 (q := (145, ([some (.ref (213)), some (.int (nI i)), some (.int (nI 8)), some (.int (nI (10 + 99 * i)))], [.int (nI i), .ref (213)]))) rfl ?_
    refine XV.callV C (As := [.int (nI i)]) (rest := []) (ci := 5) (ct_M_monthsLeft hfl hn (i := i) (by omega) rfl) (xlk_ok okM_ofRope rfl) rfl (by omega) (by omega) rfl (mw_o) rfl wM_M_134 wI_M_monthsLeft wV_M_monthsLeft wN_M wB_M_monthsLeft hy_M_monthsLeft (fun q => q.elim) ⟨Nat.le_of_ble_eq_true rfl, Nat.le_of_ble_eq_true rfl⟩ ⟨Nat.le_of_ble_eq_true rfl, Nat.le_of_ble_eq_true rfl⟩ (Nat.le_of_ble_eq_true rfl) (fun r n h hp => ?_) (fun _ _ _ q => q.elim)
    obtain ⟨rfl, rfl, rfl⟩ := hp
    exact XV.iret C (xlk_ok okM_ofRope rfl) hret rfl (Nat.le_of_ble_eq_true rfl) (Nat.le_of_ble_eq_true rfl) (⟨rfl, rfl, rfl⟩)
  ·
    refine XV.tabOut C (tgt := 149) (xlk_ok okM_ofRope rfl) (by decide) rfl ?_
    refine XV.run C okM_ofRope 1 (q := (150, ([some (.ref (213)), some (.int (nI i)), some (.int (nI 9)), some (.int (nI (10 + 99 * i)))], [.ref (213)]))) rfl ?_
    refine XV.getf C (ci := 5) (kf := 0) (v := .ref (214)) (xlk_ok okM_ofRope rfl) rfl (by decide) wF_M_7 (by omega) (by omega) (mw_o) rfl ?_
    refine XV.run C okM_ofRope 3 (q := (156, ([some (.ref (213)), some (.int (nI i)), some (.int (nI 9)), some (.int (nI (10 + 99 * i)))], [.int ((nI (10 + 99 * i)) + 2), .ref (214)]))) rfl ?_
    refine XV.ialdC C (N := 505) (f := g) (a := (10 + 99 * i + 2)) (xlk_ok okM_ofRope rfl) (by omega) (by omega) (mw_1) (by rw [show (2 : Int32) = nI 2 from rfl, nI_add]) (by omega) (by decide) ?_
    exact XV.iret C (xlk_ok okM_ofRope rfl) hret rfl (Nat.le_of_ble_eq_true rfl) (Nat.le_of_ble_eq_true rfl) (⟨rfl, rfl, rfl⟩)
set_option maxHeartbeats 4000000 in
set_option maxRecDepth 100000 in
theorem ct_M_ofSection {l : Launch} (hfl : l.stackTraces = false) {G : XG} {n : Nat} {h : XH} {g pa tr mx td F : Nat → Int32} (hn : 215 ≤ n) {i : Nat} (hi : i < 5) (hq : 0 < rowOf g i 0) {s w : Nat} {x y u : Int32} (hx : x = nI i) (hy : y = nI s) (hu : u = nI w) (hs : s < 24) (hw : w ≤ 4) : XCt l G False (Cond.code yM_ofSection bM_ofSection 5 (some .int)) yM_ofSection 1 22 0 0 [.ref (213), .int (x), .int (y), .int (u)] n (setM h g pa tr mx td F) (fun r' n' h' => r' = some (.int (secF (rowOf g i) s w)) ∧ n' = n ∧ h' = setM h g pa tr mx td F) (fun _ _ _ => False) := by
  subst hx; subst hy; subst hu
  refine XCt.of hfl (by decide +kernel) (Nat.le_of_ble_eq_true rfl) ?_
  intro p' e' s' m' g' b' t' c' C hret hname hnt hmd
  refine XV.run C okM_ofSection 1 (q := (1, ([some (.ref (213)), some (.int (nI i)), some (.int (nI s)), some (.int (nI w)), none], [.int (nI i)]))) rfl ?_
  refine XV.callS C (As := [.int (nI i)]) (rest := []) (ct_M_row hfl (i := i) (rfl)) (xlk_ok okM_ofSection rfl) rfl wM_M_59 wS_M_row wN_M wB_M_row hy_M_row (fun q => q.elim) ⟨Nat.le_of_ble_eq_true rfl, Nat.le_of_ble_eq_true rfl⟩ ⟨Nat.le_of_ble_eq_true rfl, Nat.le_of_ble_eq_true rfl⟩ (Nat.le_of_ble_eq_true rfl) (fun r n h hp => ?_) (fun _ _ _ q => q.elim)
  obtain ⟨rfl, rfl, rfl⟩ := hp
  refine XV.run C okM_ofSection 1 (q := (6, ([some (.ref (213)), some (.int (nI i)), some (.int (nI s)), some (.int (nI w)), some (.int (nI (10 + 99 * i)))], []))) rfl ?_
  rcases (show w = 0 ∨ w = 1 ∨ w = 2 ∨ w = 3 ∨ w = 4 by omega) with rfl | rfl | rfl | rfl | rfl
  ·
    refine XV.run C okM_ofSection 1 (q := (7, ([some (.ref (213)), some (.int (nI i)), some (.int (nI s)), some (.int (nI 0)), some (.int (nI (10 + 99 * i)))], [.int (nI 0)]))) rfl ?_
    refine XV.if_ne C (tgt := 24) (xlk_ok okM_ofSection rfl) rfl (fun hc => absurd (rfl) hc) (fun _ => ?_)
    refine XV.run C okM_ofSection 1 (q := (11, ([some (.ref (213)), some (.int (nI i)), some (.int (nI s)), some (.int (nI 0)), some (.int (nI (10 + 99 * i)))], [.ref (213)]))) rfl ?_
    refine XV.getf C (ci := 5) (kf := 0) (v := .ref (214)) (xlk_ok okM_ofSection rfl) rfl (by decide) wF_M_7 (by omega) (by omega) (mw_o) rfl ?_
    refine XV.run C okM_ofSection 5 (q := (20, ([some (.ref (213)), some (.int (nI i)), some (.int (nI s)), some (.int (nI 0)), some (.int (nI (10 + 99 * i)))], [.int (((nI (10 + 99 * i)) + 3) + (nI s)), .ref (214)]))) rfl ?_
    refine XV.ialdC C (N := 505) (f := g) (a := (10 + 99 * i + (3 + s))) (xlk_ok okM_ofSection rfl) (by omega) (by omega) (mw_1) (ix3 (10 + 99 * i) s (d := 3) rfl) (by omega) (by decide) ?_
    refine XV.run C okM_ofSection 1 (q := (61, ([some (.ref (213)), some (.int (nI i)), some (.int (nI s)), some (.int (nI 0)), some (.int (nI (10 + 99 * i)))], [.int (g (10 + 99 * i + (3 + s)))]))) rfl ?_
    exact XV.iret C (xlk_ok okM_ofSection rfl) hret rfl (Nat.le_of_ble_eq_true rfl) (Nat.le_of_ble_eq_true rfl) (⟨rfl, rfl, rfl⟩)
  ·
    refine XV.run C okM_ofSection 1 (q := (7, ([some (.ref (213)), some (.int (nI i)), some (.int (nI s)), some (.int (nI 1)), some (.int (nI (10 + 99 * i)))], [.int (nI 1)]))) rfl ?_
    refine XV.if_ne C (tgt := 24) (xlk_ok okM_ofSection rfl) rfl (fun _ => ?_) (fun hc => absurd hc (by decide))
    refine XV.run C okM_ofSection 2 (q := (26, ([some (.ref (213)), some (.int (nI i)), some (.int (nI s)), some (.int (nI 1)), some (.int (nI (10 + 99 * i)))], [.int (1), .int (nI 1)]))) rfl ?_
    refine XV.icmp_ne C (tgt := 42) (xlk_ok okM_ofSection rfl) rfl (fun hc => absurd (rfl) hc) (fun _ => ?_)
    refine XV.run C okM_ofSection 1 (q := (30, ([some (.ref (213)), some (.int (nI i)), some (.int (nI s)), some (.int (nI 1)), some (.int (nI (10 + 99 * i)))], [.ref (213)]))) rfl ?_
    refine XV.getf C (ci := 5) (kf := 0) (v := .ref (214)) (xlk_ok okM_ofSection rfl) rfl (by decide) wF_M_7 (by omega) (by omega) (mw_o) rfl ?_
    refine XV.run C okM_ofSection 2 (q := (36, ([some (.ref (213)), some (.int (nI i)), some (.int (nI s)), some (.int (nI 1)), some (.int (nI (10 + 99 * i)))], [.int (nI s), .int (nI (10 + 99 * i)), .ref (214)]))) rfl ?_
    refine XV.callS C (As := [.ref (214), .int (nI (10 + 99 * i)), .int (nI s)]) (rest := []) (ct_M_broken hfl (X := 10 + 99 * i) (mw_1) (by omega) (by omega) (by decide) (by omega) (s := s) (rfl) (rfl) (by omega) (ne_of_gt hq)) (xlk_ok okM_ofSection rfl) rfl wM_M_40 wS_M_broken wN_M wB_M_broken hy_M_broken (fun q => q.elim) ⟨Nat.le_of_ble_eq_true rfl, Nat.le_of_ble_eq_true rfl⟩ ⟨Nat.le_of_ble_eq_true rfl, Nat.le_of_ble_eq_true rfl⟩ (Nat.le_of_ble_eq_true rfl) (fun r n h hp => ?_) (fun _ _ _ q => q.elim)
    obtain ⟨rfl, rfl, rfl⟩ := hp
    refine XV.run C okM_ofSection 1 (q := (61, ([some (.ref (213)), some (.int (nI i)), some (.int (nI s)), some (.int (nI 1)), some (.int (nI (10 + 99 * i)))], [.int (brk (atF g (10 + 99 * i)) s)]))) rfl ?_
    exact XV.iret C (xlk_ok okM_ofSection rfl) hret rfl (Nat.le_of_ble_eq_true rfl) (Nat.le_of_ble_eq_true rfl) (⟨rfl, rfl, rfl⟩)
  ·
    refine XV.run C okM_ofSection 1 (q := (7, ([some (.ref (213)), some (.int (nI i)), some (.int (nI s)), some (.int (nI 2)), some (.int (nI (10 + 99 * i)))], [.int (nI 2)]))) rfl ?_
    refine XV.if_ne C (tgt := 24) (xlk_ok okM_ofSection rfl) rfl (fun _ => ?_) (fun hc => absurd hc (by decide))
    refine XV.run C okM_ofSection 2 (q := (26, ([some (.ref (213)), some (.int (nI i)), some (.int (nI s)), some (.int (nI 2)), some (.int (nI (10 + 99 * i)))], [.int (1), .int (nI 2)]))) rfl ?_
    refine XV.icmp_ne C (tgt := 42) (xlk_ok okM_ofSection rfl) rfl (fun _ => ?_) (fun hc => absurd hc (by decide))
    refine XV.run C okM_ofSection 1 (q := (43, ([some (.ref (213)), some (.int (nI i)), some (.int (nI s)), some (.int (nI 2)), some (.int (nI (10 + 99 * i)))], [.ref (213)]))) rfl ?_
    refine XV.getf C (ci := 5) (kf := 0) (v := .ref (214)) (xlk_ok okM_ofSection rfl) rfl (by decide) wF_M_7 (by omega) (by omega) (mw_o) rfl ?_
    refine XV.run C okM_ofSection 11 (q := (60, ([some (.ref (213)), some (.int (nI i)), some (.int (nI s)), some (.int (nI 2)), some (.int (nI (10 + 99 * i)))], [.int ((((nI (10 + 99 * i)) + 27) + (24 * ((nI 2) - 2))) + (nI s)), .ref (214)]))) rfl ?_
    rw [show ((((nI (10 + 99 * i)) + 27) + (24 * ((nI 2) - 2))) + (nI s) : Int32) = nI (10 + 99 * i + (27 + s)) from by rw [show (27 : Int32) = nI 27 from rfl, show (24 : Int32) * (nI 2 - 2) = nI 0 from by decide, nI_add, nI_add, nI_add]; exact congrArg nI (by omega)]
    refine XV.ialdC C (N := 505) (f := g) (a := (10 + 99 * i + (27 + s))) (xlk_ok okM_ofSection rfl) (by omega) (by omega) (mw_1) (rfl) (by omega) (by decide) ?_
    exact XV.iret C (xlk_ok okM_ofSection rfl) hret rfl (Nat.le_of_ble_eq_true rfl) (Nat.le_of_ble_eq_true rfl) (⟨rfl, rfl, rfl⟩)
  ·
    refine XV.run C okM_ofSection 1 (q := (7, ([some (.ref (213)), some (.int (nI i)), some (.int (nI s)), some (.int (nI 3)), some (.int (nI (10 + 99 * i)))], [.int (nI 3)]))) rfl ?_
    refine XV.if_ne C (tgt := 24) (xlk_ok okM_ofSection rfl) rfl (fun _ => ?_) (fun hc => absurd hc (by decide))
    refine XV.run C okM_ofSection 2 (q := (26, ([some (.ref (213)), some (.int (nI i)), some (.int (nI s)), some (.int (nI 3)), some (.int (nI (10 + 99 * i)))], [.int (1), .int (nI 3)]))) rfl ?_
    refine XV.icmp_ne C (tgt := 42) (xlk_ok okM_ofSection rfl) rfl (fun _ => ?_) (fun hc => absurd hc (by decide))
    refine XV.run C okM_ofSection 1 (q := (43, ([some (.ref (213)), some (.int (nI i)), some (.int (nI s)), some (.int (nI 3)), some (.int (nI (10 + 99 * i)))], [.ref (213)]))) rfl ?_
    refine XV.getf C (ci := 5) (kf := 0) (v := .ref (214)) (xlk_ok okM_ofSection rfl) rfl (by decide) wF_M_7 (by omega) (by omega) (mw_o) rfl ?_
    refine XV.run C okM_ofSection 11 (q := (60, ([some (.ref (213)), some (.int (nI i)), some (.int (nI s)), some (.int (nI 3)), some (.int (nI (10 + 99 * i)))], [.int ((((nI (10 + 99 * i)) + 27) + (24 * ((nI 3) - 2))) + (nI s)), .ref (214)]))) rfl ?_
    rw [show ((((nI (10 + 99 * i)) + 27) + (24 * ((nI 3) - 2))) + (nI s) : Int32) = nI (10 + 99 * i + (51 + s)) from by rw [show (27 : Int32) = nI 27 from rfl, show (24 : Int32) * (nI 3 - 2) = nI 24 from by decide, nI_add, nI_add, nI_add]; exact congrArg nI (by omega)]
    refine XV.ialdC C (N := 505) (f := g) (a := (10 + 99 * i + (51 + s))) (xlk_ok okM_ofSection rfl) (by omega) (by omega) (mw_1) (rfl) (by omega) (by decide) ?_
    exact XV.iret C (xlk_ok okM_ofSection rfl) hret rfl (Nat.le_of_ble_eq_true rfl) (Nat.le_of_ble_eq_true rfl) (⟨rfl, rfl, rfl⟩)
  ·
    refine XV.run C okM_ofSection 1 (q := (7, ([some (.ref (213)), some (.int (nI i)), some (.int (nI s)), some (.int (nI 4)), some (.int (nI (10 + 99 * i)))], [.int (nI 4)]))) rfl ?_
    refine XV.if_ne C (tgt := 24) (xlk_ok okM_ofSection rfl) rfl (fun _ => ?_) (fun hc => absurd hc (by decide))
    refine XV.run C okM_ofSection 2 (q := (26, ([some (.ref (213)), some (.int (nI i)), some (.int (nI s)), some (.int (nI 4)), some (.int (nI (10 + 99 * i)))], [.int (1), .int (nI 4)]))) rfl ?_
    refine XV.icmp_ne C (tgt := 42) (xlk_ok okM_ofSection rfl) rfl (fun _ => ?_) (fun hc => absurd hc (by decide))
    refine XV.run C okM_ofSection 1 (q := (43, ([some (.ref (213)), some (.int (nI i)), some (.int (nI s)), some (.int (nI 4)), some (.int (nI (10 + 99 * i)))], [.ref (213)]))) rfl ?_
    refine XV.getf C (ci := 5) (kf := 0) (v := .ref (214)) (xlk_ok okM_ofSection rfl) rfl (by decide) wF_M_7 (by omega) (by omega) (mw_o) rfl ?_
    refine XV.run C okM_ofSection 11 (q := (60, ([some (.ref (213)), some (.int (nI i)), some (.int (nI s)), some (.int (nI 4)), some (.int (nI (10 + 99 * i)))], [.int ((((nI (10 + 99 * i)) + 27) + (24 * ((nI 4) - 2))) + (nI s)), .ref (214)]))) rfl ?_
    rw [show ((((nI (10 + 99 * i)) + 27) + (24 * ((nI 4) - 2))) + (nI s) : Int32) = nI (10 + 99 * i + (75 + s)) from by rw [show (27 : Int32) = nI 27 from rfl, show (24 : Int32) * (nI 4 - 2) = nI 48 from by decide, nI_add, nI_add, nI_add]; exact congrArg nI (by omega)]
    refine XV.ialdC C (N := 505) (f := g) (a := (10 + 99 * i + (75 + s))) (xlk_ok okM_ofSection rfl) (by omega) (by omega) (mw_1) (rfl) (by omega) (by decide) ?_
    exact XV.iret C (xlk_ok okM_ofSection rfl) hret rfl (Nat.le_of_ble_eq_true rfl) (Nat.le_of_ble_eq_true rfl) (⟨rfl, rfl, rfl⟩)
set_option maxHeartbeats 4000000 in
set_option maxRecDepth 100000 in
theorem ct_M_counted {l : Launch} (hfl : l.stackTraces = false) {G : XG} {n : Nat} {h : XH} {g pa tr mx td F : Nat → Int32} (hn : 215 ≤ n) {k : Nat} (hm : g 1 = nI k) (hk : k ≤ 5) (hl : ∀ i, i < k → 0 < rowOf g i 0) {z : Nat} (hz : g 2 = nI z) (z1 : 1 ≤ z) (z2 : z ≤ 12) {w : Nat} {x : Int32} (hx : x = nI w) (hw : w ≤ 8) : XCt l G False (Cond.code yM_counted bM_counted 2 (some .int)) yM_counted 7 164 0 0 [.ref (213), .int (x)] n (setM h g pa tr mx td F) (fun r' n' h' => r' = some (.int (countFigM g F z k w)) ∧ n' = n ∧ h' = setM h g pa tr mx td F) (fun _ _ _ => False) := by
  subst hx
  refine XCt.of hfl (by decide +kernel) (Nat.le_of_ble_eq_true rfl) ?_
  intro p' e' s' m' g' b' t' c' C hret hname hnt hmd
  refine XV.run C okM_counted 1 (q := (1, ([some (.ref (213)), some (.int (nI w))], [.int (nI w)]))) rfl ?_
  rcases (show w = 0 ∨ w = 1 ∨ w = 2 ∨ w = 3 ∨ w = 4 ∨ w = 5 ∨ w = 6 ∨ w = 7 ∨ w = 8 by omega) with rfl | rfl | rfl | rfl | rfl | rfl | rfl | rfl | rfl
  ·
    refine XV.run C okM_counted 1 (q := (2, ([some (.ref (213)), some (.int (nI 0))], [.int (2), .int (nI 0)]))) rfl ?_
    refine XV.icmp_ge C (tgt := 12) (xlk_ok okM_counted rfl) rfl (fun hc => absurd hc (by decide)) (fun _ => ?_)
    refine XV.run C okM_counted 1 (q := (6, ([some (.ref (213)), some (.int (nI 0))], [.ref (213)]))) rfl ?_
    refine XV.getf C (ci := 5) (kf := 0) (v := .ref (214)) (xlk_ok okM_counted rfl) rfl (by decide) wF_M_7 (by omega) (by omega) (mw_o) rfl ?_
    refine XV.run C okM_counted 1 (q := (10, ([some (.ref (213)), some (.int (nI 0))], [.int (nI 0), .ref (214)]))) rfl ?_
    refine XV.ialdC C (N := 505) (f := g) (a := 0) (xlk_ok okM_counted rfl) (by omega) (by omega) (mw_1) (rfl) (by omega) (by decide) ?_
    exact XV.iret C (xlk_ok okM_counted rfl) hret rfl (Nat.le_of_ble_eq_true rfl) (Nat.le_of_ble_eq_true rfl) (⟨rfl, rfl, rfl⟩)
  ·
    refine XV.run C okM_counted 1 (q := (2, ([some (.ref (213)), some (.int (nI 1))], [.int (2), .int (nI 1)]))) rfl ?_
    refine XV.icmp_ge C (tgt := 12) (xlk_ok okM_counted rfl) rfl (fun hc => absurd hc (by decide)) (fun _ => ?_)
    refine XV.run C okM_counted 1 (q := (6, ([some (.ref (213)), some (.int (nI 1))], [.ref (213)]))) rfl ?_
    refine XV.getf C (ci := 5) (kf := 0) (v := .ref (214)) (xlk_ok okM_counted rfl) rfl (by decide) wF_M_7 (by omega) (by omega) (mw_o) rfl ?_
    refine XV.run C okM_counted 1 (q := (10, ([some (.ref (213)), some (.int (nI 1))], [.int (nI 1), .ref (214)]))) rfl ?_
    refine XV.ialdC C (N := 505) (f := g) (a := 1) (xlk_ok okM_counted rfl) (by omega) (by omega) (mw_1) (rfl) (by omega) (by decide) ?_
    exact XV.iret C (xlk_ok okM_counted rfl) hret rfl (Nat.le_of_ble_eq_true rfl) (Nat.le_of_ble_eq_true rfl) (⟨rfl, rfl, rfl⟩)
  ·
    refine XV.run C okM_counted 1 (q := (2, ([some (.ref (213)), some (.int (nI 2))], [.int (2), .int (nI 2)]))) rfl ?_
    refine XV.icmp_ge C (tgt := 12) (xlk_ok okM_counted rfl) rfl (fun _ => ?_) (fun hc => absurd (by decide) hc)
    refine XV.run C okM_counted 2 (q := (14, ([some (.ref (213)), some (.int (nI 2))], [.int (4), .int (nI 2)]))) rfl ?_
    refine XV.icmp_ge C (tgt := 42) (xlk_ok okM_counted rfl) rfl (fun hc => absurd hc (by decide)) (fun _ => ?_)
    refine XV.run C okM_counted 2 (q := (19, ([some (.ref (213)), some (.int (nI 2))], [.int (2), .int (nI 2)]))) rfl ?_
    refine XV.icmp_ne C (tgt := 29) (xlk_ok okM_counted rfl) rfl (fun hc => absurd (rfl) hc) (fun _ => ?_)
    refine XV.run C okM_counted 1 (q := (23, ([some (.ref (213)), some (.int (nI 2))], [.ref (213)]))) rfl ?_
    refine XV.callV C (As := []) (rest := []) (ci := 5) (ct_M_retired hfl hn (hm) hk (hz) z1 z2) (xlk_ok okM_counted rfl) rfl (by omega) (by omega) rfl (mw_o) rfl wM_M_91 wI_M_retired wV_M_retired wN_M wB_M_retired hy_M_retired (fun q => q.elim) ⟨Nat.le_of_ble_eq_true rfl, Nat.le_of_ble_eq_true rfl⟩ ⟨Nat.le_of_ble_eq_true rfl, Nat.le_of_ble_eq_true rfl⟩ (Nat.le_of_ble_eq_true rfl) (fun r n h hp => ?_) (fun _ _ _ q => q.elim)
    obtain ⟨rfl, rfl, rfl⟩ := hp
    refine XV.run C okM_counted 1 (q := (41, ([some (.ref (213)), some (.int (nI 2))], [.int (nI (retM g z k))]))) rfl ?_
    exact XV.iret C (xlk_ok okM_counted rfl) hret rfl (Nat.le_of_ble_eq_true rfl) (Nat.le_of_ble_eq_true rfl) (⟨rfl, rfl, rfl⟩)
  ·
    refine XV.run C okM_counted 1 (q := (2, ([some (.ref (213)), some (.int (nI 3))], [.int (2), .int (nI 3)]))) rfl ?_
    refine XV.icmp_ge C (tgt := 12) (xlk_ok okM_counted rfl) rfl (fun _ => ?_) (fun hc => absurd (by decide) hc)
    refine XV.run C okM_counted 2 (q := (14, ([some (.ref (213)), some (.int (nI 3))], [.int (4), .int (nI 3)]))) rfl ?_
    refine XV.icmp_ge C (tgt := 42) (xlk_ok okM_counted rfl) rfl (fun hc => absurd hc (by decide)) (fun _ => ?_)
    refine XV.run C okM_counted 2 (q := (19, ([some (.ref (213)), some (.int (nI 3))], [.int (2), .int (nI 3)]))) rfl ?_
    refine XV.icmp_ne C (tgt := 29) (xlk_ok okM_counted rfl) rfl (fun _ => ?_) (fun hc => absurd hc (by decide))
    refine XV.run C okM_counted 1 (q := (30, ([some (.ref (213)), some (.int (nI 3))], [.ref (213)]))) rfl ?_
    refine XV.callV C (As := []) (rest := []) (ci := 5) (ct_M_canRun hfl hn (hm) hk (hz) z1 z2) (xlk_ok okM_counted rfl) rfl (by omega) (by omega) rfl (mw_o) rfl wM_M_94 wI_M_canRun wV_M_canRun wN_M wB_M_canRun hy_M_canRun (fun q => q.elim) ⟨Nat.le_of_ble_eq_true rfl, Nat.le_of_ble_eq_true rfl⟩ ⟨Nat.le_of_ble_eq_true rfl, Nat.le_of_ble_eq_true rfl⟩ (Nat.le_of_ble_eq_true rfl) (fun r n h hp => ?_) (fun _ _ _ q => q.elim)
    obtain ⟨rfl, rfl, rfl⟩ := hp
    refine XV.if_eq C (tgt := 40) (xlk_ok okM_counted rfl) rfl (fun c1 => ?_) (fun c1 => ?_)
    ·
      have b1 := if1_0 c1
      refine XV.run C okM_counted 1 (q := (41, ([some (.ref (213)), some (.int (nI 3))], [.int (0)]))) rfl ?_
      exact XV.iret C (xlk_ok okM_counted rfl) hret rfl (Nat.le_of_ble_eq_true rfl) (Nat.le_of_ble_eq_true rfl) (⟨by show _ = some (Value.int (if canM g z k then 1 else 0)); rw [b1]; rfl, rfl, rfl⟩)
    ·
      have b1 := if1_1 c1
      refine XV.run C okM_counted 2 (q := (41, ([some (.ref (213)), some (.int (nI 3))], [.int (1)]))) rfl ?_
      exact XV.iret C (xlk_ok okM_counted rfl) hret rfl (Nat.le_of_ble_eq_true rfl) (Nat.le_of_ble_eq_true rfl) (⟨by show _ = some (Value.int (if canM g z k then 1 else 0)); rw [b1]; rfl, rfl, rfl⟩)
  ·
    refine XV.run C okM_counted 1 (q := (2, ([some (.ref (213)), some (.int (nI 4))], [.int (2), .int (nI 4)]))) rfl ?_
    refine XV.icmp_ge C (tgt := 12) (xlk_ok okM_counted rfl) rfl (fun _ => ?_) (fun hc => absurd (by decide) hc)
    refine XV.run C okM_counted 2 (q := (14, ([some (.ref (213)), some (.int (nI 4))], [.int (4), .int (nI 4)]))) rfl ?_
    refine XV.icmp_ge C (tgt := 42) (xlk_ok okM_counted rfl) rfl (fun _ => ?_) (fun hc => absurd (by decide) hc)
    refine XV.run C okM_counted 2 (q := (45, ([some (.ref (213)), some (.int (nI 4))], [.int (7), .int (nI 4)]))) rfl ?_
    refine XV.icmp_ge C (tgt := 62) (xlk_ok okM_counted rfl) rfl (fun hc => absurd hc (by decide)) (fun _ => ?_)
    refine XV.run C okM_counted 1 (q := (49, ([some (.ref (213)), some (.int (nI 4))], [.ref (213)]))) rfl ?_
    refine XV.getf C (ci := 5) (kf := 0) (v := .ref (214)) (xlk_ok okM_counted rfl) rfl (by decide) wF_M_7 (by omega) (by omega) (mw_o) rfl ?_
    refine XV.run C okM_counted 5 (q := (58, ([some (.ref (213)), some (.int (nI 4))], [.int ((7 + (nI 4)) - 4), .ref (214)]))) rfl ?_
    refine XV.ialdC C (N := 505) (f := g) (a := 7) (xlk_ok okM_counted rfl) (by omega) (by omega) (mw_1) (by decide) (by decide) (by decide) ?_
    refine XV.run C okM_counted 1 (q := (86, ([some (.ref (213)), some (.int (nI 4))], [.int (g 7)]))) rfl ?_
    exact XV.iret C (xlk_ok okM_counted rfl) hret rfl (Nat.le_of_ble_eq_true rfl) (Nat.le_of_ble_eq_true rfl) (⟨rfl, rfl, rfl⟩)
  ·
    refine XV.run C okM_counted 1 (q := (2, ([some (.ref (213)), some (.int (nI 5))], [.int (2), .int (nI 5)]))) rfl ?_
    refine XV.icmp_ge C (tgt := 12) (xlk_ok okM_counted rfl) rfl (fun _ => ?_) (fun hc => absurd (by decide) hc)
    refine XV.run C okM_counted 2 (q := (14, ([some (.ref (213)), some (.int (nI 5))], [.int (4), .int (nI 5)]))) rfl ?_
    refine XV.icmp_ge C (tgt := 42) (xlk_ok okM_counted rfl) rfl (fun _ => ?_) (fun hc => absurd (by decide) hc)
    refine XV.run C okM_counted 2 (q := (45, ([some (.ref (213)), some (.int (nI 5))], [.int (7), .int (nI 5)]))) rfl ?_
    refine XV.icmp_ge C (tgt := 62) (xlk_ok okM_counted rfl) rfl (fun hc => absurd hc (by decide)) (fun _ => ?_)
    refine XV.run C okM_counted 1 (q := (49, ([some (.ref (213)), some (.int (nI 5))], [.ref (213)]))) rfl ?_
    refine XV.getf C (ci := 5) (kf := 0) (v := .ref (214)) (xlk_ok okM_counted rfl) rfl (by decide) wF_M_7 (by omega) (by omega) (mw_o) rfl ?_
    refine XV.run C okM_counted 5 (q := (58, ([some (.ref (213)), some (.int (nI 5))], [.int ((7 + (nI 5)) - 4), .ref (214)]))) rfl ?_
    refine XV.ialdC C (N := 505) (f := g) (a := 8) (xlk_ok okM_counted rfl) (by omega) (by omega) (mw_1) (by decide) (by decide) (by decide) ?_
    refine XV.run C okM_counted 1 (q := (86, ([some (.ref (213)), some (.int (nI 5))], [.int (g 8)]))) rfl ?_
    exact XV.iret C (xlk_ok okM_counted rfl) hret rfl (Nat.le_of_ble_eq_true rfl) (Nat.le_of_ble_eq_true rfl) (⟨rfl, rfl, rfl⟩)
  ·
    refine XV.run C okM_counted 1 (q := (2, ([some (.ref (213)), some (.int (nI 6))], [.int (2), .int (nI 6)]))) rfl ?_
    refine XV.icmp_ge C (tgt := 12) (xlk_ok okM_counted rfl) rfl (fun _ => ?_) (fun hc => absurd (by decide) hc)
    refine XV.run C okM_counted 2 (q := (14, ([some (.ref (213)), some (.int (nI 6))], [.int (4), .int (nI 6)]))) rfl ?_
    refine XV.icmp_ge C (tgt := 42) (xlk_ok okM_counted rfl) rfl (fun _ => ?_) (fun hc => absurd (by decide) hc)
    refine XV.run C okM_counted 2 (q := (45, ([some (.ref (213)), some (.int (nI 6))], [.int (7), .int (nI 6)]))) rfl ?_
    refine XV.icmp_ge C (tgt := 62) (xlk_ok okM_counted rfl) rfl (fun hc => absurd hc (by decide)) (fun _ => ?_)
    refine XV.run C okM_counted 1 (q := (49, ([some (.ref (213)), some (.int (nI 6))], [.ref (213)]))) rfl ?_
    refine XV.getf C (ci := 5) (kf := 0) (v := .ref (214)) (xlk_ok okM_counted rfl) rfl (by decide) wF_M_7 (by omega) (by omega) (mw_o) rfl ?_
    refine XV.run C okM_counted 5 (q := (58, ([some (.ref (213)), some (.int (nI 6))], [.int ((7 + (nI 6)) - 4), .ref (214)]))) rfl ?_
    refine XV.ialdC C (N := 505) (f := g) (a := 9) (xlk_ok okM_counted rfl) (by omega) (by omega) (mw_1) (by decide) (by decide) (by decide) ?_
    refine XV.run C okM_counted 1 (q := (86, ([some (.ref (213)), some (.int (nI 6))], [.int (g 9)]))) rfl ?_
    exact XV.iret C (xlk_ok okM_counted rfl) hret rfl (Nat.le_of_ble_eq_true rfl) (Nat.le_of_ble_eq_true rfl) (⟨rfl, rfl, rfl⟩)
  ·
    refine XV.run C okM_counted 1 (q := (2, ([some (.ref (213)), some (.int (nI 7))], [.int (2), .int (nI 7)]))) rfl ?_
    refine XV.icmp_ge C (tgt := 12) (xlk_ok okM_counted rfl) rfl (fun _ => ?_) (fun hc => absurd (by decide) hc)
    refine XV.run C okM_counted 2 (q := (14, ([some (.ref (213)), some (.int (nI 7))], [.int (4), .int (nI 7)]))) rfl ?_
    refine XV.icmp_ge C (tgt := 42) (xlk_ok okM_counted rfl) rfl (fun _ => ?_) (fun hc => absurd (by decide) hc)
    refine XV.run C okM_counted 2 (q := (45, ([some (.ref (213)), some (.int (nI 7))], [.int (7), .int (nI 7)]))) rfl ?_
    refine XV.icmp_ge C (tgt := 62) (xlk_ok okM_counted rfl) rfl (fun _ => ?_) (fun hc => absurd (by decide) hc)
    refine XV.run C okM_counted 2 (q := (65, ([some (.ref (213)), some (.int (nI 7))], [.int (7), .int (nI 7)]))) rfl ?_
    refine XV.icmp_ne C (tgt := 82) (xlk_ok okM_counted rfl) rfl (fun hc => absurd (rfl) hc) (fun _ => ?_)
    refine XV.run C okM_counted 2 (q := (70, ([some (.ref (213)), some (.int (nI 7))], [.int (1), .ref (213)]))) rfl ?_
    refine XV.callV C (As := [.int (1)]) (rest := []) (ci := 5) (ct_M_threads hfl hn hm hk hl true) (xlk_ok okM_counted rfl) rfl (by omega) (by omega) rfl (mw_o) rfl wM_M_145 wI_M_threads wV_M_threads wN_M wB_M_threads hy_M_threads (fun q => q.elim) ⟨Nat.le_of_ble_eq_true rfl, Nat.le_of_ble_eq_true rfl⟩ ⟨Nat.le_of_ble_eq_true rfl, Nat.le_of_ble_eq_true rfl⟩ (Nat.le_of_ble_eq_true rfl) (fun r n h hp => ?_) (fun _ _ _ q => q.elim)
    obtain ⟨rfl, rfl, rfl⟩ := hp
    refine XV.run C okM_counted 2 (q := (75, ([some (.ref (213)), some (.int (nI 7))], [.int (0), .ref (213), .int (sumRK g true k)]))) rfl ?_
    refine XV.callV C (As := [.int (0)]) (rest := [.int (sumRK g true k)]) (ci := 5) (ct_M_threads hfl hn hm hk hl false) (xlk_ok okM_counted rfl) rfl (by omega) (by omega) rfl (mw_o) rfl wM_M_145 wI_M_threads wV_M_threads wN_M wB_M_threads hy_M_threads (fun q => q.elim) ⟨Nat.le_of_ble_eq_true rfl, Nat.le_of_ble_eq_true rfl⟩ ⟨Nat.le_of_ble_eq_true rfl, Nat.le_of_ble_eq_true rfl⟩ (Nat.le_of_ble_eq_true rfl) (fun r n h hp => ?_) (fun _ _ _ q => q.elim)
    obtain ⟨rfl, rfl, rfl⟩ := hp
    refine XV.run C okM_counted 2 (q := (86, ([some (.ref (213)), some (.int (nI 7))], [.int ((sumRK g true k) - (sumRK g false k))]))) rfl ?_
    exact XV.iret C (xlk_ok okM_counted rfl) hret rfl (Nat.le_of_ble_eq_true rfl) (Nat.le_of_ble_eq_true rfl) (⟨rfl, rfl, rfl⟩)
  ·
    refine XV.run C okM_counted 1 (q := (2, ([some (.ref (213)), some (.int (nI 8))], [.int (2), .int (nI 8)]))) rfl ?_
    refine XV.icmp_ge C (tgt := 12) (xlk_ok okM_counted rfl) rfl (fun _ => ?_) (fun hc => absurd (by decide) hc)
    refine XV.run C okM_counted 2 (q := (14, ([some (.ref (213)), some (.int (nI 8))], [.int (4), .int (nI 8)]))) rfl ?_
    refine XV.icmp_ge C (tgt := 42) (xlk_ok okM_counted rfl) rfl (fun _ => ?_) (fun hc => absurd (by decide) hc)
    refine XV.run C okM_counted 2 (q := (45, ([some (.ref (213)), some (.int (nI 8))], [.int (7), .int (nI 8)]))) rfl ?_
    refine XV.icmp_ge C (tgt := 62) (xlk_ok okM_counted rfl) rfl (fun _ => ?_) (fun hc => absurd (by decide) hc)
    refine XV.run C okM_counted 2 (q := (65, ([some (.ref (213)), some (.int (nI 8))], [.int (7), .int (nI 8)]))) rfl ?_
    refine XV.icmp_ne C (tgt := 82) (xlk_ok okM_counted rfl) rfl (fun _ => ?_) (fun hc => absurd hc (by decide))
    refine XV.run C okM_counted 1 (q := (83, ([some (.ref (213)), some (.int (nI 8))], [.ref (213)]))) rfl ?_
    refine XV.getf C (ci := 5) (kf := 2) (v := .int (F 2)) (xlk_ok okM_counted rfl) rfl (by decide) wF_M_33 (by omega) (by omega) (mw_o) rfl ?_
    exact XV.iret C (xlk_ok okM_counted rfl) hret rfl (Nat.le_of_ble_eq_true rfl) (Nat.le_of_ble_eq_true rfl) (⟨rfl, rfl, rfl⟩)
theorem mi_eq (s : Nat) : upd (upd (upd (upd (upd (fun _ => 0) 2 (4)) 3 (8)) 4 (20)) 5 (5)) 6 (3) s = f0K s := by
  unfold upd f0K
  by_cases h2 : s = 2
  · subst h2; rfl
  by_cases h3 : s = 3
  · subst h3; rfl
  by_cases h4 : s = 4
  · subst h4; rfl
  by_cases h5 : s = 5
  · subst h5; rfl
  by_cases h6 : s = 6
  · subst h6; rfl
  rw [if_neg h6, if_neg h5, if_neg h4, if_neg h3, if_neg h2, if_neg h2, if_neg h3, if_neg h4, if_neg h5, if_neg h6]
set_option maxHeartbeats 4000000 in
set_option maxRecDepth 100000 in
theorem ct_M_init {l : Launch} (hfl : l.stackTraces = false) {G : XG} {h : XH} : XCt l G True (Cond.code yM_init bM_init 1 none) yM_init 1 20 5 3760 [.ref (213)] 210 (blkL h (213) [.inr (5, [.null, .null, .int (0), .null, .null, .int (0), .int (0), .int (0), .int (0), .null, .int (0)])]) (fun r' n' h' => r' = none ∧ n' = 215 ∧ h' = setM h f0K (fun _ => 0) (fun _ => 0) (fun _ => 0) (fun _ => 0) (fun _ => 0)) (fun _ _ _ => False) := by
  refine XCt.of hfl (by decide +kernel) (Nat.le_of_ble_eq_true rfl) ?_
  intro p' e' s' m' g' b' t' c' C hret hname hnt hmd
  have hex := hmd trivial
  have hAO := (show xEnv G s' from (id C).2.2.2.2.2.2.1).2.2.2.2.2.2.2.2
  refine XV.run C okM_init 1 (q := (1, ([some (.ref (213))], [.ref (213)]))) rfl ?_
  refine XV.objInit C (xlk_ok okM_init rfl) wM_M_1 (Nat.le_of_ble_eq_true rfl) (Nat.le_of_ble_eq_true rfl) ?_
  refine XV.run C okM_init 2 (q := (8, ([some (.ref (213))], [.int (505), .ref (213)]))) rfl ?_
  refine XV.newI C (N := 505) (xlk_ok okM_init rfl) wR_110 rfl (by decide) (by omega) (Nat.le_of_ble_eq_true rfl) (Nat.le_of_ble_eq_true rfl) ?_
  refine XV.cast ((congrArg (fun w => xup _ _ w) (xar_0 505)).trans (blkL_new rfl)) ?_
  show XV G 1 p' l e' ({ frames := 1, cells := 5, slots := 3760, locals := 20 } : Room) s' m' g' b' t' c' (XEnd G b' (fun r' n' h' => r' = none ∧ n' = 215 ∧ h' = setM h f0K (fun _ => 0) (fun _ => 0) (fun _ => 0) (fun _ => 0) (fun _ => 0)) (fun _ _ _ => False) g' s' 5 3760) 10 [some (.ref (213))] [.ref (213 + 1), .ref (213)] (210 + 1) (blkL h (213) [.inr (5, [.null, .null, .int (0), .null, .null, .int (0), .int (0), .int (0), .int (0), .null, .int (0)]), xar 505 (fun _ => 0)]) (0 + 1) (0 + 505)
  refine XV.putF C (ci := 5) (kf := 0) hname (xlk_ok okM_init rfl) rfl (by decide) wF_M_7 (by omega) (by omega) (blkL_get (i := 0) rfl rfl) rfl rfl rfl rfl rfl (Nat.le_of_ble_eq_true rfl) ?_
  refine XV.cast (blkL_up (i := 0) rfl (Nat.le_of_ble_eq_true rfl)) ?_
  show XV G 1 p' l e' ({ frames := 1, cells := 5, slots := 3760, locals := 20 } : Room) s' m' g' b' t' c' (XEnd G b' (fun r' n' h' => r' = none ∧ n' = 215 ∧ h' = setM h f0K (fun _ => 0) (fun _ => 0) (fun _ => 0) (fun _ => 0) (fun _ => 0)) (fun _ _ _ => False) g' s' 5 3760) 13 [some (.ref (213))] [] (210 + 1) (blkL h (213) [.inr (5, [.ref (213 + 1), .null, .int (0), .null, .null, .int (0), .int (0), .int (0), .int (0), .null, .int (0)]), xar 505 (fun _ => 0)]) (0 + 1) (0 + 505)
  refine XV.run C okM_init 2 (q := (17, ([some (.ref (213))], [.int (3030), .ref (213)]))) rfl ?_
  refine XV.newI C (N := 3030) (xlk_ok okM_init rfl) wR_110 rfl (by decide) (by omega) (Nat.le_of_ble_eq_true rfl) (Nat.le_of_ble_eq_true rfl) ?_
  refine XV.cast ((congrArg (fun w => xup _ _ w) (xar_0 3030)).trans (blkL_new rfl)) ?_
  show XV G 1 p' l e' ({ frames := 1, cells := 5, slots := 3760, locals := 20 } : Room) s' m' g' b' t' c' (XEnd G b' (fun r' n' h' => r' = none ∧ n' = 215 ∧ h' = setM h f0K (fun _ => 0) (fun _ => 0) (fun _ => 0) (fun _ => 0) (fun _ => 0)) (fun _ _ _ => False) g' s' 5 3760) 19 [some (.ref (213))] [.ref (213 + 2), .ref (213)] (210 + 2) (blkL h (213) [.inr (5, [.ref (213 + 1), .null, .int (0), .null, .null, .int (0), .int (0), .int (0), .int (0), .null, .int (0)]), xar 505 (fun _ => 0), xar 3030 (fun _ => 0)]) ((0 + 1) + 1) ((0 + 505) + 3030)
  refine XV.putF C (ci := 5) (kf := 1) hname (xlk_ok okM_init rfl) rfl (by decide) wF_M_13 (by omega) (by omega) (blkL_get (i := 0) rfl rfl) rfl rfl rfl rfl rfl (Nat.le_of_ble_eq_true rfl) ?_
  refine XV.cast (blkL_up (i := 0) rfl (Nat.le_of_ble_eq_true rfl)) ?_
  show XV G 1 p' l e' ({ frames := 1, cells := 5, slots := 3760, locals := 20 } : Room) s' m' g' b' t' c' (XEnd G b' (fun r' n' h' => r' = none ∧ n' = 215 ∧ h' = setM h f0K (fun _ => 0) (fun _ => 0) (fun _ => 0) (fun _ => 0) (fun _ => 0)) (fun _ _ _ => False) g' s' 5 3760) 22 [some (.ref (213))] [] (210 + 2) (blkL h (213) [.inr (5, [.ref (213 + 1), .ref (213 + 2), .int (0), .null, .null, .int (0), .int (0), .int (0), .int (0), .null, .int (0)]), xar 505 (fun _ => 0), xar 3030 (fun _ => 0)]) ((0 + 1) + 1) ((0 + 505) + 3030)
  refine XV.run C okM_init 2 (q := (25, ([some (.ref (213))], [.int (99), .ref (213)]))) rfl ?_
  refine XV.newI C (N := 99) (xlk_ok okM_init rfl) wR_110 rfl (by decide) (by omega) (Nat.le_of_ble_eq_true rfl) (Nat.le_of_ble_eq_true rfl) ?_
  refine XV.cast ((congrArg (fun w => xup _ _ w) (xar_0 99)).trans (blkL_new rfl)) ?_
  show XV G 1 p' l e' ({ frames := 1, cells := 5, slots := 3760, locals := 20 } : Room) s' m' g' b' t' c' (XEnd G b' (fun r' n' h' => r' = none ∧ n' = 215 ∧ h' = setM h f0K (fun _ => 0) (fun _ => 0) (fun _ => 0) (fun _ => 0) (fun _ => 0)) (fun _ _ _ => False) g' s' 5 3760) 27 [some (.ref (213))] [.ref (213 + 3), .ref (213)] (210 + 3) (blkL h (213) [.inr (5, [.ref (213 + 1), .ref (213 + 2), .int (0), .null, .null, .int (0), .int (0), .int (0), .int (0), .null, .int (0)]), xar 505 (fun _ => 0), xar 3030 (fun _ => 0), xar 99 (fun _ => 0)]) (((0 + 1) + 1) + 1) (((0 + 505) + 3030) + 99)
  refine XV.putF C (ci := 5) (kf := 3) hname (xlk_ok okM_init rfl) rfl (by decide) wF_M_16 (by omega) (by omega) (blkL_get (i := 0) rfl rfl) rfl rfl rfl rfl rfl (Nat.le_of_ble_eq_true rfl) ?_
  refine XV.cast (blkL_up (i := 0) rfl (Nat.le_of_ble_eq_true rfl)) ?_
  show XV G 1 p' l e' ({ frames := 1, cells := 5, slots := 3760, locals := 20 } : Room) s' m' g' b' t' c' (XEnd G b' (fun r' n' h' => r' = none ∧ n' = 215 ∧ h' = setM h f0K (fun _ => 0) (fun _ => 0) (fun _ => 0) (fun _ => 0) (fun _ => 0)) (fun _ _ _ => False) g' s' 5 3760) 30 [some (.ref (213))] [] (210 + 3) (blkL h (213) [.inr (5, [.ref (213 + 1), .ref (213 + 2), .int (0), .ref (213 + 3), .null, .int (0), .int (0), .int (0), .int (0), .null, .int (0)]), xar 505 (fun _ => 0), xar 3030 (fun _ => 0), xar 99 (fun _ => 0)]) (((0 + 1) + 1) + 1) (((0 + 505) + 3030) + 99)
  refine XV.run C okM_init 2 (q := (33, ([some (.ref (213))], [.int (60), .ref (213)]))) rfl ?_
  refine XV.newI C (N := 60) (xlk_ok okM_init rfl) wR_110 rfl (by decide) (by omega) (Nat.le_of_ble_eq_true rfl) (Nat.le_of_ble_eq_true rfl) ?_
  refine XV.cast ((congrArg (fun w => xup _ _ w) (xar_0 60)).trans (blkL_new rfl)) ?_
  show XV G 1 p' l e' ({ frames := 1, cells := 5, slots := 3760, locals := 20 } : Room) s' m' g' b' t' c' (XEnd G b' (fun r' n' h' => r' = none ∧ n' = 215 ∧ h' = setM h f0K (fun _ => 0) (fun _ => 0) (fun _ => 0) (fun _ => 0) (fun _ => 0)) (fun _ _ _ => False) g' s' 5 3760) 35 [some (.ref (213))] [.ref (213 + 4), .ref (213)] (210 + 4) (blkL h (213) [.inr (5, [.ref (213 + 1), .ref (213 + 2), .int (0), .ref (213 + 3), .null, .int (0), .int (0), .int (0), .int (0), .null, .int (0)]), xar 505 (fun _ => 0), xar 3030 (fun _ => 0), xar 99 (fun _ => 0), xar 60 (fun _ => 0)]) ((((0 + 1) + 1) + 1) + 1) ((((0 + 505) + 3030) + 99) + 60)
  refine XV.putF C (ci := 5) (kf := 4) hname (xlk_ok okM_init rfl) rfl (by decide) wF_M_19 (by omega) (by omega) (blkL_get (i := 0) rfl rfl) rfl rfl rfl rfl rfl (Nat.le_of_ble_eq_true rfl) ?_
  refine XV.cast (blkL_up (i := 0) rfl (Nat.le_of_ble_eq_true rfl)) ?_
  show XV G 1 p' l e' ({ frames := 1, cells := 5, slots := 3760, locals := 20 } : Room) s' m' g' b' t' c' (XEnd G b' (fun r' n' h' => r' = none ∧ n' = 215 ∧ h' = setM h f0K (fun _ => 0) (fun _ => 0) (fun _ => 0) (fun _ => 0) (fun _ => 0)) (fun _ _ _ => False) g' s' 5 3760) 38 [some (.ref (213))] [] (210 + 4) (blkL h (213) [.inr (5, [.ref (213 + 1), .ref (213 + 2), .int (0), .ref (213 + 3), .ref (213 + 4), .int (0), .int (0), .int (0), .int (0), .null, .int (0)]), xar 505 (fun _ => 0), xar 3030 (fun _ => 0), xar 99 (fun _ => 0), xar 60 (fun _ => 0)]) ((((0 + 1) + 1) + 1) + 1) ((((0 + 505) + 3030) + 99) + 60)
  refine XV.run C okM_init 2 (q := (41, ([some (.ref (213))], [.int (66), .ref (213)]))) rfl ?_
  refine XV.newI C (N := 66) (xlk_ok okM_init rfl) wR_110 rfl (by decide) (by omega) (Nat.le_of_ble_eq_true rfl) (Nat.le_of_ble_eq_true rfl) ?_
  refine XV.cast ((congrArg (fun w => xup _ _ w) (xar_0 66)).trans (blkL_new rfl)) ?_
  show XV G 1 p' l e' ({ frames := 1, cells := 5, slots := 3760, locals := 20 } : Room) s' m' g' b' t' c' (XEnd G b' (fun r' n' h' => r' = none ∧ n' = 215 ∧ h' = setM h f0K (fun _ => 0) (fun _ => 0) (fun _ => 0) (fun _ => 0) (fun _ => 0)) (fun _ _ _ => False) g' s' 5 3760) 43 [some (.ref (213))] [.ref (213 + 5), .ref (213)] (210 + 5) (blkL h (213) [.inr (5, [.ref (213 + 1), .ref (213 + 2), .int (0), .ref (213 + 3), .ref (213 + 4), .int (0), .int (0), .int (0), .int (0), .null, .int (0)]), xar 505 (fun _ => 0), xar 3030 (fun _ => 0), xar 99 (fun _ => 0), xar 60 (fun _ => 0), xar 66 (fun _ => 0)]) (((((0 + 1) + 1) + 1) + 1) + 1) (((((0 + 505) + 3030) + 99) + 60) + 66)
  refine XV.putF C (ci := 5) (kf := 9) hname (xlk_ok okM_init rfl) rfl (by decide) wF_M_22 (by omega) (by omega) (blkL_get (i := 0) rfl rfl) rfl rfl rfl rfl rfl (Nat.le_of_ble_eq_true rfl) ?_
  refine XV.cast (blkL_up (i := 0) rfl (Nat.le_of_ble_eq_true rfl)) ?_
  show XV G 1 p' l e' ({ frames := 1, cells := 5, slots := 3760, locals := 20 } : Room) s' m' g' b' t' c' (XEnd G b' (fun r' n' h' => r' = none ∧ n' = 215 ∧ h' = setM h f0K (fun _ => 0) (fun _ => 0) (fun _ => 0) (fun _ => 0) (fun _ => 0)) (fun _ _ _ => False) g' s' 5 3760) 46 [some (.ref (213))] [] (210 + 5) (blkL h (213) [.inr (5, [.ref (213 + 1), .ref (213 + 2), .int (0), .ref (213 + 3), .ref (213 + 4), .int (0), .int (0), .int (0), .int (0), .ref (213 + 5), .int (0)]), xar 505 (fun _ => 0), xar 3030 (fun _ => 0), xar 99 (fun _ => 0), xar 60 (fun _ => 0), xar 66 (fun _ => 0)]) (((((0 + 1) + 1) + 1) + 1) + 1) (((((0 + 505) + 3030) + 99) + 60) + 66)
  refine XV.run C okM_init 1 (q := (47, ([some (.ref (213))], [.ref (213)]))) rfl ?_
  refine XV.getf C (ci := 5) (kf := 0) (v := .ref (213 + 1)) (xlk_ok okM_init rfl) rfl (by decide) wF_M_7 (by omega) (by omega) (blkL_get (i := 0) rfl rfl) rfl ?_
  refine XV.run C okM_init 2 (q := (52, ([some (.ref (213))], [.int (4), .int (2), .ref (213 + 1)]))) rfl ?_
  refine XV.iastC C (N := 505) (f := (fun _ => 0)) (a := 2) (xlk_ok okM_init rfl) (by omega) (by omega) (blkL_get (i := 1) rfl rfl) rfl (by omega) (by decide) ?_
  refine XV.cast (blkL_up (i := 1) rfl (Nat.le_of_ble_eq_true rfl)) ?_
  show XV G 1 p' l e' ({ frames := 1, cells := 5, slots := 3760, locals := 20 } : Room) s' m' g' b' t' c' (XEnd G b' (fun r' n' h' => r' = none ∧ n' = 215 ∧ h' = setM h f0K (fun _ => 0) (fun _ => 0) (fun _ => 0) (fun _ => 0) (fun _ => 0)) (fun _ _ _ => False) g' s' 5 3760) 53 [some (.ref (213))] [] (210 + 5) (blkL h (213) [.inr (5, [.ref (213 + 1), .ref (213 + 2), .int (0), .ref (213 + 3), .ref (213 + 4), .int (0), .int (0), .int (0), .int (0), .ref (213 + 5), .int (0)]), xar 505 (upd (fun _ => 0) 2 (4)), xar 3030 (fun _ => 0), xar 99 (fun _ => 0), xar 60 (fun _ => 0), xar 66 (fun _ => 0)]) (((((0 + 1) + 1) + 1) + 1) + 1) (((((0 + 505) + 3030) + 99) + 60) + 66)
  refine XV.run C okM_init 1 (q := (54, ([some (.ref (213))], [.ref (213)]))) rfl ?_
  refine XV.getf C (ci := 5) (kf := 0) (v := .ref (213 + 1)) (xlk_ok okM_init rfl) rfl (by decide) wF_M_7 (by omega) (by omega) (blkL_get (i := 0) rfl rfl) rfl ?_
  refine XV.run C okM_init 2 (q := (60, ([some (.ref (213))], [.int (8), .int (3), .ref (213 + 1)]))) rfl ?_
  refine XV.iastC C (N := 505) (f := (upd (fun _ => 0) 2 (4))) (a := 3) (xlk_ok okM_init rfl) (by omega) (by omega) (blkL_get (i := 1) rfl rfl) rfl (by omega) (by decide) ?_
  refine XV.cast (blkL_up (i := 1) rfl (Nat.le_of_ble_eq_true rfl)) ?_
  show XV G 1 p' l e' ({ frames := 1, cells := 5, slots := 3760, locals := 20 } : Room) s' m' g' b' t' c' (XEnd G b' (fun r' n' h' => r' = none ∧ n' = 215 ∧ h' = setM h f0K (fun _ => 0) (fun _ => 0) (fun _ => 0) (fun _ => 0) (fun _ => 0)) (fun _ _ _ => False) g' s' 5 3760) 61 [some (.ref (213))] [] (210 + 5) (blkL h (213) [.inr (5, [.ref (213 + 1), .ref (213 + 2), .int (0), .ref (213 + 3), .ref (213 + 4), .int (0), .int (0), .int (0), .int (0), .ref (213 + 5), .int (0)]), xar 505 (upd (upd (fun _ => 0) 2 (4)) 3 (8)), xar 3030 (fun _ => 0), xar 99 (fun _ => 0), xar 60 (fun _ => 0), xar 66 (fun _ => 0)]) (((((0 + 1) + 1) + 1) + 1) + 1) (((((0 + 505) + 3030) + 99) + 60) + 66)
  refine XV.run C okM_init 1 (q := (62, ([some (.ref (213))], [.ref (213)]))) rfl ?_
  refine XV.getf C (ci := 5) (kf := 0) (v := .ref (213 + 1)) (xlk_ok okM_init rfl) rfl (by decide) wF_M_7 (by omega) (by omega) (blkL_get (i := 0) rfl rfl) rfl ?_
  refine XV.run C okM_init 2 (q := (68, ([some (.ref (213))], [.int (20), .int (4), .ref (213 + 1)]))) rfl ?_
  refine XV.iastC C (N := 505) (f := (upd (upd (fun _ => 0) 2 (4)) 3 (8))) (a := 4) (xlk_ok okM_init rfl) (by omega) (by omega) (blkL_get (i := 1) rfl rfl) rfl (by omega) (by decide) ?_
  refine XV.cast (blkL_up (i := 1) rfl (Nat.le_of_ble_eq_true rfl)) ?_
  show XV G 1 p' l e' ({ frames := 1, cells := 5, slots := 3760, locals := 20 } : Room) s' m' g' b' t' c' (XEnd G b' (fun r' n' h' => r' = none ∧ n' = 215 ∧ h' = setM h f0K (fun _ => 0) (fun _ => 0) (fun _ => 0) (fun _ => 0) (fun _ => 0)) (fun _ _ _ => False) g' s' 5 3760) 69 [some (.ref (213))] [] (210 + 5) (blkL h (213) [.inr (5, [.ref (213 + 1), .ref (213 + 2), .int (0), .ref (213 + 3), .ref (213 + 4), .int (0), .int (0), .int (0), .int (0), .ref (213 + 5), .int (0)]), xar 505 (upd (upd (upd (fun _ => 0) 2 (4)) 3 (8)) 4 (20)), xar 3030 (fun _ => 0), xar 99 (fun _ => 0), xar 60 (fun _ => 0), xar 66 (fun _ => 0)]) (((((0 + 1) + 1) + 1) + 1) + 1) (((((0 + 505) + 3030) + 99) + 60) + 66)
  refine XV.run C okM_init 1 (q := (70, ([some (.ref (213))], [.ref (213)]))) rfl ?_
  refine XV.getf C (ci := 5) (kf := 0) (v := .ref (213 + 1)) (xlk_ok okM_init rfl) rfl (by decide) wF_M_7 (by omega) (by omega) (blkL_get (i := 0) rfl rfl) rfl ?_
  refine XV.run C okM_init 2 (q := (75, ([some (.ref (213))], [.int (5), .int (5), .ref (213 + 1)]))) rfl ?_
  refine XV.iastC C (N := 505) (f := (upd (upd (upd (fun _ => 0) 2 (4)) 3 (8)) 4 (20))) (a := 5) (xlk_ok okM_init rfl) (by omega) (by omega) (blkL_get (i := 1) rfl rfl) rfl (by omega) (by decide) ?_
  refine XV.cast (blkL_up (i := 1) rfl (Nat.le_of_ble_eq_true rfl)) ?_
  show XV G 1 p' l e' ({ frames := 1, cells := 5, slots := 3760, locals := 20 } : Room) s' m' g' b' t' c' (XEnd G b' (fun r' n' h' => r' = none ∧ n' = 215 ∧ h' = setM h f0K (fun _ => 0) (fun _ => 0) (fun _ => 0) (fun _ => 0) (fun _ => 0)) (fun _ _ _ => False) g' s' 5 3760) 76 [some (.ref (213))] [] (210 + 5) (blkL h (213) [.inr (5, [.ref (213 + 1), .ref (213 + 2), .int (0), .ref (213 + 3), .ref (213 + 4), .int (0), .int (0), .int (0), .int (0), .ref (213 + 5), .int (0)]), xar 505 (upd (upd (upd (upd (fun _ => 0) 2 (4)) 3 (8)) 4 (20)) 5 (5)), xar 3030 (fun _ => 0), xar 99 (fun _ => 0), xar 60 (fun _ => 0), xar 66 (fun _ => 0)]) (((((0 + 1) + 1) + 1) + 1) + 1) (((((0 + 505) + 3030) + 99) + 60) + 66)
  refine XV.run C okM_init 1 (q := (77, ([some (.ref (213))], [.ref (213)]))) rfl ?_
  refine XV.getf C (ci := 5) (kf := 0) (v := .ref (213 + 1)) (xlk_ok okM_init rfl) rfl (by decide) wF_M_7 (by omega) (by omega) (blkL_get (i := 0) rfl rfl) rfl ?_
  refine XV.run C okM_init 2 (q := (83, ([some (.ref (213))], [.int (3), .int (6), .ref (213 + 1)]))) rfl ?_
  refine XV.iastC C (N := 505) (f := (upd (upd (upd (upd (fun _ => 0) 2 (4)) 3 (8)) 4 (20)) 5 (5))) (a := 6) (xlk_ok okM_init rfl) (by omega) (by omega) (blkL_get (i := 1) rfl rfl) rfl (by omega) (by decide) ?_
  refine XV.cast (blkL_up (i := 1) rfl (Nat.le_of_ble_eq_true rfl)) ?_
  show XV G 1 p' l e' ({ frames := 1, cells := 5, slots := 3760, locals := 20 } : Room) s' m' g' b' t' c' (XEnd G b' (fun r' n' h' => r' = none ∧ n' = 215 ∧ h' = setM h f0K (fun _ => 0) (fun _ => 0) (fun _ => 0) (fun _ => 0) (fun _ => 0)) (fun _ _ _ => False) g' s' 5 3760) 84 [some (.ref (213))] [] (210 + 5) (blkL h (213) [.inr (5, [.ref (213 + 1), .ref (213 + 2), .int (0), .ref (213 + 3), .ref (213 + 4), .int (0), .int (0), .int (0), .int (0), .ref (213 + 5), .int (0)]), xar 505 (upd (upd (upd (upd (upd (fun _ => 0) 2 (4)) 3 (8)) 4 (20)) 5 (5)) 6 (3)), xar 3030 (fun _ => 0), xar 99 (fun _ => 0), xar 60 (fun _ => 0), xar 66 (fun _ => 0)]) (((((0 + 1) + 1) + 1) + 1) + 1) (((((0 + 505) + 3030) + 99) + 60) + 66)
  exact XV.vret C (xlk_ok okM_init rfl) hret (Nat.le_of_ble_eq_true rfl) (Nat.le_of_ble_eq_true rfl) (⟨rfl, rfl, blkL_blk rfl (fun j hj => by rcases (show j = 0 ∨ j = 1 ∨ j = 2 ∨ j = 3 ∨ j = 4 ∨ j = 5 by omega) with rfl | rfl | rfl | rfl | rfl | rfl <;> first | rfl | exact congrArg some (xar_eq fun s _ => mi_eq s))⟩)
