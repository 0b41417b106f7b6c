/-! RopeThreads$Elevator: its methods -/
set_option maxHeartbeats 4000000 in
set_option maxRecDepth 100000 in
theorem ct_E_ropeAt {l : Launch} (hfl : l.stackTraces = false) {G : XG} {n : Nat} {h : XH} {e : Nat} {f : Nat → Int32} (hE : IsElev h e f) (e4 : 4 ≤ e) (en : e + 28 ≤ n + 4) {x : Int32} {i k : Nat} (hx : x = nI i) (hm : f 1 = nI k) (hk : k ≤ 5) (hi : i < k) : XCt l G False (Cond.code yE_ropeAt bE_ropeAt 2 (some (.object "RopeThreads$Rope"))) yE_ropeAt 0 0 0 0 [.ref (e), .int (x)] n h (fun r' n' h' => r' = some (.ref (e + 3 + 5 * i)) ∧ n' = n ∧ h' = h) (fun _ _ _ => False) := by
  subst hx
  refine XCt.of hfl (by decide +kernel) (Nat.le_of_ble_eq_true rfl) ?_
  intro p' e' s' m' g' b' t' c' C hret hname hnt hmd
  refine XV.run C okE_ropeAt 1 (q := (1, ([some (.ref (e)), some (.int (nI i))], [.int (nI i)]))) rfl ?_
  refine XV.if_lt C (tgt := 17) (xlk_ok okE_ropeAt rfl) rfl (fun hc => absurd hc (nI_pos (by omega))) (fun _ => ?_)
  refine XV.run C okE_ropeAt 2 (q := (6, ([some (.ref (e)), some (.int (nI i))], [.ref (e), .int (nI i)]))) rfl ?_
  refine XV.getf C (ci := 0) (kf := 2) (v := .int (f 1)) (xlk_ok okE_ropeAt rfl) rfl (by decide) wF_E_21 (by omega) (by omega) (hE 0 (by decide)) rfl ?_
  refine XV.icmp_ge C (tgt := 17) (xlk_ok okE_ropeAt rfl) rfl (fun hc => absurd hc (by rw [hm]; exact nI_ge (by omega) (by omega))) (fun _ => ?_)
  refine XV.run C okE_ropeAt 2 (q := (14, ([some (.ref (e)), some (.int (nI i))], [.int (5), .int (nI i)]))) rfl ?_
  refine XV.icmp_lt C (tgt := 19) (xlk_ok okE_ropeAt rfl) rfl (fun _ => ?_) (fun hc => absurd (nI_lt (b := 5) (by omega) (by omega)) hc)
  refine XV.run C okE_ropeAt 1 (q := (20, ([some (.ref (e)), some (.int (nI i))], [.ref (e)]))) rfl ?_
  refine XV.getf C (ci := 0) (kf := 1) (v := .ref (e + 2)) (xlk_ok okE_ropeAt rfl) rfl (by decide) wF_E_17 (by omega) (by omega) (hE 0 (by decide)) rfl ?_
  refine XV.run C okE_ropeAt 1 (q := (24, ([some (.ref (e)), some (.int (nI i))], [.int (nI i), .ref (e + 2)]))) rfl ?_
  refine XV.aaldS C (N := 5) (t := 3) (a := i) (o := e + 3 + 5 * i) (f := (fun i => if i < 5 then some (e + 3 + 5 * i) else none)) (xlk_ok okE_ropeAt rfl) (by omega) (by omega) (hE 2 (by decide)) rfl (rfl) (by omega) (by decide) (if_pos (by omega)) ?_
  exact XV.aret C (o := some (e + 3 + 5 * i)) (xlk_ok okE_ropeAt rfl) hret (Nat.le_of_ble_eq_true rfl) (Nat.le_of_ble_eq_true rfl) (⟨rfl, rfl, rfl⟩)
set_option maxHeartbeats 4000000 in
set_option maxRecDepth 100000 in
theorem ct_E_ropeAt_no {l : Launch} (hfl : l.stackTraces = false) {G : XG} {n : Nat} {h : XH} {e : Nat} {f : Nat → Int32} (hE : IsElev h e f) (e4 : 4 ≤ e) (en : e + 28 ≤ n + 4) {x : Int32} {k : Nat} (hm : f 1 = nI k) (hk : k ≤ 5) (hx : x < 0 ∨ nI k ≤ x) : XCt l G False (Cond.code yE_ropeAt bE_ropeAt 2 (some (.object "RopeThreads$Rope"))) yE_ropeAt 0 0 0 0 [.ref (e), .int (x)] n h (fun r' n' h' => r' = some (.null) ∧ n' = n ∧ h' = h) (fun _ _ _ => False) := by
  refine XCt.of hfl (by decide +kernel) (Nat.le_of_ble_eq_true rfl) ?_
  intro p' e' s' m' g' b' t' c' C hret hname hnt hmd
  refine XV.run C okE_ropeAt 1 (q := (1, ([some (.ref (e)), some (.int (x))], [.int (x)]))) rfl ?_
  refine XV.if_lt C (tgt := 17) (xlk_ok okE_ropeAt rfl) rfl (fun c1 => ?_) (fun c1 => ?_)
  ·
    refine XV.run C okE_ropeAt 1 (q := (18, ([some (.ref (e)), some (.int (x))], [.null]))) rfl ?_
    exact XV.aret C (o := none) (xlk_ok okE_ropeAt rfl) hret (Nat.le_of_ble_eq_true rfl) (Nat.le_of_ble_eq_true rfl) (⟨rfl, rfl, rfl⟩)
  ·
    refine XV.run C okE_ropeAt 2 (q := (6, ([some (.ref (e)), some (.int (x))], [.ref (e), .int (x)]))) rfl ?_
    refine XV.getf C (ci := 0) (kf := 2) (v := .int (f 1)) (xlk_ok okE_ropeAt rfl) rfl (by decide) wF_E_21 (by omega) (by omega) (hE 0 (by decide)) rfl ?_
    refine XV.icmp_ge C (tgt := 17) (xlk_ok okE_ropeAt rfl) rfl (fun _ => ?_) (fun c9 => absurd (show f 1 ≤ x by rw [hm]; exact hx.resolve_left c1) c9)
    refine XV.run C okE_ropeAt 1 (q := (18, ([some (.ref (e)), some (.int (x))], [.null]))) rfl ?_
    exact XV.aret C (o := none) (xlk_ok okE_ropeAt rfl) hret (Nat.le_of_ble_eq_true rfl) (Nat.le_of_ble_eq_true rfl) (⟨rfl, rfl, rfl⟩)
set_option maxHeartbeats 4000000 in
set_option maxRecDepth 100000 in
theorem ct_E_windows {l : Launch} (hfl : l.stackTraces = false) {G : XG} {n : Nat} {h : XH} {e : Nat} {f : Nat → Int32} (hE : IsElev h e f) (e4 : 4 ≤ e) (en : e + 28 ≤ n + 4) {z : Nat} (hz : f 2 = nI z) (z1 : 1 ≤ z) (z2 : z ≤ 12) : XCt l G False (Cond.code yE_windows bE_windows 1 (some .int)) yE_windows 0 0 0 0 [.ref (e)] n h (fun r' n' h' => r' = some (.int (nI (25 - z))) ∧ n' = n ∧ h' = h) (fun _ _ _ => False) := by
  refine XCt.of hfl (by decide +kernel) (Nat.le_of_ble_eq_true rfl) ?_
  intro p' e' s' m' g' b' t' c' C hret hname hnt hmd
  refine XV.run C okE_windows 2 (q := (3, ([some (.ref (e))], [.ref (e), .int (24)]))) rfl ?_
  refine XV.getf C (ci := 0) (kf := 0) (v := .ref (e + 1)) (xlk_ok okE_windows rfl) rfl (by decide) wF_E_9 (by omega) (by omega) (hE 0 (by decide)) rfl ?_
  refine XV.run C okE_windows 1 (q := (7, ([some (.ref (e))], [.int (0), .ref (e + 1), .int (24)]))) rfl ?_
  refine XV.ialdC C (N := 5) (f := (fun i => f (2 + i))) (a := 0) (xlk_ok okE_windows rfl) (by omega) (by omega) (hE 1 (by decide)) (rfl) (by decide) (by decide) ?_
  refine XV.run C okE_windows 3 (q := (11, ([some (.ref (e))], [.int ((24 - (f 2)) + 1)]))) rfl ?_
  exact XV.iret C (xlk_ok okE_windows rfl) hret rfl (Nat.le_of_ble_eq_true rfl) (Nat.le_of_ble_eq_true rfl) (⟨by rw [hz, show (24 : Int32) = nI 24 from rfl, pk_sub (by omega), nI_1, show 24 - z + 1 = 25 - z by omega], rfl, rfl⟩)
set_option maxHeartbeats 4000000 in
set_option maxRecDepth 100000 in
theorem ct_E_monthsLeft {l : Launch} (hfl : l.stackTraces = false) {G : XG} {n : Nat} {h : XH} {e : Nat} {f : Nat → Int32} (hE : IsElev h e f) (e4 : 4 ≤ e) (en : e + 28 ≤ n + 4) {a : Nat} {r : Nat → Int32} (hR : IsRope h a r) (h4 : 4 ≤ a) (hn : a + 5 ≤ n + 4) : XCt l G False (Cond.code yE_monthsLeft bE_monthsLeft 2 (some .int)) yE_monthsLeft 2 43 0 0 [.ref (e), .ref (a)] n h (fun r' n' h' => r' = some (.int (mleftK f r)) ∧ n' = n ∧ h' = h) (fun _ _ _ => False) := by
  refine XCt.of hfl (by decide +kernel) (Nat.le_of_ble_eq_true rfl) ?_
  intro p' e' s' m' g' b' t' c' C hret hname hnt hmd
  refine XV.run C okE_monthsLeft 2 (q := (2, ([some (.ref (e)), some (.ref (a))], [.ref (a), .int (0)]))) rfl ?_
  refine XV.callV C (As := []) (rest := [.int (0)]) (ci := 2) (ct_R_oldestLook hfl hR (by omega) (by omega) ) (xlk_ok okE_monthsLeft rfl) rfl (by omega) (by omega) rfl (hR 0 (by decide)) rfl wM_E_87 wI_R_oldestLook wV_R_oldestLook wN_R wB_R_oldestLook hy_R_oldestLook (fun q => q.elim) ⟨Nat.le_of_ble_eq_true rfl, Nat.le_of_ble_eq_true rfl⟩ ⟨Nat.le_of_ble_eq_true rfl, Nat.le_of_ble_eq_true rfl⟩ (Nat.le_of_ble_eq_true rfl) (fun r n h hp => ?_) (fun _ _ _ q => q.elim)
  obtain ⟨rfl, rfl, rfl⟩ := hp
  refine XV.run C okE_monthsLeft 1 (q := (6, ([some (.ref (e)), some (.ref (a))], [.ref (e), .int (omn (fun s => r (75 + s)) 24), .int (0)]))) rfl ?_
  refine XV.getf C (ci := 0) (kf := 0) (v := .ref (e + 1)) (xlk_ok okE_monthsLeft rfl) rfl (by decide) wF_E_9 (by omega) (by omega) (hE 0 (by decide)) rfl ?_
  refine XV.run C okE_monthsLeft 1 (q := (10, ([some (.ref (e)), some (.ref (a))], [.int (4), .ref (e + 1), .int (omn (fun s => r (75 + s)) 24), .int (0)]))) rfl ?_
  refine XV.ialdC C (N := 5) (f := (fun i => f (2 + i))) (a := 4) (xlk_ok okE_monthsLeft rfl) (by omega) (by omega) (hE 1 (by decide)) (rfl) (by decide) (by decide) ?_
  refine XV.run C okE_monthsLeft 4 (q := (15, ([some (.ref (e)), some (.ref (a))], [.ref (e), .int (((omn (fun s => r (75 + s)) 24) + (f 6)) + 1), .int (0)]))) rfl ?_
  refine XV.getf C (ci := 0) (kf := 3) (v := .int (f 0)) (xlk_ok okE_monthsLeft rfl) rfl (by decide) wF_E_25 (by omega) (by omega) (hE 0 (by decide)) rfl ?_
  refine XV.run C okE_monthsLeft 1 (q := (19, ([some (.ref (e)), some (.ref (a))], [.int ((((omn (fun s => r (75 + s)) 24) + (f 6)) + 1) - (f 0)), .int (0)]))) rfl ?_
  refine XV.mmax C (xlk_ok okE_monthsLeft rfl) wM_E_65 (Nat.le_of_ble_eq_true rfl) (Nat.le_of_ble_eq_true rfl) (Nat.le_of_ble_eq_true rfl) (Nat.le_of_ble_eq_true rfl) ?_
  exact XV.iret C (xlk_ok okE_monthsLeft rfl) hret rfl (Nat.le_of_ble_eq_true rfl) (Nat.le_of_ble_eq_true rfl) (⟨rfl, rfl, rfl⟩)
set_option maxHeartbeats 4000000 in
set_option maxRecDepth 100000 in
theorem ct_E_reasonFor {l : Launch} (hfl : l.stackTraces = false) {G : XG} {n : Nat} {h : XH} {e : Nat} {f : Nat → Int32} (hE : IsElev h e f) (e4 : 4 ≤ e) (en : e + 28 ≤ n + 4) {a : Nat} {r : Nat → Int32} (hR : IsRope h a r) (h4 : 4 ≤ a) (hn : a + 5 ≤ n + 4) {z : Nat} (hz : f 2 = nI z) (z1 : 1 ≤ z) (z2 : z ≤ 12) : XCt l G False (Cond.code yE_reasonFor bE_reasonFor 2 (some .int)) yE_reasonFor 3 64 0 0 [.ref (e), .ref (a)] n h (fun r' n' h' => r' = some (.int (reasonK f r z)) ∧ n' = n ∧ h' = h) (fun _ _ _ => False) := by
  refine XCt.of hfl (by decide +kernel) (Nat.le_of_ble_eq_true rfl) ?_
  intro p' e' s' m' g' b' t' c' C hret hname hnt hmd
  refine XV.run C okE_reasonFor 2 (q := (2, ([some (.ref (e)), some (.ref (a))], [.ref (e), .ref (a)]))) rfl ?_
  refine XV.getf C (ci := 0) (kf := 0) (v := .ref (e + 1)) (xlk_ok okE_reasonFor rfl) rfl (by decide) wF_E_9 (by omega) (by omega) (hE 0 (by decide)) rfl ?_
  refine XV.run C okE_reasonFor 1 (q := (6, ([some (.ref (e)), some (.ref (a))], [.int (0), .ref (e + 1), .ref (a)]))) rfl ?_
  refine XV.ialdC C (N := 5) (f := (fun i => f (2 + i))) (a := 0) (xlk_ok okE_reasonFor rfl) (by omega) (by omega) (hE 1 (by decide)) (rfl) (by decide) (by decide) ?_
  refine XV.callV C (As := [.int (f 2)]) (rest := []) (ci := 2) (ct_R_greatestCounts hfl hR (by omega) (by omega) (z := z) (hz) (by omega) (by omega)) (xlk_ok okE_reasonFor rfl) rfl (by omega) (by omega) rfl (hR 0 (by decide)) rfl wM_E_72 wI_R_greatestCounts wV_R_greatestCounts wN_R wB_R_greatestCounts hy_R_greatestCounts (fun q => q.elim) ⟨Nat.le_of_ble_eq_true rfl, Nat.le_of_ble_eq_true rfl⟩ ⟨Nat.le_of_ble_eq_true rfl, Nat.le_of_ble_eq_true rfl⟩ (Nat.le_of_ble_eq_true rfl) (fun r n h hp => ?_) (fun _ _ _ q => q.elim)
  obtain ⟨rfl, rfl, rfl⟩ := hp
  refine XV.run C okE_reasonFor 1 (q := (11, ([some (.ref (e)), some (.ref (a))], [.ref (e), .int (gmx (winS r false z) (25 - z))]))) rfl ?_
  refine XV.getf C (ci := 0) (kf := 0) (v := .ref (e + 1)) (xlk_ok okE_reasonFor rfl) rfl (by decide) wF_E_9 (by omega) (by omega) (hE 0 (by decide)) rfl ?_
  refine XV.run C okE_reasonFor 1 (q := (15, ([some (.ref (e)), some (.ref (a))], [.int (1), .ref (e + 1), .int (gmx (winS r false z) (25 - z))]))) rfl ?_
  refine XV.ialdC C (N := 5) (f := (fun i => f (2 + i))) (a := 1) (xlk_ok okE_reasonFor rfl) (by omega) (by omega) (hE 1 (by decide)) (rfl) (by decide) (by decide) ?_
  refine XV.icmp_lt C (tgt := 21) (xlk_ok okE_reasonFor rfl) rfl (fun c1 => ?_) (fun c1 => ?_)
  ·
    refine XV.run C okE_reasonFor 1 (q := (22, ([some (.ref (e)), some (.ref (a))], [.ref (a)]))) rfl ?_
    refine XV.callV C (As := []) (rest := []) (ci := 2) (ct_R_allCounts hfl hR (by omega) (by omega) ) (xlk_ok okE_reasonFor rfl) rfl (by omega) (by omega) rfl (hR 0 (by decide)) rfl wM_E_76 wI_R_allCounts wV_R_allCounts wN_R wB_R_allCounts hy_R_allCounts (fun q => q.elim) ⟨Nat.le_of_ble_eq_true rfl, Nat.le_of_ble_eq_true rfl⟩ ⟨Nat.le_of_ble_eq_true rfl, Nat.le_of_ble_eq_true rfl⟩ (Nat.le_of_ble_eq_true rfl) (fun r n h hp => ?_) (fun _ _ _ q => q.elim)
    obtain ⟨rfl, rfl, rfl⟩ := hp
    refine XV.run C okE_reasonFor 1 (q := (26, ([some (.ref (e)), some (.ref (a))], [.ref (e), .int (sumN (colR r false) 0 24)]))) rfl ?_
    refine XV.getf C (ci := 0) (kf := 0) (v := .ref (e + 1)) (xlk_ok okE_reasonFor rfl) rfl (by decide) wF_E_9 (by omega) (by omega) (hE 0 (by decide)) rfl ?_
    refine XV.run C okE_reasonFor 1 (q := (30, ([some (.ref (e)), some (.ref (a))], [.int (2), .ref (e + 1), .int (sumN (colR r false) 0 24)]))) rfl ?_
    refine XV.ialdC C (N := 5) (f := (fun i => f (2 + i))) (a := 2) (xlk_ok okE_reasonFor rfl) (by omega) (by omega) (hE 1 (by decide)) (rfl) (by decide) (by decide) ?_
    refine XV.icmp_lt C (tgt := 36) (xlk_ok okE_reasonFor rfl) rfl (fun c2 => ?_) (fun c2 => ?_)
    ·
      refine XV.run C okE_reasonFor 1 (q := (37, ([some (.ref (e)), some (.ref (a))], [.ref (a)]))) rfl ?_
      refine XV.callV C (As := []) (rest := []) (ci := 2) (ct_R_greatestGrowth hfl hR (by omega) (by omega) ) (xlk_ok okE_reasonFor rfl) rfl (by omega) (by omega) rfl (hR 0 (by decide)) rfl wM_E_80 wI_R_greatestGrowth wV_R_greatestGrowth wN_R wB_R_greatestGrowth hy_R_greatestGrowth (fun q => q.elim) ⟨Nat.le_of_ble_eq_true rfl, Nat.le_of_ble_eq_true rfl⟩ ⟨Nat.le_of_ble_eq_true rfl, Nat.le_of_ble_eq_true rfl⟩ (Nat.le_of_ble_eq_true rfl) (fun r n h hp => ?_) (fun _ _ _ q => q.elim)
      obtain ⟨rfl, rfl, rfl⟩ := hp
      refine XV.run C okE_reasonFor 1 (q := (41, ([some (.ref (e)), some (.ref (a))], [.ref (e), .int (gmx (grw r) 24)]))) rfl ?_
      refine XV.getf C (ci := 0) (kf := 0) (v := .ref (e + 1)) (xlk_ok okE_reasonFor rfl) rfl (by decide) wF_E_9 (by omega) (by omega) (hE 0 (by decide)) rfl ?_
      refine XV.run C okE_reasonFor 1 (q := (45, ([some (.ref (e)), some (.ref (a))], [.int (3), .ref (e + 1), .int (gmx (grw r) 24)]))) rfl ?_
      refine XV.ialdC C (N := 5) (f := (fun i => f (2 + i))) (a := 3) (xlk_ok okE_reasonFor rfl) (by omega) (by omega) (hE 1 (by decide)) (rfl) (by decide) (by decide) ?_
      refine XV.icmp_lt C (tgt := 51) (xlk_ok okE_reasonFor rfl) rfl (fun c3 => ?_) (fun c3 => ?_)
      ·
        refine XV.run C okE_reasonFor 2 (q := (53, ([some (.ref (e)), some (.ref (a))], [.ref (a), .ref (e)]))) rfl ?_
        refine XV.callV C (As := [.ref (a)]) (rest := []) (ci := 0) (ct_E_monthsLeft hfl hE (by omega) (by omega) hR (by omega) (by omega)) (xlk_ok okE_reasonFor rfl) rfl (by omega) (by omega) rfl (hE 0 (by decide)) rfl wM_E_83 wI_E_monthsLeft wV_E_monthsLeft wN_E wB_E_monthsLeft hy_E_monthsLeft (fun q => q.elim) ⟨Nat.le_of_ble_eq_true rfl, Nat.le_of_ble_eq_true rfl⟩ ⟨Nat.le_of_ble_eq_true rfl, Nat.le_of_ble_eq_true rfl⟩ (Nat.le_of_ble_eq_true rfl) (fun r n h hp => ?_) (fun _ _ _ q => q.elim)
        obtain ⟨rfl, rfl, rfl⟩ := hp
        refine XV.if_ne C (tgt := 63) (xlk_ok okE_reasonFor rfl) rfl (fun c4 => ?_) (fun c4 => ?_)
        ·
          refine XV.run C okE_reasonFor 1 (q := (64, ([some (.ref (e)), some (.ref (a))], [.int (0)]))) rfl ?_
          exact XV.iret C (xlk_ok okE_reasonFor rfl) hret rfl (Nat.le_of_ble_eq_true rfl) (Nat.le_of_ble_eq_true rfl) (⟨by unfold reasonK; rw [if_neg (Int32.not_le.mpr c1), if_neg (Int32.not_le.mpr c2), if_neg (Int32.not_le.mpr c3), if_neg c4], rfl, rfl⟩)
        ·
          refine XV.run C okE_reasonFor 2 (q := (64, ([some (.ref (e)), some (.ref (a))], [.int (4)]))) rfl ?_
          exact XV.iret C (xlk_ok okE_reasonFor rfl) hret rfl (Nat.le_of_ble_eq_true rfl) (Nat.le_of_ble_eq_true rfl) (⟨by unfold reasonK; rw [if_neg (Int32.not_le.mpr c1), if_neg (Int32.not_le.mpr c2), if_neg (Int32.not_le.mpr c3), if_pos c4], rfl, rfl⟩)
      ·
        refine XV.run C okE_reasonFor 1 (q := (50, ([some (.ref (e)), some (.ref (a))], [.int (3)]))) rfl ?_
        exact XV.iret C (xlk_ok okE_reasonFor rfl) hret rfl (Nat.le_of_ble_eq_true rfl) (Nat.le_of_ble_eq_true rfl) (⟨by unfold reasonK; rw [if_neg (Int32.not_le.mpr c1), if_neg (Int32.not_le.mpr c2), if_pos (Int32.not_lt.mp c3)], rfl, rfl⟩)
    ·
      refine XV.run C okE_reasonFor 1 (q := (35, ([some (.ref (e)), some (.ref (a))], [.int (2)]))) rfl ?_
      exact XV.iret C (xlk_ok okE_reasonFor rfl) hret rfl (Nat.le_of_ble_eq_true rfl) (Nat.le_of_ble_eq_true rfl) (⟨by unfold reasonK; rw [if_neg (Int32.not_le.mpr c1), if_pos (Int32.not_lt.mp c2)], rfl, rfl⟩)
  ·
    refine XV.run C okE_reasonFor 1 (q := (20, ([some (.ref (e)), some (.ref (a))], [.int (1)]))) rfl ?_
    exact XV.iret C (xlk_ok okE_reasonFor rfl) hret rfl (Nat.le_of_ble_eq_true rfl) (Nat.le_of_ble_eq_true rfl) (⟨by unfold reasonK; rw [if_pos (Int32.not_lt.mp c1)], rfl, rfl⟩)
set_option maxHeartbeats 4000000 in
set_option maxRecDepth 100000 in
theorem ct_E_ropesToRetire {l : Launch} (hfl : l.stackTraces = false) {G : XG} {n : Nat} {h : XH} {e : Nat} {f : Nat → Int32} (hE : IsElev h e f) (e4 : 4 ≤ e) (en : e + 28 ≤ n + 4) {k : Nat} (hm : f 1 = nI k) (hk : k ≤ 5) (hl : ∀ i, i < k → 0 < rowOf f i 0) {z : Nat} (hz : f 2 = nI z) (z1 : 1 ≤ z) (z2 : z ≤ 12) : XCt l G False (Cond.code yE_ropesToRetire bE_ropesToRetire 4 (some .int)) yE_ropesToRetire 4 85 0 0 [.ref (e)] n h (fun r' n' h' => r' = some (.int (nI (retK f z k))) ∧ n' = n ∧ h' = h) (fun _ _ _ => False) := by
  refine XCt.of hfl (by decide +kernel) (Nat.le_of_ble_eq_true rfl) ?_
  intro p' e' s' m' g' b' t' c' C hret hname hnt hmd
  refine XV.run C okE_ropesToRetire 4 (q := (4, ([some (.ref (e)), some (.int (0)), some (.int (0)), none], []))) rfl ?_
  have loop : ∀ (d j : Nat), j + d = k → XV G 4 p' l e' ({ frames := 4, cells := 0, slots := 0, locals := 85 } : Room) s' m' g' b' t' c' (XEnd G b' (fun r' n' h' => r' = some (.int (nI (retK f z k))) ∧ n' = n ∧ h' = h) (fun _ _ _ => False) g' s' 0 0) 4 [some (.ref (e)), some (.int (nI (retK f z j))), some (.int (nI j)), none] [] n h 0 0 := by
    intro d
    induction d with
    | zero =>
      intro j hj
      refine XV.run C okE_ropesToRetire 2 (q := (6, ([some (.ref (e)), some (.int (nI (retK f z j))), some (.int (nI j)), none], [.ref (e), .int (nI j)]))) rfl ?_
      refine XV.getf C (ci := 0) (kf := 2) (v := .int (f 1)) (xlk_ok okE_ropesToRetire rfl) rfl (by decide) wF_E_21 (by omega) (by omega) (hE 0 (by decide)) rfl ?_
      refine XV.icmp_ge C (tgt := 39) (xlk_ok okE_ropesToRetire rfl) rfl (fun _ => ?_) (fun hc => absurd (by rw [hm]; exact nI_le (by omega) (by omega)) hc)
      refine XV.run C okE_ropesToRetire 1 (q := (40, ([some (.ref (e)), some (.int (nI (retK f z j))), some (.int (nI j)), none], [.int (nI (retK f z j))]))) rfl ?_
      exact XV.iret C (xlk_ok okE_ropesToRetire rfl) hret rfl (Nat.le_of_ble_eq_true rfl) (Nat.le_of_ble_eq_true rfl) (⟨by rw [show j = k by omega], rfl, rfl⟩)
    | succ d ih =>
      intro j hj
      refine XV.run C okE_ropesToRetire 2 (q := (6, ([some (.ref (e)), some (.int (nI (retK f z j))), some (.int (nI j)), none], [.ref (e), .int (nI j)]))) rfl ?_
      refine XV.getf C (ci := 0) (kf := 2) (v := .int (f 1)) (xlk_ok okE_ropesToRetire rfl) rfl (by decide) wF_E_21 (by omega) (by omega) (hE 0 (by decide)) rfl ?_
      refine XV.icmp_ge C (tgt := 39) (xlk_ok okE_ropesToRetire rfl) rfl (fun hc => absurd hc (by rw [hm]; exact nI_ge (by omega) (by omega))) (fun _ => ?_)
      refine XV.run C okE_ropesToRetire 2 (q := (14, ([some (.ref (e)), some (.int (nI (retK f z j))), some (.int (nI j)), none], [.int (nI j), .ref (e)]))) rfl ?_
      refine XV.callV C (As := [.int (nI j)]) (rest := []) (ci := 0) (ct_E_ropeAt hfl hE (by omega) (by omega) (i := j) (rfl) (hm) (by omega) (by omega)) (xlk_ok okE_ropesToRetire rfl) rfl (by omega) (by omega) rfl (hE 0 (by decide)) rfl wM_E_51 wI_E_ropeAt wV_E_ropeAt wN_E wB_E_ropeAt hy_E_ropeAt (fun q => q.elim) ⟨Nat.le_of_ble_eq_true rfl, Nat.le_of_ble_eq_true rfl⟩ ⟨Nat.le_of_ble_eq_true rfl, Nat.le_of_ble_eq_true rfl⟩ (Nat.le_of_ble_eq_true rfl) (fun r n h hp => ?_) (fun _ _ _ q => q.elim)
      obtain ⟨rfl, rfl, rfl⟩ := hp
      refine XV.run C okE_ropesToRetire 2 (q := (19, ([some (.ref (e)), some (.int (nI (retK f z j))), some (.int (nI j)), some (.ref (e + 3 + 5 * j))], [.ref (e + 3 + 5 * j)]))) rfl ?_
      refine XV.null_r C (xlk_ok okE_ropesToRetire rfl) ?_
      refine XV.run C okE_ropesToRetire 2 (q := (24, ([some (.ref (e)), some (.int (nI (retK f z j))), some (.int (nI j)), some (.ref (e + 3 + 5 * j))], [.ref (e + 3 + 5 * j), .ref (e)]))) rfl ?_
      refine XV.callV C (As := [.ref (e + 3 + 5 * j)]) (rest := []) (ci := 0) (ct_E_reasonFor hfl hE (by omega) (by omega) (elev_ropeL hE (by omega) (hl j (by omega))) (by omega) (by omega) (z := z) (hz) (by omega) (by omega)) (xlk_ok okE_ropesToRetire rfl) rfl (by omega) (by omega) rfl (hE 0 (by decide)) rfl wM_E_90 wI_E_reasonFor wV_E_reasonFor wN_E wB_E_reasonFor hy_E_reasonFor (fun q => q.elim) ⟨Nat.le_of_ble_eq_true rfl, Nat.le_of_ble_eq_true rfl⟩ ⟨Nat.le_of_ble_eq_true rfl, Nat.le_of_ble_eq_true rfl⟩ (Nat.le_of_ble_eq_true rfl) (fun r n h hp => ?_) (fun _ _ _ q => q.elim)
      obtain ⟨rfl, rfl, rfl⟩ := hp
      refine XV.if_eq C (tgt := 33) (xlk_ok okE_ropesToRetire rfl) rfl (fun c => ?_) (fun c => ?_)
      ·
        have e1 : retK f z (j + 1) = retK f z j := if_pos c
        have w := ih (j + 1) (by omega)
        rw [e1] at w
        refine XV.run C okE_ropesToRetire 2 (q := (4, ([some (.ref (e)), some (.int (nI (retK f z j))), some (.int ((nI j) + 1)), some (.ref (e + 3 + 5 * j))], []))) rfl ?_
        rw [nI_1]
        exact XV.drop w rfl (by simp [xle])
      ·
        have e1 : retK f z (j + 1) = retK f z j + 1 := if_neg c
        have w := ih (j + 1) (by omega)
        rw [e1] at w
        refine XV.run C okE_ropesToRetire 3 (q := (4, ([some (.ref (e)), some (.int ((nI (retK f z j)) + 1)), some (.int ((nI j) + 1)), some (.ref (e + 3 + 5 * j))], []))) rfl ?_
        rw [nI_1, nI_1]
        exact XV.drop w rfl (by simp [xle])
  exact loop k 0 (by omega)
set_option maxHeartbeats 4000000 in
set_option maxRecDepth 100000 in
theorem ct_E_canRun {l : Launch} (hfl : l.stackTraces = false) {G : XG} {n : Nat} {h : XH} {e : Nat} {f : Nat → Int32} (hE : IsElev h e f) (e4 : 4 ≤ e) (en : e + 28 ≤ n + 4) {k : Nat} (hm : f 1 = nI k) (hk : k ≤ 5) (hl : ∀ i, i < k → 0 < rowOf f i 0) {z : Nat} (hz : f 2 = nI z) (z1 : 1 ≤ z) (z2 : z ≤ 12) : XCt l G False (Cond.code yE_canRun bE_canRun 1 (some .boolean)) yE_canRun 5 108 0 0 [.ref (e)] n h (fun r' n' h' => r' = some (.int (canK f z k)) ∧ n' = n ∧ h' = h) (fun _ _ _ => False) := by
  have hrk := retK_le f z k
  refine XCt.of hfl (by decide +kernel) (Nat.le_of_ble_eq_true rfl) ?_
  intro p' e' s' m' g' b' t' c' C hret hname hnt hmd
  refine XV.run C okE_canRun 1 (q := (1, ([some (.ref (e))], [.ref (e)]))) rfl ?_
  refine XV.getf C (ci := 0) (kf := 2) (v := .int (f 1)) (xlk_ok okE_canRun rfl) rfl (by decide) wF_E_21 (by omega) (by omega) (hE 0 (by decide)) rfl ?_
  refine XV.run C okE_canRun 1 (q := (5, ([some (.ref (e))], [.int (2), .int (f 1)]))) rfl ?_
  refine XV.icmp_lt C (tgt := 19) (xlk_ok okE_canRun rfl) rfl (fun c1 => ?_) (fun c1 => ?_)
  ·
    refine XV.run C okE_canRun 1 (q := (20, ([some (.ref (e))], [.int (0)]))) rfl ?_
    exact XV.iret C (xlk_ok okE_canRun rfl) hret (rfl) (Nat.le_of_ble_eq_true rfl) (Nat.le_of_ble_eq_true rfl) (⟨by first | rw [canK_0a (f := f) (z := z) ((nI_ltI (a := k) (b := 2) (by omega) (by omega)).mp (by rw [← hm]; exact c1))] | rw [canK_0b (f := f) (z := z) (k := k) (fun q => c2 (by rw [q]; rfl))], rfl, rfl⟩)
  ·
    refine XV.run C okE_canRun 1 (q := (9, ([some (.ref (e))], [.ref (e)]))) rfl ?_
    refine XV.callV C (As := []) (rest := []) (ci := 0) (ct_E_ropesToRetire hfl hE (by omega) (by omega) (k := k) (hm) (by omega) (hl) (z := z) (hz) (by omega) (by omega)) (xlk_ok okE_canRun rfl) rfl (by omega) (by omega) rfl (hE 0 (by decide)) rfl wM_E_93 wI_E_ropesToRetire wV_E_ropesToRetire wN_E wB_E_ropesToRetire hy_E_ropesToRetire (fun q => q.elim) ⟨Nat.le_of_ble_eq_true rfl, Nat.le_of_ble_eq_true rfl⟩ ⟨Nat.le_of_ble_eq_true rfl, Nat.le_of_ble_eq_true rfl⟩ (Nat.le_of_ble_eq_true rfl) (fun r n h hp => ?_) (fun _ _ _ q => q.elim)
    obtain ⟨rfl, rfl, rfl⟩ := hp
    refine XV.if_ne C (tgt := 19) (xlk_ok okE_canRun rfl) rfl (fun c2 => ?_) (fun c2 => ?_)
    ·
      refine XV.run C okE_canRun 1 (q := (20, ([some (.ref (e))], [.int (0)]))) rfl ?_
      exact XV.iret C (xlk_ok okE_canRun rfl) hret (rfl) (Nat.le_of_ble_eq_true rfl) (Nat.le_of_ble_eq_true rfl) (⟨by first | rw [canK_0a (f := f) (z := z) ((nI_ltI (a := k) (b := 2) (by omega) (by omega)).mp (by rw [← hm]; exact c1))] | rw [canK_0b (f := f) (z := z) (k := k) (fun q => c2 (by rw [q]; rfl))], rfl, rfl⟩)
    ·
      refine XV.run C okE_canRun 2 (q := (20, ([some (.ref (e))], [.int (1)]))) rfl ?_
      exact XV.iret C (xlk_ok okE_canRun rfl) hret (rfl) (Nat.le_of_ble_eq_true rfl) (Nat.le_of_ble_eq_true rfl) (⟨by rw [canK_1 (f := f) (z := z) (k := k) (fun q => c1 (by rw [hm]; exact nI_lt (b := 2) q (by omega))) ((nI_eq (b := 0) (by omega) (by omega)).mp c2)], rfl, rfl⟩)
set_option maxHeartbeats 4000000 in
set_option maxRecDepth 100000 in
theorem ct_E_countsOfRopes {l : Launch} (hfl : l.stackTraces = false) {G : XG} {n : Nat} {h : XH} {e : Nat} {f : Nat → Int32} (hE : IsElev h e f) (e4 : 4 ≤ e) (en : e + 28 ≤ n + 4) {k : Nat} (hm : f 1 = nI k) (hk : k ≤ 5) (hl : ∀ i, i < k → 0 < rowOf f i 0) : XCt l G False (Cond.code yE_countsOfRopes bE_countsOfRopes 4 (some .int)) yE_countsOfRopes 2 44 0 0 [.ref (e)] n h (fun r' n' h' => r' = some (.int (sumRK f false k)) ∧ n' = n ∧ h' = h) (fun _ _ _ => False) := by
  refine XCt.of hfl (by decide +kernel) (Nat.le_of_ble_eq_true rfl) ?_
  intro p' e' s' m' g' b' t' c' C hret hname hnt hmd
  refine XV.run C okE_countsOfRopes 4 (q := (4, ([some (.ref (e)), some (.int (0)), some (.int (0)), none], []))) rfl ?_
  have loop : ∀ (d j : Nat), j + d = k → XV G 4 p' l e' ({ frames := 2, cells := 0, slots := 0, locals := 44 } : Room) s' m' g' b' t' c' (XEnd G b' (fun r' n' h' => r' = some (.int (sumRK f false k)) ∧ n' = n ∧ h' = h) (fun _ _ _ => False) g' s' 0 0) 4 [some (.ref (e)), some (.int (sumRK f false j)), some (.int (nI j)), none] [] n h 0 0 := by
    intro d
    induction d with
    | zero =>
      intro j hj
      refine XV.run C okE_countsOfRopes 2 (q := (6, ([some (.ref (e)), some (.int (sumRK f false j)), some (.int (nI j)), none], [.ref (e), .int (nI j)]))) rfl ?_
      refine XV.getf C (ci := 0) (kf := 2) (v := .int (f 1)) (xlk_ok okE_countsOfRopes rfl) rfl (by decide) wF_E_21 (by omega) (by omega) (hE 0 (by decide)) rfl ?_
      refine XV.icmp_ge C (tgt := 35) (xlk_ok okE_countsOfRopes rfl) rfl (fun _ => ?_) (fun hc => absurd (by rw [hm]; exact nI_le (by omega) (by omega)) hc)
      refine XV.run C okE_countsOfRopes 1 (q := (36, ([some (.ref (e)), some (.int (sumRK f false j)), some (.int (nI j)), none], [.int (sumRK f false j)]))) rfl ?_
      exact XV.iret C (xlk_ok okE_countsOfRopes rfl) hret rfl (Nat.le_of_ble_eq_true rfl) (Nat.le_of_ble_eq_true rfl) (⟨by rw [show j = k by omega], rfl, rfl⟩)
    | succ d ih =>
      intro j hj
      refine XV.run C okE_countsOfRopes 2 (q := (6, ([some (.ref (e)), some (.int (sumRK f false j)), some (.int (nI j)), none], [.ref (e), .int (nI j)]))) rfl ?_
      refine XV.getf C (ci := 0) (kf := 2) (v := .int (f 1)) (xlk_ok okE_countsOfRopes rfl) rfl (by decide) wF_E_21 (by omega) (by omega) (hE 0 (by decide)) rfl ?_
      refine XV.icmp_ge C (tgt := 35) (xlk_ok okE_countsOfRopes rfl) rfl (fun hc => absurd hc (by rw [hm]; exact nI_ge (by omega) (by omega))) (fun _ => ?_)
      refine XV.run C okE_countsOfRopes 2 (q := (14, ([some (.ref (e)), some (.int (sumRK f false j)), some (.int (nI j)), none], [.int (nI j), .ref (e)]))) rfl ?_
      refine XV.callV C (As := [.int (nI j)]) (rest := []) (ci := 0) (ct_E_ropeAt hfl hE (by omega) (by omega) (i := j) (rfl) (hm) (by omega) (by omega)) (xlk_ok okE_countsOfRopes rfl) rfl (by omega) (by omega) rfl (hE 0 (by decide)) rfl wM_E_51 wI_E_ropeAt wV_E_ropeAt wN_E wB_E_ropeAt hy_E_ropeAt (fun q => q.elim) ⟨Nat.le_of_ble_eq_true rfl, Nat.le_of_ble_eq_true rfl⟩ ⟨Nat.le_of_ble_eq_true rfl, Nat.le_of_ble_eq_true rfl⟩ (Nat.le_of_ble_eq_true rfl) (fun r n h hp => ?_) (fun _ _ _ q => q.elim)
      obtain ⟨rfl, rfl, rfl⟩ := hp
      refine XV.run C okE_countsOfRopes 2 (q := (19, ([some (.ref (e)), some (.int (sumRK f false j)), some (.int (nI j)), some (.ref (e + 3 + 5 * j))], [.ref (e + 3 + 5 * j)]))) rfl ?_
      refine XV.null_r C (xlk_ok okE_countsOfRopes rfl) ?_
      refine XV.run C okE_countsOfRopes 2 (q := (24, ([some (.ref (e)), some (.int (sumRK f false j)), some (.int (nI j)), some (.ref (e + 3 + 5 * j))], [.ref (e + 3 + 5 * j), .int (sumRK f false j)]))) rfl ?_
      refine XV.callV C (As := []) (rest := [.int (sumRK f false j)]) (ci := 2) (ct_R_allCounts hfl (elev_ropeL hE (by omega) (hl j (by omega))) (by omega) (by omega) ) (xlk_ok okE_countsOfRopes rfl) rfl (by omega) (by omega) rfl ((elev_ropeL hE (by omega) (hl j (by omega))) 0 (by decide)) rfl wM_E_76 wI_R_allCounts wV_R_allCounts wN_R wB_R_allCounts hy_R_allCounts (fun q => q.elim) ⟨Nat.le_of_ble_eq_true rfl, Nat.le_of_ble_eq_true rfl⟩ ⟨Nat.le_of_ble_eq_true rfl, Nat.le_of_ble_eq_true rfl⟩ (Nat.le_of_ble_eq_true rfl) (fun r n h hp => ?_) (fun _ _ _ q => q.elim)
      obtain ⟨rfl, rfl, rfl⟩ := hp
      refine XV.run C okE_countsOfRopes 4 (q := (4, ([some (.ref (e)), some (.int ((sumRK f false j) + (sumN (colR (rowOf f j) false) 0 24))), some (.int ((nI j) + 1)), some (.ref (e + 3 + 5 * j))], []))) rfl ?_
      rw [nI_1]
      have w := ih (j + 1) (by omega)
      rw [sumRK_s] at w
      exact XV.drop w rfl (by simp [xle])
  exact loop k 0 (by omega)
set_option maxHeartbeats 4000000 in
set_option maxRecDepth 100000 in
theorem ct_E_brokenOfRopes {l : Launch} (hfl : l.stackTraces = false) {G : XG} {n : Nat} {h : XH} {e : Nat} {f : Nat → Int32} (hE : IsElev h e f) (e4 : 4 ≤ e) (en : e + 28 ≤ n + 4) {k : Nat} (hm : f 1 = nI k) (hk : k ≤ 5) (hl : ∀ i, i < k → 0 < rowOf f i 0) : XCt l G False (Cond.code yE_brokenOfRopes bE_brokenOfRopes 4 (some .int)) yE_brokenOfRopes 3 65 0 0 [.ref (e)] n h (fun r' n' h' => r' = some (.int (sumRK f true k)) ∧ n' = n ∧ h' = h) (fun _ _ _ => False) := by
  refine XCt.of hfl (by decide +kernel) (Nat.le_of_ble_eq_true rfl) ?_
  intro p' e' s' m' g' b' t' c' C hret hname hnt hmd
  refine XV.run C okE_brokenOfRopes 4 (q := (4, ([some (.ref (e)), some (.int (0)), some (.int (0)), none], []))) rfl ?_
  have loop : ∀ (d j : Nat), j + d = k → XV G 4 p' l e' ({ frames := 3, cells := 0, slots := 0, locals := 65 } : Room) s' m' g' b' t' c' (XEnd G b' (fun r' n' h' => r' = some (.int (sumRK f true k)) ∧ n' = n ∧ h' = h) (fun _ _ _ => False) g' s' 0 0) 4 [some (.ref (e)), some (.int (sumRK f true j)), some (.int (nI j)), none] [] n h 0 0 := by
    intro d
    induction d with
    | zero =>
      intro j hj
      refine XV.run C okE_brokenOfRopes 2 (q := (6, ([some (.ref (e)), some (.int (sumRK f true j)), some (.int (nI j)), none], [.ref (e), .int (nI j)]))) rfl ?_
      refine XV.getf C (ci := 0) (kf := 2) (v := .int (f 1)) (xlk_ok okE_brokenOfRopes rfl) rfl (by decide) wF_E_21 (by omega) (by omega) (hE 0 (by decide)) rfl ?_
      refine XV.icmp_ge C (tgt := 35) (xlk_ok okE_brokenOfRopes rfl) rfl (fun _ => ?_) (fun hc => absurd (by rw [hm]; exact nI_le (by omega) (by omega)) hc)
      refine XV.run C okE_brokenOfRopes 1 (q := (36, ([some (.ref (e)), some (.int (sumRK f true j)), some (.int (nI j)), none], [.int (sumRK f true j)]))) rfl ?_
      exact XV.iret C (xlk_ok okE_brokenOfRopes rfl) hret rfl (Nat.le_of_ble_eq_true rfl) (Nat.le_of_ble_eq_true rfl) (⟨by rw [show j = k by omega], rfl, rfl⟩)
    | succ d ih =>
      intro j hj
      refine XV.run C okE_brokenOfRopes 2 (q := (6, ([some (.ref (e)), some (.int (sumRK f true j)), some (.int (nI j)), none], [.ref (e), .int (nI j)]))) rfl ?_
      refine XV.getf C (ci := 0) (kf := 2) (v := .int (f 1)) (xlk_ok okE_brokenOfRopes rfl) rfl (by decide) wF_E_21 (by omega) (by omega) (hE 0 (by decide)) rfl ?_
      refine XV.icmp_ge C (tgt := 35) (xlk_ok okE_brokenOfRopes rfl) rfl (fun hc => absurd hc (by rw [hm]; exact nI_ge (by omega) (by omega))) (fun _ => ?_)
      refine XV.run C okE_brokenOfRopes 2 (q := (14, ([some (.ref (e)), some (.int (sumRK f true j)), some (.int (nI j)), none], [.int (nI j), .ref (e)]))) rfl ?_
      refine XV.callV C (As := [.int (nI j)]) (rest := []) (ci := 0) (ct_E_ropeAt hfl hE (by omega) (by omega) (i := j) (rfl) (hm) (by omega) (by omega)) (xlk_ok okE_brokenOfRopes rfl) rfl (by omega) (by omega) rfl (hE 0 (by decide)) rfl wM_E_51 wI_E_ropeAt wV_E_ropeAt wN_E wB_E_ropeAt hy_E_ropeAt (fun q => q.elim) ⟨Nat.le_of_ble_eq_true rfl, Nat.le_of_ble_eq_true rfl⟩ ⟨Nat.le_of_ble_eq_true rfl, Nat.le_of_ble_eq_true rfl⟩ (Nat.le_of_ble_eq_true rfl) (fun r n h hp => ?_) (fun _ _ _ q => q.elim)
      obtain ⟨rfl, rfl, rfl⟩ := hp
      refine XV.run C okE_brokenOfRopes 2 (q := (19, ([some (.ref (e)), some (.int (sumRK f true j)), some (.int (nI j)), some (.ref (e + 3 + 5 * j))], [.ref (e + 3 + 5 * j)]))) rfl ?_
      refine XV.null_r C (xlk_ok okE_brokenOfRopes rfl) ?_
      refine XV.run C okE_brokenOfRopes 2 (q := (24, ([some (.ref (e)), some (.int (sumRK f true j)), some (.int (nI j)), some (.ref (e + 3 + 5 * j))], [.ref (e + 3 + 5 * j), .int (sumRK f true j)]))) rfl ?_
      refine XV.callV C (As := []) (rest := [.int (sumRK f true j)]) (ci := 2) (ct_R_allBroken hfl (elev_ropeL hE (by omega) (hl j (by omega))) (by omega) (by omega)  (hl j (by omega))) (xlk_ok okE_brokenOfRopes rfl) rfl (by omega) (by omega) rfl ((elev_ropeL hE (by omega) (hl j (by omega))) 0 (by decide)) rfl wM_E_96 wI_R_allBroken wV_R_allBroken wN_R wB_R_allBroken hy_R_allBroken (fun q => q.elim) ⟨Nat.le_of_ble_eq_true rfl, Nat.le_of_ble_eq_true rfl⟩ ⟨Nat.le_of_ble_eq_true rfl, Nat.le_of_ble_eq_true rfl⟩ (Nat.le_of_ble_eq_true rfl) (fun r n h hp => ?_) (fun _ _ _ q => q.elim)
      obtain ⟨rfl, rfl, rfl⟩ := hp
      refine XV.run C okE_brokenOfRopes 4 (q := (4, ([some (.ref (e)), some (.int ((sumRK f true j) + (sumN (colR (rowOf f j) true) 0 24))), some (.int ((nI j) + 1)), some (.ref (e + 3 + 5 * j))], []))) rfl ?_
      rw [nI_1]
      have w := ih (j + 1) (by omega)
      rw [sumRK_s] at w
      exact XV.drop w rfl (by simp [xle])
  exact loop k 0 (by omega)
