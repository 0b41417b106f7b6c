/-! RopeThreads$Rope: the reads -/
set_option maxHeartbeats 4000000 in
set_option maxRecDepth 100000 in
theorem ct_R_broken {l : Launch} (hfl : l.stackTraces = false) {G : XG} {n : Nat} {h : XH} {a : Nat} {r : Nat → Int32} (hR : IsRope h a r) (h4 : 4 ≤ a) (hn : a + 5 ≤ n + 4) {x : Int32} {i : Nat} (hx : x = nI i) (hi : i < 24) (hq : 0 < r 0) : XCt l G False (Cond.code yR_broken bR_broken 2 (some .int)) yR_broken 0 0 0 0 [.ref (a), .int (x)] n h (fun r' n' h' => r' = some (.int (brk r i)) ∧ n' = n ∧ h' = h) (fun _ _ _ => False) := by
  subst hx
  refine XCt.of hfl (by decide +kernel) (Nat.le_of_ble_eq_true rfl) ?_
  intro p' e' s' m' g' b' t' c' C hret hname hnt hmd
  refine XV.run C okR_broken 1 (q := (1, ([some (.ref (a)), some (.int (nI i))], [.int (nI i)]))) rfl ?_
  refine XV.if_lt C (tgt := 17) (xlk_ok okR_broken rfl) rfl (fun hc => absurd hc (nI_pos (by omega))) (fun _ => ?_)
  refine XV.run C okR_broken 2 (q := (7, ([some (.ref (a)), some (.int (nI i))], [.int (24), .int (nI i)]))) rfl ?_
  refine XV.icmp_ge C (tgt := 17) (xlk_ok okR_broken rfl) rfl (fun hc => absurd hc (nI_ge (b := 24) (by omega) (by omega))) (fun _ => ?_)
  refine XV.run C okR_broken 1 (q := (11, ([some (.ref (a)), some (.int (nI i))], [.ref (a)]))) rfl ?_
  refine XV.getf C (ci := 2) (kf := 4) (v := .int (r 0)) (xlk_ok okR_broken rfl) rfl (by decide) wF_R_24 (by omega) (by omega) (hR 0 (by decide)) rfl ?_
  refine XV.if_gt C (tgt := 19) (xlk_ok okR_broken rfl) rfl (fun _ => ?_) (fun hc => absurd (hq) hc)
  refine XV.run C okR_broken 1 (q := (20, ([some (.ref (a)), some (.int (nI i))], [.ref (a)]))) rfl ?_
  refine XV.getf C (ci := 2) (kf := 0) (v := .ref (a + 1)) (xlk_ok okR_broken rfl) rfl (by decide) wF_R_9 (by omega) (by omega) (hR 0 (by decide)) rfl ?_
  refine XV.run C okR_broken 1 (q := (24, ([some (.ref (a)), some (.int (nI i))], [.int (nI i), .ref (a + 1)]))) rfl ?_
  refine XV.ialdC C (N := 24) (f := (fun s => r (3 + s))) (a := i) (xlk_ok okR_broken rfl) (by omega) (by omega) (hR 1 (by decide)) (rfl) (by omega) (by decide) ?_
  refine XV.run C okR_broken 1 (q := (26, ([some (.ref (a)), some (.int (nI i))], [.ref (a), .int (r (3 + i))]))) rfl ?_
  refine XV.getf C (ci := 2) (kf := 4) (v := .int (r 0)) (xlk_ok okR_broken rfl) rfl (by decide) wF_R_24 (by omega) (by omega) (hR 0 (by decide)) rfl ?_
  refine XV.idiv C (xlk_ok okR_broken rfl) (ne_of_gt hq) ?_
  exact XV.iret C (xlk_ok okR_broken rfl) hret rfl (Nat.le_of_ble_eq_true rfl) (Nat.le_of_ble_eq_true rfl) (⟨rfl, rfl, rfl⟩)
set_option maxHeartbeats 4000000 in
set_option maxRecDepth 100000 in
theorem ct_R_sumOfCounts {l : Launch} (hfl : l.stackTraces = false) {G : XG} {n : Nat} {h : XH} {a : Nat} {r : Nat → Int32} (hR : IsRope h a r) (h4 : 4 ≤ a) (hn : a + 5 ≤ n + 4) {x y : Int32} {i w b : Nat} (hx : x = nI i) (hy : y = nI b) (hb : b < 24) (hw : i + w = b + 1) : XCt l G False (Cond.code yR_sumOfCounts bR_sumOfCounts 5 (some .int)) yR_sumOfCounts 0 0 0 0 [.ref (a), .int (x), .int (y)] n h (fun r' n' h' => r' = some (.int (sumN (colR r false) i w)) ∧ n' = n ∧ h' = h) (fun _ _ _ => False) := by
  subst hx; subst hy
  refine XCt.of hfl (by decide +kernel) (Nat.le_of_ble_eq_true rfl) ?_
  intro p' e' s' m' g' b' t' c' C hret hname hnt hmd
  refine XV.run C okR_sumOfCounts 4 (q := (5, ([some (.ref (a)), some (.int (nI i)), some (.int (nI b)), some (.int (0)), some (.int (nI i))], []))) rfl ?_
  have loop : ∀ (d j : Nat), j + d = w → XV G 5 p' l e' ({ frames := 0, cells := 0, slots := 0, locals := 0 } : Room) s' m' g' b' t' c' (XEnd G b' (fun r' n' h' => r' = some (.int (sumN (colR r false) i w)) ∧ n' = n ∧ h' = h) (fun _ _ _ => False) g' s' 0 0) 5 [some (.ref (a)), some (.int (nI i)), some (.int (nI b)), some (.int (sumN (colR r false) i j)), some (.int (nI (i + j)))] [] n h 0 0 := by
    intro d
    induction d with
    | zero =>
      intro j hj
      refine XV.run C okR_sumOfCounts 1 (q := (7, ([some (.ref (a)), some (.int (nI i)), some (.int (nI b)), some (.int (sumN (colR r false) i j)), some (.int (nI (i + j)))], [.int (nI (i + j))]))) rfl ?_
      refine XV.if_lt C (tgt := 39) (xlk_ok okR_sumOfCounts rfl) rfl (fun hc => absurd hc (nI_pos (by omega))) (fun _ => ?_)
      refine XV.run C okR_sumOfCounts 2 (q := (13, ([some (.ref (a)), some (.int (nI i)), some (.int (nI b)), some (.int (sumN (colR r false) i j)), some (.int (nI (i + j)))], [.int (nI b), .int (nI (i + j))]))) rfl ?_
      refine XV.icmp_gt C (tgt := 39) (xlk_ok okR_sumOfCounts rfl) rfl (fun _ => ?_) (fun hc => absurd (nI_lt (by omega) (by omega)) hc)
      refine XV.run C okR_sumOfCounts 1 (q := (40, ([some (.ref (a)), some (.int (nI i)), some (.int (nI b)), some (.int (sumN (colR r false) i j)), some (.int (nI (i + j)))], [.int (sumN (colR r false) i j)]))) rfl ?_
      exact XV.iret C (xlk_ok okR_sumOfCounts rfl) hret rfl (Nat.le_of_ble_eq_true rfl) (Nat.le_of_ble_eq_true rfl) (⟨by rw [show j = w by omega], rfl, rfl⟩)
    | succ d ih =>
      intro j hj
      refine XV.run C okR_sumOfCounts 1 (q := (7, ([some (.ref (a)), some (.int (nI i)), some (.int (nI b)), some (.int (sumN (colR r false) i j)), some (.int (nI (i + j)))], [.int (nI (i + j))]))) rfl ?_
      refine XV.if_lt C (tgt := 39) (xlk_ok okR_sumOfCounts rfl) rfl (fun hc => absurd hc (nI_pos (by omega))) (fun _ => ?_)
      refine XV.run C okR_sumOfCounts 2 (q := (13, ([some (.ref (a)), some (.int (nI i)), some (.int (nI b)), some (.int (sumN (colR r false) i j)), some (.int (nI (i + j)))], [.int (nI b), .int (nI (i + j))]))) rfl ?_
      refine XV.icmp_gt C (tgt := 39) (xlk_ok okR_sumOfCounts rfl) rfl (fun hc => absurd hc (nI_nlt (by omega) (by omega))) (fun _ => ?_)
      refine XV.run C okR_sumOfCounts 2 (q := (20, ([some (.ref (a)), some (.int (nI i)), some (.int (nI b)), some (.int (sumN (colR r false) i j)), some (.int (nI (i + j)))], [.int (24), .int (nI (i + j))]))) rfl ?_
      refine XV.icmp_ge C (tgt := 39) (xlk_ok okR_sumOfCounts rfl) rfl (fun hc => absurd hc (nI_ge (b := 24) (by omega) (by omega))) (fun _ => ?_)
      refine XV.run C okR_sumOfCounts 2 (q := (25, ([some (.ref (a)), some (.int (nI i)), some (.int (nI b)), some (.int (sumN (colR r false) i j)), some (.int (nI (i + j)))], [.ref (a), .int (sumN (colR r false) i j)]))) rfl ?_
      refine XV.getf C (ci := 2) (kf := 1) (v := .ref (a + 2)) (xlk_ok okR_sumOfCounts rfl) rfl (by decide) wF_R_15 (by omega) (by omega) (hR 0 (by decide)) rfl ?_
      refine XV.run C okR_sumOfCounts 1 (q := (30, ([some (.ref (a)), some (.int (nI i)), some (.int (nI b)), some (.int (sumN (colR r false) i j)), some (.int (nI (i + j)))], [.int (nI (i + j)), .ref (a + 2), .int (sumN (colR r false) i j)]))) rfl ?_
      refine XV.ialdC C (N := 24) (f := (fun s => r (27 + s))) (a := (i + j)) (xlk_ok okR_sumOfCounts rfl) (by omega) (by omega) (hR 2 (by decide)) (rfl) (by omega) (by decide) ?_
      refine XV.run C okR_sumOfCounts 4 (q := (5, ([some (.ref (a)), some (.int (nI i)), some (.int (nI b)), some (.int ((sumN (colR r false) i j) + (r (27 + (i + j))))), some (.int ((nI (i + j)) + 1))], []))) rfl ?_
      rw [nI_1]
      exact ih (j + 1) (by omega)
  exact loop w 0 (by omega)
set_option maxHeartbeats 4000000 in
set_option maxRecDepth 100000 in
theorem ct_R_allCounts {l : Launch} (hfl : l.stackTraces = false) {G : XG} {n : Nat} {h : XH} {a : Nat} {r : Nat → Int32} (hR : IsRope h a r) (h4 : 4 ≤ a) (hn : a + 5 ≤ n + 4) : XCt l G False (Cond.code yR_allCounts bR_allCounts 1 (some .int)) yR_allCounts 1 24 0 0 [.ref (a)] n h (fun r' n' h' => r' = some (.int (sumN (colR r false) 0 24)) ∧ n' = n ∧ h' = h) (fun _ _ _ => False) := by
  refine XCt.of hfl (by decide +kernel) (Nat.le_of_ble_eq_true rfl) ?_
  intro p' e' s' m' g' b' t' c' C hret hname hnt hmd
  refine XV.run C okR_allCounts 3 (q := (4, ([some (.ref (a))], [.int (23), .int (0), .ref (a)]))) rfl ?_
  refine XV.callV C (As := [.int (0), .int (23)]) (rest := []) (ci := 2) (ct_R_sumOfCounts hfl hR (by omega) (by omega) (i := 0) (w := 24) (b := 23) (rfl) (rfl) (by omega) (by omega)) (xlk_ok okR_allCounts rfl) rfl (by omega) (by omega) rfl (hR 0 (by decide)) rfl wM_R_50 wI_R_sumOfCounts wV_R_sumOfCounts wN_R wB_R_sumOfCounts hy_R_sumOfCounts (fun q => q.elim) ⟨Nat.le_of_ble_eq_true rfl, Nat.le_of_ble_eq_true rfl⟩ ⟨Nat.le_of_ble_eq_true rfl, Nat.le_of_ble_eq_true rfl⟩ (Nat.le_of_ble_eq_true rfl) (fun r n h hp => ?_) (fun _ _ _ q => q.elim)
  obtain ⟨rfl, rfl, rfl⟩ := hp
  exact XV.iret C (xlk_ok okR_allCounts rfl) hret rfl (Nat.le_of_ble_eq_true rfl) (Nat.le_of_ble_eq_true rfl) (⟨rfl, rfl, rfl⟩)
set_option maxHeartbeats 4000000 in
set_option maxRecDepth 100000 in
theorem ct_R_sumOfBroken {l : Launch} (hfl : l.stackTraces = false) {G : XG} {n : Nat} {h : XH} {a : Nat} {r : Nat → Int32} (hR : IsRope h a r) (h4 : 4 ≤ a) (hn : a + 5 ≤ n + 4) {x y : Int32} {i w b : Nat} (hx : x = nI i) (hy : y = nI b) (hb : b < 24) (hw : i + w = b + 1) (hq : 0 < r 0) : XCt l G False (Cond.code yR_sumOfBroken bR_sumOfBroken 5 (some .int)) yR_sumOfBroken 1 21 0 0 [.ref (a), .int (x), .int (y)] n h (fun r' n' h' => r' = some (.int (sumN (colR r true) i w)) ∧ n' = n ∧ h' = h) (fun _ _ _ => False) := by
  subst hx; subst hy
  refine XCt.of hfl (by decide +kernel) (Nat.le_of_ble_eq_true rfl) ?_
  intro p' e' s' m' g' b' t' c' C hret hname hnt hmd
  refine XV.run C okR_sumOfBroken 4 (q := (5, ([some (.ref (a)), some (.int (nI i)), some (.int (nI b)), some (.int (0)), some (.int (nI i))], []))) rfl ?_
  have loop : ∀ (d j : Nat), j + d = w → XV G 5 p' l e' ({ frames := 1, cells := 0, slots := 0, locals := 21 } : Room) s' m' g' b' t' c' (XEnd G b' (fun r' n' h' => r' = some (.int (sumN (colR r true) i w)) ∧ n' = n ∧ h' = h) (fun _ _ _ => False) g' s' 0 0) 5 [some (.ref (a)), some (.int (nI i)), some (.int (nI b)), some (.int (sumN (colR r true) i j)), some (.int (nI (i + j)))] [] n h 0 0 := by
    intro d
    induction d with
    | zero =>
      intro j hj
      refine XV.run C okR_sumOfBroken 1 (q := (7, ([some (.ref (a)), some (.int (nI i)), some (.int (nI b)), some (.int (sumN (colR r true) i j)), some (.int (nI (i + j)))], [.int (nI (i + j))]))) rfl ?_
      refine XV.if_lt C (tgt := 38) (xlk_ok okR_sumOfBroken rfl) rfl (fun hc => absurd hc (nI_pos (by omega))) (fun _ => ?_)
      refine XV.run C okR_sumOfBroken 2 (q := (13, ([some (.ref (a)), some (.int (nI i)), some (.int (nI b)), some (.int (sumN (colR r true) i j)), some (.int (nI (i + j)))], [.int (nI b), .int (nI (i + j))]))) rfl ?_
      refine XV.icmp_gt C (tgt := 38) (xlk_ok okR_sumOfBroken rfl) rfl (fun _ => ?_) (fun hc => absurd (nI_lt (by omega) (by omega)) hc)
      refine XV.run C okR_sumOfBroken 1 (q := (39, ([some (.ref (a)), some (.int (nI i)), some (.int (nI b)), some (.int (sumN (colR r true) i j)), some (.int (nI (i + j)))], [.int (sumN (colR r true) i j)]))) rfl ?_
      exact XV.iret C (xlk_ok okR_sumOfBroken rfl) hret rfl (Nat.le_of_ble_eq_true rfl) (Nat.le_of_ble_eq_true rfl) (⟨by rw [show j = w by omega], rfl, rfl⟩)
    | succ d ih =>
      intro j hj
      refine XV.run C okR_sumOfBroken 1 (q := (7, ([some (.ref (a)), some (.int (nI i)), some (.int (nI b)), some (.int (sumN (colR r true) i j)), some (.int (nI (i + j)))], [.int (nI (i + j))]))) rfl ?_
      refine XV.if_lt C (tgt := 38) (xlk_ok okR_sumOfBroken rfl) rfl (fun hc => absurd hc (nI_pos (by omega))) (fun _ => ?_)
      refine XV.run C okR_sumOfBroken 2 (q := (13, ([some (.ref (a)), some (.int (nI i)), some (.int (nI b)), some (.int (sumN (colR r true) i j)), some (.int (nI (i + j)))], [.int (nI b), .int (nI (i + j))]))) rfl ?_
      refine XV.icmp_gt C (tgt := 38) (xlk_ok okR_sumOfBroken rfl) rfl (fun hc => absurd hc (nI_nlt (by omega) (by omega))) (fun _ => ?_)
      refine XV.run C okR_sumOfBroken 2 (q := (20, ([some (.ref (a)), some (.int (nI i)), some (.int (nI b)), some (.int (sumN (colR r true) i j)), some (.int (nI (i + j)))], [.int (24), .int (nI (i + j))]))) rfl ?_
      refine XV.icmp_ge C (tgt := 38) (xlk_ok okR_sumOfBroken rfl) rfl (fun hc => absurd hc (nI_ge (b := 24) (by omega) (by omega))) (fun _ => ?_)
      refine XV.run C okR_sumOfBroken 3 (q := (27, ([some (.ref (a)), some (.int (nI i)), some (.int (nI b)), some (.int (sumN (colR r true) i j)), some (.int (nI (i + j)))], [.int (nI (i + j)), .ref (a), .int (sumN (colR r true) i j)]))) rfl ?_
      refine XV.callV C (As := [.int (nI (i + j))]) (rest := [.int (sumN (colR r true) i j)]) (ci := 2) (ct_R_broken hfl hR (by omega) (by omega) (i := i + j) (rfl) (by omega) (hq)) (xlk_ok okR_sumOfBroken rfl) rfl (by omega) (by omega) rfl (hR 0 (by decide)) rfl wM_R_46 wI_R_broken wV_R_broken wN_R wB_R_broken hy_R_broken (fun q => q.elim) ⟨Nat.le_of_ble_eq_true rfl, Nat.le_of_ble_eq_true rfl⟩ ⟨Nat.le_of_ble_eq_true rfl, Nat.le_of_ble_eq_true rfl⟩ (Nat.le_of_ble_eq_true rfl) (fun r n h hp => ?_) (fun _ _ _ q => q.elim)
      obtain ⟨rfl, rfl, rfl⟩ := hp
      refine XV.run C okR_sumOfBroken 4 (q := (5, ([some (.ref (a)), some (.int (nI i)), some (.int (nI b)), some (.int ((sumN (colR r true) i j) + (brk r (i + j)))), some (.int ((nI (i + j)) + 1))], []))) rfl ?_
      rw [nI_1]
      exact ih (j + 1) (by omega)
  exact loop w 0 (by omega)
set_option maxHeartbeats 4000000 in
set_option maxRecDepth 100000 in
theorem ct_R_allBroken {l : Launch} (hfl : l.stackTraces = false) {G : XG} {n : Nat} {h : XH} {a : Nat} {r : Nat → Int32} (hR : IsRope h a r) (h4 : 4 ≤ a) (hn : a + 5 ≤ n + 4) (hq : 0 < r 0) : XCt l G False (Cond.code yR_allBroken bR_allBroken 1 (some .int)) yR_allBroken 2 45 0 0 [.ref (a)] n h (fun r' n' h' => r' = some (.int (sumN (colR r true) 0 24)) ∧ n' = n ∧ h' = h) (fun _ _ _ => False) := by
  refine XCt.of hfl (by decide +kernel) (Nat.le_of_ble_eq_true rfl) ?_
  intro p' e' s' m' g' b' t' c' C hret hname hnt hmd
  refine XV.run C okR_allBroken 3 (q := (4, ([some (.ref (a))], [.int (23), .int (0), .ref (a)]))) rfl ?_
  refine XV.callV C (As := [.int (0), .int (23)]) (rest := []) (ci := 2) (ct_R_sumOfBroken hfl hR (by omega) (by omega) (i := 0) (w := 24) (b := 23) (rfl) (rfl) (by omega) (by omega) (hq)) (xlk_ok okR_allBroken rfl) rfl (by omega) (by omega) rfl (hR 0 (by decide)) rfl wM_R_54 wI_R_sumOfBroken wV_R_sumOfBroken wN_R wB_R_sumOfBroken hy_R_sumOfBroken (fun q => q.elim) ⟨Nat.le_of_ble_eq_true rfl, Nat.le_of_ble_eq_true rfl⟩ ⟨Nat.le_of_ble_eq_true rfl, Nat.le_of_ble_eq_true rfl⟩ (Nat.le_of_ble_eq_true rfl) (fun r n h hp => ?_) (fun _ _ _ q => q.elim)
  obtain ⟨rfl, rfl, rfl⟩ := hp
  exact XV.iret C (xlk_ok okR_allBroken rfl) hret rfl (Nat.le_of_ble_eq_true rfl) (Nat.le_of_ble_eq_true rfl) (⟨rfl, rfl, rfl⟩)
set_option maxHeartbeats 4000000 in
set_option maxRecDepth 100000 in
theorem ct_R_greatestCounts {l : Launch} (hfl : l.stackTraces = false) {G : XG} {n : Nat} {h : XH} {a : Nat} {r : Nat → Int32} (hR : IsRope h a r) (h4 : 4 ≤ a) (hn : a + 5 ≤ n + 4) {x : Int32} {z : Nat} (hx : x = nI z) (hz : 1 ≤ z) (hz2 : z ≤ 24) : XCt l G False (Cond.code yR_greatestCounts bR_greatestCounts 4 (some .int)) yR_greatestCounts 1 24 0 0 [.ref (a), .int (x)] n h (fun r' n' h' => r' = some (.int (gmx (winS r false z) (25 - z))) ∧ n' = n ∧ h' = h) (fun _ _ _ => False) := by
  subst hx
  refine XCt.of hfl (by decide +kernel) (Nat.le_of_ble_eq_true rfl) ?_
  intro p' e' s' m' g' b' t' c' C hret hname hnt hmd
  refine XV.run C okR_greatestCounts 4 (q := (4, ([some (.ref (a)), some (.int (nI z)), some (.int (0)), some (.int (0))], []))) rfl ?_
  have loop : ∀ (d k : Nat), k + d = 25 - z → XV G 4 p' l e' ({ frames := 1, cells := 0, slots := 0, locals := 24 } : Room) s' m' g' b' t' c' (XEnd G b' (fun r' n' h' => r' = some (.int (gmx (winS r false z) (25 - z))) ∧ n' = n ∧ h' = h) (fun _ _ _ => False) g' s' 0 0) 4 [some (.ref (a)), some (.int (nI z)), some (.int (gmx (winS r false z) k)), some (.int (nI k))] [] n h 0 0 := by
    intro d
    induction d with
    | zero =>
      intro k hk
      refine XV.run C okR_greatestCounts 4 (q := (9, ([some (.ref (a)), some (.int (nI z)), some (.int (gmx (winS r false z) k)), some (.int (nI k))], [.int (24), .int ((nI k) + (nI z))]))) rfl ?_
      refine XV.icmp_gt C (tgt := 33) (xlk_ok okR_greatestCounts rfl) rfl (fun _ => ?_) (fun hc => absurd (by rw [nI_add]; exact nI_lt (a := 24) (by omega) (by omega)) hc)
      refine XV.run C okR_greatestCounts 1 (q := (34, ([some (.ref (a)), some (.int (nI z)), some (.int (gmx (winS r false z) k)), some (.int (nI k))], [.int (gmx (winS r false z) k)]))) rfl ?_
      exact XV.iret C (xlk_ok okR_greatestCounts rfl) hret rfl (Nat.le_of_ble_eq_true rfl) (Nat.le_of_ble_eq_true rfl) (⟨by rw [show k = 25 - z by omega], rfl, rfl⟩)
    | succ d ih =>
      intro k hk
      refine XV.run C okR_greatestCounts 4 (q := (9, ([some (.ref (a)), some (.int (nI z)), some (.int (gmx (winS r false z) k)), some (.int (nI k))], [.int (24), .int ((nI k) + (nI z))]))) rfl ?_
      refine XV.icmp_gt C (tgt := 33) (xlk_ok okR_greatestCounts rfl) rfl (fun hc => absurd hc (by rw [nI_add]; exact nI_nlt (b := k + z) (a := 24) (by omega) (by omega))) (fun _ => ?_)
      refine XV.run C okR_greatestCounts 8 (q := (20, ([some (.ref (a)), some (.int (nI z)), some (.int (gmx (winS r false z) k)), some (.int (nI k))], [.int (((nI k) + (nI z)) - 1), .int (nI k), .ref (a), .int (gmx (winS r false z) k)]))) rfl ?_
      refine XV.callV C (As := [.int (nI k), .int (((nI k) + (nI z)) - 1)]) (rest := [.int (gmx (winS r false z) k)]) (ci := 2) (ct_R_sumOfCounts hfl hR (by omega) (by omega) (i := k) (w := z) (b := k + z - 1) (rfl) (by rw [nI_add]; exact nI_m1 (by omega)) (by omega) (by omega)) (xlk_ok okR_greatestCounts rfl) rfl (by omega) (by omega) rfl (hR 0 (by decide)) rfl wM_R_50 wI_R_sumOfCounts wV_R_sumOfCounts wN_R wB_R_sumOfCounts hy_R_sumOfCounts (fun q => q.elim) ⟨Nat.le_of_ble_eq_true rfl, Nat.le_of_ble_eq_true rfl⟩ ⟨Nat.le_of_ble_eq_true rfl, Nat.le_of_ble_eq_true rfl⟩ (Nat.le_of_ble_eq_true rfl) (fun r n h hp => ?_) (fun _ _ _ q => q.elim)
      obtain ⟨rfl, rfl, rfl⟩ := hp
      refine XV.mmax C (xlk_ok okR_greatestCounts rfl) wM_R_57 (Nat.le_of_ble_eq_true rfl) (Nat.le_of_ble_eq_true rfl) (Nat.le_of_ble_eq_true rfl) (Nat.le_of_ble_eq_true rfl) ?_
      refine XV.run C okR_greatestCounts 3 (q := (4, ([some (.ref (a)), some (.int (nI z)), some (.int (if gmx (winS r false z) k < winS r false z k then winS r false z k else gmx (winS r false z) k)), some (.int ((nI k) + 1))], []))) rfl ?_
      rw [nI_1]
      exact ih (k + 1) (by omega)
  exact loop (25 - z) 0 (by omega)
set_option maxHeartbeats 4000000 in
set_option maxRecDepth 100000 in
theorem ct_R_greatestBroken {l : Launch} (hfl : l.stackTraces = false) {G : XG} {n : Nat} {h : XH} {a : Nat} {r : Nat → Int32} (hR : IsRope h a r) (h4 : 4 ≤ a) (hn : a + 5 ≤ n + 4) {x : Int32} {z : Nat} (hx : x = nI z) (hz : 1 ≤ z) (hz2 : z ≤ 24) (hq : 0 < r 0) : XCt l G False (Cond.code yR_greatestBroken bR_greatestBroken 4 (some .int)) yR_greatestBroken 2 45 0 0 [.ref (a), .int (x)] n h (fun r' n' h' => r' = some (.int (gmx (winS r true z) (25 - z))) ∧ n' = n ∧ h' = h) (fun _ _ _ => False) := by
  subst hx
  refine XCt.of hfl (by decide +kernel) (Nat.le_of_ble_eq_true rfl) ?_
  intro p' e' s' m' g' b' t' c' C hret hname hnt hmd
  refine XV.run C okR_greatestBroken 4 (q := (4, ([some (.ref (a)), some (.int (nI z)), some (.int (0)), some (.int (0))], []))) rfl ?_
  have loop : ∀ (d k : Nat), k + d = 25 - z → XV G 4 p' l e' ({ frames := 2, cells := 0, slots := 0, locals := 45 } : Room) s' m' g' b' t' c' (XEnd G b' (fun r' n' h' => r' = some (.int (gmx (winS r true z) (25 - z))) ∧ n' = n ∧ h' = h) (fun _ _ _ => False) g' s' 0 0) 4 [some (.ref (a)), some (.int (nI z)), some (.int (gmx (winS r true z) k)), some (.int (nI k))] [] n h 0 0 := by
    intro d
    induction d with
    | zero =>
      intro k hk
      refine XV.run C okR_greatestBroken 4 (q := (9, ([some (.ref (a)), some (.int (nI z)), some (.int (gmx (winS r true z) k)), some (.int (nI k))], [.int (24), .int ((nI k) + (nI z))]))) rfl ?_
      refine XV.icmp_gt C (tgt := 33) (xlk_ok okR_greatestBroken rfl) rfl (fun _ => ?_) (fun hc => absurd (by rw [nI_add]; exact nI_lt (a := 24) (by omega) (by omega)) hc)
      refine XV.run C okR_greatestBroken 1 (q := (34, ([some (.ref (a)), some (.int (nI z)), some (.int (gmx (winS r true z) k)), some (.int (nI k))], [.int (gmx (winS r true z) k)]))) rfl ?_
      exact XV.iret C (xlk_ok okR_greatestBroken rfl) hret rfl (Nat.le_of_ble_eq_true rfl) (Nat.le_of_ble_eq_true rfl) (⟨by rw [show k = 25 - z by omega], rfl, rfl⟩)
    | succ d ih =>
      intro k hk
      refine XV.run C okR_greatestBroken 4 (q := (9, ([some (.ref (a)), some (.int (nI z)), some (.int (gmx (winS r true z) k)), some (.int (nI k))], [.int (24), .int ((nI k) + (nI z))]))) rfl ?_
      refine XV.icmp_gt C (tgt := 33) (xlk_ok okR_greatestBroken rfl) rfl (fun hc => absurd hc (by rw [nI_add]; exact nI_nlt (b := k + z) (a := 24) (by omega) (by omega))) (fun _ => ?_)
      refine XV.run C okR_greatestBroken 8 (q := (20, ([some (.ref (a)), some (.int (nI z)), some (.int (gmx (winS r true z) k)), some (.int (nI k))], [.int (((nI k) + (nI z)) - 1), .int (nI k), .ref (a), .int (gmx (winS r true z) k)]))) rfl ?_
      refine XV.callV C (As := [.int (nI k), .int (((nI k) + (nI z)) - 1)]) (rest := [.int (gmx (winS r true z) k)]) (ci := 2) (ct_R_sumOfBroken hfl hR (by omega) (by omega) (i := k) (w := z) (b := k + z - 1) (rfl) (by rw [nI_add]; exact nI_m1 (by omega)) (by omega) (by omega) (hq)) (xlk_ok okR_greatestBroken rfl) rfl (by omega) (by omega) rfl (hR 0 (by decide)) rfl wM_R_54 wI_R_sumOfBroken wV_R_sumOfBroken wN_R wB_R_sumOfBroken hy_R_sumOfBroken (fun q => q.elim) ⟨Nat.le_of_ble_eq_true rfl, Nat.le_of_ble_eq_true rfl⟩ ⟨Nat.le_of_ble_eq_true rfl, Nat.le_of_ble_eq_true rfl⟩ (Nat.le_of_ble_eq_true rfl) (fun r n h hp => ?_) (fun _ _ _ q => q.elim)
      obtain ⟨rfl, rfl, rfl⟩ := hp
      refine XV.mmax C (xlk_ok okR_greatestBroken rfl) wM_R_57 (Nat.le_of_ble_eq_true rfl) (Nat.le_of_ble_eq_true rfl) (Nat.le_of_ble_eq_true rfl) (Nat.le_of_ble_eq_true rfl) ?_
      refine XV.run C okR_greatestBroken 3 (q := (4, ([some (.ref (a)), some (.int (nI z)), some (.int (if gmx (winS r true z) k < winS r true z k then winS r true z k else gmx (winS r true z) k)), some (.int ((nI k) + 1))], []))) rfl ?_
      rw [nI_1]
      exact ih (k + 1) (by omega)
  exact loop (25 - z) 0 (by omega)
set_option maxHeartbeats 4000000 in
set_option maxRecDepth 100000 in
theorem ct_R_windowOfGreatestCounts {l : Launch} (hfl : l.stackTraces = false) {G : XG} {n : Nat} {h : XH} {a : Nat} {r : Nat → Int32} (hR : IsRope h a r) (h4 : 4 ≤ a) (hn : a + 5 ≤ n + 4) {x : Int32} {z : Nat} (hx : x = nI z) (hz : 1 ≤ z) (hz2 : z ≤ 24) : XCt l G False (Cond.code yR_windowOfGreatestCounts bR_windowOfGreatestCounts 4 (some .int)) yR_windowOfGreatestCounts 2 47 0 0 [.ref (a), .int (x)] n h (fun r' n' h' => r' = some (.int (nI (gwinK r z))) ∧ n' = n ∧ h' = h) (fun _ _ _ => False) := by
  subst hx
  refine XCt.of hfl (by decide +kernel) (Nat.le_of_ble_eq_true rfl) ?_
  intro p' e' s' m' g' b' t' c' C hret hname hnt hmd
  refine XV.run C okR_windowOfGreatestCounts 2 (q := (2, ([some (.ref (a)), some (.int (nI z)), none, none], [.int (nI z), .ref (a)]))) rfl ?_
  refine XV.callV C (As := [.int (nI z)]) (rest := []) (ci := 2) (ct_R_greatestCounts hfl hR (by omega) (by omega) (z := z) (rfl) (by omega) (by omega)) (xlk_ok okR_windowOfGreatestCounts rfl) rfl (by omega) (by omega) rfl (hR 0 (by decide)) rfl wM_R_62 wI_R_greatestCounts wV_R_greatestCounts wN_R wB_R_greatestCounts hy_R_greatestCounts (fun q => q.elim) ⟨Nat.le_of_ble_eq_true rfl, Nat.le_of_ble_eq_true rfl⟩ ⟨Nat.le_of_ble_eq_true rfl, Nat.le_of_ble_eq_true rfl⟩ (Nat.le_of_ble_eq_true rfl) (fun r n h hp => ?_) (fun _ _ _ q => q.elim)
  obtain ⟨rfl, rfl, rfl⟩ := hp
  refine XV.run C okR_windowOfGreatestCounts 3 (q := (8, ([some (.ref (a)), some (.int (nI z)), some (.int (gmx (winS r false z) (25 - z))), some (.int (0))], []))) rfl ?_
  have loop : ∀ (d k : Nat), k + d = 25 - z ∧ fstN (winS r false z) (gmx (winS r false z) (25 - z)) d k = gwinK r z → XV G 4 p' l e' ({ frames := 2, cells := 0, slots := 0, locals := 47 } : Room) s' m' g' b' t' c' (XEnd G b' (fun r' n' h' => r' = some (.int (nI (gwinK r z))) ∧ n' = n ∧ h' = h) (fun _ _ _ => False) g' s' 0 0) 8 [some (.ref (a)), some (.int (nI z)), some (.int (gmx (winS r false z) (25 - z))), some (.int (nI k))] [] n h 0 0 := by
    intro d
    induction d with
    | zero =>
      intro k hk
      refine XV.run C okR_windowOfGreatestCounts 4 (q := (13, ([some (.ref (a)), some (.int (nI z)), some (.int (gmx (winS r false z) (25 - z))), some (.int (nI k))], [.int (24), .int ((nI k) + (nI z))]))) rfl ?_
      refine XV.icmp_gt C (tgt := 38) (xlk_ok okR_windowOfGreatestCounts rfl) rfl (fun _ => ?_) (fun hc => absurd (by rw [nI_add]; exact nI_lt (a := 24) (by omega) (by omega)) hc)
      refine XV.run C okR_windowOfGreatestCounts 1 (q := (39, ([some (.ref (a)), some (.int (nI z)), some (.int (gmx (winS r false z) (25 - z))), some (.int (nI k))], [.int (0)]))) rfl ?_
      exact XV.iret C (xlk_ok okR_windowOfGreatestCounts rfl) hret rfl (Nat.le_of_ble_eq_true rfl) (Nat.le_of_ble_eq_true rfl) (⟨by rw [← hk.2]; show some (Value.int 0) = some (Value.int (nI 0)); rw [nI_0], rfl, rfl⟩)
    | succ d ih =>
      intro k hk
      refine XV.run C okR_windowOfGreatestCounts 4 (q := (13, ([some (.ref (a)), some (.int (nI z)), some (.int (gmx (winS r false z) (25 - z))), some (.int (nI k))], [.int (24), .int ((nI k) + (nI z))]))) rfl ?_
      refine XV.icmp_gt C (tgt := 38) (xlk_ok okR_windowOfGreatestCounts rfl) rfl (fun hc => absurd hc (by rw [nI_add]; exact nI_nlt (b := k + z) (a := 24) (by omega) (by omega))) (fun _ => ?_)
      refine XV.run C okR_windowOfGreatestCounts 7 (q := (23, ([some (.ref (a)), some (.int (nI z)), some (.int (gmx (winS r false z) (25 - z))), some (.int (nI k))], [.int (((nI k) + (nI z)) - 1), .int (nI k), .ref (a)]))) rfl ?_
      refine XV.callV C (As := [.int (nI k), .int (((nI k) + (nI z)) - 1)]) (rest := []) (ci := 2) (ct_R_sumOfCounts hfl hR (by omega) (by omega) (i := k) (w := z) (b := k + z - 1) (rfl) (by rw [nI_add]; exact nI_m1 (by omega)) (by omega) (by omega)) (xlk_ok okR_windowOfGreatestCounts rfl) rfl (by omega) (by omega) rfl (hR 0 (by decide)) rfl wM_R_50 wI_R_sumOfCounts wV_R_sumOfCounts wN_R wB_R_sumOfCounts hy_R_sumOfCounts (fun q => q.elim) ⟨Nat.le_of_ble_eq_true rfl, Nat.le_of_ble_eq_true rfl⟩ ⟨Nat.le_of_ble_eq_true rfl, Nat.le_of_ble_eq_true rfl⟩ (Nat.le_of_ble_eq_true rfl) (fun r n h hp => ?_) (fun _ _ _ q => q.elim)
      obtain ⟨rfl, rfl, rfl⟩ := hp
      refine XV.run C okR_windowOfGreatestCounts 1 (q := (27, ([some (.ref (a)), some (.int (nI z)), some (.int (gmx (winS r false z) (25 - z))), some (.int (nI k))], [.int (gmx (winS r false z) (25 - z)), .int (winS r false z k)]))) rfl ?_
      refine XV.icmp_ne C (tgt := 32) (xlk_ok okR_windowOfGreatestCounts rfl) rfl (fun c => ?_) (fun c => ?_)
      ·
        have e : fstN (winS r false z) (gmx (winS r false z) (25 - z)) (d + 1) k = fstN (winS r false z) (gmx (winS r false z) (25 - z)) d (k + 1) := if_neg c
        refine XV.run C okR_windowOfGreatestCounts 2 (q := (8, ([some (.ref (a)), some (.int (nI z)), some (.int (gmx (winS r false z) (25 - z))), some (.int ((nI k) + 1))], []))) rfl ?_
        rw [nI_1]
        exact ih (k + 1) ⟨by omega, e ▸ hk.2⟩
      ·
        have e : fstN (winS r false z) (gmx (winS r false z) (25 - z)) (d + 1) k = k := if_pos c
        refine XV.run C okR_windowOfGreatestCounts 1 (q := (31, ([some (.ref (a)), some (.int (nI z)), some (.int (gmx (winS r false z) (25 - z))), some (.int (nI k))], [.int (nI k)]))) rfl ?_
        exact XV.iret C (xlk_ok okR_windowOfGreatestCounts rfl) hret rfl (Nat.le_of_ble_eq_true rfl) (Nat.le_of_ble_eq_true rfl) (⟨by rw [← hk.2, e], rfl, rfl⟩)
  exact loop (25 - z) 0 ⟨by omega, rfl⟩
set_option maxHeartbeats 4000000 in
set_option maxRecDepth 100000 in
theorem ct_R_greatestGrowth {l : Launch} (hfl : l.stackTraces = false) {G : XG} {n : Nat} {h : XH} {a : Nat} {r : Nat → Int32} (hR : IsRope h a r) (h4 : 4 ≤ a) (hn : a + 5 ≤ n + 4) : XCt l G False (Cond.code yR_greatestGrowth bR_greatestGrowth 3 (some .int)) yR_greatestGrowth 1 21 0 0 [.ref (a)] n h (fun r' n' h' => r' = some (.int (gmx (grw r) 24)) ∧ n' = n ∧ h' = h) (fun _ _ _ => False) := by
  refine XCt.of hfl (by decide +kernel) (Nat.le_of_ble_eq_true rfl) ?_
  intro p' e' s' m' g' b' t' c' C hret hname hnt hmd
  refine XV.run C okR_greatestGrowth 4 (q := (4, ([some (.ref (a)), some (.int (0)), some (.int (0))], []))) rfl ?_
  have loop : ∀ (d k : Nat), k + d = 24 → XV G 3 p' l e' ({ frames := 1, cells := 0, slots := 0, locals := 21 } : Room) s' m' g' b' t' c' (XEnd G b' (fun r' n' h' => r' = some (.int (gmx (grw r) 24)) ∧ n' = n ∧ h' = h) (fun _ _ _ => False) g' s' 0 0) 4 [some (.ref (a)), some (.int (gmx (grw r) k)), some (.int (nI k))] [] n h 0 0 := by
    intro d
    induction d with
    | zero =>
      intro k hk
      refine XV.run C okR_greatestGrowth 2 (q := (7, ([some (.ref (a)), some (.int (gmx (grw r) k)), some (.int (nI k))], [.int (24), .int (nI k)]))) rfl ?_
      refine XV.icmp_ge C (tgt := 34) (xlk_ok okR_greatestGrowth rfl) rfl (fun _ => ?_) (fun hc => absurd (nI_le (a := 24) (by omega) (by omega)) hc)
      refine XV.run C okR_greatestGrowth 1 (q := (35, ([some (.ref (a)), some (.int (gmx (grw r) k)), some (.int (nI k))], [.int (gmx (grw r) k)]))) rfl ?_
      exact XV.iret C (xlk_ok okR_greatestGrowth rfl) hret rfl (Nat.le_of_ble_eq_true rfl) (Nat.le_of_ble_eq_true rfl) (⟨by rw [show k = 24 by omega], rfl, rfl⟩)
    | succ d ih =>
      intro k hk
      refine XV.run C okR_greatestGrowth 2 (q := (7, ([some (.ref (a)), some (.int (gmx (grw r) k)), some (.int (nI k))], [.int (24), .int (nI k)]))) rfl ?_
      refine XV.icmp_ge C (tgt := 34) (xlk_ok okR_greatestGrowth rfl) rfl (fun hc => absurd hc (nI_ge (b := 24) (by omega) (by omega))) (fun _ => ?_)
      refine XV.run C okR_greatestGrowth 2 (q := (12, ([some (.ref (a)), some (.int (gmx (grw r) k)), some (.int (nI k))], [.ref (a), .int (gmx (grw r) k)]))) rfl ?_
      refine XV.getf C (ci := 2) (kf := 1) (v := .ref (a + 2)) (xlk_ok okR_greatestGrowth rfl) rfl (by decide) wF_R_15 (by omega) (by omega) (hR 0 (by decide)) rfl ?_
      refine XV.run C okR_greatestGrowth 1 (q := (16, ([some (.ref (a)), some (.int (gmx (grw r) k)), some (.int (nI k))], [.int (nI k), .ref (a + 2), .int (gmx (grw r) k)]))) rfl ?_
      refine XV.ialdC C (N := 24) (f := (fun s => r (27 + s))) (a := k) (xlk_ok okR_greatestGrowth rfl) (by omega) (by omega) (hR 2 (by decide)) (rfl) (by omega) (by decide) ?_
      refine XV.run C okR_greatestGrowth 1 (q := (18, ([some (.ref (a)), some (.int (gmx (grw r) k)), some (.int (nI k))], [.ref (a), .int (r (27 + k)), .int (gmx (grw r) k)]))) rfl ?_
      refine XV.getf C (ci := 2) (kf := 2) (v := .ref (a + 3)) (xlk_ok okR_greatestGrowth rfl) rfl (by decide) wF_R_18 (by omega) (by omega) (hR 0 (by decide)) rfl ?_
      refine XV.run C okR_greatestGrowth 1 (q := (22, ([some (.ref (a)), some (.int (gmx (grw r) k)), some (.int (nI k))], [.int (nI k), .ref (a + 3), .int (r (27 + k)), .int (gmx (grw r) k)]))) rfl ?_
      refine XV.ialdC C (N := 24) (f := (fun s => r (51 + s))) (a := k) (xlk_ok okR_greatestGrowth rfl) (by omega) (by omega) (hR 3 (by decide)) (rfl) (by omega) (by decide) ?_
      refine XV.run C okR_greatestGrowth 1 (q := (24, ([some (.ref (a)), some (.int (gmx (grw r) k)), some (.int (nI k))], [.int ((r (27 + k)) - (r (51 + k))), .int (gmx (grw r) k)]))) rfl ?_
      refine XV.mmax C (xlk_ok okR_greatestGrowth rfl) wM_R_57 (Nat.le_of_ble_eq_true rfl) (Nat.le_of_ble_eq_true rfl) (Nat.le_of_ble_eq_true rfl) (Nat.le_of_ble_eq_true rfl) ?_
      refine XV.run C okR_greatestGrowth 3 (q := (4, ([some (.ref (a)), some (.int (if gmx (grw r) k < (r (27 + k)) - (r (51 + k)) then (r (27 + k)) - (r (51 + k)) else gmx (grw r) k)), some (.int ((nI k) + 1))], []))) rfl ?_
      rw [nI_1]
      exact ih (k + 1) (by omega)
  exact loop 24 0 (by omega)
set_option maxHeartbeats 4000000 in
set_option maxRecDepth 100000 in
theorem ct_R_oldestLook {l : Launch} (hfl : l.stackTraces = false) {G : XG} {n : Nat} {h : XH} {a : Nat} {r : Nat → Int32} (hR : IsRope h a r) (h4 : 4 ≤ a) (hn : a + 5 ≤ n + 4) : XCt l G False (Cond.code yR_oldestLook bR_oldestLook 3 (some .int)) yR_oldestLook 1 21 0 0 [.ref (a)] n h (fun r' n' h' => r' = some (.int (omn (fun s => r (75 + s)) 24)) ∧ n' = n ∧ h' = h) (fun _ _ _ => False) := by
  refine XCt.of hfl (by decide +kernel) (Nat.le_of_ble_eq_true rfl) ?_
  intro p' e' s' m' g' b' t' c' C hret hname hnt hmd
  refine XV.run C okR_oldestLook 4 (q := (6, ([some (.ref (a)), some (.int (2000)), some (.int (0))], []))) rfl ?_
  have loop : ∀ (d k : Nat), k + d = 24 → XV G 3 p' l e' ({ frames := 1, cells := 0, slots := 0, locals := 21 } : Room) s' m' g' b' t' c' (XEnd G b' (fun r' n' h' => r' = some (.int (omn (fun s => r (75 + s)) 24)) ∧ n' = n ∧ h' = h) (fun _ _ _ => False) g' s' 0 0) 6 [some (.ref (a)), some (.int (omn (fun s => r (75 + s)) k)), some (.int (nI k))] [] n h 0 0 := by
    intro d
    induction d with
    | zero =>
      intro k hk
      refine XV.run C okR_oldestLook 2 (q := (9, ([some (.ref (a)), some (.int (omn (fun s => r (75 + s)) k)), some (.int (nI k))], [.int (24), .int (nI k)]))) rfl ?_
      refine XV.icmp_ge C (tgt := 29) (xlk_ok okR_oldestLook rfl) rfl (fun _ => ?_) (fun hc => absurd (nI_le (a := 24) (by omega) (by omega)) hc)
      refine XV.run C okR_oldestLook 1 (q := (30, ([some (.ref (a)), some (.int (omn (fun s => r (75 + s)) k)), some (.int (nI k))], [.int (omn (fun s => r (75 + s)) k)]))) rfl ?_
      exact XV.iret C (xlk_ok okR_oldestLook rfl) hret rfl (Nat.le_of_ble_eq_true rfl) (Nat.le_of_ble_eq_true rfl) (⟨by rw [show k = 24 by omega], rfl, rfl⟩)
    | succ d ih =>
      intro k hk
      refine XV.run C okR_oldestLook 2 (q := (9, ([some (.ref (a)), some (.int (omn (fun s => r (75 + s)) k)), some (.int (nI k))], [.int (24), .int (nI k)]))) rfl ?_
      refine XV.icmp_ge C (tgt := 29) (xlk_ok okR_oldestLook rfl) rfl (fun hc => absurd hc (nI_ge (b := 24) (by omega) (by omega))) (fun _ => ?_)
      refine XV.run C okR_oldestLook 2 (q := (14, ([some (.ref (a)), some (.int (omn (fun s => r (75 + s)) k)), some (.int (nI k))], [.ref (a), .int (omn (fun s => r (75 + s)) k)]))) rfl ?_
      refine XV.getf C (ci := 2) (kf := 3) (v := .ref (a + 4)) (xlk_ok okR_oldestLook rfl) rfl (by decide) wF_R_21 (by omega) (by omega) (hR 0 (by decide)) rfl ?_
      refine XV.run C okR_oldestLook 1 (q := (18, ([some (.ref (a)), some (.int (omn (fun s => r (75 + s)) k)), some (.int (nI k))], [.int (nI k), .ref (a + 4), .int (omn (fun s => r (75 + s)) k)]))) rfl ?_
      refine XV.ialdC C (N := 24) (f := (fun s => r (75 + s))) (a := k) (xlk_ok okR_oldestLook rfl) (by omega) (by omega) (hR 4 (by decide)) (rfl) (by omega) (by decide) ?_
      refine XV.mmin C (xlk_ok okR_oldestLook rfl) wM_R_68 (Nat.le_of_ble_eq_true rfl) (Nat.le_of_ble_eq_true rfl) (Nat.le_of_ble_eq_true rfl) (Nat.le_of_ble_eq_true rfl) ?_
      refine XV.run C okR_oldestLook 3 (q := (6, ([some (.ref (a)), some (.int (if r (75 + k) < omn (fun s => r (75 + s)) k then r (75 + k) else omn (fun s => r (75 + s)) k)), some (.int ((nI k) + 1))], []))) rfl ?_
      rw [nI_1]
      exact ih (k + 1) (by omega)
  exact loop 24 0 (by omega)
set_option maxHeartbeats 4000000 in
set_option maxRecDepth 100000 in
theorem ct_R_sectionFigure {l : Launch} (hfl : l.stackTraces = false) {G : XG} {n : Nat} {h : XH} {a : Nat} {r : Nat → Int32} (hR : IsRope h a r) (h4 : 4 ≤ a) (hn : a + 5 ≤ n + 4) {x y : Int32} {i w : Nat} (hx : x = nI i) (hy : y = nI w) (hi : i < 24) (hw : w ≤ 4) (hq : 0 < r 0) : XCt l G False (Cond.code yR_sectionFigure bR_sectionFigure 3 (some .int)) yR_sectionFigure 1 21 0 0 [.ref (a), .int (x), .int (y)] n h (fun r' n' h' => r' = some (.int (secF r i w)) ∧ n' = n ∧ h' = h) (fun _ _ _ => False) := by
  subst hx; subst hy
  refine XCt.of hfl (by decide +kernel) (Nat.le_of_ble_eq_true rfl) ?_
  intro p' e' s' m' g' b' t' c' C hret hname hnt hmd
  refine XV.run C okR_sectionFigure 1 (q := (1, ([some (.ref (a)), some (.int (nI i)), some (.int (nI w))], [.int (nI i)]))) rfl ?_
  refine XV.if_lt C (tgt := 10) (xlk_ok okR_sectionFigure rfl) rfl (fun hc => absurd hc (nI_pos (by omega))) (fun _ => ?_)
  refine XV.run C okR_sectionFigure 2 (q := (7, ([some (.ref (a)), some (.int (nI i)), some (.int (nI w))], [.int (24), .int (nI i)]))) rfl ?_
  refine XV.icmp_lt C (tgt := 12) (xlk_ok okR_sectionFigure rfl) rfl (fun _ => ?_) (fun hc => absurd (nI_lt (b := 24) (by omega) (by omega)) hc)
  refine XV.run C okR_sectionFigure 1 (q := (13, ([some (.ref (a)), some (.int (nI i)), some (.int (nI w))], [.int (nI w)]))) rfl ?_
  rcases (show w = 0 ∨ w = 1 ∨ w = 2 ∨ w = 3 ∨ w = 4 by omega) with rfl | rfl | rfl | rfl | rfl
  ·
    refine XV.tabIn C (off := 31) (tgt := 44) (xlk_ok okR_sectionFigure rfl) (by decide) (by decide) rfl rfl ?_
    refine XV.run C okR_sectionFigure 1 (q := (45, ([some (.ref (a)), some (.int (nI i)), some (.int (nI 0))], [.ref (a)]))) rfl ?_
    refine XV.getf C (ci := 2) (kf := 0) (v := .ref (a + 1)) (xlk_ok okR_sectionFigure rfl) rfl (by decide) wF_R_9 (by omega) (by omega) (hR 0 (by decide)) rfl ?_
    refine XV.run C okR_sectionFigure 1 (q := (49, ([some (.ref (a)), some (.int (nI i)), some (.int (nI 0))], [.int (nI i), .ref (a + 1)]))) rfl ?_
    refine XV.ialdC C (N := 24) (f := (fun s => r (3 + s))) (a := i) (xlk_ok okR_sectionFigure rfl) (by omega) (by omega) (hR 1 (by decide)) (rfl) (by omega) (by decide) ?_
    exact XV.iret C (xlk_ok okR_sectionFigure rfl) hret rfl (Nat.le_of_ble_eq_true rfl) (Nat.le_of_ble_eq_true rfl) (⟨rfl, rfl, rfl⟩)
  ·
    refine XV.tabIn C (off := 38) (tgt := 51) (xlk_ok okR_sectionFigure rfl) (by decide) (by decide) rfl rfl ?_
    refine XV.run C okR_sectionFigure 2 (q := (53, ([some (.ref (a)), some (.int (nI i)), some (.int (nI 1))], [.int (nI i), .ref (a)]))) rfl ?_
    refine XV.callV C (As := [.int (nI i)]) (rest := []) (ci := 2) (ct_R_broken hfl hR (by omega) (by omega) (i := i) (rfl) (by omega) (hq)) (xlk_ok okR_sectionFigure rfl) rfl (by omega) (by omega) rfl (hR 0 (by decide)) rfl wM_R_46 wI_R_broken wV_R_broken wN_R wB_R_broken hy_R_broken (fun q => q.elim) ⟨Nat.le_of_ble_eq_true rfl, Nat.le_of_ble_eq_true rfl⟩ ⟨Nat.le_of_ble_eq_true rfl, Nat.le_of_ble_eq_true rfl⟩ (Nat.le_of_ble_eq_true rfl) (fun r n h hp => ?_) (fun _ _ _ q => q.elim)
    obtain ⟨rfl, rfl, rfl⟩ := hp
    exact XV.iret C (xlk_ok okR_sectionFigure rfl) hret rfl (Nat.le_of_ble_eq_true rfl) (Nat.le_of_ble_eq_true rfl) (⟨rfl, rfl, rfl⟩)
  ·
    refine XV.tabIn C (off := 44) (tgt := 57) (xlk_ok okR_sectionFigure rfl) (by decide) (by decide) rfl rfl ?_
    refine XV.run C okR_sectionFigure 1 (q := (58, ([some (.ref (a)), some (.int (nI i)), some (.int (nI 2))], [.ref (a)]))) rfl ?_
    refine XV.getf C (ci := 2) (kf := 1) (v := .ref (a + 2)) (xlk_ok okR_sectionFigure rfl) rfl (by decide) wF_R_15 (by omega) (by omega) (hR 0 (by decide)) rfl ?_
    refine XV.run C okR_sectionFigure 1 (q := (62, ([some (.ref (a)), some (.int (nI i)), some (.int (nI 2))], [.int (nI i), .ref (a + 2)]))) rfl ?_
    refine XV.ialdC C (N := 24) (f := (fun s => r (27 + s))) (a := i) (xlk_ok okR_sectionFigure rfl) (by omega) (by omega) (hR 2 (by decide)) (rfl) (by omega) (by decide) ?_
    exact XV.iret C (xlk_ok okR_sectionFigure rfl) hret rfl (Nat.le_of_ble_eq_true rfl) (Nat.le_of_ble_eq_true rfl) (⟨rfl, rfl, rfl⟩)
  ·
    refine XV.tabIn C (off := 51) (tgt := 64) (xlk_ok okR_sectionFigure rfl) (by decide) (by decide) rfl rfl ?_
    refine XV.run C okR_sectionFigure 1 (q := (65, ([some (.ref (a)), some (.int (nI i)), some (.int (nI 3))], [.ref (a)]))) rfl ?_
    refine XV.getf C (ci := 2) (kf := 2) (v := .ref (a + 3)) (xlk_ok okR_sectionFigure rfl) rfl (by decide) wF_R_18 (by omega) (by omega) (hR 0 (by decide)) rfl ?_
    refine XV.run C okR_sectionFigure 1 (q := (69, ([some (.ref (a)), some (.int (nI i)), some (.int (nI 3))], [.int (nI i), .ref (a + 3)]))) rfl ?_
    refine XV.ialdC C (N := 24) (f := (fun s => r (51 + s))) (a := i) (xlk_ok okR_sectionFigure rfl) (by omega) (by omega) (hR 3 (by decide)) (rfl) (by omega) (by decide) ?_
    exact XV.iret C (xlk_ok okR_sectionFigure rfl) hret rfl (Nat.le_of_ble_eq_true rfl) (Nat.le_of_ble_eq_true rfl) (⟨rfl, rfl, rfl⟩)
  ·
    refine XV.tabOut C (tgt := 71) (xlk_ok okR_sectionFigure rfl) (by decide) rfl ?_
    refine XV.run C okR_sectionFigure 1 (q := (72, ([some (.ref (a)), some (.int (nI i)), some (.int (nI 4))], [.ref (a)]))) rfl ?_
    refine XV.getf C (ci := 2) (kf := 3) (v := .ref (a + 4)) (xlk_ok okR_sectionFigure rfl) rfl (by decide) wF_R_21 (by omega) (by omega) (hR 0 (by decide)) rfl ?_
    refine XV.run C okR_sectionFigure 1 (q := (76, ([some (.ref (a)), some (.int (nI i)), some (.int (nI 4))], [.int (nI i), .ref (a + 4)]))) rfl ?_
    refine XV.ialdC C (N := 24) (f := (fun s => r (75 + s))) (a := i) (xlk_ok okR_sectionFigure rfl) (by omega) (by omega) (hR 4 (by decide)) (rfl) (by omega) (by decide) ?_
    exact XV.iret C (xlk_ok okR_sectionFigure rfl) hret rfl (Nat.le_of_ble_eq_true rfl) (Nat.le_of_ble_eq_true rfl) (⟨rfl, rfl, rfl⟩)
