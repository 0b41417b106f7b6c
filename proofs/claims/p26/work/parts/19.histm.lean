/-! RopeThreads$History, RopeThreads$TripText -/
set_option maxHeartbeats 4000000 in
set_option maxRecDepth 100000 in
theorem ct_H_keep_full {l : Launch} (hfl : l.stackTraces = false) {G : XG} {n : Nat} {h : XH} {a o : Nat} {P : Nat → Nat → Int32} (hH : IsHist h a o 6 P) (a4 : 4 ≤ a) (an : a + 170 ≤ n + 4) (ho : o < 6) {e : Nat} {f : Nat → Int32} (hE : IsElev h e f) (e4 : 4 ≤ e) (en : e + 28 ≤ n + 4) (hd : e + 28 ≤ a ∨ a + 170 ≤ e) : XCt l G False (Cond.code yH_keep bH_keep 3 none) yH_keep 3 71 0 0 [.ref (a), .ref (e)] n h (fun r' n' h' => r' = none ∧ n' = n ∧ h' = setHist h a ((o + 1) % 6) (5 + 1) (upP P ((((o + 1) % 6) + 5) % 6) f)) (fun _ _ _ => False) := by
  refine XCt.of hfl (by decide +kernel) (Nat.le_of_ble_eq_true rfl) ?_
  intro p' e' s' m' g' b' t' c' C hret hname hnt hmd
  refine XV.cast (setHist_self hH).symm ?_
  refine XV.run C okH_keep 1 (q := (1, ([some (.ref (a)), some (.ref (e)), none], [.ref (a)]))) rfl ?_
  refine XV.getf C (ci := 1) (kf := 2) (v := .int (nI 6)) (xlk_ok okH_keep rfl) rfl (by decide) wF_H_21 (by omega) (by omega) ((blk_is h a 170 (histC a o 6 P)) 0 (by decide)) rfl ?_
  refine XV.run C okH_keep 1 (q := (6, ([some (.ref (a)), some (.ref (e)), none], [.int (6), .int (nI 6)]))) rfl ?_
  refine XV.icmp_ne C (tgt := 34) (xlk_ok okH_keep rfl) rfl (fun hc => absurd (rfl) hc) (fun _ => ?_)
  refine XV.run C okH_keep 2 (q := (11, ([some (.ref (a)), some (.ref (e)), none], [.ref (a), .ref (a)]))) rfl ?_
  refine XV.getf C (ci := 1) (kf := 1) (v := .int (nI o)) (xlk_ok okH_keep rfl) rfl (by decide) wF_H_17 (by omega) (by omega) ((blk_is h a 170 (histC a o 6 P)) 0 (by decide)) rfl ?_
  refine XV.run C okH_keep 3 (q := (18, ([some (.ref (a)), some (.ref (e)), none], [.int (6), .int ((nI o) + 1), .ref (a)]))) rfl ?_
  refine XV.callS C (As := [.int ((nI o) + 1), .int (6)]) (rest := [.ref (a)]) (ct_JM_floorMod hfl (i := (o + 1)) (d := 6) (nI_1 o) (rfl) (by omega) (by omega) (by omega)) (xlk_ok okH_keep rfl) rfl wM_H_25 wS_JM_floorMod wN_JM wB_JM_floorMod hy_JM_floorMod (fun q => q.elim) ⟨Nat.le_of_ble_eq_true rfl, Nat.le_of_ble_eq_true rfl⟩ ⟨Nat.le_of_ble_eq_true rfl, Nat.le_of_ble_eq_true rfl⟩ (Nat.le_of_ble_eq_true rfl) (fun r n h hp => ?_) (fun _ _ _ q => q.elim)
  obtain ⟨rfl, rfl, rfl⟩ := hp
  refine XV.putf C (ci := 1) (kf := 1) (ty := .int) (xlk_ok okH_keep rfl) rfl (by decide) wF_H_17 (by omega) (by omega) ((blk_is h a 170 (histC a o 6 P)) 0 (by decide)) rfl rfl rfl rfl (Nat.le_of_ble_eq_true rfl) ?_
  refine XV.cast (setHist_hd h a o 6 ((o + 1) % 6) 6 P) ?_
  refine XV.run C okH_keep 2 (q := (26, ([some (.ref (a)), some (.ref (e)), none], [.ref (a), .ref (a)]))) rfl ?_
  refine XV.getf C (ci := 1) (kf := 2) (v := .int (nI 6)) (xlk_ok okH_keep rfl) rfl (by decide) wF_H_21 (by omega) (by omega) ((blk_is h a 170 (histC a ((o + 1) % 6) 6 P)) 0 (by decide)) rfl ?_
  refine XV.run C okH_keep 2 (q := (31, ([some (.ref (a)), some (.ref (e)), none], [.int ((nI 6) - 1), .ref (a)]))) rfl ?_
  rw [show ((nI 6) - 1 : Int32) = nI 5 from rfl]
  refine XV.putf C (ci := 1) (kf := 2) (ty := .int) (xlk_ok okH_keep rfl) rfl (by decide) wF_H_21 (by omega) (by omega) ((blk_is h a 170 (histC a ((o + 1) % 6) 6 P)) 0 (by decide)) rfl rfl rfl rfl (Nat.le_of_ble_eq_true rfl) ?_
  refine XV.cast (setHist_hd h a ((o + 1) % 6) 6 ((o + 1) % 6) 5 P) ?_
  refine XV.run C okH_keep 1 (q := (35, ([some (.ref (a)), some (.ref (e)), none], [.ref (a)]))) rfl ?_
  refine XV.getf C (ci := 1) (kf := 0) (v := .ref (a + 1)) (xlk_ok okH_keep rfl) rfl (by decide) wF_H_11 (by omega) (by omega) ((blk_is h a 170 (histC a ((o + 1) % 6) 5 P)) 0 (by decide)) rfl ?_
  refine XV.run C okH_keep 1 (q := (39, ([some (.ref (a)), some (.ref (e)), none], [.ref (a), .ref (a + 1)]))) rfl ?_
  refine XV.getf C (ci := 1) (kf := 1) (v := .int (nI ((o + 1) % 6))) (xlk_ok okH_keep rfl) rfl (by decide) wF_H_17 (by omega) (by omega) ((blk_is h a 170 (histC a ((o + 1) % 6) 5 P)) 0 (by decide)) rfl ?_
  refine XV.run C okH_keep 1 (q := (43, ([some (.ref (a)), some (.ref (e)), none], [.ref (a), .int (nI ((o + 1) % 6)), .ref (a + 1)]))) rfl ?_
  refine XV.getf C (ci := 1) (kf := 2) (v := .int (nI 5)) (xlk_ok okH_keep rfl) rfl (by decide) wF_H_21 (by omega) (by omega) ((blk_is h a 170 (histC a ((o + 1) % 6) 5 P)) 0 (by decide)) rfl ?_
  refine XV.run C okH_keep 2 (q := (49, ([some (.ref (a)), some (.ref (e)), none], [.int (6), .int ((nI ((o + 1) % 6)) + (nI 5)), .ref (a + 1)]))) rfl ?_
  refine XV.callS C (As := [.int ((nI ((o + 1) % 6)) + (nI 5)), .int (6)]) (rest := [.ref (a + 1)]) (ct_JM_floorMod hfl (i := ((o + 1) % 6) + 5) (d := 6) (nI_add _ _) (rfl) (by omega) (by omega) (by omega)) (xlk_ok okH_keep rfl) rfl wM_H_25 wS_JM_floorMod wN_JM wB_JM_floorMod hy_JM_floorMod (fun q => q.elim) ⟨Nat.le_of_ble_eq_true rfl, Nat.le_of_ble_eq_true rfl⟩ ⟨Nat.le_of_ble_eq_true rfl, Nat.le_of_ble_eq_true rfl⟩ (Nat.le_of_ble_eq_true rfl) (fun r n h hp => ?_) (fun _ _ _ q => q.elim)
  obtain ⟨rfl, rfl, rfl⟩ := hp
  refine XV.aaldS C (N := 6) (t := 2) (a := ((((o + 1) % 6) + 5) % 6)) (o := a + 2 + 28 * ((((o + 1) % 6) + 5) % 6)) (f := (fun i => if i < 6 then some (a + 2 + 28 * i) else none)) (xlk_ok okH_keep rfl) (by omega) (by omega) ((blk_is h a 170 (histC a ((o + 1) % 6) 5 P)) 1 (by decide)) rfl (rfl) (by omega) (by decide) (if_pos (by omega)) ?_
  refine XV.run C okH_keep 2 (q := (55, ([some (.ref (a)), some (.ref (e)), some (.ref (a + 2 + 28 * ((((o + 1) % 6) + 5) % 6)))], [.ref (a + 2 + 28 * ((((o + 1) % 6) + 5) % 6))]))) rfl ?_
  refine XV.null_r C (xlk_ok okH_keep rfl) ?_
  refine XV.run C okH_keep 2 (q := (60, ([some (.ref (a)), some (.ref (e)), some (.ref (a + 2 + 28 * ((((o + 1) % 6) + 5) % 6)))], [.ref (e), .ref (a + 2 + 28 * ((((o + 1) % 6) + 5) % 6))]))) rfl ?_
  refine XV.callV C (As := [.ref (e)]) (rest := []) (ci := 0) (ct_E_copyFrom hfl (hist_elev (blk_is h a 170 (histC a ((o + 1) % 6) 5 P)) (q := ((((o + 1) % 6) + 5) % 6)) (by omega)) (by omega) (by omega) (hE.out hd) (by omega) (by omega) (by omega)) (xlk_ok okH_keep rfl) rfl (by omega) (by omega) rfl ((hist_elev (blk_is h a 170 (histC a ((o + 1) % 6) 5 P)) (q := ((((o + 1) % 6) + 5) % 6)) (by omega)) 0 (by decide)) rfl wM_H_31 wI_E_copyFrom wV_E_copyFrom wN_E wB_E_copyFrom hy_E_copyFrom (fun q => q.elim) ⟨Nat.le_of_ble_eq_true rfl, Nat.le_of_ble_eq_true rfl⟩ ⟨Nat.le_of_ble_eq_true rfl, Nat.le_of_ble_eq_true rfl⟩ (Nat.le_of_ble_eq_true rfl) (fun r n h hp => ?_) (fun _ _ _ q => q.elim)
  obtain ⟨rfl, rfl, rfl⟩ := hp
  refine XV.cast (setHist_elev h a ((o + 1) % 6) 5 P ((((o + 1) % 6) + 5) % 6) f (by omega)) ?_
  refine XV.run C okH_keep 2 (q := (65, ([some (.ref (a)), some (.ref (e)), some (.ref (a + 2 + 28 * ((((o + 1) % 6) + 5) % 6)))], [.ref (a), .ref (a)]))) rfl ?_
  refine XV.getf C (ci := 1) (kf := 2) (v := .int (nI 5)) (xlk_ok okH_keep rfl) rfl (by decide) wF_H_21 (by omega) (by omega) ((blk_is h a 170 (histC a ((o + 1) % 6) 5 (upP P ((((o + 1) % 6) + 5) % 6) f))) 0 (by decide)) rfl ?_
  refine XV.run C okH_keep 2 (q := (70, ([some (.ref (a)), some (.ref (e)), some (.ref (a + 2 + 28 * ((((o + 1) % 6) + 5) % 6)))], [.int ((nI 5) + 1), .ref (a)]))) rfl ?_
  rw [show ((nI 5) + 1 : Int32) = nI (5 + 1) from nI_1 _]
  refine XV.putf C (ci := 1) (kf := 2) (ty := .int) (xlk_ok okH_keep rfl) rfl (by decide) wF_H_21 (by omega) (by omega) ((blk_is h a 170 (histC a ((o + 1) % 6) 5 (upP P ((((o + 1) % 6) + 5) % 6) f))) 0 (by decide)) rfl rfl rfl rfl (Nat.le_of_ble_eq_true rfl) ?_
  refine XV.cast (setHist_hd h a ((o + 1) % 6) 5 ((o + 1) % 6) (5 + 1) (upP P ((((o + 1) % 6) + 5) % 6) f)) ?_
  exact XV.vret C (xlk_ok okH_keep rfl) hret (Nat.le_of_ble_eq_true rfl) (Nat.le_of_ble_eq_true rfl) (⟨rfl, rfl, rfl⟩)
set_option maxHeartbeats 4000000 in
set_option maxRecDepth 100000 in
theorem ct_H_keep_free {l : Launch} (hfl : l.stackTraces = false) {G : XG} {n : Nat} {h : XH} {a o kp : Nat} {P : Nat → Nat → Int32} (hH : IsHist h a o kp P) (a4 : 4 ≤ a) (an : a + 170 ≤ n + 4) (ho : o < 6) {e : Nat} {f : Nat → Int32} (hE : IsElev h e f) (e4 : 4 ≤ e) (en : e + 28 ≤ n + 4) (hd : e + 28 ≤ a ∨ a + 170 ≤ e) (hk : kp < 6) : XCt l G False (Cond.code yH_keep bH_keep 3 none) yH_keep 3 71 0 0 [.ref (a), .ref (e)] n h (fun r' n' h' => r' = none ∧ n' = n ∧ h' = setHist h a o (kp + 1) (upP P ((o + kp) % 6) f)) (fun _ _ _ => False) := by
  refine XCt.of hfl (by decide +kernel) (Nat.le_of_ble_eq_true rfl) ?_
  intro p' e' s' m' g' b' t' c' C hret hname hnt hmd
  refine XV.cast (setHist_self hH).symm ?_
  refine XV.run C okH_keep 1 (q := (1, ([some (.ref (a)), some (.ref (e)), none], [.ref (a)]))) rfl ?_
  refine XV.getf C (ci := 1) (kf := 2) (v := .int (nI kp)) (xlk_ok okH_keep rfl) rfl (by decide) wF_H_21 (by omega) (by omega) ((blk_is h a 170 (histC a o kp P)) 0 (by decide)) rfl ?_
  refine XV.run C okH_keep 1 (q := (6, ([some (.ref (a)), some (.ref (e)), none], [.int (6), .int (nI kp)]))) rfl ?_
  refine XV.icmp_ne C (tgt := 34) (xlk_ok okH_keep rfl) rfl (fun _ => ?_) (fun hc => absurd hc (fun z => absurd ((nI_eq (a := kp) (b := 6) (by omega) (by omega)).mp z) (by omega)))
  refine XV.run C okH_keep 1 (q := (35, ([some (.ref (a)), some (.ref (e)), none], [.ref (a)]))) rfl ?_
  refine XV.getf C (ci := 1) (kf := 0) (v := .ref (a + 1)) (xlk_ok okH_keep rfl) rfl (by decide) wF_H_11 (by omega) (by omega) ((blk_is h a 170 (histC a o kp P)) 0 (by decide)) rfl ?_
  refine XV.run C okH_keep 1 (q := (39, ([some (.ref (a)), some (.ref (e)), none], [.ref (a), .ref (a + 1)]))) rfl ?_
  refine XV.getf C (ci := 1) (kf := 1) (v := .int (nI o)) (xlk_ok okH_keep rfl) rfl (by decide) wF_H_17 (by omega) (by omega) ((blk_is h a 170 (histC a o kp P)) 0 (by decide)) rfl ?_
  refine XV.run C okH_keep 1 (q := (43, ([some (.ref (a)), some (.ref (e)), none], [.ref (a), .int (nI o), .ref (a + 1)]))) rfl ?_
  refine XV.getf C (ci := 1) (kf := 2) (v := .int (nI kp)) (xlk_ok okH_keep rfl) rfl (by decide) wF_H_21 (by omega) (by omega) ((blk_is h a 170 (histC a o kp P)) 0 (by decide)) rfl ?_
  refine XV.run C okH_keep 2 (q := (49, ([some (.ref (a)), some (.ref (e)), none], [.int (6), .int ((nI o) + (nI kp)), .ref (a + 1)]))) rfl ?_
  refine XV.callS C (As := [.int ((nI o) + (nI kp)), .int (6)]) (rest := [.ref (a + 1)]) (ct_JM_floorMod hfl (i := o + kp) (d := 6) (nI_add _ _) (rfl) (by omega) (by omega) (by omega)) (xlk_ok okH_keep rfl) rfl wM_H_25 wS_JM_floorMod wN_JM wB_JM_floorMod hy_JM_floorMod (fun q => q.elim) ⟨Nat.le_of_ble_eq_true rfl, Nat.le_of_ble_eq_true rfl⟩ ⟨Nat.le_of_ble_eq_true rfl, Nat.le_of_ble_eq_true rfl⟩ (Nat.le_of_ble_eq_true rfl) (fun r n h hp => ?_) (fun _ _ _ q => q.elim)
  obtain ⟨rfl, rfl, rfl⟩ := hp
  refine XV.aaldS C (N := 6) (t := 2) (a := ((o + kp) % 6)) (o := a + 2 + 28 * ((o + kp) % 6)) (f := (fun i => if i < 6 then some (a + 2 + 28 * i) else none)) (xlk_ok okH_keep rfl) (by omega) (by omega) ((blk_is h a 170 (histC a o kp P)) 1 (by decide)) rfl (rfl) (by omega) (by decide) (if_pos (by omega)) ?_
  refine XV.run C okH_keep 2 (q := (55, ([some (.ref (a)), some (.ref (e)), some (.ref (a + 2 + 28 * ((o + kp) % 6)))], [.ref (a + 2 + 28 * ((o + kp) % 6))]))) rfl ?_
  refine XV.null_r C (xlk_ok okH_keep rfl) ?_
  refine XV.run C okH_keep 2 (q := (60, ([some (.ref (a)), some (.ref (e)), some (.ref (a + 2 + 28 * ((o + kp) % 6)))], [.ref (e), .ref (a + 2 + 28 * ((o + kp) % 6))]))) rfl ?_
  refine XV.callV C (As := [.ref (e)]) (rest := []) (ci := 0) (ct_E_copyFrom hfl (hist_elev (blk_is h a 170 (histC a o kp P)) (q := ((o + kp) % 6)) (by omega)) (by omega) (by omega) (hE.out hd) (by omega) (by omega) (by omega)) (xlk_ok okH_keep rfl) rfl (by omega) (by omega) rfl ((hist_elev (blk_is h a 170 (histC a o kp P)) (q := ((o + kp) % 6)) (by omega)) 0 (by decide)) rfl wM_H_31 wI_E_copyFrom wV_E_copyFrom wN_E wB_E_copyFrom hy_E_copyFrom (fun q => q.elim) ⟨Nat.le_of_ble_eq_true rfl, Nat.le_of_ble_eq_true rfl⟩ ⟨Nat.le_of_ble_eq_true rfl, Nat.le_of_ble_eq_true rfl⟩ (Nat.le_of_ble_eq_true rfl) (fun r n h hp => ?_) (fun _ _ _ q => q.elim)
  obtain ⟨rfl, rfl, rfl⟩ := hp
  refine XV.cast (setHist_elev h a o kp P ((o + kp) % 6) f (by omega)) ?_
  refine XV.run C okH_keep 2 (q := (65, ([some (.ref (a)), some (.ref (e)), some (.ref (a + 2 + 28 * ((o + kp) % 6)))], [.ref (a), .ref (a)]))) rfl ?_
  refine XV.getf C (ci := 1) (kf := 2) (v := .int (nI kp)) (xlk_ok okH_keep rfl) rfl (by decide) wF_H_21 (by omega) (by omega) ((blk_is h a 170 (histC a o kp (upP P ((o + kp) % 6) f))) 0 (by decide)) rfl ?_
  refine XV.run C okH_keep 2 (q := (70, ([some (.ref (a)), some (.ref (e)), some (.ref (a + 2 + 28 * ((o + kp) % 6)))], [.int ((nI kp) + 1), .ref (a)]))) rfl ?_
  rw [show ((nI kp) + 1 : Int32) = nI (kp + 1) from nI_1 _]
  refine XV.putf C (ci := 1) (kf := 2) (ty := .int) (xlk_ok okH_keep rfl) rfl (by decide) wF_H_21 (by omega) (by omega) ((blk_is h a 170 (histC a o kp (upP P ((o + kp) % 6) f))) 0 (by decide)) rfl rfl rfl rfl (Nat.le_of_ble_eq_true rfl) ?_
  refine XV.cast (setHist_hd h a o kp o (kp + 1) (upP P ((o + kp) % 6) f)) ?_
  exact XV.vret C (xlk_ok okH_keep rfl) hret (Nat.le_of_ble_eq_true rfl) (Nat.le_of_ble_eq_true rfl) (⟨rfl, rfl, rfl⟩)
set_option maxHeartbeats 4000000 in
set_option maxRecDepth 100000 in
theorem ct_H_giveBack {l : Launch} (hfl : l.stackTraces = false) {G : XG} {n : Nat} {h : XH} {a o kp : Nat} {P : Nat → Nat → Int32} (hH : IsHist h a o (kp + 1) P) (a4 : 4 ≤ a) (an : a + 170 ≤ n + 4) (ho : o < 6) {e : Nat} {f : Nat → Int32} (hE : IsElev h e f) (e4 : 4 ≤ e) (en : e + 28 ≤ n + 4) (hd : e + 28 ≤ a ∨ a + 170 ≤ e) (hk : kp < 6) : XCt l G False (Cond.code yH_giveBack bH_giveBack 3 none) yH_giveBack 3 71 0 0 [.ref (a), .ref (e)] n h (fun r' n' h' => r' = none ∧ n' = n ∧ h' = setElev (setHist h a o kp P) e (P ((o + kp) % 6))) (fun _ _ _ => False) := by
  refine XCt.of hfl (by decide +kernel) (Nat.le_of_ble_eq_true rfl) ?_
  intro p' e' s' m' g' b' t' c' C hret hname hnt hmd
  refine XV.cast (setHist_self hH).symm ?_
  refine XV.run C okH_giveBack 2 (q := (2, ([some (.ref (a)), some (.ref (e)), none], [.ref (a), .ref (a)]))) rfl ?_
  refine XV.getf C (ci := 1) (kf := 2) (v := .int (nI (kp + 1))) (xlk_ok okH_giveBack rfl) rfl (by decide) wF_H_21 (by omega) (by omega) ((blk_is h a 170 (histC a o (kp + 1) P)) 0 (by decide)) rfl ?_
  refine XV.run C okH_giveBack 2 (q := (7, ([some (.ref (a)), some (.ref (e)), none], [.int ((nI (kp + 1)) - 1), .ref (a)]))) rfl ?_
  rw [show ((nI (kp + 1)) - 1 : Int32) = nI kp from nI_pred kp]
  refine XV.putf C (ci := 1) (kf := 2) (ty := .int) (xlk_ok okH_giveBack rfl) rfl (by decide) wF_H_21 (by omega) (by omega) ((blk_is h a 170 (histC a o (kp + 1) P)) 0 (by decide)) rfl rfl rfl rfl (Nat.le_of_ble_eq_true rfl) ?_
  refine XV.cast (setHist_hd h a o (kp + 1) o kp P) ?_
  refine XV.run C okH_giveBack 1 (q := (11, ([some (.ref (a)), some (.ref (e)), none], [.ref (a)]))) rfl ?_
  refine XV.getf C (ci := 1) (kf := 0) (v := .ref (a + 1)) (xlk_ok okH_giveBack rfl) rfl (by decide) wF_H_11 (by omega) (by omega) ((blk_is h a 170 (histC a o kp P)) 0 (by decide)) rfl ?_
  refine XV.run C okH_giveBack 1 (q := (15, ([some (.ref (a)), some (.ref (e)), none], [.ref (a), .ref (a + 1)]))) rfl ?_
  refine XV.getf C (ci := 1) (kf := 1) (v := .int (nI o)) (xlk_ok okH_giveBack rfl) rfl (by decide) wF_H_17 (by omega) (by omega) ((blk_is h a 170 (histC a o kp P)) 0 (by decide)) rfl ?_
  refine XV.run C okH_giveBack 1 (q := (19, ([some (.ref (a)), some (.ref (e)), none], [.ref (a), .int (nI o), .ref (a + 1)]))) rfl ?_
  refine XV.getf C (ci := 1) (kf := 2) (v := .int (nI kp)) (xlk_ok okH_giveBack rfl) rfl (by decide) wF_H_21 (by omega) (by omega) ((blk_is h a 170 (histC a o kp P)) 0 (by decide)) rfl ?_
  refine XV.run C okH_giveBack 2 (q := (25, ([some (.ref (a)), some (.ref (e)), none], [.int (6), .int ((nI o) + (nI kp)), .ref (a + 1)]))) rfl ?_
  refine XV.callS C (As := [.int ((nI o) + (nI kp)), .int (6)]) (rest := [.ref (a + 1)]) (ct_JM_floorMod hfl (i := o + kp) (d := 6) (nI_add _ _) (rfl) (by omega) (by omega) (by omega)) (xlk_ok okH_giveBack rfl) rfl wM_H_25 wS_JM_floorMod wN_JM wB_JM_floorMod hy_JM_floorMod (fun q => q.elim) ⟨Nat.le_of_ble_eq_true rfl, Nat.le_of_ble_eq_true rfl⟩ ⟨Nat.le_of_ble_eq_true rfl, Nat.le_of_ble_eq_true rfl⟩ (Nat.le_of_ble_eq_true rfl) (fun r n h hp => ?_) (fun _ _ _ q => q.elim)
  obtain ⟨rfl, rfl, rfl⟩ := hp
  refine XV.aaldS C (N := 6) (t := 2) (a := ((o + kp) % 6)) (o := a + 2 + 28 * ((o + kp) % 6)) (f := (fun i => if i < 6 then some (a + 2 + 28 * i) else none)) (xlk_ok okH_giveBack rfl) (by omega) (by omega) ((blk_is h a 170 (histC a o kp P)) 1 (by decide)) rfl (rfl) (by omega) (by decide) (if_pos (by omega)) ?_
  refine XV.run C okH_giveBack 2 (q := (31, ([some (.ref (a)), some (.ref (e)), some (.ref (a + 2 + 28 * ((o + kp) % 6)))], [.ref (a + 2 + 28 * ((o + kp) % 6))]))) rfl ?_
  refine XV.null_r C (xlk_ok okH_giveBack rfl) ?_
  refine XV.run C okH_giveBack 2 (q := (36, ([some (.ref (a)), some (.ref (e)), some (.ref (a + 2 + 28 * ((o + kp) % 6)))], [.ref (a + 2 + 28 * ((o + kp) % 6)), .ref (e)]))) rfl ?_
  refine XV.callV C (As := [.ref (a + 2 + 28 * ((o + kp) % 6))]) (rest := []) (ci := 0) (ct_E_copyFrom hfl (hE.out hd) (by omega) (by omega) (hist_elev (blk_is h a 170 (histC a o kp P)) (q := ((o + kp) % 6)) (by omega)) (by omega) (by omega) (by omega)) (xlk_ok okH_giveBack rfl) rfl (by omega) (by omega) rfl ((hE.out hd) 0 (by decide)) rfl wM_H_31 wI_E_copyFrom wV_E_copyFrom wN_E wB_E_copyFrom hy_E_copyFrom (fun q => q.elim) ⟨Nat.le_of_ble_eq_true rfl, Nat.le_of_ble_eq_true rfl⟩ ⟨Nat.le_of_ble_eq_true rfl, Nat.le_of_ble_eq_true rfl⟩ (Nat.le_of_ble_eq_true rfl) (fun r n h hp => ?_) (fun _ _ _ q => q.elim)
  obtain ⟨rfl, rfl, rfl⟩ := hp
  exact XV.vret C (xlk_ok okH_giveBack rfl) hret (Nat.le_of_ble_eq_true rfl) (Nat.le_of_ble_eq_true rfl) (⟨rfl, rfl, rfl⟩)
theorem if1_0 {b : Bool} (h : (if b then (1 : Int32) else 0) = 0) : b = false := by
  cases b
  · rfl
  · exact absurd h (by decide)
theorem if1_1 {b : Bool} (h : ¬ (if b then (1 : Int32) else 0) = 0) : b = true := by
  cases b
  · exact absurd rfl h
  · rfl
theorem st_ne {w : Nat} (h : w ≤ 7) : ¬ stI (some w) = -1 := by
  rcases (show w = 0 ∨ w = 1 ∨ w = 2 ∨ w = 3 ∨ w = 4 ∨ w = 5 ∨ w = 6 ∨ w = 7 by omega) with rfl | rfl | rfl | rfl | rfl | rfl | rfl | rfl <;> decide
theorem rs_fin {p q : PT} {w : Nat} {c : Int32} (hp : p.2.2.2 ≤ 15) (hw : w ≤ 7) (h : (15 ≤ p.2.2.2 ∧ q = p) ∨ (p.2.2.2 < 15 ∧ ((c = 59 ∧ q = (p.1, (p.2.1, (upd p.2.2.1 p.2.2.2 (if p.2.2.1 p.2.2.2 < 1 then 1 else p.2.2.1 p.2.2.2), p.2.2.2 + 1)))) ∨ (¬ c = 59 ∧ ((nI w = 0 ∧ q = (upd p.1 p.2.2.2 (c - 48), (p.2.1, (upd p.2.2.1 p.2.2.2 0, p.2.2.2)))) ∨ (¬ nI w = 0 ∧ ((nI w = 2 ∧ q = (p.1, (upd p.2.1 p.2.2.2 (c - 48), (p.2.2.1, p.2.2.2)))) ∨ (¬ nI w = 2 ∧ (((nI w = 4 ∨ nI w = 5 ∨ nI w = 6) ∧ q = (p.1, (p.2.1, (upd p.2.2.1 p.2.2.2 (10 * p.2.2.1 p.2.2.2 + c - 48), p.2.2.2)))) ∨ (¬ nI w = 4 ∧ ¬ nI w = 5 ∧ ¬ nI w = 6 ∧ q = p))))))))))  : q = rsK w c p := by
  have e0 : nI w = 0 ↔ w = 0 := nI_eq (b := 0) (by omega) (by omega)
  have e2 : nI w = 2 ↔ w = 2 := nI_eq (b := 2) (by omega) (by omega)
  have e4 : nI w = 4 ↔ w = 4 := nI_eq (b := 4) (by omega) (by omega)
  have e5 : nI w = 5 ↔ w = 5 := nI_eq (b := 5) (by omega) (by omega)
  have e6 : nI w = 6 ↔ w = 6 := nI_eq (b := 6) (by omega) (by omega)
  rw [e0, e2, e4, e5, e6] at h
  unfold rsK
  rcases h with ⟨h1, rfl⟩ | ⟨h1, ⟨h2, rfl⟩ | ⟨h2, ⟨h3, rfl⟩ | ⟨h3, ⟨h4, rfl⟩ | ⟨h4, ⟨h5, rfl⟩ | ⟨h5, h6, h7, rfl⟩⟩⟩⟩⟩
  · rw [if_pos h1]
  · rw [if_neg (Nat.not_le.mpr h1), if_pos h2]
  · rw [if_neg (Nat.not_le.mpr h1), if_neg h2, if_pos h3]
  · rw [if_neg (Nat.not_le.mpr h1), if_neg h2, if_neg h3, if_pos h4]
  · rw [if_neg (Nat.not_le.mpr h1), if_neg h2, if_neg h3, if_neg h4, if_pos h5]
  · rw [if_neg (Nat.not_le.mpr h1), if_neg h2, if_neg h3, if_neg h4, if_neg (show ¬ (w = 4 ∨ w = 5 ∨ w = 6) by omega)]
theorem setText_set (h : XH) (a : Nat) (tx : Nat → Int32) (len : Nat) (p q : PT) : setText (setText h a tx len p) a tx len q = setText h a tx len q := blk_blk _ _ _ _ _
theorem sumN_s0 (g : Nat → Int32) (j : Nat) : sumN g 0 (j + 1) = sumN g 0 j + g j := by
  show sumN g 0 j + g (0 + j) = _
  rw [Nat.zero_add]
