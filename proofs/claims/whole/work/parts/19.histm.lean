/-! RopeThreads$History, RopeThreads$TripText -/
set_option maxHeartbeats 4000000 in
set_option maxRecDepth 100000 in
theorem ct_H_keep_full {l : Launch} (hfl : l.stackTraces = false) {G : XG} {n : Nat} {h : XH} {a o : Nat} {P : Nat → Nat → Int32} (hH : IsHist h a o 6 P) (a4 : 4 ≤ a) (an : a + 170 ≤ n + 4) (ho : o < 6) {e : Nat} {f : Nat → Int32} (hE : IsElev h e f) (e4 : 4 ≤ e) (en : e + 28 ≤ n + 4) (hd : e + 28 ≤ a ∨ a + 170 ≤ e) : XCt l G False (Cond.code yH_keep bH_keep 3 none) yH_keep 3 71 0 0 [.ref (a), .ref (e)] n h (fun r' n' h' => r' = none ∧ n' = n ∧ h' = setHist h a ((o + 1) % 6) (5 + 1) (upP P ((((o + 1) % 6) + 5) % 6) f)) (fun _ _ _ => False) := by
  refine XCt.of hfl (by decide +kernel) (Nat.le_of_ble_eq_true rfl) ?_
  intro p' e' s' m' g' b' t' c' C hret hname hnt hmd
  refine XV.cast (setHist_self hH).symm ?_
  refine XV.run C okH_keep 1 (q := (1, ([some (.ref (a)), some (.ref (e)), none], [.ref (a)]))) rfl ?_
  refine XV.getf C (ci := 1) (kf := 2) (v := .int (nI 6)) (xlk_ok okH_keep rfl) rfl (by decide) wF_H_21 (by omega) (by omega) ((blk_is h a 170 (histC a o 6 P)) 0 (by decide)) rfl ?_
  refine XV.run C okH_keep 1 (q := (6, ([some (.ref (a)), some (.ref (e)), none], [.int (6), .int (nI 6)]))) rfl ?_
  refine XV.icmp_ne C (tgt := 34) (xlk_ok okH_keep rfl) rfl (fun hc => absurd (rfl) hc) (fun _ => ?_)
  refine XV.run C okH_keep 2 (q := (11, ([some (.ref (a)), some (.ref (e)), none], [.ref (a), .ref (a)]))) rfl ?_
  refine XV.getf C (ci := 1) (kf := 1) (v := .int (nI o)) (xlk_ok okH_keep rfl) rfl (by decide) wF_H_17 (by omega) (by omega) ((blk_is h a 170 (histC a o 6 P)) 0 (by decide)) rfl ?_
  refine XV.run C okH_keep 3 (q := (18, ([some (.ref (a)), some (.ref (e)), none], [.int (6), .int ((nI o) + 1), .ref (a)]))) rfl ?_
  refine XV.callS C (As := [.int ((nI o) + 1), .int (6)]) (rest := [.ref (a)]) (ct_JM_floorMod hfl (i := (o + 1)) (d := 6) (nI_1 o) (rfl) (by omega) (by omega) (by omega)) (xlk_ok okH_keep rfl) rfl wM_H_25 wS_JM_floorMod wN_JM wB_JM_floorMod hy_JM_floorMod (fun q => q.elim) ⟨Nat.le_of_ble_eq_true rfl, Nat.le_of_ble_eq_true rfl⟩ ⟨Nat.le_of_ble_eq_true rfl, Nat.le_of_ble_eq_true rfl⟩ (Nat.le_of_ble_eq_true rfl) (fun r n h hp => ?_) (fun _ _ _ q => q.elim)
  obtain ⟨rfl, rfl, rfl⟩ := hp
  refine XV.putf C (ci := 1) (kf := 1) (ty := .int) (xlk_ok okH_keep rfl) rfl (by decide) wF_H_17 (by omega) (by omega) ((blk_is h a 170 (histC a o 6 P)) 0 (by decide)) rfl rfl rfl rfl (Nat.le_of_ble_eq_true rfl) ?_
  refine XV.cast (setHist_hd h a o 6 ((o + 1) % 6) 6 P) ?_
  refine XV.run C okH_keep 2 (q := (26, ([some (.ref (a)), some (.ref (e)), none], [.ref (a), .ref (a)]))) rfl ?_
  refine XV.getf C (ci := 1) (kf := 2) (v := .int (nI 6)) (xlk_ok okH_keep rfl) rfl (by decide) wF_H_21 (by omega) (by omega) ((blk_is h a 170 (histC a ((o + 1) % 6) 6 P)) 0 (by decide)) rfl ?_
  refine XV.run C okH_keep 2 (q := (31, ([some (.ref (a)), some (.ref (e)), none], [.int ((nI 6) - 1), .ref (a)]))) rfl ?_
  rw [show ((nI 6) - 1 : Int32) = nI 5 from rfl]
  refine XV.putf C (ci := 1) (kf := 2) (ty := .int) (xlk_ok okH_keep rfl) rfl (by decide) wF_H_21 (by omega) (by omega) ((blk_is h a 170 (histC a ((o + 1) % 6) 6 P)) 0 (by decide)) rfl rfl rfl rfl (Nat.le_of_ble_eq_true rfl) ?_
  refine XV.cast (setHist_hd h a ((o + 1) % 6) 6 ((o + 1) % 6) 5 P) ?_
  refine XV.run C okH_keep 1 (q := (35, ([some (.ref (a)), some (.ref (e)), none], [.ref (a)]))) rfl ?_
  refine XV.getf C (ci := 1) (kf := 0) (v := .ref (a + 1)) (xlk_ok okH_keep rfl) rfl (by decide) wF_H_11 (by omega) (by omega) ((blk_is h a 170 (histC a ((o + 1) % 6) 5 P)) 0 (by decide)) rfl ?_
  refine XV.run C okH_keep 1 (q := (39, ([some (.ref (a)), some (.ref (e)), none], [.ref (a), .ref (a + 1)]))) rfl ?_
  refine XV.getf C (ci := 1) (kf := 1) (v := .int (nI ((o + 1) % 6))) (xlk_ok okH_keep rfl) rfl (by decide) wF_H_17 (by omega) (by omega) ((blk_is h a 170 (histC a ((o + 1) % 6) 5 P)) 0 (by decide)) rfl ?_
  refine XV.run C okH_keep 1 (q := (43, ([some (.ref (a)), some (.ref (e)), none], [.ref (a), .int (nI ((o + 1) % 6)), .ref (a + 1)]))) rfl ?_
  refine XV.getf C (ci := 1) (kf := 2) (v := .int (nI 5)) (xlk_ok okH_keep rfl) rfl (by decide) wF_H_21 (by omega) (by omega) ((blk_is h a 170 (histC a ((o + 1) % 6) 5 P)) 0 (by decide)) rfl ?_
  refine XV.run C okH_keep 2 (q := (49, ([some (.ref (a)), some (.ref (e)), none], [.int (6), .int ((nI ((o + 1) % 6)) + (nI 5)), .ref (a + 1)]))) rfl ?_
  refine XV.callS C (As := [.int ((nI ((o + 1) % 6)) + (nI 5)), .int (6)]) (rest := [.ref (a + 1)]) (ct_JM_floorMod hfl (i := ((o + 1) % 6) + 5) (d := 6) (nI_add _ _) (rfl) (by omega) (by omega) (by omega)) (xlk_ok okH_keep rfl) rfl wM_H_25 wS_JM_floorMod wN_JM wB_JM_floorMod hy_JM_floorMod (fun q => q.elim) ⟨Nat.le_of_ble_eq_true rfl, Nat.le_of_ble_eq_true rfl⟩ ⟨Nat.le_of_ble_eq_true rfl, Nat.le_of_ble_eq_true rfl⟩ (Nat.le_of_ble_eq_true rfl) (fun r n h hp => ?_) (fun _ _ _ q => q.elim)
  obtain ⟨rfl, rfl, rfl⟩ := hp
  refine XV.aaldS C (N := 6) (t := 2) (a := ((((o + 1) % 6) + 5) % 6)) (o := a + 2 + 28 * ((((o + 1) % 6) + 5) % 6)) (f := (fun i => if i < 6 then some (a + 2 + 28 * i) else none)) (xlk_ok okH_keep rfl) (by omega) (by omega) ((blk_is h a 170 (histC a ((o + 1) % 6) 5 P)) 1 (by decide)) rfl (rfl) (by omega) (by decide) (if_pos (by omega)) ?_
  refine XV.run C okH_keep 2 (q := (55, ([some (.ref (a)), some (.ref (e)), some (.ref (a + 2 + 28 * ((((o + 1) % 6) + 5) % 6)))], [.ref (a + 2 + 28 * ((((o + 1) % 6) + 5) % 6))]))) rfl ?_
  refine XV.null_r C (xlk_ok okH_keep rfl) ?_
  refine XV.run C okH_keep 2 (q := (60, ([some (.ref (a)), some (.ref (e)), some (.ref (a + 2 + 28 * ((((o + 1) % 6) + 5) % 6)))], [.ref (e), .ref (a + 2 + 28 * ((((o + 1) % 6) + 5) % 6))]))) rfl ?_
  refine XV.callV C (As := [.ref (e)]) (rest := []) (ci := 0) (ct_E_copyFrom hfl (hist_elev (blk_is h a 170 (histC a ((o + 1) % 6) 5 P)) (q := ((((o + 1) % 6) + 5) % 6)) (by omega)) (by omega) (by omega) (hE.out hd) (by omega) (by omega) (by omega)) (xlk_ok okH_keep rfl) rfl (by omega) (by omega) rfl ((hist_elev (blk_is h a 170 (histC a ((o + 1) % 6) 5 P)) (q := ((((o + 1) % 6) + 5) % 6)) (by omega)) 0 (by decide)) rfl wM_H_31 wI_E_copyFrom wV_E_copyFrom wN_E wB_E_copyFrom hy_E_copyFrom (fun q => q.elim) ⟨Nat.le_of_ble_eq_true rfl, Nat.le_of_ble_eq_true rfl⟩ ⟨Nat.le_of_ble_eq_true rfl, Nat.le_of_ble_eq_true rfl⟩ (Nat.le_of_ble_eq_true rfl) (fun r n h hp => ?_) (fun _ _ _ q => q.elim)
  obtain ⟨rfl, rfl, rfl⟩ := hp
  refine XV.cast (setHist_elev h a ((o + 1) % 6) 5 P ((((o + 1) % 6) + 5) % 6) f (by omega)) ?_
  refine XV.run C okH_keep 2 (q := (65, ([some (.ref (a)), some (.ref (e)), some (.ref (a + 2 + 28 * ((((o + 1) % 6) + 5) % 6)))], [.ref (a), .ref (a)]))) rfl ?_
  refine XV.getf C (ci := 1) (kf := 2) (v := .int (nI 5)) (xlk_ok okH_keep rfl) rfl (by decide) wF_H_21 (by omega) (by omega) ((blk_is h a 170 (histC a ((o + 1) % 6) 5 (upP P ((((o + 1) % 6) + 5) % 6) f))) 0 (by decide)) rfl ?_
  refine XV.run C okH_keep 2 (q := (70, ([some (.ref (a)), some (.ref (e)), some (.ref (a + 2 + 28 * ((((o + 1) % 6) + 5) % 6)))], [.int ((nI 5) + 1), .ref (a)]))) rfl ?_
  rw [show ((nI 5) + 1 : Int32) = nI (5 + 1) from nI_1 _]
  refine XV.putf C (ci := 1) (kf := 2) (ty := .int) (xlk_ok okH_keep rfl) rfl (by decide) wF_H_21 (by omega) (by omega) ((blk_is h a 170 (histC a ((o + 1) % 6) 5 (upP P ((((o + 1) % 6) + 5) % 6) f))) 0 (by decide)) rfl rfl rfl rfl (Nat.le_of_ble_eq_true rfl) ?_
  refine XV.cast (setHist_hd h a ((o + 1) % 6) 5 ((o + 1) % 6) (5 + 1) (upP P ((((o + 1) % 6) + 5) % 6) f)) ?_
  exact XV.vret C (xlk_ok okH_keep rfl) hret (Nat.le_of_ble_eq_true rfl) (Nat.le_of_ble_eq_true rfl) (⟨rfl, rfl, rfl⟩)
set_option maxHeartbeats 4000000 in
set_option maxRecDepth 100000 in
theorem ct_H_keep_free {l : Launch} (hfl : l.stackTraces = false) {G : XG} {n : Nat} {h : XH} {a o kp : Nat} {P : Nat → Nat → Int32} (hH : IsHist h a o kp P) (a4 : 4 ≤ a) (an : a + 170 ≤ n + 4) (ho : o < 6) {e : Nat} {f : Nat → Int32} (hE : IsElev h e f) (e4 : 4 ≤ e) (en : e + 28 ≤ n + 4) (hd : e + 28 ≤ a ∨ a + 170 ≤ e) (hk : kp < 6) : XCt l G False (Cond.code yH_keep bH_keep 3 none) yH_keep 3 71 0 0 [.ref (a), .ref (e)] n h (fun r' n' h' => r' = none ∧ n' = n ∧ h' = setHist h a o (kp + 1) (upP P ((o + kp) % 6) f)) (fun _ _ _ => False) := by
  refine XCt.of hfl (by decide +kernel) (Nat.le_of_ble_eq_true rfl) ?_
  intro p' e' s' m' g' b' t' c' C hret hname hnt hmd
  refine XV.cast (setHist_self hH).symm ?_
  refine XV.run C okH_keep 1 (q := (1, ([some (.ref (a)), some (.ref (e)), none], [.ref (a)]))) rfl ?_
  refine XV.getf C (ci := 1) (kf := 2) (v := .int (nI kp)) (xlk_ok okH_keep rfl) rfl (by decide) wF_H_21 (by omega) (by omega) ((blk_is h a 170 (histC a o kp P)) 0 (by decide)) rfl ?_
  refine XV.run C okH_keep 1 (q := (6, ([some (.ref (a)), some (.ref (e)), none], [.int (6), .int (nI kp)]))) rfl ?_
  refine XV.icmp_ne C (tgt := 34) (xlk_ok okH_keep rfl) rfl (fun _ => ?_) (fun hc => absurd hc (fun z => absurd ((nI_eq (a := kp) (b := 6) (by omega) (by omega)).mp z) (by omega)))
  refine XV.run C okH_keep 1 (q := (35, ([some (.ref (a)), some (.ref (e)), none], [.ref (a)]))) rfl ?_
  refine XV.getf C (ci := 1) (kf := 0) (v := .ref (a + 1)) (xlk_ok okH_keep rfl) rfl (by decide) wF_H_11 (by omega) (by omega) ((blk_is h a 170 (histC a o kp P)) 0 (by decide)) rfl ?_
  refine XV.run C okH_keep 1 (q := (39, ([some (.ref (a)), some (.ref (e)), none], [.ref (a), .ref (a + 1)]))) rfl ?_
  refine XV.getf C (ci := 1) (kf := 1) (v := .int (nI o)) (xlk_ok okH_keep rfl) rfl (by decide) wF_H_17 (by omega) (by omega) ((blk_is h a 170 (histC a o kp P)) 0 (by decide)) rfl ?_
  refine XV.run C okH_keep 1 (q := (43, ([some (.ref (a)), some (.ref (e)), none], [.ref (a), .int (nI o), .ref (a + 1)]))) rfl ?_
  refine XV.getf C (ci := 1) (kf := 2) (v := .int (nI kp)) (xlk_ok okH_keep rfl) rfl (by decide) wF_H_21 (by omega) (by omega) ((blk_is h a 170 (histC a o kp P)) 0 (by decide)) rfl ?_
  refine XV.run C okH_keep 2 (q := (49, ([some (.ref (a)), some (.ref (e)), none], [.int (6), .int ((nI o) + (nI kp)), .ref (a + 1)]))) rfl ?_
  refine XV.callS C (As := [.int ((nI o) + (nI kp)), .int (6)]) (rest := [.ref (a + 1)]) (ct_JM_floorMod hfl (i := o + kp) (d := 6) (nI_add _ _) (rfl) (by omega) (by omega) (by omega)) (xlk_ok okH_keep rfl) rfl wM_H_25 wS_JM_floorMod wN_JM wB_JM_floorMod hy_JM_floorMod (fun q => q.elim) ⟨Nat.le_of_ble_eq_true rfl, Nat.le_of_ble_eq_true rfl⟩ ⟨Nat.le_of_ble_eq_true rfl, Nat.le_of_ble_eq_true rfl⟩ (Nat.le_of_ble_eq_true rfl) (fun r n h hp => ?_) (fun _ _ _ q => q.elim)
  obtain ⟨rfl, rfl, rfl⟩ := hp
  refine XV.aaldS C (N := 6) (t := 2) (a := ((o + kp) % 6)) (o := a + 2 + 28 * ((o + kp) % 6)) (f := (fun i => if i < 6 then some (a + 2 + 28 * i) else none)) (xlk_ok okH_keep rfl) (by omega) (by omega) ((blk_is h a 170 (histC a o kp P)) 1 (by decide)) rfl (rfl) (by omega) (by decide) (if_pos (by omega)) ?_
  refine XV.run C okH_keep 2 (q := (55, ([some (.ref (a)), some (.ref (e)), some (.ref (a + 2 + 28 * ((o + kp) % 6)))], [.ref (a + 2 + 28 * ((o + kp) % 6))]))) rfl ?_
  refine XV.null_r C (xlk_ok okH_keep rfl) ?_
  refine XV.run C okH_keep 2 (q := (60, ([some (.ref (a)), some (.ref (e)), some (.ref (a + 2 + 28 * ((o + kp) % 6)))], [.ref (e), .ref (a + 2 + 28 * ((o + kp) % 6))]))) rfl ?_
  refine XV.callV C (As := [.ref (e)]) (rest := []) (ci := 0) (ct_E_copyFrom hfl (hist_elev (blk_is h a 170 (histC a o kp P)) (q := ((o + kp) % 6)) (by omega)) (by omega) (by omega) (hE.out hd) (by omega) (by omega) (by omega)) (xlk_ok okH_keep rfl) rfl (by omega) (by omega) rfl ((hist_elev (blk_is h a 170 (histC a o kp P)) (q := ((o + kp) % 6)) (by omega)) 0 (by decide)) rfl wM_H_31 wI_E_copyFrom wV_E_copyFrom wN_E wB_E_copyFrom hy_E_copyFrom (fun q => q.elim) ⟨Nat.le_of_ble_eq_true rfl, Nat.le_of_ble_eq_true rfl⟩ ⟨Nat.le_of_ble_eq_true rfl, Nat.le_of_ble_eq_true rfl⟩ (Nat.le_of_ble_eq_true rfl) (fun r n h hp => ?_) (fun _ _ _ q => q.elim)
  obtain ⟨rfl, rfl, rfl⟩ := hp
  refine XV.cast (setHist_elev h a o kp P ((o + kp) % 6) f (by omega)) ?_
  refine XV.run C okH_keep 2 (q := (65, ([some (.ref (a)), some (.ref (e)), some (.ref (a + 2 + 28 * ((o + kp) % 6)))], [.ref (a), .ref (a)]))) rfl ?_
  refine XV.getf C (ci := 1) (kf := 2) (v := .int (nI kp)) (xlk_ok okH_keep rfl) rfl (by decide) wF_H_21 (by omega) (by omega) ((blk_is h a 170 (histC a o kp (upP P ((o + kp) % 6) f))) 0 (by decide)) rfl ?_
  refine XV.run C okH_keep 2 (q := (70, ([some (.ref (a)), some (.ref (e)), some (.ref (a + 2 + 28 * ((o + kp) % 6)))], [.int ((nI kp) + 1), .ref (a)]))) rfl ?_
  rw [show ((nI kp) + 1 : Int32) = nI (kp + 1) from nI_1 _]
  refine XV.putf C (ci := 1) (kf := 2) (ty := .int) (xlk_ok okH_keep rfl) rfl (by decide) wF_H_21 (by omega) (by omega) ((blk_is h a 170 (histC a o kp (upP P ((o + kp) % 6) f))) 0 (by decide)) rfl rfl rfl rfl (Nat.le_of_ble_eq_true rfl) ?_
  refine XV.cast (setHist_hd h a o kp o (kp + 1) (upP P ((o + kp) % 6) f)) ?_
  exact XV.vret C (xlk_ok okH_keep rfl) hret (Nat.le_of_ble_eq_true rfl) (Nat.le_of_ble_eq_true rfl) (⟨rfl, rfl, rfl⟩)
set_option maxHeartbeats 4000000 in
set_option maxRecDepth 100000 in
theorem ct_H_giveBack {l : Launch} (hfl : l.stackTraces = false) {G : XG} {n : Nat} {h : XH} {a o kp : Nat} {P : Nat → Nat → Int32} (hH : IsHist h a o (kp + 1) P) (a4 : 4 ≤ a) (an : a + 170 ≤ n + 4) (ho : o < 6) {e : Nat} {f : Nat → Int32} (hE : IsElev h e f) (e4 : 4 ≤ e) (en : e + 28 ≤ n + 4) (hd : e + 28 ≤ a ∨ a + 170 ≤ e) (hk : kp < 6) : XCt l G False (Cond.code yH_giveBack bH_giveBack 3 none) yH_giveBack 3 71 0 0 [.ref (a), .ref (e)] n h (fun r' n' h' => r' = none ∧ n' = n ∧ h' = setElev (setHist h a o kp P) e (P ((o + kp) % 6))) (fun _ _ _ => False) := by
  refine XCt.of hfl (by decide +kernel) (Nat.le_of_ble_eq_true rfl) ?_
  intro p' e' s' m' g' b' t' c' C hret hname hnt hmd
  refine XV.cast (setHist_self hH).symm ?_
  refine XV.run C okH_giveBack 2 (q := (2, ([some (.ref (a)), some (.ref (e)), none], [.ref (a), .ref (a)]))) rfl ?_
  refine XV.getf C (ci := 1) (kf := 2) (v := .int (nI (kp + 1))) (xlk_ok okH_giveBack rfl) rfl (by decide) wF_H_21 (by omega) (by omega) ((blk_is h a 170 (histC a o (kp + 1) P)) 0 (by decide)) rfl ?_
  refine XV.run C okH_giveBack 2 (q := (7, ([some (.ref (a)), some (.ref (e)), none], [.int ((nI (kp + 1)) - 1), .ref (a)]))) rfl ?_
  rw [show ((nI (kp + 1)) - 1 : Int32) = nI kp from nI_pred kp]
  refine XV.putf C (ci := 1) (kf := 2) (ty := .int) (xlk_ok okH_giveBack rfl) rfl (by decide) wF_H_21 (by omega) (by omega) ((blk_is h a 170 (histC a o (kp + 1) P)) 0 (by decide)) rfl rfl rfl rfl (Nat.le_of_ble_eq_true rfl) ?_
  refine XV.cast (setHist_hd h a o (kp + 1) o kp P) ?_
  refine XV.run C okH_giveBack 1 (q := (11, ([some (.ref (a)), some (.ref (e)), none], [.ref (a)]))) rfl ?_
  refine XV.getf C (ci := 1) (kf := 0) (v := .ref (a + 1)) (xlk_ok okH_giveBack rfl) rfl (by decide) wF_H_11 (by omega) (by omega) ((blk_is h a 170 (histC a o kp P)) 0 (by decide)) rfl ?_
  refine XV.run C okH_giveBack 1 (q := (15, ([some (.ref (a)), some (.ref (e)), none], [.ref (a), .ref (a + 1)]))) rfl ?_
  refine XV.getf C (ci := 1) (kf := 1) (v := .int (nI o)) (xlk_ok okH_giveBack rfl) rfl (by decide) wF_H_17 (by omega) (by omega) ((blk_is h a 170 (histC a o kp P)) 0 (by decide)) rfl ?_
  refine XV.run C okH_giveBack 1 (q := (19, ([some (.ref (a)), some (.ref (e)), none], [.ref (a), .int (nI o), .ref (a + 1)]))) rfl ?_
  refine XV.getf C (ci := 1) (kf := 2) (v := .int (nI kp)) (xlk_ok okH_giveBack rfl) rfl (by decide) wF_H_21 (by omega) (by omega) ((blk_is h a 170 (histC a o kp P)) 0 (by decide)) rfl ?_
  refine XV.run C okH_giveBack 2 (q := (25, ([some (.ref (a)), some (.ref (e)), none], [.int (6), .int ((nI o) + (nI kp)), .ref (a + 1)]))) rfl ?_
  refine XV.callS C (As := [.int ((nI o) + (nI kp)), .int (6)]) (rest := [.ref (a + 1)]) (ct_JM_floorMod hfl (i := o + kp) (d := 6) (nI_add _ _) (rfl) (by omega) (by omega) (by omega)) (xlk_ok okH_giveBack rfl) rfl wM_H_25 wS_JM_floorMod wN_JM wB_JM_floorMod hy_JM_floorMod (fun q => q.elim) ⟨Nat.le_of_ble_eq_true rfl, Nat.le_of_ble_eq_true rfl⟩ ⟨Nat.le_of_ble_eq_true rfl, Nat.le_of_ble_eq_true rfl⟩ (Nat.le_of_ble_eq_true rfl) (fun r n h hp => ?_) (fun _ _ _ q => q.elim)
  obtain ⟨rfl, rfl, rfl⟩ := hp
  refine XV.aaldS C (N := 6) (t := 2) (a := ((o + kp) % 6)) (o := a + 2 + 28 * ((o + kp) % 6)) (f := (fun i => if i < 6 then some (a + 2 + 28 * i) else none)) (xlk_ok okH_giveBack rfl) (by omega) (by omega) ((blk_is h a 170 (histC a o kp P)) 1 (by decide)) rfl (rfl) (by omega) (by decide) (if_pos (by omega)) ?_
  refine XV.run C okH_giveBack 2 (q := (31, ([some (.ref (a)), some (.ref (e)), some (.ref (a + 2 + 28 * ((o + kp) % 6)))], [.ref (a + 2 + 28 * ((o + kp) % 6))]))) rfl ?_
  refine XV.null_r C (xlk_ok okH_giveBack rfl) ?_
  refine XV.run C okH_giveBack 2 (q := (36, ([some (.ref (a)), some (.ref (e)), some (.ref (a + 2 + 28 * ((o + kp) % 6)))], [.ref (a + 2 + 28 * ((o + kp) % 6)), .ref (e)]))) rfl ?_
  refine XV.callV C (As := [.ref (a + 2 + 28 * ((o + kp) % 6))]) (rest := []) (ci := 0) (ct_E_copyFrom hfl (hE.out hd) (by omega) (by omega) (hist_elev (blk_is h a 170 (histC a o kp P)) (q := ((o + kp) % 6)) (by omega)) (by omega) (by omega) (by omega)) (xlk_ok okH_giveBack rfl) rfl (by omega) (by omega) rfl ((hE.out hd) 0 (by decide)) rfl wM_H_31 wI_E_copyFrom wV_E_copyFrom wN_E wB_E_copyFrom hy_E_copyFrom (fun q => q.elim) ⟨Nat.le_of_ble_eq_true rfl, Nat.le_of_ble_eq_true rfl⟩ ⟨Nat.le_of_ble_eq_true rfl, Nat.le_of_ble_eq_true rfl⟩ (Nat.le_of_ble_eq_true rfl) (fun r n h hp => ?_) (fun _ _ _ q => q.elim)
  obtain ⟨rfl, rfl, rfl⟩ := hp
  exact XV.vret C (xlk_ok okH_giveBack rfl) hret (Nat.le_of_ble_eq_true rfl) (Nat.le_of_ble_eq_true rfl) (⟨rfl, rfl, rfl⟩)
set_option maxHeartbeats 4000000 in
set_option maxRecDepth 100000 in
theorem ct_T_isFloor {l : Launch} (hfl : l.stackTraces = false) {G : XG} {n : Nat} {h : XH} (c : Int32) : XCt l G False (Cond.code yT_isFloor bT_isFloor 1 (some .boolean)) yT_isFloor 0 0 0 0 [.int (c)] n h (fun r' n' h' => r' = some (.int (if floK c then 1 else 0)) ∧ n' = n ∧ h' = h) (fun _ _ _ => False) := by
  refine XCt.of hfl (by decide +kernel) (Nat.le_of_ble_eq_true rfl) ?_
  intro p' e' s' m' g' b' t' c' C hret hname hnt hmd
  refine XV.run C okT_isFloor 2 (q := (3, ([some (.int (c))], [.int (48), .int (c)]))) rfl ?_
  refine XV.icmp_lt C (tgt := 16) (xlk_ok okT_isFloor rfl) rfl (fun c1 => ?_) (fun c1 => ?_)
  ·
    refine XV.run C okT_isFloor 1 (q := (17, ([some (.int (c))], [.int (0)]))) rfl ?_
    exact XV.iret C (xlk_ok okT_isFloor rfl) hret (rfl) (Nat.le_of_ble_eq_true rfl) (Nat.le_of_ble_eq_true rfl) (⟨by first | (rw [floK_f1 c1]; rfl) | (rw [floK_f2 c2]; rfl), rfl, rfl⟩)
  ·
    refine XV.run C okT_isFloor 2 (q := (9, ([some (.int (c))], [.int (56), .int (c)]))) rfl ?_
    refine XV.icmp_ge C (tgt := 16) (xlk_ok okT_isFloor rfl) rfl (fun c2 => ?_) (fun c2 => ?_)
    ·
      refine XV.run C okT_isFloor 1 (q := (17, ([some (.int (c))], [.int (0)]))) rfl ?_
      exact XV.iret C (xlk_ok okT_isFloor rfl) hret (rfl) (Nat.le_of_ble_eq_true rfl) (Nat.le_of_ble_eq_true rfl) (⟨by first | (rw [floK_f1 c1]; rfl) | (rw [floK_f2 c2]; rfl), rfl, rfl⟩)
    ·
      refine XV.run C okT_isFloor 2 (q := (17, ([some (.int (c))], [.int (1)]))) rfl ?_
      exact XV.iret C (xlk_ok okT_isFloor rfl) hret (rfl) (Nat.le_of_ble_eq_true rfl) (Nat.le_of_ble_eq_true rfl) (⟨by rw [floK_t c1 c2]; rfl, rfl, rfl⟩)
set_option maxHeartbeats 4000000 in
set_option maxRecDepth 100000 in
theorem ct_T_isDigit {l : Launch} (hfl : l.stackTraces = false) {G : XG} {n : Nat} {h : XH} (c : Int32) : XCt l G False (Cond.code yT_isDigit bT_isDigit 1 (some .boolean)) yT_isDigit 0 0 0 0 [.int (c)] n h (fun r' n' h' => r' = some (.int (if digK c then 1 else 0)) ∧ n' = n ∧ h' = h) (fun _ _ _ => False) := by
  refine XCt.of hfl (by decide +kernel) (Nat.le_of_ble_eq_true rfl) ?_
  intro p' e' s' m' g' b' t' c' C hret hname hnt hmd
  refine XV.run C okT_isDigit 2 (q := (3, ([some (.int (c))], [.int (48), .int (c)]))) rfl ?_
  refine XV.icmp_lt C (tgt := 16) (xlk_ok okT_isDigit rfl) rfl (fun c1 => ?_) (fun c1 => ?_)
  ·
    refine XV.run C okT_isDigit 1 (q := (17, ([some (.int (c))], [.int (0)]))) rfl ?_
    exact XV.iret C (xlk_ok okT_isDigit rfl) hret (rfl) (Nat.le_of_ble_eq_true rfl) (Nat.le_of_ble_eq_true rfl) (⟨by first | (rw [digK_f1 c1]; rfl) | (rw [digK_f2 c2]; rfl), rfl, rfl⟩)
  ·
    refine XV.run C okT_isDigit 2 (q := (9, ([some (.int (c))], [.int (57), .int (c)]))) rfl ?_
    refine XV.icmp_gt C (tgt := 16) (xlk_ok okT_isDigit rfl) rfl (fun c2 => ?_) (fun c2 => ?_)
    ·
      refine XV.run C okT_isDigit 1 (q := (17, ([some (.int (c))], [.int (0)]))) rfl ?_
      exact XV.iret C (xlk_ok okT_isDigit rfl) hret (rfl) (Nat.le_of_ble_eq_true rfl) (Nat.le_of_ble_eq_true rfl) (⟨by first | (rw [digK_f1 c1]; rfl) | (rw [digK_f2 c2]; rfl), rfl, rfl⟩)
    ·
      refine XV.run C okT_isDigit 2 (q := (17, ([some (.int (c))], [.int (1)]))) rfl ?_
      exact XV.iret C (xlk_ok okT_isDigit rfl) hret (rfl) (Nat.le_of_ble_eq_true rfl) (Nat.le_of_ble_eq_true rfl) (⟨by rw [digK_t c1 c2]; rfl, rfl, rfl⟩)
set_option maxHeartbeats 4000000 in
set_option maxRecDepth 100000 in
theorem ct_T_stateAfterPart {l : Launch} (hfl : l.stackTraces = false) {G : XG} {n : Nat} {h : XH} (c : Int32) : XCt l G False (Cond.code yT_stateAfterPart bT_stateAfterPart 1 (some .int)) yT_stateAfterPart 0 0 0 0 [.int (c)] n h (fun r' n' h' => r' = some (.int (stI (prtK c))) ∧ n' = n ∧ h' = h) (fun _ _ _ => False) := by
  refine XCt.of hfl (by decide +kernel) (Nat.le_of_ble_eq_true rfl) ?_
  intro p' e' s' m' g' b' t' c' C hret hname hnt hmd
  refine XV.run C okT_stateAfterPart 2 (q := (3, ([some (.int (c))], [.int (59), .int (c)]))) rfl ?_
  refine XV.icmp_ne C (tgt := 10) (xlk_ok okT_stateAfterPart rfl) rfl (fun c1 => ?_) (fun c1 => ?_)
  ·
    refine XV.run C okT_stateAfterPart 1 (q := (11, ([some (.int (c))], [.int ((-1))]))) rfl ?_
    exact XV.iret C (xlk_ok okT_stateAfterPart rfl) hret rfl (Nat.le_of_ble_eq_true rfl) (Nat.le_of_ble_eq_true rfl) (⟨by rw [prtK_f c1]; rfl, rfl, rfl⟩)
  ·
    refine XV.run C okT_stateAfterPart 2 (q := (11, ([some (.int (c))], [.int (0)]))) rfl ?_
    exact XV.iret C (xlk_ok okT_stateAfterPart rfl) hret rfl (Nat.le_of_ble_eq_true rfl) (Nat.le_of_ble_eq_true rfl) (⟨by rw [prtK_t c1]; rfl, rfl, rfl⟩)
theorem if1_0 {b : Bool} (h : (if b then (1 : Int32) else 0) = 0) : b = false := by
  cases b
  · rfl
  · exact absurd h (by decide)
theorem if1_1 {b : Bool} (h : ¬ (if b then (1 : Int32) else 0) = 0) : b = true := by
  cases b
  · exact absurd rfl h
  · rfl
set_option maxHeartbeats 4000000 in
set_option maxRecDepth 100000 in
theorem ct_T_stateAfterFirstDigit {l : Launch} (hfl : l.stackTraces = false) {G : XG} {n : Nat} {h : XH} (c : Int32) : XCt l G False (Cond.code yT_stateAfterFirstDigit bT_stateAfterFirstDigit 1 (some .int)) yT_stateAfterFirstDigit 1 20 0 0 [.int (c)] n h (fun r' n' h' => r' = some (.int (stI (stp 4 c))) ∧ n' = n ∧ h' = h) (fun _ _ _ => False) := by
  refine XCt.of hfl (by decide +kernel) (Nat.le_of_ble_eq_true rfl) ?_
  intro p' e' s' m' g' b' t' c' C hret hname hnt hmd
  refine XV.run C okT_stateAfterFirstDigit 2 (q := (3, ([some (.int (c))], [.int (49), .int (c)]))) rfl ?_
  refine XV.icmp_ne C (tgt := 8) (xlk_ok okT_stateAfterFirstDigit rfl) rfl (fun c1 => ?_) (fun c1 => ?_)
  ·
    refine XV.run C okT_stateAfterFirstDigit 2 (q := (11, ([some (.int (c))], [.int (48), .int (c)]))) rfl ?_
    refine XV.icmp_eq C (tgt := 26) (xlk_ok okT_stateAfterFirstDigit rfl) rfl (fun c2 => ?_) (fun c2 => ?_)
    ·
      refine XV.run C okT_stateAfterFirstDigit 1 (q := (27, ([some (.int (c))], [.int ((-1))]))) rfl ?_
      exact XV.iret C (xlk_ok okT_stateAfterFirstDigit rfl) hret rfl (Nat.le_of_ble_eq_true rfl) (Nat.le_of_ble_eq_true rfl) (⟨by first | (rw [stp4b c1 c2]; rfl) | (rw [stp4d c1 c2 (if1_0 c3)]; rfl), rfl, rfl⟩)
    ·
      refine XV.run C okT_stateAfterFirstDigit 1 (q := (15, ([some (.int (c))], [.int (c)]))) rfl ?_
      refine XV.callS C (As := [.int (c)]) (rest := []) (ct_T_isDigit hfl (c)) (xlk_ok okT_stateAfterFirstDigit rfl) rfl wM_T_58 wS_T_isDigit wN_T wB_T_isDigit hy_T_isDigit (fun q => q.elim) ⟨Nat.le_of_ble_eq_true rfl, Nat.le_of_ble_eq_true rfl⟩ ⟨Nat.le_of_ble_eq_true rfl, Nat.le_of_ble_eq_true rfl⟩ (Nat.le_of_ble_eq_true rfl) (fun r n h hp => ?_) (fun _ _ _ q => q.elim)
      obtain ⟨rfl, rfl, rfl⟩ := hp
      refine XV.if_eq C (tgt := 26) (xlk_ok okT_stateAfterFirstDigit rfl) rfl (fun c3 => ?_) (fun c3 => ?_)
      ·
        refine XV.run C okT_stateAfterFirstDigit 1 (q := (27, ([some (.int (c))], [.int ((-1))]))) rfl ?_
        exact XV.iret C (xlk_ok okT_stateAfterFirstDigit rfl) hret rfl (Nat.le_of_ble_eq_true rfl) (Nat.le_of_ble_eq_true rfl) (⟨by first | (rw [stp4b c1 c2]; rfl) | (rw [stp4d c1 c2 (if1_0 c3)]; rfl), rfl, rfl⟩)
      ·
        refine XV.run C okT_stateAfterFirstDigit 2 (q := (27, ([some (.int (c))], [.int (6)]))) rfl ?_
        exact XV.iret C (xlk_ok okT_stateAfterFirstDigit rfl) hret rfl (Nat.le_of_ble_eq_true rfl) (Nat.le_of_ble_eq_true rfl) (⟨by rw [stp4c c1 c2 (if1_1 c3)]; rfl, rfl, rfl⟩)
  ·
    refine XV.run C okT_stateAfterFirstDigit 1 (q := (7, ([some (.int (c))], [.int (5)]))) rfl ?_
    exact XV.iret C (xlk_ok okT_stateAfterFirstDigit rfl) hret rfl (Nat.le_of_ble_eq_true rfl) (Nat.le_of_ble_eq_true rfl) (⟨by rw [stp4a c1]; rfl, rfl, rfl⟩)
set_option maxHeartbeats 4000000 in
set_option maxRecDepth 100000 in
theorem ct_T_stateAfter {l : Launch} (hfl : l.stackTraces = false) {G : XG} {n : Nat} {h : XH} {x : Int32} {w : Nat} (hx : x = nI w) (hw : w ≤ 7) (c : Int32) : XCt l G False (Cond.code yT_stateAfter bT_stateAfter 2 (some .int)) yT_stateAfter 2 40 0 0 [.int (x), .int (c)] n h (fun r' n' h' => r' = some (.int (stI (stp w c))) ∧ n' = n ∧ h' = h) (fun _ _ _ => False) := by
  subst hx
  refine XCt.of hfl (by decide +kernel) (Nat.le_of_ble_eq_true rfl) ?_
  intro p' e' s' m' g' b' t' c' C hret hname hnt hmd
  refine XV.run C okT_stateAfter 1 (q := (1, ([some (.int (nI w)), some (.int (c))], [.int (nI w)]))) rfl ?_
  rcases (show w = 0 ∨ w = 1 ∨ w = 2 ∨ w = 3 ∨ w = 4 ∨ w = 5 ∨ w = 6 ∨ w = 7 by omega) with rfl | rfl | rfl | rfl | rfl | rfl | rfl | rfl
  ·
    refine XV.tabIn C (off := 47) (tgt := 48) (xlk_ok okT_stateAfter rfl) (by decide) (by decide) rfl rfl ?_
    refine XV.run C okT_stateAfter 1 (q := (49, ([some (.int (nI 0)), some (.int (c))], [.int (c)]))) rfl ?_
    refine XV.callS C (As := [.int (c)]) (rest := []) (ct_T_isFloor hfl (c)) (xlk_ok okT_stateAfter rfl) rfl wM_T_48 wS_T_isFloor wN_T wB_T_isFloor hy_T_isFloor (fun q => q.elim) ⟨Nat.le_of_ble_eq_true rfl, Nat.le_of_ble_eq_true rfl⟩ ⟨Nat.le_of_ble_eq_true rfl, Nat.le_of_ble_eq_true rfl⟩ (Nat.le_of_ble_eq_true rfl) (fun r n h hp => ?_) (fun _ _ _ q => q.elim)
    obtain ⟨rfl, rfl, rfl⟩ := hp
    refine XV.if_eq C (tgt := 59) (xlk_ok okT_stateAfter rfl) rfl (fun q1 => ?_) (fun q1 => ?_)
    ·
      refine XV.run C okT_stateAfter 1 (q := (60, ([some (.int (nI 0)), some (.int (c))], [.int ((-1))]))) rfl ?_
      exact XV.iret C (xlk_ok okT_stateAfter rfl) hret rfl (Nat.le_of_ble_eq_true rfl) (Nat.le_of_ble_eq_true rfl) (⟨by rw [stp0f (if1_0 q1)] <;> rfl, rfl, rfl⟩)
    ·
      refine XV.run C okT_stateAfter 2 (q := (60, ([some (.int (nI 0)), some (.int (c))], [.int (1)]))) rfl ?_
      exact XV.iret C (xlk_ok okT_stateAfter rfl) hret rfl (Nat.le_of_ble_eq_true rfl) (Nat.le_of_ble_eq_true rfl) (⟨by rw [stp0t (if1_1 q1)] <;> rfl, rfl, rfl⟩)
  ·
    refine XV.tabIn C (off := 60) (tgt := 61) (xlk_ok okT_stateAfter rfl) (by decide) (by decide) rfl rfl ?_
    refine XV.run C okT_stateAfter 2 (q := (64, ([some (.int (nI 1)), some (.int (c))], [.int (45), .int (c)]))) rfl ?_
    refine XV.icmp_ne C (tgt := 71) (xlk_ok okT_stateAfter rfl) rfl (fun q2 => ?_) (fun q2 => ?_)
    ·
      refine XV.run C okT_stateAfter 1 (q := (72, ([some (.int (nI 1)), some (.int (c))], [.int ((-1))]))) rfl ?_
      exact XV.iret C (xlk_ok okT_stateAfter rfl) hret rfl (Nat.le_of_ble_eq_true rfl) (Nat.le_of_ble_eq_true rfl) (⟨by rw [stp1f q2] <;> rfl, rfl, rfl⟩)
    ·
      refine XV.run C okT_stateAfter 2 (q := (72, ([some (.int (nI 1)), some (.int (c))], [.int (2)]))) rfl ?_
      exact XV.iret C (xlk_ok okT_stateAfter rfl) hret rfl (Nat.le_of_ble_eq_true rfl) (Nat.le_of_ble_eq_true rfl) (⟨by rw [stp1t q2] <;> rfl, rfl, rfl⟩)
  ·
    refine XV.tabIn C (off := 72) (tgt := 73) (xlk_ok okT_stateAfter rfl) (by decide) (by decide) rfl rfl ?_
    refine XV.run C okT_stateAfter 1 (q := (74, ([some (.int (nI 2)), some (.int (c))], [.int (c)]))) rfl ?_
    refine XV.callS C (As := [.int (c)]) (rest := []) (ct_T_isFloor hfl (c)) (xlk_ok okT_stateAfter rfl) rfl wM_T_48 wS_T_isFloor wN_T wB_T_isFloor hy_T_isFloor (fun q => q.elim) ⟨Nat.le_of_ble_eq_true rfl, Nat.le_of_ble_eq_true rfl⟩ ⟨Nat.le_of_ble_eq_true rfl, Nat.le_of_ble_eq_true rfl⟩ (Nat.le_of_ble_eq_true rfl) (fun r n h hp => ?_) (fun _ _ _ q => q.elim)
    obtain ⟨rfl, rfl, rfl⟩ := hp
    refine XV.if_eq C (tgt := 84) (xlk_ok okT_stateAfter rfl) rfl (fun q3 => ?_) (fun q3 => ?_)
    ·
      refine XV.run C okT_stateAfter 1 (q := (85, ([some (.int (nI 2)), some (.int (c))], [.int ((-1))]))) rfl ?_
      exact XV.iret C (xlk_ok okT_stateAfter rfl) hret rfl (Nat.le_of_ble_eq_true rfl) (Nat.le_of_ble_eq_true rfl) (⟨by rw [stp2f (if1_0 q3)] <;> rfl, rfl, rfl⟩)
    ·
      refine XV.run C okT_stateAfter 2 (q := (85, ([some (.int (nI 2)), some (.int (c))], [.int (3)]))) rfl ?_
      exact XV.iret C (xlk_ok okT_stateAfter rfl) hret rfl (Nat.le_of_ble_eq_true rfl) (Nat.le_of_ble_eq_true rfl) (⟨by rw [stp2t (if1_1 q3)] <;> rfl, rfl, rfl⟩)
  ·
    refine XV.tabIn C (off := 85) (tgt := 86) (xlk_ok okT_stateAfter rfl) (by decide) (by decide) rfl rfl ?_
    refine XV.run C okT_stateAfter 2 (q := (89, ([some (.int (nI 3)), some (.int (c))], [.int (42), .int (c)]))) rfl ?_
    refine XV.icmp_ne C (tgt := 96) (xlk_ok okT_stateAfter rfl) rfl (fun q4 => ?_) (fun q4 => ?_)
    ·
      refine XV.run C okT_stateAfter 1 (q := (97, ([some (.int (nI 3)), some (.int (c))], [.int (c)]))) rfl ?_
      refine XV.callS C (As := [.int (c)]) (rest := []) (ct_T_stateAfterPart hfl (c)) (xlk_ok okT_stateAfter rfl) rfl wM_T_52 wS_T_stateAfterPart wN_T wB_T_stateAfterPart hy_T_stateAfterPart (fun q => q.elim) ⟨Nat.le_of_ble_eq_true rfl, Nat.le_of_ble_eq_true rfl⟩ ⟨Nat.le_of_ble_eq_true rfl, Nat.le_of_ble_eq_true rfl⟩ (Nat.le_of_ble_eq_true rfl) (fun r n h hp => ?_) (fun _ _ _ q => q.elim)
      obtain ⟨rfl, rfl, rfl⟩ := hp
      exact XV.iret C (xlk_ok okT_stateAfter rfl) hret rfl (Nat.le_of_ble_eq_true rfl) (Nat.le_of_ble_eq_true rfl) (⟨by rw [stp3f q4] <;> rfl, rfl, rfl⟩)
    ·
      refine XV.run C okT_stateAfter 2 (q := (100, ([some (.int (nI 3)), some (.int (c))], [.int (4)]))) rfl ?_
      exact XV.iret C (xlk_ok okT_stateAfter rfl) hret rfl (Nat.le_of_ble_eq_true rfl) (Nat.le_of_ble_eq_true rfl) (⟨by rw [stp3t q4] <;> rfl, rfl, rfl⟩)
  ·
    refine XV.tabIn C (off := 100) (tgt := 101) (xlk_ok okT_stateAfter rfl) (by decide) (by decide) rfl rfl ?_
    refine XV.run C okT_stateAfter 1 (q := (102, ([some (.int (nI 4)), some (.int (c))], [.int (c)]))) rfl ?_
    refine XV.callS C (As := [.int (c)]) (rest := []) (ct_T_stateAfterFirstDigit hfl (c)) (xlk_ok okT_stateAfter rfl) rfl wM_T_55 wS_T_stateAfterFirstDigit wN_T wB_T_stateAfterFirstDigit hy_T_stateAfterFirstDigit (fun q => q.elim) ⟨Nat.le_of_ble_eq_true rfl, Nat.le_of_ble_eq_true rfl⟩ ⟨Nat.le_of_ble_eq_true rfl, Nat.le_of_ble_eq_true rfl⟩ (Nat.le_of_ble_eq_true rfl) (fun r n h hp => ?_) (fun _ _ _ q => q.elim)
    obtain ⟨rfl, rfl, rfl⟩ := hp
    exact XV.iret C (xlk_ok okT_stateAfter rfl) hret rfl (Nat.le_of_ble_eq_true rfl) (Nat.le_of_ble_eq_true rfl) (⟨rfl, rfl, rfl⟩)
  ·
    refine XV.tabIn C (off := 105) (tgt := 106) (xlk_ok okT_stateAfter rfl) (by decide) (by decide) rfl rfl ?_
    refine XV.run C okT_stateAfter 1 (q := (107, ([some (.int (nI 5)), some (.int (c))], [.int (c)]))) rfl ?_
    refine XV.callS C (As := [.int (c)]) (rest := []) (ct_T_isDigit hfl (c)) (xlk_ok okT_stateAfter rfl) rfl wM_T_58 wS_T_isDigit wN_T wB_T_isDigit hy_T_isDigit (fun q => q.elim) ⟨Nat.le_of_ble_eq_true rfl, Nat.le_of_ble_eq_true rfl⟩ ⟨Nat.le_of_ble_eq_true rfl, Nat.le_of_ble_eq_true rfl⟩ (Nat.le_of_ble_eq_true rfl) (fun r n h hp => ?_) (fun _ _ _ q => q.elim)
    obtain ⟨rfl, rfl, rfl⟩ := hp
    refine XV.if_eq C (tgt := 118) (xlk_ok okT_stateAfter rfl) rfl (fun q5 => ?_) (fun q5 => ?_)
    ·
      refine XV.run C okT_stateAfter 1 (q := (119, ([some (.int (nI 5)), some (.int (c))], [.int ((-1))]))) rfl ?_
      exact XV.iret C (xlk_ok okT_stateAfter rfl) hret rfl (Nat.le_of_ble_eq_true rfl) (Nat.le_of_ble_eq_true rfl) (⟨by rw [stp5f (if1_0 q5)] <;> rfl, rfl, rfl⟩)
    ·
      refine XV.run C okT_stateAfter 2 (q := (119, ([some (.int (nI 5)), some (.int (c))], [.int (7)]))) rfl ?_
      exact XV.iret C (xlk_ok okT_stateAfter rfl) hret rfl (Nat.le_of_ble_eq_true rfl) (Nat.le_of_ble_eq_true rfl) (⟨by rw [stp5t (if1_1 q5)] <;> rfl, rfl, rfl⟩)
  ·
    refine XV.tabIn C (off := 119) (tgt := 120) (xlk_ok okT_stateAfter rfl) (by decide) (by decide) rfl rfl ?_
    refine XV.run C okT_stateAfter 1 (q := (121, ([some (.int (nI 6)), some (.int (c))], [.int (c)]))) rfl ?_
    refine XV.callS C (As := [.int (c)]) (rest := []) (ct_T_isDigit hfl (c)) (xlk_ok okT_stateAfter rfl) rfl wM_T_58 wS_T_isDigit wN_T wB_T_isDigit hy_T_isDigit (fun q => q.elim) ⟨Nat.le_of_ble_eq_true rfl, Nat.le_of_ble_eq_true rfl⟩ ⟨Nat.le_of_ble_eq_true rfl, Nat.le_of_ble_eq_true rfl⟩ (Nat.le_of_ble_eq_true rfl) (fun r n h hp => ?_) (fun _ _ _ q => q.elim)
    obtain ⟨rfl, rfl, rfl⟩ := hp
    refine XV.if_eq C (tgt := 132) (xlk_ok okT_stateAfter rfl) rfl (fun q6 => ?_) (fun q6 => ?_)
    ·
      refine XV.run C okT_stateAfter 1 (q := (133, ([some (.int (nI 6)), some (.int (c))], [.int (c)]))) rfl ?_
      refine XV.callS C (As := [.int (c)]) (rest := []) (ct_T_stateAfterPart hfl (c)) (xlk_ok okT_stateAfter rfl) rfl wM_T_52 wS_T_stateAfterPart wN_T wB_T_stateAfterPart hy_T_stateAfterPart (fun q => q.elim) ⟨Nat.le_of_ble_eq_true rfl, Nat.le_of_ble_eq_true rfl⟩ ⟨Nat.le_of_ble_eq_true rfl, Nat.le_of_ble_eq_true rfl⟩ (Nat.le_of_ble_eq_true rfl) (fun r n h hp => ?_) (fun _ _ _ q => q.elim)
      obtain ⟨rfl, rfl, rfl⟩ := hp
      exact XV.iret C (xlk_ok okT_stateAfter rfl) hret rfl (Nat.le_of_ble_eq_true rfl) (Nat.le_of_ble_eq_true rfl) (⟨by rw [stp6f (if1_0 q6)] <;> rfl, rfl, rfl⟩)
    ·
      refine XV.run C okT_stateAfter 2 (q := (136, ([some (.int (nI 6)), some (.int (c))], [.int (7)]))) rfl ?_
      exact XV.iret C (xlk_ok okT_stateAfter rfl) hret rfl (Nat.le_of_ble_eq_true rfl) (Nat.le_of_ble_eq_true rfl) (⟨by rw [stp6t (if1_1 q6)] <;> rfl, rfl, rfl⟩)
  ·
    refine XV.tabIn C (off := 136) (tgt := 137) (xlk_ok okT_stateAfter rfl) (by decide) (by decide) rfl rfl ?_
    refine XV.run C okT_stateAfter 1 (q := (138, ([some (.int (nI 7)), some (.int (c))], [.int (c)]))) rfl ?_
    refine XV.callS C (As := [.int (c)]) (rest := []) (ct_T_stateAfterPart hfl (c)) (xlk_ok okT_stateAfter rfl) rfl wM_T_52 wS_T_stateAfterPart wN_T wB_T_stateAfterPart hy_T_stateAfterPart (fun q => q.elim) ⟨Nat.le_of_ble_eq_true rfl, Nat.le_of_ble_eq_true rfl⟩ ⟨Nat.le_of_ble_eq_true rfl, Nat.le_of_ble_eq_true rfl⟩ (Nat.le_of_ble_eq_true rfl) (fun r n h hp => ?_) (fun _ _ _ q => q.elim)
    obtain ⟨rfl, rfl, rfl⟩ := hp
    exact XV.iret C (xlk_ok okT_stateAfter rfl) hret rfl (Nat.le_of_ble_eq_true rfl) (Nat.le_of_ble_eq_true rfl) (⟨rfl, rfl, rfl⟩)
set_option maxHeartbeats 4000000 in
set_option maxRecDepth 100000 in
theorem ct_T_signAt {l : Launch} (hfl : l.stackTraces = false) {G : XG} {n : Nat} {h : XH} {a : Nat} {tx : Nat → Int32} {len : Nat} {p : PT} (hT : IsText h a tx len p) (a4 : 4 ≤ a) (an : a + 5 ≤ n + 4) (hlen : len ≤ 60) {x : Int32} {i : Nat} (hx : x = nI i) (hi : i ≤ 60) : XCt l G False (Cond.code yT_signAt bT_signAt 2 (some .int)) yT_signAt 0 0 0 0 [.ref (a), .int (x)] n h (fun r' n' h' => r' = some (.int (sgn tx len i)) ∧ n' = n ∧ h' = h) (fun _ _ _ => False) := by
  subst hx
  refine XCt.of hfl (by decide +kernel) (Nat.le_of_ble_eq_true rfl) ?_
  intro p' e' s' m' g' b' t' c' C hret hname hnt hmd
  refine XV.run C okT_signAt 1 (q := (1, ([some (.ref (a)), some (.int (nI i))], [.int (nI i)]))) rfl ?_
  refine XV.if_lt C (tgt := 27) (xlk_ok okT_signAt rfl) rfl (fun hc => absurd hc (nI_pos (by omega))) (fun _ => ?_)
  refine XV.run C okT_signAt 2 (q := (6, ([some (.ref (a)), some (.int (nI i))], [.ref (a), .int (nI i)]))) rfl ?_
  refine XV.getf C (ci := 3) (kf := 4) (v := .int (nI len)) (xlk_ok okT_signAt rfl) rfl (by decide) wF_T_24 (by omega) (by omega) (hT 0 (by decide)) rfl ?_
  refine XV.icmp_ge C (tgt := 27) (xlk_ok okT_signAt rfl) rfl (fun c1 => ?_) (fun c1 => ?_)
  ·
    refine XV.run C okT_signAt 1 (q := (29, ([some (.ref (a)), some (.int (nI i))], [.int (59)]))) rfl ?_
    exact XV.iret C (xlk_ok okT_signAt rfl) hret rfl (Nat.le_of_ble_eq_true rfl) (Nat.le_of_ble_eq_true rfl) (⟨by unfold sgn; rw [if_neg (fun q => absurd c1 (nI_ge q (by omega)))], rfl, rfl⟩)
  ·
    have hil : i < len := by
      rcases Nat.lt_or_ge i len with q | q
      · exact q
      · exact absurd (nI_le q (by omega)) c1
    refine XV.run C okT_signAt 2 (q := (15, ([some (.ref (a)), some (.int (nI i))], [.int (60), .int (nI i)]))) rfl ?_
    refine XV.icmp_ge C (tgt := 27) (xlk_ok okT_signAt rfl) rfl (fun hc => absurd hc (nI_ge (b := 60) (by omega) (by omega))) (fun _ => ?_)
    refine XV.run C okT_signAt 1 (q := (19, ([some (.ref (a)), some (.int (nI i))], [.ref (a)]))) rfl ?_
    refine XV.getf C (ci := 3) (kf := 0) (v := .ref (a + 1)) (xlk_ok okT_signAt rfl) rfl (by decide) wF_T_9 (by omega) (by omega) (hT 0 (by decide)) rfl ?_
    refine XV.run C okT_signAt 1 (q := (23, ([some (.ref (a)), some (.int (nI i))], [.int (nI i), .ref (a + 1)]))) rfl ?_
    refine XV.ialdC C (N := 60) (f := tx) (a := i) (xlk_ok okT_signAt rfl) (by omega) (by omega) (hT 1 (by decide)) (rfl) (by omega) (by decide) ?_
    refine XV.run C okT_signAt 1 (q := (29, ([some (.ref (a)), some (.int (nI i))], [.int (tx i)]))) rfl ?_
    exact XV.iret C (xlk_ok okT_signAt rfl) hret rfl (Nat.le_of_ble_eq_true rfl) (Nat.le_of_ble_eq_true rfl) (⟨by unfold sgn; rw [if_pos hil], rfl, rfl⟩)
theorem st_ne {w : Nat} (h : w ≤ 7) : ¬ stI (some w) = -1 := by
  rcases (show w = 0 ∨ w = 1 ∨ w = 2 ∨ w = 3 ∨ w = 4 ∨ w = 5 ∨ w = 6 ∨ w = 7 by omega) with rfl | rfl | rfl | rfl | rfl | rfl | rfl | rfl <;> decide
set_option maxHeartbeats 4000000 in
set_option maxRecDepth 100000 in
theorem ct_T_errorPlace {l : Launch} (hfl : l.stackTraces = false) {G : XG} {n : Nat} {h : XH} {a : Nat} {tx : Nat → Int32} {len : Nat} {p : PT} (hT : IsText h a tx len p) (a4 : 4 ≤ a) (an : a + 5 ≤ n + 4) (hlen : len ≤ 60) : XCt l G False (Cond.code yT_errorPlace bT_errorPlace 3 (some .int)) yT_errorPlace 3 61 0 0 [.ref (a)] n h (fun r' n' h' => r' = some (.int (nI (epK tx len 0 0))) ∧ n' = n ∧ h' = h) (fun _ _ _ => False) := by
  refine XCt.of hfl (by decide +kernel) (Nat.le_of_ble_eq_true rfl) ?_
  intro p' e' s' m' g' b' t' c' C hret hname hnt hmd
  refine XV.run C okT_errorPlace 4 (q := (4, ([some (.ref (a)), some (.int (0)), some (.int (0))], []))) rfl ?_
  have loop : ∀ (d j w : Nat), j + d = len → w ≤ 7 → epK tx d w j = epK tx len 0 0 → XV G 3 p' l e' ({ frames := 3, cells := 0, slots := 0, locals := 61 } : Room) s' m' g' b' t' c' (XEnd G b' (fun r' n' h' => r' = some (.int (nI (epK tx len 0 0))) ∧ n' = n ∧ h' = h) (fun _ _ _ => False) g' s' 0 0) 4 [some (.ref (a)), some (.int (nI w)), some (.int (nI j))] [] n h 0 0 := by
    intro d
    induction d with
    | zero =>
      intro j w hj hw hv
      refine XV.run C okT_errorPlace 2 (q := (6, ([some (.ref (a)), some (.int (nI w)), some (.int (nI j))], [.ref (a), .int (nI j)]))) rfl ?_
      refine XV.getf C (ci := 3) (kf := 4) (v := .int (nI len)) (xlk_ok okT_errorPlace rfl) rfl (by decide) wF_T_24 (by omega) (by omega) (hT 0 (by decide)) rfl ?_
      refine XV.icmp_ge C (tgt := 35) (xlk_ok okT_errorPlace rfl) rfl (fun _ => ?_) (fun hc => absurd (nI_le (by omega) (by omega)) hc)
      refine XV.run C okT_errorPlace 1 (q := (36, ([some (.ref (a)), some (.int (nI w)), some (.int (nI j))], [.ref (a)]))) rfl ?_
      refine XV.getf C (ci := 3) (kf := 4) (v := .int (nI len)) (xlk_ok okT_errorPlace rfl) rfl (by decide) wF_T_24 (by omega) (by omega) (hT 0 (by decide)) rfl ?_
      exact XV.iret C (xlk_ok okT_errorPlace rfl) hret rfl (Nat.le_of_ble_eq_true rfl) (Nat.le_of_ble_eq_true rfl) (⟨by rw [← hv]; first | rw [epK_none hs] | (rw [show j = len by omega]; rfl), rfl, rfl⟩)
    | succ d ih =>
      intro j w hj hw hv
      refine XV.run C okT_errorPlace 2 (q := (6, ([some (.ref (a)), some (.int (nI w)), some (.int (nI j))], [.ref (a), .int (nI j)]))) rfl ?_
      refine XV.getf C (ci := 3) (kf := 4) (v := .int (nI len)) (xlk_ok okT_errorPlace rfl) rfl (by decide) wF_T_24 (by omega) (by omega) (hT 0 (by decide)) rfl ?_
      refine XV.icmp_ge C (tgt := 35) (xlk_ok okT_errorPlace rfl) rfl (fun hc => absurd hc (nI_ge (by omega) (by omega))) (fun _ => ?_)
      refine XV.run C okT_errorPlace 3 (q := (15, ([some (.ref (a)), some (.int (nI w)), some (.int (nI j))], [.int (nI j), .ref (a), .int (nI w)]))) rfl ?_
      refine XV.callV C (As := [.int (nI j)]) (rest := [.int (nI w)]) (ci := 3) (ct_T_signAt hfl hT (by omega) (by omega) hlen (i := j) (rfl) (by omega)) (xlk_ok okT_errorPlace rfl) rfl (by omega) (by omega) rfl (hT 0 (by decide)) rfl wM_T_31 wI_T_signAt wV_T_signAt wN_T wB_T_signAt hy_T_signAt (fun q => q.elim) ⟨Nat.le_of_ble_eq_true rfl, Nat.le_of_ble_eq_true rfl⟩ ⟨Nat.le_of_ble_eq_true rfl, Nat.le_of_ble_eq_true rfl⟩ (Nat.le_of_ble_eq_true rfl) (fun r n h hp => ?_) (fun _ _ _ q => q.elim)
      obtain ⟨rfl, rfl, rfl⟩ := hp
      rw [show sgn tx len j = tx j from if_pos (by omega)]
      refine XV.callS C (As := [.int (nI w), .int (tx j)]) (rest := []) (ct_T_stateAfter hfl (w := w) (rfl) (hw) (tx j)) (xlk_ok okT_errorPlace rfl) rfl wM_T_35 wS_T_stateAfter wN_T wB_T_stateAfter hy_T_stateAfter (fun q => q.elim) ⟨Nat.le_of_ble_eq_true rfl, Nat.le_of_ble_eq_true rfl⟩ ⟨Nat.le_of_ble_eq_true rfl, Nat.le_of_ble_eq_true rfl⟩ (Nat.le_of_ble_eq_true rfl) (fun r n h hp => ?_) (fun _ _ _ q => q.elim)
      obtain ⟨rfl, rfl, rfl⟩ := hp
      refine XV.run C okT_errorPlace 3 (q := (24, ([some (.ref (a)), some (.int (stI (stp w (tx j)))), some (.int (nI j))], [.int ((-1)), .int (stI (stp w (tx j)))]))) rfl ?_
      refine XV.icmp_ne C (tgt := 29) (xlk_ok okT_errorPlace rfl) rfl (fun c1 => ?_) (fun c1 => ?_)
      ·
        have hs : ∃ w2, stp w (tx j) = some w2 := by
          cases hq : stp w (tx j) with
          | none => rw [hq] at c1; exact absurd rfl c1
          | some w2 => exact ⟨w2, rfl⟩
        obtain ⟨w2, hs⟩ := hs
        refine XV.run C okT_errorPlace 2 (q := (4, ([some (.ref (a)), some (.int (stI (stp w (tx j)))), some (.int ((nI j) + 1))], []))) rfl ?_
        rw [nI_1, hs]
        exact ih (j + 1) w2 (by omega) (stp_le hs) (by rw [epK_some hs] at hv; exact hv)
      ·
        have hs : stp w (tx j) = none := by
          cases hq : stp w (tx j) with
          | none => rfl
          | some w2 =>
            have h7 := stp_le hq
            rw [hq] at c1
            exact absurd c1 (st_ne h7)
        refine XV.run C okT_errorPlace 1 (q := (28, ([some (.ref (a)), some (.int (stI (stp w (tx j)))), some (.int (nI j))], [.int (nI j)]))) rfl ?_
        exact XV.iret C (xlk_ok okT_errorPlace rfl) hret rfl (Nat.le_of_ble_eq_true rfl) (Nat.le_of_ble_eq_true rfl) (⟨by rw [← hv]; first | rw [epK_none hs] | (rw [show j = len by omega]; rfl), rfl, rfl⟩)
  exact loop len 0 0 (by omega) (by omega) rfl
set_option maxHeartbeats 4000000 in
set_option maxRecDepth 100000 in
theorem ct_T_addSign {l : Launch} (hfl : l.stackTraces = false) {G : XG} {n : Nat} {h : XH} {a : Nat} {tx : Nat → Int32} {len : Nat} {p : PT} (hT : IsText h a tx len p) (a4 : 4 ≤ a) (an : a + 5 ≤ n + 4) (hlen : len < 60) (c : Int32) : XCt l G False (Cond.code yT_addSign bT_addSign 2 none) yT_addSign 0 0 0 0 [.ref (a), .int (c)] n h (fun r' n' h' => r' = none ∧ n' = n ∧ h' = setText h a (upd tx len c) (len + 1) p) (fun _ _ _ => False) := by
  refine XCt.of hfl (by decide +kernel) (Nat.le_of_ble_eq_true rfl) ?_
  intro p' e' s' m' g' b' t' c' C hret hname hnt hmd
  refine XV.cast (setText_self hT).symm ?_
  refine XV.run C okT_addSign 1 (q := (1, ([some (.ref (a)), some (.int (c))], [.ref (a)]))) rfl ?_
  refine XV.getf C (ci := 3) (kf := 4) (v := .int (nI len)) (xlk_ok okT_addSign rfl) rfl (by decide) wF_T_24 (by omega) (by omega) ((blk_is h a 5 (textC a tx len p)) 0 (by decide)) rfl ?_
  refine XV.if_lt C (tgt := 36) (xlk_ok okT_addSign rfl) rfl (fun hc => absurd hc (nI_pos (by omega))) (fun _ => ?_)
  refine XV.run C okT_addSign 1 (q := (8, ([some (.ref (a)), some (.int (c))], [.ref (a)]))) rfl ?_
  refine XV.getf C (ci := 3) (kf := 4) (v := .int (nI len)) (xlk_ok okT_addSign rfl) rfl (by decide) wF_T_24 (by omega) (by omega) ((blk_is h a 5 (textC a tx len p)) 0 (by decide)) rfl ?_
  refine XV.run C okT_addSign 1 (q := (13, ([some (.ref (a)), some (.int (c))], [.int (60), .int (nI len)]))) rfl ?_
  refine XV.icmp_ge C (tgt := 36) (xlk_ok okT_addSign rfl) rfl (fun hc => absurd hc (nI_ge (b := 60) (by omega) (by omega))) (fun _ => ?_)
  refine XV.run C okT_addSign 1 (q := (17, ([some (.ref (a)), some (.int (c))], [.ref (a)]))) rfl ?_
  refine XV.getf C (ci := 3) (kf := 0) (v := .ref (a + 1)) (xlk_ok okT_addSign rfl) rfl (by decide) wF_T_9 (by omega) (by omega) ((blk_is h a 5 (textC a tx len p)) 0 (by decide)) rfl ?_
  refine XV.run C okT_addSign 1 (q := (21, ([some (.ref (a)), some (.int (c))], [.ref (a), .ref (a + 1)]))) rfl ?_
  refine XV.getf C (ci := 3) (kf := 4) (v := .int (nI len)) (xlk_ok okT_addSign rfl) rfl (by decide) wF_T_24 (by omega) (by omega) ((blk_is h a 5 (textC a tx len p)) 0 (by decide)) rfl ?_
  refine XV.run C okT_addSign 1 (q := (25, ([some (.ref (a)), some (.int (c))], [.int (c), .int (nI len), .ref (a + 1)]))) rfl ?_
  refine XV.iastC C (N := 60) (f := tx) (a := len) (xlk_ok okT_addSign rfl) (by omega) (by omega) ((blk_is h a 5 (textC a tx len p)) 1 (by decide)) (rfl) (by omega) (by decide) ?_
  refine XV.cast (setText_1 h a tx (upd tx len (c)) len p) ?_
  refine XV.run C okT_addSign 2 (q := (28, ([some (.ref (a)), some (.int (c))], [.ref (a), .ref (a)]))) rfl ?_
  refine XV.getf C (ci := 3) (kf := 4) (v := .int (nI len)) (xlk_ok okT_addSign rfl) rfl (by decide) wF_T_24 (by omega) (by omega) ((blk_is h a 5 (textC a (upd tx len (c)) len p)) 0 (by decide)) rfl ?_
  refine XV.run C okT_addSign 2 (q := (33, ([some (.ref (a)), some (.int (c))], [.int ((nI len) + 1), .ref (a)]))) rfl ?_
  rw [show ((nI len) + 1 : Int32) = nI (len + 1) from nI_1 _]
  refine XV.putf C (ci := 3) (kf := 4) (ty := .int) (xlk_ok okT_addSign rfl) rfl (by decide) wF_T_24 (by omega) (by omega) ((blk_is h a 5 (textC a (upd tx len (c)) len p)) 0 (by decide)) rfl rfl rfl rfl (Nat.le_of_ble_eq_true rfl) ?_
  refine XV.cast (setText_hd h a (upd tx len (c)) len (len + 1) p p.2.2.2) ?_
  exact XV.vret C (xlk_ok okT_addSign rfl) hret (Nat.le_of_ble_eq_true rfl) (Nat.le_of_ble_eq_true rfl) (⟨rfl, rfl, rfl⟩)
theorem rs_fin {p q : PT} {w : Nat} {c : Int32} (hp : p.2.2.2 ≤ 15) (hw : w ≤ 7) (h : (15 ≤ p.2.2.2 ∧ q = p) ∨ (p.2.2.2 < 15 ∧ ((c = 59 ∧ q = (p.1, (p.2.1, (upd p.2.2.1 p.2.2.2 (if p.2.2.1 p.2.2.2 < 1 then 1 else p.2.2.1 p.2.2.2), p.2.2.2 + 1)))) ∨ (¬ c = 59 ∧ ((nI w = 0 ∧ q = (upd p.1 p.2.2.2 (c - 48), (p.2.1, (upd p.2.2.1 p.2.2.2 0, p.2.2.2)))) ∨ (¬ nI w = 0 ∧ ((nI w = 2 ∧ q = (p.1, (upd p.2.1 p.2.2.2 (c - 48), (p.2.2.1, p.2.2.2)))) ∨ (¬ nI w = 2 ∧ (((nI w = 4 ∨ nI w = 5 ∨ nI w = 6) ∧ q = (p.1, (p.2.1, (upd p.2.2.1 p.2.2.2 (10 * p.2.2.1 p.2.2.2 + c - 48), p.2.2.2)))) ∨ (¬ nI w = 4 ∧ ¬ nI w = 5 ∧ ¬ nI w = 6 ∧ q = p))))))))))  : q = rsK w c p := by
  have e0 : nI w = 0 ↔ w = 0 := nI_eq (b := 0) (by omega) (by omega)
  have e2 : nI w = 2 ↔ w = 2 := nI_eq (b := 2) (by omega) (by omega)
  have e4 : nI w = 4 ↔ w = 4 := nI_eq (b := 4) (by omega) (by omega)
  have e5 : nI w = 5 ↔ w = 5 := nI_eq (b := 5) (by omega) (by omega)
  have e6 : nI w = 6 ↔ w = 6 := nI_eq (b := 6) (by omega) (by omega)
  rw [e0, e2, e4, e5, e6] at h
  unfold rsK
  rcases h with ⟨h1, rfl⟩ | ⟨h1, ⟨h2, rfl⟩ | ⟨h2, ⟨h3, rfl⟩ | ⟨h3, ⟨h4, rfl⟩ | ⟨h4, ⟨h5, rfl⟩ | ⟨h5, h6, h7, rfl⟩⟩⟩⟩⟩
  · rw [if_pos h1]
  · rw [if_neg (Nat.not_le.mpr h1), if_pos h2]
  · rw [if_neg (Nat.not_le.mpr h1), if_neg h2, if_pos h3]
  · rw [if_neg (Nat.not_le.mpr h1), if_neg h2, if_neg h3, if_pos h4]
  · rw [if_neg (Nat.not_le.mpr h1), if_neg h2, if_neg h3, if_neg h4, if_pos h5]
  · rw [if_neg (Nat.not_le.mpr h1), if_neg h2, if_neg h3, if_neg h4, if_neg (show ¬ (w = 4 ∨ w = 5 ∨ w = 6) by omega)]
set_option maxHeartbeats 4000000 in
set_option maxRecDepth 100000 in
theorem ct_T_readSign {l : Launch} (hfl : l.stackTraces = false) {G : XG} {n : Nat} {h : XH} {a : Nat} {tx : Nat → Int32} {len : Nat} {p : PT} (hT : IsText h a tx len p) (a4 : 4 ≤ a) (an : a + 5 ≤ n + 4) (hlen : len ≤ 60) {x : Int32} {w : Nat} (hx : x = nI w) (hw : w ≤ 7) (c : Int32) (hp : p.2.2.2 ≤ 15) : XCt l G False (Cond.code yT_readSign bT_readSign 3 none) yT_readSign 1 21 0 0 [.ref (a), .int (x), .int (c)] n h (fun r' n' h' => r' = none ∧ n' = n ∧ h' = setText h a tx len (rsK w c p)) (fun _ _ _ => False) := by
  subst hx
  refine XCt.of hfl (by decide +kernel) (Nat.le_of_ble_eq_true rfl) ?_
  intro p' e' s' m' g' b' t' c' C hret hname hnt hmd
  refine XV.cast (setText_self hT).symm ?_
  refine XV.run C okT_readSign 1 (q := (1, ([some (.ref (a)), some (.int (nI w)), some (.int (c))], [.ref (a)]))) rfl ?_
  refine XV.getf C (ci := 3) (kf := 5) (v := .int (nI p.2.2.2)) (xlk_ok okT_readSign rfl) rfl (by decide) wF_T_28 (by omega) (by omega) ((blk_is h a 5 (textC a tx len p)) 0 (by decide)) rfl ?_
  refine XV.if_lt C (tgt := 16) (xlk_ok okT_readSign rfl) rfl (fun hc => absurd hc (nI_pos (by omega))) (fun _ => ?_)
  refine XV.run C okT_readSign 1 (q := (8, ([some (.ref (a)), some (.int (nI w)), some (.int (c))], [.ref (a)]))) rfl ?_
  refine XV.getf C (ci := 3) (kf := 5) (v := .int (nI p.2.2.2)) (xlk_ok okT_readSign rfl) rfl (by decide) wF_T_28 (by omega) (by omega) ((blk_is h a 5 (textC a tx len p)) 0 (by decide)) rfl ?_
  refine XV.run C okT_readSign 1 (q := (13, ([some (.ref (a)), some (.int (nI w)), some (.int (c))], [.int (15), .int (nI p.2.2.2)]))) rfl ?_
  refine XV.icmp_lt C (tgt := 17) (xlk_ok okT_readSign rfl) rfl (fun c0 => ?_) (fun c0 => ?_)
  ·
    have hp15 : p.2.2.2 < 15 := (nI_ltI (b := 15) (by omega) (by omega)).mp c0
    refine XV.run C okT_readSign 2 (q := (20, ([some (.ref (a)), some (.int (nI w)), some (.int (c))], [.int (59), .int (c)]))) rfl ?_
    refine XV.icmp_ne C (tgt := 58) (xlk_ok okT_readSign rfl) rfl (fun c1 => ?_) (fun c1 => ?_)
    ·
      refine XV.run C okT_readSign 1 (q := (59, ([some (.ref (a)), some (.int (nI w)), some (.int (c))], [.int (nI w)]))) rfl ?_
      refine XV.if_ne C (tgt := 88) (xlk_ok okT_readSign rfl) rfl (fun c2 => ?_) (fun c2 => ?_)
      ·
        refine XV.run C okT_readSign 2 (q := (90, ([some (.ref (a)), some (.int (nI w)), some (.int (c))], [.int (2), .int (nI w)]))) rfl ?_
        refine XV.icmp_ne C (tgt := 109) (xlk_ok okT_readSign rfl) rfl (fun c3 => ?_) (fun c3 => ?_)
        ·
          refine XV.run C okT_readSign 2 (q := (111, ([some (.ref (a)), some (.int (nI w)), some (.int (c))], [.int (4), .int (nI w)]))) rfl ?_
          refine XV.icmp_eq C (tgt := 125) (xlk_ok okT_readSign rfl) rfl (fun c4 => ?_) (fun c4 => ?_)
          ·
            refine XV.run C okT_readSign 1 (q := (126, ([some (.ref (a)), some (.int (nI w)), some (.int (c))], [.ref (a)]))) rfl ?_
            refine XV.getf C (ci := 3) (kf := 3) (v := .ref (a + 4)) (xlk_ok okT_readSign rfl) rfl (by decide) wF_T_21 (by omega) (by omega) ((blk_is h a 5 (textC a tx len p)) 0 (by decide)) rfl ?_
            refine XV.run C okT_readSign 1 (q := (130, ([some (.ref (a)), some (.int (nI w)), some (.int (c))], [.ref (a), .ref (a + 4)]))) rfl ?_
            refine XV.getf C (ci := 3) (kf := 5) (v := .int (nI p.2.2.2)) (xlk_ok okT_readSign rfl) rfl (by decide) wF_T_28 (by omega) (by omega) ((blk_is h a 5 (textC a tx len p)) 0 (by decide)) rfl ?_
            refine XV.run C okT_readSign 2 (q := (136, ([some (.ref (a)), some (.int (nI w)), some (.int (c))], [.ref (a), .int (10), .int (nI p.2.2.2), .ref (a + 4)]))) rfl ?_
            refine XV.getf C (ci := 3) (kf := 3) (v := .ref (a + 4)) (xlk_ok okT_readSign rfl) rfl (by decide) wF_T_21 (by omega) (by omega) ((blk_is h a 5 (textC a tx len p)) 0 (by decide)) rfl ?_
            refine XV.run C okT_readSign 1 (q := (140, ([some (.ref (a)), some (.int (nI w)), some (.int (c))], [.ref (a), .ref (a + 4), .int (10), .int (nI p.2.2.2), .ref (a + 4)]))) rfl ?_
            refine XV.getf C (ci := 3) (kf := 5) (v := .int (nI p.2.2.2)) (xlk_ok okT_readSign rfl) rfl (by decide) wF_T_28 (by omega) (by omega) ((blk_is h a 5 (textC a tx len p)) 0 (by decide)) rfl ?_
            refine XV.ialdC C (N := 15) (f := p.2.2.1) (a := p.2.2.2) (xlk_ok okT_readSign rfl) (by omega) (by omega) ((blk_is h a 5 (textC a tx len p)) 4 (by decide)) (rfl) (by omega) (by decide) ?_
            refine XV.run C okT_readSign 5 (q := (150, ([some (.ref (a)), some (.int (nI w)), some (.int (c))], [.int (((10 * (p.2.2.1 p.2.2.2)) + c) - 48), .int (nI p.2.2.2), .ref (a + 4)]))) rfl ?_
            refine XV.iastC C (N := 15) (f := p.2.2.1) (a := p.2.2.2) (xlk_ok okT_readSign rfl) (by omega) (by omega) ((blk_is h a 5 (textC a tx len p)) 4 (by decide)) (rfl) (by omega) (by decide) ?_
            refine XV.cast (setText_4 h a tx len p (upd p.2.2.1 p.2.2.2 (((10 * (p.2.2.1 p.2.2.2)) + c) - 48))) ?_
            exact XV.vret C (xlk_ok okT_readSign rfl) hret (Nat.le_of_ble_eq_true rfl) (Nat.le_of_ble_eq_true rfl) (⟨rfl, rfl, congrArg (setText h a tx len) (rs_fin hp hw (by first | exact Or.inl ⟨hp15, rfl⟩ | exact Or.inr ⟨hp15, by first | exact Or.inl ⟨c1, rfl⟩ | exact Or.inr ⟨c1, by first | exact Or.inl ⟨c2, rfl⟩ | exact Or.inr ⟨c2, by first | exact Or.inl ⟨c3, rfl⟩ | exact Or.inr ⟨c3, by first | exact Or.inl ⟨Or.inl c4, rfl⟩ | exact Or.inl ⟨Or.inr (Or.inl c5), rfl⟩ | exact Or.inl ⟨Or.inr (Or.inr c6), rfl⟩ | exact Or.inr ⟨c4, c5, c6, rfl⟩⟩⟩⟩⟩))⟩)
          ·
            refine XV.run C okT_readSign 2 (q := (116, ([some (.ref (a)), some (.int (nI w)), some (.int (c))], [.int (5), .int (nI w)]))) rfl ?_
            refine XV.icmp_eq C (tgt := 125) (xlk_ok okT_readSign rfl) rfl (fun c5 => ?_) (fun c5 => ?_)
            ·
              refine XV.run C okT_readSign 1 (q := (126, ([some (.ref (a)), some (.int (nI w)), some (.int (c))], [.ref (a)]))) rfl ?_
              refine XV.getf C (ci := 3) (kf := 3) (v := .ref (a + 4)) (xlk_ok okT_readSign rfl) rfl (by decide) wF_T_21 (by omega) (by omega) ((blk_is h a 5 (textC a tx len p)) 0 (by decide)) rfl ?_
              refine XV.run C okT_readSign 1 (q := (130, ([some (.ref (a)), some (.int (nI w)), some (.int (c))], [.ref (a), .ref (a + 4)]))) rfl ?_
              refine XV.getf C (ci := 3) (kf := 5) (v := .int (nI p.2.2.2)) (xlk_ok okT_readSign rfl) rfl (by decide) wF_T_28 (by omega) (by omega) ((blk_is h a 5 (textC a tx len p)) 0 (by decide)) rfl ?_
              refine XV.run C okT_readSign 2 (q := (136, ([some (.ref (a)), some (.int (nI w)), some (.int (c))], [.ref (a), .int (10), .int (nI p.2.2.2), .ref (a + 4)]))) rfl ?_
              refine XV.getf C (ci := 3) (kf := 3) (v := .ref (a + 4)) (xlk_ok okT_readSign rfl) rfl (by decide) wF_T_21 (by omega) (by omega) ((blk_is h a 5 (textC a tx len p)) 0 (by decide)) rfl ?_
              refine XV.run C okT_readSign 1 (q := (140, ([some (.ref (a)), some (.int (nI w)), some (.int (c))], [.ref (a), .ref (a + 4), .int (10), .int (nI p.2.2.2), .ref (a + 4)]))) rfl ?_
              refine XV.getf C (ci := 3) (kf := 5) (v := .int (nI p.2.2.2)) (xlk_ok okT_readSign rfl) rfl (by decide) wF_T_28 (by omega) (by omega) ((blk_is h a 5 (textC a tx len p)) 0 (by decide)) rfl ?_
              refine XV.ialdC C (N := 15) (f := p.2.2.1) (a := p.2.2.2) (xlk_ok okT_readSign rfl) (by omega) (by omega) ((blk_is h a 5 (textC a tx len p)) 4 (by decide)) (rfl) (by omega) (by decide) ?_
              refine XV.run C okT_readSign 5 (q := (150, ([some (.ref (a)), some (.int (nI w)), some (.int (c))], [.int (((10 * (p.2.2.1 p.2.2.2)) + c) - 48), .int (nI p.2.2.2), .ref (a + 4)]))) rfl ?_
              refine XV.iastC C (N := 15) (f := p.2.2.1) (a := p.2.2.2) (xlk_ok okT_readSign rfl) (by omega) (by omega) ((blk_is h a 5 (textC a tx len p)) 4 (by decide)) (rfl) (by omega) (by decide) ?_
              refine XV.cast (setText_4 h a tx len p (upd p.2.2.1 p.2.2.2 (((10 * (p.2.2.1 p.2.2.2)) + c) - 48))) ?_
              exact XV.vret C (xlk_ok okT_readSign rfl) hret (Nat.le_of_ble_eq_true rfl) (Nat.le_of_ble_eq_true rfl) (⟨rfl, rfl, congrArg (setText h a tx len) (rs_fin hp hw (by first | exact Or.inl ⟨hp15, rfl⟩ | exact Or.inr ⟨hp15, by first | exact Or.inl ⟨c1, rfl⟩ | exact Or.inr ⟨c1, by first | exact Or.inl ⟨c2, rfl⟩ | exact Or.inr ⟨c2, by first | exact Or.inl ⟨c3, rfl⟩ | exact Or.inr ⟨c3, by first | exact Or.inl ⟨Or.inl c4, rfl⟩ | exact Or.inl ⟨Or.inr (Or.inl c5), rfl⟩ | exact Or.inl ⟨Or.inr (Or.inr c6), rfl⟩ | exact Or.inr ⟨c4, c5, c6, rfl⟩⟩⟩⟩⟩))⟩)
            ·
              refine XV.run C okT_readSign 2 (q := (122, ([some (.ref (a)), some (.int (nI w)), some (.int (c))], [.int (6), .int (nI w)]))) rfl ?_
              refine XV.icmp_ne C (tgt := 151) (xlk_ok okT_readSign rfl) rfl (fun c6 => ?_) (fun c6 => ?_)
              ·
                exact XV.vret C (xlk_ok okT_readSign rfl) hret (Nat.le_of_ble_eq_true rfl) (Nat.le_of_ble_eq_true rfl) (⟨rfl, rfl, congrArg (setText h a tx len) (rs_fin hp hw (by first | exact Or.inl ⟨hp15, rfl⟩ | exact Or.inr ⟨hp15, by first | exact Or.inl ⟨c1, rfl⟩ | exact Or.inr ⟨c1, by first | exact Or.inl ⟨c2, rfl⟩ | exact Or.inr ⟨c2, by first | exact Or.inl ⟨c3, rfl⟩ | exact Or.inr ⟨c3, by first | exact Or.inl ⟨Or.inl c4, rfl⟩ | exact Or.inl ⟨Or.inr (Or.inl c5), rfl⟩ | exact Or.inl ⟨Or.inr (Or.inr c6), rfl⟩ | exact Or.inr ⟨c4, c5, c6, rfl⟩⟩⟩⟩⟩))⟩)
              ·
                refine XV.run C okT_readSign 1 (q := (126, ([some (.ref (a)), some (.int (nI w)), some (.int (c))], [.ref (a)]))) rfl ?_
                refine XV.getf C (ci := 3) (kf := 3) (v := .ref (a + 4)) (xlk_ok okT_readSign rfl) rfl (by decide) wF_T_21 (by omega) (by omega) ((blk_is h a 5 (textC a tx len p)) 0 (by decide)) rfl ?_
                refine XV.run C okT_readSign 1 (q := (130, ([some (.ref (a)), some (.int (nI w)), some (.int (c))], [.ref (a), .ref (a + 4)]))) rfl ?_
                refine XV.getf C (ci := 3) (kf := 5) (v := .int (nI p.2.2.2)) (xlk_ok okT_readSign rfl) rfl (by decide) wF_T_28 (by omega) (by omega) ((blk_is h a 5 (textC a tx len p)) 0 (by decide)) rfl ?_
                refine XV.run C okT_readSign 2 (q := (136, ([some (.ref (a)), some (.int (nI w)), some (.int (c))], [.ref (a), .int (10), .int (nI p.2.2.2), .ref (a + 4)]))) rfl ?_
                refine XV.getf C (ci := 3) (kf := 3) (v := .ref (a + 4)) (xlk_ok okT_readSign rfl) rfl (by decide) wF_T_21 (by omega) (by omega) ((blk_is h a 5 (textC a tx len p)) 0 (by decide)) rfl ?_
                refine XV.run C okT_readSign 1 (q := (140, ([some (.ref (a)), some (.int (nI w)), some (.int (c))], [.ref (a), .ref (a + 4), .int (10), .int (nI p.2.2.2), .ref (a + 4)]))) rfl ?_
                refine XV.getf C (ci := 3) (kf := 5) (v := .int (nI p.2.2.2)) (xlk_ok okT_readSign rfl) rfl (by decide) wF_T_28 (by omega) (by omega) ((blk_is h a 5 (textC a tx len p)) 0 (by decide)) rfl ?_
                refine XV.ialdC C (N := 15) (f := p.2.2.1) (a := p.2.2.2) (xlk_ok okT_readSign rfl) (by omega) (by omega) ((blk_is h a 5 (textC a tx len p)) 4 (by decide)) (rfl) (by omega) (by decide) ?_
                refine XV.run C okT_readSign 5 (q := (150, ([some (.ref (a)), some (.int (nI w)), some (.int (c))], [.int (((10 * (p.2.2.1 p.2.2.2)) + c) - 48), .int (nI p.2.2.2), .ref (a + 4)]))) rfl ?_
                refine XV.iastC C (N := 15) (f := p.2.2.1) (a := p.2.2.2) (xlk_ok okT_readSign rfl) (by omega) (by omega) ((blk_is h a 5 (textC a tx len p)) 4 (by decide)) (rfl) (by omega) (by decide) ?_
                refine XV.cast (setText_4 h a tx len p (upd p.2.2.1 p.2.2.2 (((10 * (p.2.2.1 p.2.2.2)) + c) - 48))) ?_
                exact XV.vret C (xlk_ok okT_readSign rfl) hret (Nat.le_of_ble_eq_true rfl) (Nat.le_of_ble_eq_true rfl) (⟨rfl, rfl, congrArg (setText h a tx len) (rs_fin hp hw (by first | exact Or.inl ⟨hp15, rfl⟩ | exact Or.inr ⟨hp15, by first | exact Or.inl ⟨c1, rfl⟩ | exact Or.inr ⟨c1, by first | exact Or.inl ⟨c2, rfl⟩ | exact Or.inr ⟨c2, by first | exact Or.inl ⟨c3, rfl⟩ | exact Or.inr ⟨c3, by first | exact Or.inl ⟨Or.inl c4, rfl⟩ | exact Or.inl ⟨Or.inr (Or.inl c5), rfl⟩ | exact Or.inl ⟨Or.inr (Or.inr c6), rfl⟩ | exact Or.inr ⟨c4, c5, c6, rfl⟩⟩⟩⟩⟩))⟩)
        ·
          refine XV.run C okT_readSign 1 (q := (94, ([some (.ref (a)), some (.int (nI w)), some (.int (c))], [.ref (a)]))) rfl ?_
          refine XV.getf C (ci := 3) (kf := 2) (v := .ref (a + 3)) (xlk_ok okT_readSign rfl) rfl (by decide) wF_T_18 (by omega) (by omega) ((blk_is h a 5 (textC a tx len p)) 0 (by decide)) rfl ?_
          refine XV.run C okT_readSign 1 (q := (98, ([some (.ref (a)), some (.int (nI w)), some (.int (c))], [.ref (a), .ref (a + 3)]))) rfl ?_
          refine XV.getf C (ci := 3) (kf := 5) (v := .int (nI p.2.2.2)) (xlk_ok okT_readSign rfl) rfl (by decide) wF_T_28 (by omega) (by omega) ((blk_is h a 5 (textC a tx len p)) 0 (by decide)) rfl ?_
          refine XV.run C okT_readSign 3 (q := (105, ([some (.ref (a)), some (.int (nI w)), some (.int (c))], [.int (c - 48), .int (nI p.2.2.2), .ref (a + 3)]))) rfl ?_
          refine XV.iastC C (N := 15) (f := p.2.1) (a := p.2.2.2) (xlk_ok okT_readSign rfl) (by omega) (by omega) ((blk_is h a 5 (textC a tx len p)) 3 (by decide)) (rfl) (by omega) (by decide) ?_
          refine XV.cast (setText_3 h a tx len p (upd p.2.1 p.2.2.2 (c - 48))) ?_
          refine XV.run C okT_readSign 1 (q := (151, ([some (.ref (a)), some (.int (nI w)), some (.int (c))], []))) rfl ?_
          exact XV.vret C (xlk_ok okT_readSign rfl) hret (Nat.le_of_ble_eq_true rfl) (Nat.le_of_ble_eq_true rfl) (⟨rfl, rfl, congrArg (setText h a tx len) (rs_fin hp hw (by first | exact Or.inl ⟨hp15, rfl⟩ | exact Or.inr ⟨hp15, by first | exact Or.inl ⟨c1, rfl⟩ | exact Or.inr ⟨c1, by first | exact Or.inl ⟨c2, rfl⟩ | exact Or.inr ⟨c2, by first | exact Or.inl ⟨c3, rfl⟩ | exact Or.inr ⟨c3, by first | exact Or.inl ⟨Or.inl c4, rfl⟩ | exact Or.inl ⟨Or.inr (Or.inl c5), rfl⟩ | exact Or.inl ⟨Or.inr (Or.inr c6), rfl⟩ | exact Or.inr ⟨c4, c5, c6, rfl⟩⟩⟩⟩⟩))⟩)
      ·
        refine XV.run C okT_readSign 1 (q := (63, ([some (.ref (a)), some (.int (nI w)), some (.int (c))], [.ref (a)]))) rfl ?_
        refine XV.getf C (ci := 3) (kf := 1) (v := .ref (a + 2)) (xlk_ok okT_readSign rfl) rfl (by decide) wF_T_15 (by omega) (by omega) ((blk_is h a 5 (textC a tx len p)) 0 (by decide)) rfl ?_
        refine XV.run C okT_readSign 1 (q := (67, ([some (.ref (a)), some (.int (nI w)), some (.int (c))], [.ref (a), .ref (a + 2)]))) rfl ?_
        refine XV.getf C (ci := 3) (kf := 5) (v := .int (nI p.2.2.2)) (xlk_ok okT_readSign rfl) rfl (by decide) wF_T_28 (by omega) (by omega) ((blk_is h a 5 (textC a tx len p)) 0 (by decide)) rfl ?_
        refine XV.run C okT_readSign 3 (q := (74, ([some (.ref (a)), some (.int (nI w)), some (.int (c))], [.int (c - 48), .int (nI p.2.2.2), .ref (a + 2)]))) rfl ?_
        refine XV.iastC C (N := 15) (f := p.1) (a := p.2.2.2) (xlk_ok okT_readSign rfl) (by omega) (by omega) ((blk_is h a 5 (textC a tx len p)) 2 (by decide)) (rfl) (by omega) (by decide) ?_
        refine XV.cast (setText_2 h a tx len p (upd p.1 p.2.2.2 (c - 48))) ?_
        refine XV.run C okT_readSign 1 (q := (76, ([some (.ref (a)), some (.int (nI w)), some (.int (c))], [.ref (a)]))) rfl ?_
        refine XV.getf C (ci := 3) (kf := 3) (v := .ref (a + 4)) (xlk_ok okT_readSign rfl) rfl (by decide) wF_T_21 (by omega) (by omega) ((blk_is h a 5 (textC a tx len ((upd p.1 p.2.2.2 (c - 48)), (p.2.1, (p.2.2.1, p.2.2.2))))) 0 (by decide)) rfl ?_
        refine XV.run C okT_readSign 1 (q := (80, ([some (.ref (a)), some (.int (nI w)), some (.int (c))], [.ref (a), .ref (a + 4)]))) rfl ?_
        refine XV.getf C (ci := 3) (kf := 5) (v := .int (nI p.2.2.2)) (xlk_ok okT_readSign rfl) rfl (by decide) wF_T_28 (by omega) (by omega) ((blk_is h a 5 (textC a tx len ((upd p.1 p.2.2.2 (c - 48)), (p.2.1, (p.2.2.1, p.2.2.2))))) 0 (by decide)) rfl ?_
        refine XV.run C okT_readSign 1 (q := (84, ([some (.ref (a)), some (.int (nI w)), some (.int (c))], [.int (0), .int (nI p.2.2.2), .ref (a + 4)]))) rfl ?_
        refine XV.iastC C (N := 15) (f := p.2.2.1) (a := p.2.2.2) (xlk_ok okT_readSign rfl) (by omega) (by omega) ((blk_is h a 5 (textC a tx len ((upd p.1 p.2.2.2 (c - 48)), (p.2.1, (p.2.2.1, p.2.2.2))))) 4 (by decide)) (rfl) (by omega) (by decide) ?_
        refine XV.cast (setText_4 h a tx len ((upd p.1 p.2.2.2 (c - 48)), (p.2.1, (p.2.2.1, p.2.2.2))) (upd p.2.2.1 p.2.2.2 (0))) ?_
        refine XV.run C okT_readSign 1 (q := (151, ([some (.ref (a)), some (.int (nI w)), some (.int (c))], []))) rfl ?_
        exact XV.vret C (xlk_ok okT_readSign rfl) hret (Nat.le_of_ble_eq_true rfl) (Nat.le_of_ble_eq_true rfl) (⟨rfl, rfl, congrArg (setText h a tx len) (rs_fin hp hw (by first | exact Or.inl ⟨hp15, rfl⟩ | exact Or.inr ⟨hp15, by first | exact Or.inl ⟨c1, rfl⟩ | exact Or.inr ⟨c1, by first | exact Or.inl ⟨c2, rfl⟩ | exact Or.inr ⟨c2, by first | exact Or.inl ⟨c3, rfl⟩ | exact Or.inr ⟨c3, by first | exact Or.inl ⟨Or.inl c4, rfl⟩ | exact Or.inl ⟨Or.inr (Or.inl c5), rfl⟩ | exact Or.inl ⟨Or.inr (Or.inr c6), rfl⟩ | exact Or.inr ⟨c4, c5, c6, rfl⟩⟩⟩⟩⟩))⟩)
    ·
      refine XV.run C okT_readSign 1 (q := (24, ([some (.ref (a)), some (.int (nI w)), some (.int (c))], [.ref (a)]))) rfl ?_
      refine XV.getf C (ci := 3) (kf := 3) (v := .ref (a + 4)) (xlk_ok okT_readSign rfl) rfl (by decide) wF_T_21 (by omega) (by omega) ((blk_is h a 5 (textC a tx len p)) 0 (by decide)) rfl ?_
      refine XV.run C okT_readSign 1 (q := (28, ([some (.ref (a)), some (.int (nI w)), some (.int (c))], [.ref (a), .ref (a + 4)]))) rfl ?_
      refine XV.getf C (ci := 3) (kf := 5) (v := .int (nI p.2.2.2)) (xlk_ok okT_readSign rfl) rfl (by decide) wF_T_28 (by omega) (by omega) ((blk_is h a 5 (textC a tx len p)) 0 (by decide)) rfl ?_
      refine XV.run C okT_readSign 1 (q := (32, ([some (.ref (a)), some (.int (nI w)), some (.int (c))], [.ref (a), .int (nI p.2.2.2), .ref (a + 4)]))) rfl ?_
      refine XV.getf C (ci := 3) (kf := 3) (v := .ref (a + 4)) (xlk_ok okT_readSign rfl) rfl (by decide) wF_T_21 (by omega) (by omega) ((blk_is h a 5 (textC a tx len p)) 0 (by decide)) rfl ?_
      refine XV.run C okT_readSign 1 (q := (36, ([some (.ref (a)), some (.int (nI w)), some (.int (c))], [.ref (a), .ref (a + 4), .int (nI p.2.2.2), .ref (a + 4)]))) rfl ?_
      refine XV.getf C (ci := 3) (kf := 5) (v := .int (nI p.2.2.2)) (xlk_ok okT_readSign rfl) rfl (by decide) wF_T_28 (by omega) (by omega) ((blk_is h a 5 (textC a tx len p)) 0 (by decide)) rfl ?_
      refine XV.ialdC C (N := 15) (f := p.2.2.1) (a := p.2.2.2) (xlk_ok okT_readSign rfl) (by omega) (by omega) ((blk_is h a 5 (textC a tx len p)) 4 (by decide)) (rfl) (by omega) (by decide) ?_
      refine XV.run C okT_readSign 1 (q := (41, ([some (.ref (a)), some (.int (nI w)), some (.int (c))], [.int (1), .int (p.2.2.1 p.2.2.2), .int (nI p.2.2.2), .ref (a + 4)]))) rfl ?_
      refine XV.mmax C (xlk_ok okT_readSign rfl) wM_T_43 (Nat.le_of_ble_eq_true rfl) (Nat.le_of_ble_eq_true rfl) (Nat.le_of_ble_eq_true rfl) (Nat.le_of_ble_eq_true rfl) ?_
      refine XV.iastC C (N := 15) (f := p.2.2.1) (a := p.2.2.2) (xlk_ok okT_readSign rfl) (by omega) (by omega) ((blk_is h a 5 (textC a tx len p)) 4 (by decide)) (rfl) (by omega) (by decide) ?_
      refine XV.cast (setText_4 h a tx len p (upd p.2.2.1 p.2.2.2 (if p.2.2.1 p.2.2.2 < 1 then 1 else p.2.2.1 p.2.2.2))) ?_
      refine XV.run C okT_readSign 2 (q := (47, ([some (.ref (a)), some (.int (nI w)), some (.int (c))], [.ref (a), .ref (a)]))) rfl ?_
      refine XV.getf C (ci := 3) (kf := 5) (v := .int (nI p.2.2.2)) (xlk_ok okT_readSign rfl) rfl (by decide) wF_T_28 (by omega) (by omega) ((blk_is h a 5 (textC a tx len (p.1, (p.2.1, ((upd p.2.2.1 p.2.2.2 (if p.2.2.1 p.2.2.2 < 1 then 1 else p.2.2.1 p.2.2.2)), p.2.2.2))))) 0 (by decide)) rfl ?_
      refine XV.run C okT_readSign 2 (q := (52, ([some (.ref (a)), some (.int (nI w)), some (.int (c))], [.int ((nI p.2.2.2) + 1), .ref (a)]))) rfl ?_
      rw [show ((nI p.2.2.2) + 1 : Int32) = nI (p.2.2.2 + 1) from nI_1 _]
      refine XV.putf C (ci := 3) (kf := 5) (ty := .int) (xlk_ok okT_readSign rfl) rfl (by decide) wF_T_28 (by omega) (by omega) ((blk_is h a 5 (textC a tx len (p.1, (p.2.1, ((upd p.2.2.1 p.2.2.2 (if p.2.2.1 p.2.2.2 < 1 then 1 else p.2.2.1 p.2.2.2)), p.2.2.2))))) 0 (by decide)) rfl rfl rfl rfl (Nat.le_of_ble_eq_true rfl) ?_
      refine XV.cast (setText_hd h a tx len len (p.1, (p.2.1, ((upd p.2.2.1 p.2.2.2 (if p.2.2.1 p.2.2.2 < 1 then 1 else p.2.2.1 p.2.2.2)), p.2.2.2))) (p.2.2.2 + 1)) ?_
      refine XV.run C okT_readSign 1 (q := (151, ([some (.ref (a)), some (.int (nI w)), some (.int (c))], []))) rfl ?_
      exact XV.vret C (xlk_ok okT_readSign rfl) hret (Nat.le_of_ble_eq_true rfl) (Nat.le_of_ble_eq_true rfl) (⟨rfl, rfl, congrArg (setText h a tx len) (rs_fin hp hw (by first | exact Or.inl ⟨hp15, rfl⟩ | exact Or.inr ⟨hp15, by first | exact Or.inl ⟨c1, rfl⟩ | exact Or.inr ⟨c1, by first | exact Or.inl ⟨c2, rfl⟩ | exact Or.inr ⟨c2, by first | exact Or.inl ⟨c3, rfl⟩ | exact Or.inr ⟨c3, by first | exact Or.inl ⟨Or.inl c4, rfl⟩ | exact Or.inl ⟨Or.inr (Or.inl c5), rfl⟩ | exact Or.inl ⟨Or.inr (Or.inr c6), rfl⟩ | exact Or.inr ⟨c4, c5, c6, rfl⟩⟩⟩⟩⟩))⟩)
  ·
    have hp15 : 15 ≤ p.2.2.2 := Nat.le_of_not_lt fun q => c0 (nI_lt (b := 15) q (by omega))
    exact XV.vret C (xlk_ok okT_readSign rfl) hret (Nat.le_of_ble_eq_true rfl) (Nat.le_of_ble_eq_true rfl) (⟨rfl, rfl, congrArg (setText h a tx len) (rs_fin hp hw (by first | exact Or.inl ⟨hp15, rfl⟩ | exact Or.inr ⟨hp15, by first | exact Or.inl ⟨c1, rfl⟩ | exact Or.inr ⟨c1, by first | exact Or.inl ⟨c2, rfl⟩ | exact Or.inr ⟨c2, by first | exact Or.inl ⟨c3, rfl⟩ | exact Or.inr ⟨c3, by first | exact Or.inl ⟨Or.inl c4, rfl⟩ | exact Or.inl ⟨Or.inr (Or.inl c5), rfl⟩ | exact Or.inl ⟨Or.inr (Or.inr c6), rfl⟩ | exact Or.inr ⟨c4, c5, c6, rfl⟩⟩⟩⟩⟩))⟩)
theorem setText_set (h : XH) (a : Nat) (tx : Nat → Int32) (len : Nat) (p q : PT) : setText (setText h a tx len p) a tx len q = setText h a tx len q := blk_blk _ _ _ _ _
set_option maxHeartbeats 4000000 in
set_option maxRecDepth 100000 in
theorem ct_T_readParts {l : Launch} (hfl : l.stackTraces = false) {G : XG} {n : Nat} {h : XH} {a : Nat} {tx : Nat → Int32} {len : Nat} {p : PT} (hT : IsText h a tx len p) (a4 : 4 ≤ a) (an : a + 5 ≤ n + 4) (hlen : len ≤ 60) : XCt l G False (Cond.code yT_readParts bT_readParts 5 (some .boolean)) yT_readParts 3 61 0 0 [.ref (a)] n h (fun r' n' h' => r' = some (.int (if (rpK tx len (len + 1) 0 0 (p.1, (p.2.1, (p.2.2.1, 0)))).1 then 1 else 0)) ∧ n' = n ∧ h' = setText h a tx len (rpK tx len (len + 1) 0 0 (p.1, (p.2.1, (p.2.2.1, 0)))).2) (fun _ _ _ => False) := by
  refine XCt.of hfl (by decide +kernel) (Nat.le_of_ble_eq_true rfl) ?_
  intro p' e' s' m' g' b' t' c' C hret hname hnt hmd
  refine XV.cast (setText_self hT).symm ?_
  refine XV.run C okT_readParts 2 (q := (2, ([some (.ref (a)), none, none, none, none], [.int (0), .ref (a)]))) rfl ?_
  rw [show (0 : Int32) = nI 0 from rfl]
  refine XV.putf C (ci := 3) (kf := 5) (ty := .int) (xlk_ok okT_readParts rfl) rfl (by decide) wF_T_28 (by omega) (by omega) ((blk_is h a 5 (textC a tx len p)) 0 (by decide)) rfl rfl rfl rfl (Nat.le_of_ble_eq_true rfl) ?_
  refine XV.cast (setText_hd h a tx len len p 0) ?_
  refine XV.run C okT_readParts 4 (q := (9, ([some (.ref (a)), some (.int (0)), some (.int (0)), none, none], []))) rfl ?_
  have loop : ∀ (d j w : Nat) (q : PT), j + d = len + 1 → w ≤ 7 → q.2.2.2 ≤ 15 → rpK tx len d w j q = rpK tx len (len + 1) 0 0 (p.1, (p.2.1, (p.2.2.1, 0))) → XV G 5 p' l e' ({ frames := 3, cells := 0, slots := 0, locals := 61 } : Room) s' m' g' b' t' c' (XEnd G b' (fun r' n' h' => r' = some (.int (if (rpK tx len (len + 1) 0 0 (p.1, (p.2.1, (p.2.2.1, 0)))).1 then 1 else 0)) ∧ n' = n ∧ h' = setText h a tx len (rpK tx len (len + 1) 0 0 (p.1, (p.2.1, (p.2.2.1, 0)))).2) (fun _ _ _ => False) g' s' 0 0) 9 [some (.ref (a)), some (.int (nI w)), some (.int (nI j)), none, none] [] n (setText h a tx len q) 0 0 := by
    intro d
    induction d with
    | zero =>
      intro j w q hj hw hq hv
      refine XV.run C okT_readParts 2 (q := (11, ([some (.ref (a)), some (.int (nI w)), some (.int (nI j)), none, none], [.ref (a), .int (nI j)]))) rfl ?_
      refine XV.getf C (ci := 3) (kf := 4) (v := .int (nI len)) (xlk_ok okT_readParts rfl) rfl (by decide) wF_T_24 (by omega) (by omega) ((blk_is h a 5 (textC a tx len q)) 0 (by decide)) rfl ?_
      refine XV.icmp_gt C (tgt := 53) (xlk_ok okT_readParts rfl) rfl (fun _ => ?_) (fun hc => absurd (nI_lt (by omega) (by omega)) hc)
      refine XV.run C okT_readParts 1 (q := (54, ([some (.ref (a)), some (.int (nI w)), some (.int (nI j)), none, none], [.int (1)]))) rfl ?_
      exact XV.iret C (xlk_ok okT_readParts rfl) hret (rfl) (Nat.le_of_ble_eq_true rfl) (Nat.le_of_ble_eq_true rfl) (⟨by rw [← hv] <;> rfl, rfl, by rw [← hv] <;> rfl⟩)
    | succ d ih =>
      intro j w q hj hw hq hv
      refine XV.run C okT_readParts 2 (q := (11, ([some (.ref (a)), some (.int (nI w)), some (.int (nI j)), none, none], [.ref (a), .int (nI j)]))) rfl ?_
      refine XV.getf C (ci := 3) (kf := 4) (v := .int (nI len)) (xlk_ok okT_readParts rfl) rfl (by decide) wF_T_24 (by omega) (by omega) ((blk_is h a 5 (textC a tx len q)) 0 (by decide)) rfl ?_
      refine XV.icmp_gt C (tgt := 53) (xlk_ok okT_readParts rfl) rfl (fun hc => absurd hc (nI_nlt (by omega) (by omega))) (fun _ => ?_)
      refine XV.run C okT_readParts 2 (q := (19, ([some (.ref (a)), some (.int (nI w)), some (.int (nI j)), none, none], [.int (nI j), .ref (a)]))) rfl ?_
      refine XV.callV C (As := [.int (nI j)]) (rest := []) (ci := 3) (ct_T_signAt hfl (blk_is h a 5 (textC a tx len q)) (by omega) (by omega) hlen (i := j) (rfl) (by omega)) (xlk_ok okT_readParts rfl) rfl (by omega) (by omega) rfl ((blk_is h a 5 (textC a tx len q)) 0 (by decide)) rfl wM_T_31 wI_T_signAt wV_T_signAt wN_T wB_T_signAt hy_T_signAt (fun q => q.elim) ⟨Nat.le_of_ble_eq_true rfl, Nat.le_of_ble_eq_true rfl⟩ ⟨Nat.le_of_ble_eq_true rfl, Nat.le_of_ble_eq_true rfl⟩ (Nat.le_of_ble_eq_true rfl) (fun r n h hp => ?_) (fun _ _ _ q => q.elim)
      obtain ⟨rfl, rfl, rfl⟩ := hp
      refine XV.run C okT_readParts 3 (q := (25, ([some (.ref (a)), some (.int (nI w)), some (.int (nI j)), some (.int (sgn tx len j)), none], [.int (sgn tx len j), .int (nI w)]))) rfl ?_
      refine XV.callS C (As := [.int (nI w), .int (sgn tx len j)]) (rest := []) (ct_T_stateAfter hfl (w := w) (rfl) (hw) (sgn tx len j)) (xlk_ok okT_readParts rfl) rfl wM_T_35 wS_T_stateAfter wN_T wB_T_stateAfter hy_T_stateAfter (fun q => q.elim) ⟨Nat.le_of_ble_eq_true rfl, Nat.le_of_ble_eq_true rfl⟩ ⟨Nat.le_of_ble_eq_true rfl, Nat.le_of_ble_eq_true rfl⟩ (Nat.le_of_ble_eq_true rfl) (fun r n h hp => ?_) (fun _ _ _ q => q.elim)
      obtain ⟨rfl, rfl, rfl⟩ := hp
      refine XV.run C okT_readParts 3 (q := (33, ([some (.ref (a)), some (.int (nI w)), some (.int (nI j)), some (.int (sgn tx len j)), some (.int (stI (stp w (sgn tx len j))))], [.int ((-1)), .int (stI (stp w (sgn tx len j)))]))) rfl ?_
      refine XV.icmp_ne C (tgt := 38) (xlk_ok okT_readParts rfl) rfl (fun c1 => ?_) (fun c1 => ?_)
      ·
        have hs : ∃ w2, stp w (sgn tx len j) = some w2 := by
          cases hq2 : stp w (sgn tx len j) with
          | none => rw [hq2] at c1; exact absurd rfl c1
          | some w2 => exact ⟨w2, rfl⟩
        obtain ⟨w2, hs⟩ := hs
        refine XV.run C okT_readParts 3 (q := (41, ([some (.ref (a)), some (.int (nI w)), some (.int (nI j)), some (.int (sgn tx len j)), some (.int (stI (stp w (sgn tx len j))))], [.int (sgn tx len j), .int (nI w), .ref (a)]))) rfl ?_
        refine XV.callV C (As := [.int (nI w), .int (sgn tx len j)]) (rest := []) (ci := 3) (ct_T_readSign hfl (blk_is h a 5 (textC a tx len q)) (by omega) (by omega) hlen (w := w) (rfl) (hw) (sgn tx len j) (hq)) (xlk_ok okT_readParts rfl) rfl (by omega) (by omega) rfl ((blk_is h a 5 (textC a tx len q)) 0 (by decide)) rfl wM_T_39 wI_T_readSign wV_T_readSign wN_T wB_T_readSign hy_T_readSign (fun q => q.elim) ⟨Nat.le_of_ble_eq_true rfl, Nat.le_of_ble_eq_true rfl⟩ ⟨Nat.le_of_ble_eq_true rfl, Nat.le_of_ble_eq_true rfl⟩ (Nat.le_of_ble_eq_true rfl) (fun r n h hp => ?_) (fun _ _ _ q => q.elim)
        obtain ⟨rfl, rfl, rfl⟩ := hp
        refine XV.cast (setText_set h a tx len q (rsK w (sgn tx len j) q)) ?_
        refine XV.run C okT_readParts 4 (q := (9, ([some (.ref (a)), some (.int (stI (stp w (sgn tx len j)))), some (.int ((nI j) + 1)), some (.int (sgn tx len j)), some (.int (stI (stp w (sgn tx len j))))], []))) rfl ?_
        rw [nI_1, hs]
        exact XV.drop (ih (j + 1) w2 (rsK w (sgn tx len j) q) (by omega) (stp_le hs) (rsK_le hq) (by rw [rpK_some hs] at hv; exact hv)) rfl (by simp [xle, stI])
      ·
        have hs : stp w (sgn tx len j) = none := by
          cases hq2 : stp w (sgn tx len j) with
          | none => rfl
          | some w2 =>
            have h7 := stp_le hq2
            rw [hq2] at c1
            exact absurd c1 (st_ne h7)
        refine XV.run C okT_readParts 1 (q := (37, ([some (.ref (a)), some (.int (nI w)), some (.int (nI j)), some (.int (sgn tx len j)), some (.int (stI (stp w (sgn tx len j))))], [.int (0)]))) rfl ?_
        exact XV.iret C (xlk_ok okT_readParts rfl) hret (rfl) (Nat.le_of_ble_eq_true rfl) (Nat.le_of_ble_eq_true rfl) (⟨by rw [← hv, rpK_none hs] <;> rfl, rfl, by rw [← hv, rpK_none hs]⟩)
  exact loop (len + 1) 0 0 _ (by omega) (by omega) (Nat.zero_le _) rfl
theorem sumN_s0 (g : Nat → Int32) (j : Nat) : sumN g 0 (j + 1) = sumN g 0 j + g j := by
  show sumN g 0 j + g (0 + j) = _
  rw [Nat.zero_add]
set_option maxHeartbeats 4000000 in
set_option maxRecDepth 100000 in
theorem ct_T_tripsOfParts {l : Launch} (hfl : l.stackTraces = false) {G : XG} {n : Nat} {h : XH} {a : Nat} {tx : Nat → Int32} {len : Nat} {p : PT} (hT : IsText h a tx len p) (a4 : 4 ≤ a) (an : a + 5 ≤ n + 4) (hlen : len ≤ 60) (hp : p.2.2.2 ≤ 15) : XCt l G False (Cond.code yT_tripsOfParts bT_tripsOfParts 3 (some .int)) yT_tripsOfParts 0 0 0 0 [.ref (a)] n h (fun r' n' h' => r' = some (.int (sumN p.2.2.1 0 p.2.2.2)) ∧ n' = n ∧ h' = h) (fun _ _ _ => False) := by
  refine XCt.of hfl (by decide +kernel) (Nat.le_of_ble_eq_true rfl) ?_
  intro p' e' s' m' g' b' t' c' C hret hname hnt hmd
  refine XV.run C okT_tripsOfParts 4 (q := (4, ([some (.ref (a)), some (.int (0)), some (.int (0))], []))) rfl ?_
  have loop : ∀ (d j : Nat), j + d = p.2.2.2 → XV G 3 p' l e' ({ frames := 0, cells := 0, slots := 0, locals := 0 } : Room) s' m' g' b' t' c' (XEnd G b' (fun r' n' h' => r' = some (.int (sumN p.2.2.1 0 p.2.2.2)) ∧ n' = n ∧ h' = h) (fun _ _ _ => False) g' s' 0 0) 4 [some (.ref (a)), some (.int (sumN p.2.2.1 0 j)), some (.int (nI j))] [] n h 0 0 := by
    intro d
    induction d with
    | zero =>
      intro j hj
      refine XV.run C okT_tripsOfParts 2 (q := (6, ([some (.ref (a)), some (.int (sumN p.2.2.1 0 j)), some (.int (nI j))], [.ref (a), .int (nI j)]))) rfl ?_
      refine XV.getf C (ci := 3) (kf := 5) (v := .int (nI p.2.2.2)) (xlk_ok okT_tripsOfParts rfl) rfl (by decide) wF_T_28 (by omega) (by omega) (hT 0 (by decide)) rfl ?_
      refine XV.icmp_ge C (tgt := 33) (xlk_ok okT_tripsOfParts rfl) rfl (fun _ => ?_) (fun hc => absurd (nI_le (by omega) (by omega)) hc)
      refine XV.run C okT_tripsOfParts 1 (q := (34, ([some (.ref (a)), some (.int (sumN p.2.2.1 0 j)), some (.int (nI j))], [.int (sumN p.2.2.1 0 j)]))) rfl ?_
      exact XV.iret C (xlk_ok okT_tripsOfParts rfl) hret rfl (Nat.le_of_ble_eq_true rfl) (Nat.le_of_ble_eq_true rfl) (⟨by rw [show j = p.2.2.2 by omega], rfl, rfl⟩)
    | succ d ih =>
      intro j hj
      refine XV.run C okT_tripsOfParts 2 (q := (6, ([some (.ref (a)), some (.int (sumN p.2.2.1 0 j)), some (.int (nI j))], [.ref (a), .int (nI j)]))) rfl ?_
      refine XV.getf C (ci := 3) (kf := 5) (v := .int (nI p.2.2.2)) (xlk_ok okT_tripsOfParts rfl) rfl (by decide) wF_T_28 (by omega) (by omega) (hT 0 (by decide)) rfl ?_
      refine XV.icmp_ge C (tgt := 33) (xlk_ok okT_tripsOfParts rfl) rfl (fun hc => absurd hc (nI_ge (by omega) (by omega))) (fun _ => ?_)
      refine XV.run C okT_tripsOfParts 2 (q := (15, ([some (.ref (a)), some (.int (sumN p.2.2.1 0 j)), some (.int (nI j))], [.int (15), .int (nI j)]))) rfl ?_
      refine XV.icmp_ge C (tgt := 33) (xlk_ok okT_tripsOfParts rfl) rfl (fun hc => absurd hc (nI_ge (b := 15) (by omega) (by omega))) (fun _ => ?_)
      refine XV.run C okT_tripsOfParts 2 (q := (20, ([some (.ref (a)), some (.int (sumN p.2.2.1 0 j)), some (.int (nI j))], [.ref (a), .int (sumN p.2.2.1 0 j)]))) rfl ?_
      refine XV.getf C (ci := 3) (kf := 3) (v := .ref (a + 4)) (xlk_ok okT_tripsOfParts rfl) rfl (by decide) wF_T_21 (by omega) (by omega) (hT 0 (by decide)) rfl ?_
      refine XV.run C okT_tripsOfParts 1 (q := (24, ([some (.ref (a)), some (.int (sumN p.2.2.1 0 j)), some (.int (nI j))], [.int (nI j), .ref (a + 4), .int (sumN p.2.2.1 0 j)]))) rfl ?_
      refine XV.ialdC C (N := 15) (f := p.2.2.1) (a := j) (xlk_ok okT_tripsOfParts rfl) (by omega) (by omega) (hT 4 (by decide)) (rfl) (by omega) (by decide) ?_
      refine XV.run C okT_tripsOfParts 4 (q := (4, ([some (.ref (a)), some (.int ((sumN p.2.2.1 0 j) + (p.2.2.1 j))), some (.int ((nI j) + 1))], []))) rfl ?_
      rw [nI_1]
      have w := ih (j + 1) (by omega)
      rw [sumN_s0] at w
      exact w
  exact loop p.2.2.2 0 (by omega)
