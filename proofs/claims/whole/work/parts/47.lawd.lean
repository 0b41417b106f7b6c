/-! The law: clearBuffer, firstError, run, undo, unseen, countedShare, digest -/
section LAWC
variable {l : Launch} {G : XG} {p' : Program} {e' : Env} {s' : State} {m' : MethodId} {g' : Array Value} {b' : List Frame} {t' : Method} {c' : Code} {Q : State → Prop} {k ks j : Nat} {hb : XH} {f : Nat → Int32} {o kp : Nat} {P : Nat → Nat → Int32} {tx : Nat → Int32} {len : Nat} {p : PT} {ρ pa tr td F : Nat → Int32} {fo : Nat → Int64}
def kL_law8 : List (Nat × (Instr × Nat)) := [(664, (.aload_n 1, 1)), (665, (.invokevirtual 109, 3)), (668, (.aload_n 2, 1)), (669, (.invokevirtual 112, 3)), (672, (.if_icmp .eq 718, 3)), (675, (.iconst 0, 1)), (676, (.ireturn, 1))]
set_option maxRecDepth 100000 in
theorem okL_law8 : ∀ a ∈ kL_law8, decode code a.1 = .ok a.2 := by decide +kernel
set_option maxHeartbeats 4000000 in
set_option maxRecDepth 100000 in
theorem law_c8 (hfl : l.stackTraces = false) (hL : xL G < 2 ^ 31) (C : XCx G l "RopeThreadsLaw" code 9 p' s' m' g' t' c') (hk8 : k + 8 ≤ 601024) (hks : ks + 48 ≤ 7293034) (hj : 4 * j + 4 ≤ xL G) (h219 : hb 219 = outC fo) (hI : LI f o kp P len pa F) (kk : ∀ (hb : XH) (f : Nat → Int32) (o kp : Nat) (P : Nat → Nat → Int32) (tx : Nat → Int32) (len : Nat) (p : PT) (ρ pa tr td F : Nat → Int32) (fo : Nat → Int64), hb 219 = outC fo → LI f o kp P len pa F → XV G 9 p' l e' room_1 s' m' g' b' t' c' Q 1390 [some (.ref 0), some (.ref 4), some (.ref 213), some (.ref 219), some (.int (nI (4 * j))), none, none, none, none] [] 216 (setM (setCW hb f o kp P tx len p ρ) f pa tr tx td F) (k + 8) (ks + 48)) : XV G 9 p' l e' room_1 s' m' g' b' t' c' Q 664 [some (.ref 0), some (.ref 4), some (.ref 213), some (.ref 219), some (.int (nI (4 * j))), none, none, none, none] [] 216 (setM (setCW hb f o kp P tx len p ρ) f pa tr tx td F) (k) (ks) := by
  obtain ⟨⟨k9, m9, tt9, hO⟩, ho, hk6, hPR, hl6, hF2, hF5⟩ := hI
  have hm := hO.1
  have hk := hO.2.1
  have hl := hO.live
  obtain ⟨z, hz, z1, z2⟩ := hO.2.2.2.2.2.2.1.1
  have kI : (nI k9).toInt = (k9 : Int) := nI_tI (by omega)
  refine XV.cast lw_0 ?_
  refine XV.run C okL_law8 1 (q := (665, ([some (.ref (0)), some (.ref (4)), some (.ref (213)), some (.ref (219)), some (.int (nI (4 * j))), none, none, none, none], [.ref (4)]))) rfl ?_
  refine XV.callV C (As := []) (rest := []) (ci := 4) (ct_C_clearBuffer hfl (by decide)) (xlk_ok okL_law8 rfl) rfl (by decide) (by decide) rfl (cw_o) rfl wM_L_109 wI_C_clearBuffer wV_C_clearBuffer wN_C wB_C_clearBuffer hy_C_clearBuffer (fun q => q.elim) ⟨Nat.le_of_ble_eq_true rfl, Nat.le_of_ble_eq_true rfl⟩ ⟨room_c (by omega), room_s (by omega)⟩ (Nat.le_of_ble_eq_true rfl) (fun r n h hp => ?_) (fun _ _ _ q => q.elim)
  obtain ⟨-, rfl, rfl, rfl⟩ := hp
  refine XV.cast lw_0.symm ?_
  refine XV.run C okL_law8 1 (q := (669, ([some (.ref (0)), some (.ref (4)), some (.ref (213)), some (.ref (219)), some (.int (nI (4 * j))), none, none, none, none], [.ref (213), .int (nI len)]))) rfl ?_
  refine XV.callV C (As := []) (rest := [.int (nI len)]) (ci := 5) (ct_M_clearBuffer hfl (by decide)) (xlk_ok okL_law8 rfl) rfl (by decide) (by decide) rfl (mw_o) rfl wM_L_112 wI_M_clearBuffer wV_M_clearBuffer wN_M wB_M_clearBuffer hy_M_clearBuffer (fun q => q.elim) ⟨Nat.le_of_ble_eq_true rfl, Nat.le_of_ble_eq_true rfl⟩ ⟨room_c (by omega), room_s (by omega)⟩ (Nat.le_of_ble_eq_true rfl) (fun r n h hp => ?_) (fun _ _ _ q => q.elim)
  obtain ⟨rfl, rfl, rfl⟩ := hp
  refine XV.icmp_eq C (tgt := 1390) (xlk_ok okL_law8 rfl) rfl (fun _ => ?_) (fun hc => absurd (((upd_ne (by decide)).trans hF5).symm) hc)
  exact XV.widen (by omega) (by omega) (XV.drop (kk _ _ _ _ _ _ _ _ _ _ _ _ _ _ h219 ⟨⟨_, _, _, hO⟩, ho, hk6, hPR, Nat.zero_le 60, (upd_ne (by decide)).trans ((upd_ne (by decide)).trans hF2), upd_eq.trans nI_0.symm⟩) rfl (by simp [xle]))
def kL_law9 : List (Nat × (Instr × Nat)) := [(677, (.aload_n 1, 1)), (678, (.invokevirtual 113, 3)), (681, (.aload_n 2, 1)), (682, (.invokevirtual 116, 3)), (685, (.if_icmp .eq 705, 3)), (688, (.iconst 0, 1)), (689, (.ireturn, 1))]
set_option maxRecDepth 100000 in
theorem okL_law9 : ∀ a ∈ kL_law9, decode code a.1 = .ok a.2 := by decide +kernel
set_option maxHeartbeats 4000000 in
set_option maxRecDepth 100000 in
theorem law_c9 (hfl : l.stackTraces = false) (hL : xL G < 2 ^ 31) (C : XCx G l "RopeThreadsLaw" code 9 p' s' m' g' t' c') (hk8 : k + 8 ≤ 601024) (hks : ks + 48 ≤ 7293034) (hj : 4 * j + 4 ≤ xL G) (h219 : hb 219 = outC fo) (hI : LI f o kp P len pa F) (kk : ∀ (hb : XH) (f : Nat → Int32) (o kp : Nat) (P : Nat → Nat → Int32) (tx : Nat → Int32) (len : Nat) (p : PT) (ρ pa tr td F : Nat → Int32) (fo : Nat → Int64), hb 219 = outC fo → LI f o kp P len pa F → XV G 9 p' l e' room_1 s' m' g' b' t' c' Q 1390 [some (.ref 0), some (.ref 4), some (.ref 213), some (.ref 219), some (.int (nI (4 * j))), none, none, none, none] [] 216 (setM (setCW hb f o kp P tx len p ρ) f pa tr tx td F) (k + 8) (ks + 48)) : XV G 9 p' l e' room_1 s' m' g' b' t' c' Q 677 [some (.ref 0), some (.ref 4), some (.ref 213), some (.ref 219), some (.int (nI (4 * j))), none, none, none, none] [] 216 (setM (setCW hb f o kp P tx len p ρ) f pa tr tx td F) (k) (ks) := by
  obtain ⟨⟨k9, m9, tt9, hO⟩, ho, hk6, hPR, hl6, hF2, hF5⟩ := hI
  have hm := hO.1
  have hk := hO.2.1
  have hl := hO.live
  obtain ⟨z, hz, z1, z2⟩ := hO.2.2.2.2.2.2.1.1
  have kI : (nI k9).toInt = (k9 : Int) := nI_tI (by omega)
  refine XV.cast lw_0 ?_
  refine XV.run C okL_law9 1 (q := (678, ([some (.ref (0)), some (.ref (4)), some (.ref (213)), some (.ref (219)), some (.int (nI (4 * j))), none, none, none, none], [.ref (4)]))) rfl ?_
  refine XV.callV C (As := []) (rest := []) (ci := 4) (ct_C_firstError hfl (by decide) hl6) (xlk_ok okL_law9 rfl) rfl (by decide) (by decide) rfl (cw_o) rfl wM_L_113 wI_C_firstError wV_C_firstError wN_C wB_C_firstError hy_C_firstError (fun q => q.elim) ⟨Nat.le_of_ble_eq_true rfl, Nat.le_of_ble_eq_true rfl⟩ ⟨room_c (by omega), room_s (by omega)⟩ (Nat.le_of_ble_eq_true rfl) (fun r n h hp => ?_) (fun _ _ _ q => q.elim)
  obtain ⟨-, rfl, rfl, rfl⟩ := hp
  refine XV.cast lw_0.symm ?_
  refine XV.run C okL_law9 1 (q := (682, ([some (.ref (0)), some (.ref (4)), some (.ref (213)), some (.ref (219)), some (.int (nI (4 * j))), none, none, none, none], [.ref (213), .int (nI (epK tx len 0 0))]))) rfl ?_
  refine XV.callV C (As := []) (rest := [.int (nI (epK tx len 0 0))]) (ci := 5) (ct_M_firstError hfl (by decide) hF5 hl6) (xlk_ok okL_law9 rfl) rfl (by decide) (by decide) rfl (mw_o) rfl wM_L_116 wI_M_firstError wV_M_firstError wN_M wB_M_firstError hy_M_firstError (fun q => q.elim) ⟨Nat.le_of_ble_eq_true rfl, Nat.le_of_ble_eq_true rfl⟩ ⟨room_c (by omega), room_s (by omega)⟩ (Nat.le_of_ble_eq_true rfl) (fun r n h hp => ?_) (fun _ _ _ q => q.elim)
  obtain ⟨rfl, rfl, F1, td1, ⟨g5, g2, g6⟩, rfl⟩ := hp
  refine XV.icmp_eq C (tgt := 1390) (xlk_ok okL_law9 rfl) rfl (fun _ => ?_) (fun hc => absurd (congrArg nI (text_all hl6 td p).1) hc)
  exact XV.widen (by omega) (by omega) (XV.drop (kk _ _ _ _ _ _ _ _ _ _ _ _ _ _ h219 ⟨⟨_, _, _, hO⟩, ho, hk6, hPR, hl6, g2.trans hF2, g5.trans hF5⟩) rfl (by simp [xle]))
def kL_law10 : List (Nat × (Instr × Nat)) := [(690, (.aload_n 1, 1)), (691, (.aload_n 3, 1)), (692, (.invokestatic 117, 3)), (695, (.istore 5, 2)), (697, (.aload_n 2, 1)), (698, (.invokevirtual 120, 3)), (701, (.istore 6, 2)), (703, (.aload_n 2, 1)), (704, (.invokevirtual 83, 3)), (707, (.iload 5, 2)), (709, (.if_icmp .eq 5, 3)), (712, (.iconst 0, 1)), (713, (.ireturn, 1)), (714, (.iload 5, 2)), (716, (.ifCond .ne 15, 3)), (719, (.aload_n 3, 1)), (720, (.iconst 0, 1)), (721, (.laload, 1)), (722, (.iload 6, 2)), (724, (.i2l, 1)), (725, (.lcmp, 1)), (726, (.ifCond .eq 5, 3)), (729, (.iconst 0, 1)), (730, (.ireturn, 1)), (731, (.goto 659, 3))]
set_option maxRecDepth 100000 in
theorem okL_law10 : ∀ a ∈ kL_law10, decode code a.1 = .ok a.2 := by decide +kernel
set_option maxHeartbeats 4000000 in
set_option maxRecDepth 100000 in
theorem law_c10 (hfl : l.stackTraces = false) (hL : xL G < 2 ^ 31) (C : XCx G l "RopeThreadsLaw" code 9 p' s' m' g' t' c') (hk8 : k + 8 ≤ 601024) (hks : ks + 48 ≤ 7293034) (hj : 4 * j + 4 ≤ xL G) (h219 : hb 219 = outC fo) (hI : LI f o kp P len pa F) (kk : ∀ (hb : XH) (f : Nat → Int32) (o kp : Nat) (P : Nat → Nat → Int32) (tx : Nat → Int32) (len : Nat) (p : PT) (ρ pa tr td F : Nat → Int32) (fo : Nat → Int64), hb 219 = outC fo → LI f o kp P len pa F → XV G 9 p' l e' room_1 s' m' g' b' t' c' Q 1390 [some (.ref 0), some (.ref 4), some (.ref 213), some (.ref 219), some (.int (nI (4 * j))), none, none, none, none] [] 216 (setM (setCW hb f o kp P tx len p ρ) f pa tr tx td F) (k + 8) (ks + 48)) : XV G 9 p' l e' room_1 s' m' g' b' t' c' Q 690 [some (.ref 0), some (.ref 4), some (.ref 213), some (.ref 219), some (.int (nI (4 * j))), none, none, none, none] [] 216 (setM (setCW hb f o kp P tx len p ρ) f pa tr tx td F) (k) (ks) := by
  obtain ⟨⟨k9, m9, tt9, hO⟩, ho, hk6, hPR, hl6, hF2, hF5⟩ := hI
  have hm := hO.1
  have hk := hO.2.1
  have hl := hO.live
  obtain ⟨z, hz, z1, z2⟩ := hO.2.2.2.2.2.2.1.1
  have kI : (nI k9).toInt = (k9 : Int) := nI_tI (by omega)
  have eT := (text_all (tx := tx) hl6 td p).2.1
  refine XV.cast lw_0 ?_
  refine XV.run C okL_law10 2 (q := (692, ([some (.ref (0)), some (.ref (4)), some (.ref (213)), some (.ref (219)), some (.int (nI (4 * j))), none, none, none, none], [.ref (219), .ref (4)]))) rfl ?_
  refine XV.callSX C (As := [.ref (4), .ref (219)]) (rest := []) (ct_L_run hfl (by decide) hm hk hl hz z1 z2 ho hk6 hl6 (by decide) ((blk_out (Or.inr (by decide))).trans h219)) (xlk_ok okL_law10 rfl) rfl wM_L_117 wS_L_run wN_L wB_L_run hy_L_run (fun q => q.elim) ⟨Nat.le_of_ble_eq_true rfl, Nat.le_of_ble_eq_true rfl⟩ ⟨room_c (by omega), room_s (by omega)⟩ (Nat.le_of_ble_eq_true rfl) (fun r n h hp => ?_) (fun _ _ _ q => q.elim)
  obtain ⟨rfl, hp⟩ := hp
  rcases hp with ⟨hc, rfl, rfl⟩ | ⟨hc, rfl, rfl⟩ | ⟨hc, rfl, rfl⟩
  ·
    refine XV.cast lw_1 ?_
    refine XV.run C okL_law10 2 (q := (698, ([some (.ref (0)), some (.ref (4)), some (.ref (213)), some (.ref (219)), some (.int (nI (4 * j))), some (.int (0)), none, none, none], [.ref (213)]))) rfl ?_
    refine XV.callV C (As := []) (rest := []) (ci := 5) (ct_M_run hfl (by decide) hF5 hl6 hm hk hl hz z1 z2 hF2 hk6) (xlk_ok okL_law10 rfl) rfl (by decide) (by decide) rfl (mw_o) rfl wM_L_120 wI_M_run wV_M_run wN_M wB_M_run hy_M_run (fun q => q.elim) ⟨Nat.le_of_ble_eq_true rfl, Nat.le_of_ble_eq_true rfl⟩ ⟨room_c (by omega), room_s (by omega)⟩ (Nat.le_of_ble_eq_true rfl) (fun r n h hp => ?_) (fun _ _ _ q => q.elim)
    obtain ⟨rfl, ⟨v, rfl⟩, hp⟩ := hp
    rcases hp with ⟨hd, F1, td1, ⟨g5, g2, g6⟩, rfl⟩ | ⟨hd, hdn, F1, td1, ⟨g5, g2, g6⟩, rfl⟩ | ⟨hd, hdc, hr, F1, td1, ⟨g5, g2, g6⟩, rfl⟩
    ·
      exact Bool.noConfusion ((hc.1.symm.trans eT).trans hd)
    ·
      exact absurd ⟨(hO.can z2).mp hc.2.1, by rw [← (run_eq (p := p) hl6 hO hd).1]; exact hc.2.2⟩ hdn
    ·
      cases hr
      have hR := run_eq (p := p) hl6 hO hd
      obtain ⟨tt8, h8⟩ := hR.2.2 hc.2.2
      refine XV.run C okL_law10 2 (q := (704, ([some (.ref (0)), some (.ref (4)), some (.ref (213)), some (.ref (219)), some (.int (nI (4 * j))), some (.int (0)), some (.int (runK f k9 (ptM (txM tx len 16 0 0 td).2.2.2) (txM tx len 16 0 0 td).2.2.1 7)), none, none], [.ref (213)]))) rfl ?_
      refine XV.callV C (As := []) (rest := []) (ci := 5) (ct_M_thrown hfl (by decide)) (xlk_ok okL_law10 rfl) rfl (by decide) (by decide) rfl (mw_o) rfl wM_L_83 wI_M_thrown wV_M_thrown wN_M wB_M_thrown hy_M_thrown (fun q => q.elim) ⟨Nat.le_of_ble_eq_true rfl, Nat.le_of_ble_eq_true rfl⟩ ⟨room_c (by omega), room_s (by omega)⟩ (Nat.le_of_ble_eq_true rfl) (fun r n h hp => ?_) (fun _ _ _ q => q.elim)
      obtain ⟨rfl, rfl, rfl⟩ := hp
      refine XV.run C okL_law10 1 (q := (709, ([some (.ref (0)), some (.ref (4)), some (.ref (213)), some (.ref (219)), some (.int (nI (4 * j))), some (.int (0)), some (.int (runK f k9 (ptM (txM tx len 16 0 0 td).2.2.2) (txM tx len 16 0 0 td).2.2.1 7)), none, none], [.int (0), .int (F1 6)]))) rfl ?_
      refine XV.icmp_eq C (tgt := 714) (xlk_ok okL_law10 rfl) rfl (fun _ => ?_) (fun hc => absurd (g6) hc)
      refine XV.run C okL_law10 1 (q := (716, ([some (.ref (0)), some (.ref (4)), some (.ref (213)), some (.ref (219)), some (.int (nI (4 * j))), some (.int (0)), some (.int (runK f k9 (ptM (txM tx len 16 0 0 td).2.2.2) (txM tx len 16 0 0 td).2.2.1 7)), none, none], [.int (0)]))) rfl ?_
      refine XV.if_ne C (tgt := 731) (xlk_ok okL_law10 rfl) rfl (fun hc => absurd (rfl) hc) (fun _ => ?_)
      refine XV.run C okL_law10 2 (q := (721, ([some (.ref (0)), some (.ref (4)), some (.ref (213)), some (.ref (219)), some (.int (nI (4 * j))), some (.int (0)), some (.int (runK f k9 (ptM (txM tx len 16 0 0 td).2.2.2) (txM tx len 16 0 0 td).2.2.1 7)), none, none], [.int (0), .ref (219)]))) rfl ?_
      refine XV.lald C (N := 1) (a := 0) (f := vp_updL fo 0 (runK f k9 (rdK tx len p).2 (rdK tx len p).2.2.2.2 7).toInt64) (xlk_ok okL_law10 rfl) (by decide) (by decide) (lw_219 (xup_at hb 219 _)) rfl (by decide) (by decide) ?_
      rw [upL_0]
      refine XV.run C okL_law10 3 (q := (726, ([some (.ref (0)), some (.ref (4)), some (.ref (213)), some (.ref (219)), some (.int (nI (4 * j))), some (.int (0)), some (.int (runK f k9 (ptM (txM tx len 16 0 0 td).2.2.2) (txM tx len 16 0 0 td).2.2.1 7)), none, none], [.int (lg_cmp ((runK f k9 (rdK tx len p).2 (rdK tx len p).2.2.2.2 7).toInt64) ((runK f k9 (ptM (txM tx len 16 0 0 td).2.2.2) (txM tx len 16 0 0 td).2.2.1 7).toInt64))]))) rfl ?_
      refine XV.if_eq C (tgt := 731) (xlk_ok okL_law10 rfl) rfl (fun _ => ?_) (fun hc => absurd (lcmp_eq (congrArg Int32.toInt64 (congrFun hR.2.1 7))) hc)
      refine XV.run C okL_law10 1 (q := (1390, ([some (.ref (0)), some (.ref (4)), some (.ref (213)), some (.ref (219)), some (.int (nI (4 * j))), some (.int (0)), some (.int (runK f k9 (ptM (txM tx len 16 0 0 td).2.2.2) (txM tx len 16 0 0 td).2.2.1 7)), none, none], []))) rfl ?_
      refine XV.cast (mw_ge hR.2.1.symm) ?_
      exact XV.widen (by omega) (by omega) (XV.drop (kk _ _ _ _ _ _ _ _ _ _ _ _ _ _ (xup_at hb 219 _) ⟨⟨_, _, _, h8⟩, kO_lt ho, kK_le hk6, PR_save ho hk6 hPR ⟨_, _, _, hO⟩, Nat.zero_le 60, g2, g5.trans nI_0.symm⟩) rfl (by simp [xle]))
  ·
    refine XV.cast lw_0.symm ?_
    refine XV.run C okL_law10 2 (q := (698, ([some (.ref (0)), some (.ref (4)), some (.ref (213)), some (.ref (219)), some (.int (nI (4 * j))), some (.int (1)), none, none, none], [.ref (213)]))) rfl ?_
    refine XV.callV C (As := []) (rest := []) (ci := 5) (ct_M_run hfl (by decide) hF5 hl6 hm hk hl hz z1 z2 hF2 hk6) (xlk_ok okL_law10 rfl) rfl (by decide) (by decide) rfl (mw_o) rfl wM_L_120 wI_M_run wV_M_run wN_M wB_M_run hy_M_run (fun q => q.elim) ⟨Nat.le_of_ble_eq_true rfl, Nat.le_of_ble_eq_true rfl⟩ ⟨room_c (by omega), room_s (by omega)⟩ (Nat.le_of_ble_eq_true rfl) (fun r n h hp => ?_) (fun _ _ _ q => q.elim)
    obtain ⟨rfl, ⟨v, rfl⟩, hp⟩ := hp
    rcases hp with ⟨hd, F1, td1, ⟨g5, g2, g6⟩, rfl⟩ | ⟨hd, hdn, F1, td1, ⟨g5, g2, g6⟩, rfl⟩ | ⟨hd, hdc, hr, F1, td1, ⟨g5, g2, g6⟩, rfl⟩
    ·
      refine XV.run C okL_law10 2 (q := (704, ([some (.ref (0)), some (.ref (4)), some (.ref (213)), some (.ref (219)), some (.int (nI (4 * j))), some (.int (1)), some (.int (v)), none, none], [.ref (213)]))) rfl ?_
      refine XV.callV C (As := []) (rest := []) (ci := 5) (ct_M_thrown hfl (by decide)) (xlk_ok okL_law10 rfl) rfl (by decide) (by decide) rfl (mw_o) rfl wM_L_83 wI_M_thrown wV_M_thrown wN_M wB_M_thrown hy_M_thrown (fun q => q.elim) ⟨Nat.le_of_ble_eq_true rfl, Nat.le_of_ble_eq_true rfl⟩ ⟨room_c (by omega), room_s (by omega)⟩ (Nat.le_of_ble_eq_true rfl) (fun r n h hp => ?_) (fun _ _ _ q => q.elim)
      obtain ⟨rfl, rfl, rfl⟩ := hp
      refine XV.run C okL_law10 1 (q := (709, ([some (.ref (0)), some (.ref (4)), some (.ref (213)), some (.ref (219)), some (.int (nI (4 * j))), some (.int (1)), some (.int (v)), none, none], [.int (1), .int (F1 6)]))) rfl ?_
      refine XV.icmp_eq C (tgt := 714) (xlk_ok okL_law10 rfl) rfl (fun _ => ?_) (fun hc => absurd (g6) hc)
      refine XV.run C okL_law10 1 (q := (716, ([some (.ref (0)), some (.ref (4)), some (.ref (213)), some (.ref (219)), some (.int (nI (4 * j))), some (.int (1)), some (.int (v)), none, none], [.int (1)]))) rfl ?_
      refine XV.if_ne C (tgt := 731) (xlk_ok okL_law10 rfl) rfl (fun _ => ?_) (fun hc => absurd hc (by decide))
      refine XV.run C okL_law10 1 (q := (1390, ([some (.ref (0)), some (.ref (4)), some (.ref (213)), some (.ref (219)), some (.int (nI (4 * j))), some (.int (1)), some (.int (v)), none, none], []))) rfl ?_
      exact XV.widen (by omega) (by omega) (XV.drop (kk _ _ _ _ _ _ _ _ _ _ _ _ _ _ h219 ⟨⟨_, _, _, hO⟩, ho, hk6, hPR, hl6, g2.trans hF2, g5.trans hF5⟩) rfl (by simp [xle]))
    ·
      exact Bool.noConfusion ((hc.symm.trans eT).trans hd)
    ·
      exact Bool.noConfusion ((hc.symm.trans eT).trans hd)
  ·
    refine XV.cast lw_0.symm ?_
    refine XV.run C okL_law10 2 (q := (698, ([some (.ref (0)), some (.ref (4)), some (.ref (213)), some (.ref (219)), some (.int (nI (4 * j))), some (.int (2)), none, none, none], [.ref (213)]))) rfl ?_
    refine XV.callV C (As := []) (rest := []) (ci := 5) (ct_M_run hfl (by decide) hF5 hl6 hm hk hl hz z1 z2 hF2 hk6) (xlk_ok okL_law10 rfl) rfl (by decide) (by decide) rfl (mw_o) rfl wM_L_120 wI_M_run wV_M_run wN_M wB_M_run hy_M_run (fun q => q.elim) ⟨Nat.le_of_ble_eq_true rfl, Nat.le_of_ble_eq_true rfl⟩ ⟨room_c (by omega), room_s (by omega)⟩ (Nat.le_of_ble_eq_true rfl) (fun r n h hp => ?_) (fun _ _ _ q => q.elim)
    obtain ⟨rfl, ⟨v, rfl⟩, hp⟩ := hp
    rcases hp with ⟨hd, F1, td1, ⟨g5, g2, g6⟩, rfl⟩ | ⟨hd, hdn, F1, td1, ⟨g5, g2, g6⟩, rfl⟩ | ⟨hd, hdc, hr, F1, td1, ⟨g5, g2, g6⟩, rfl⟩
    ·
      exact Bool.noConfusion ((hc.1.symm.trans eT).trans hd)
    ·
      refine XV.run C okL_law10 2 (q := (704, ([some (.ref (0)), some (.ref (4)), some (.ref (213)), some (.ref (219)), some (.int (nI (4 * j))), some (.int (2)), some (.int (v)), none, none], [.ref (213)]))) rfl ?_
      refine XV.callV C (As := []) (rest := []) (ci := 5) (ct_M_thrown hfl (by decide)) (xlk_ok okL_law10 rfl) rfl (by decide) (by decide) rfl (mw_o) rfl wM_L_83 wI_M_thrown wV_M_thrown wN_M wB_M_thrown hy_M_thrown (fun q => q.elim) ⟨Nat.le_of_ble_eq_true rfl, Nat.le_of_ble_eq_true rfl⟩ ⟨room_c (by omega), room_s (by omega)⟩ (Nat.le_of_ble_eq_true rfl) (fun r n h hp => ?_) (fun _ _ _ q => q.elim)
      obtain ⟨rfl, rfl, rfl⟩ := hp
      refine XV.run C okL_law10 1 (q := (709, ([some (.ref (0)), some (.ref (4)), some (.ref (213)), some (.ref (219)), some (.int (nI (4 * j))), some (.int (2)), some (.int (v)), none, none], [.int (2), .int (F1 6)]))) rfl ?_
      refine XV.icmp_eq C (tgt := 714) (xlk_ok okL_law10 rfl) rfl (fun _ => ?_) (fun hc => absurd (g6) hc)
      refine XV.run C okL_law10 1 (q := (716, ([some (.ref (0)), some (.ref (4)), some (.ref (213)), some (.ref (219)), some (.int (nI (4 * j))), some (.int (2)), some (.int (v)), none, none], [.int (2)]))) rfl ?_
      refine XV.if_ne C (tgt := 731) (xlk_ok okL_law10 rfl) rfl (fun _ => ?_) (fun hc => absurd hc (by decide))
      refine XV.run C okL_law10 1 (q := (1390, ([some (.ref (0)), some (.ref (4)), some (.ref (213)), some (.ref (219)), some (.int (nI (4 * j))), some (.int (2)), some (.int (v)), none, none], []))) rfl ?_
      exact XV.widen (by omega) (by omega) (XV.drop (kk _ _ _ _ _ _ _ _ _ _ _ _ _ _ h219 ⟨⟨_, _, _, hO⟩, ho, hk6, hPR, hl6, g2.trans hF2, g5.trans hF5⟩) rfl (by simp [xle]))
    ·
      exact absurd ⟨(hO.can z2).mpr hdc.1, by rw [(run_eq (p := p) hl6 hO hd).1]; exact hdc.2⟩ hc.2
def kL_law11 : List (Nat × (Instr × Nat)) := [(734, (.aload_n 1, 1)), (735, (.aload_n 3, 1)), (736, (.invokestatic 121, 3)), (739, (.istore 5, 2)), (741, (.aload_n 2, 1)), (742, (.invokevirtual 123, 3)), (745, (.istore 6, 2)), (747, (.aload_n 2, 1)), (748, (.invokevirtual 83, 3)), (751, (.iload 5, 2)), (753, (.if_icmp .eq 5, 3)), (756, (.iconst 0, 1)), (757, (.ireturn, 1)), (758, (.iload 5, 2)), (760, (.ifCond .ne 15, 3)), (763, (.aload_n 3, 1)), (764, (.iconst 0, 1)), (765, (.laload, 1)), (766, (.iload 6, 2)), (768, (.i2l, 1)), (769, (.lcmp, 1)), (770, (.ifCond .eq 5, 3)), (773, (.iconst 0, 1)), (774, (.ireturn, 1)), (775, (.goto 615, 3))]
set_option maxRecDepth 100000 in
theorem okL_law11 : ∀ a ∈ kL_law11, decode code a.1 = .ok a.2 := by decide +kernel
set_option maxHeartbeats 4000000 in
set_option maxRecDepth 100000 in
theorem law_c11 (hfl : l.stackTraces = false) (hL : xL G < 2 ^ 31) (C : XCx G l "RopeThreadsLaw" code 9 p' s' m' g' t' c') (hk8 : k + 8 ≤ 601024) (hks : ks + 48 ≤ 7293034) (hj : 4 * j + 4 ≤ xL G) (h219 : hb 219 = outC fo) (hI : LI f o kp P len pa F) (kk : ∀ (hb : XH) (f : Nat → Int32) (o kp : Nat) (P : Nat → Nat → Int32) (tx : Nat → Int32) (len : Nat) (p : PT) (ρ pa tr td F : Nat → Int32) (fo : Nat → Int64), hb 219 = outC fo → LI f o kp P len pa F → XV G 9 p' l e' room_1 s' m' g' b' t' c' Q 1390 [some (.ref 0), some (.ref 4), some (.ref 213), some (.ref 219), some (.int (nI (4 * j))), none, none, none, none] [] 216 (setM (setCW hb f o kp P tx len p ρ) f pa tr tx td F) (k + 8) (ks + 48)) : XV G 9 p' l e' room_1 s' m' g' b' t' c' Q 734 [some (.ref 0), some (.ref 4), some (.ref 213), some (.ref 219), some (.int (nI (4 * j))), none, none, none, none] [] 216 (setM (setCW hb f o kp P tx len p ρ) f pa tr tx td F) (k) (ks) := by
  obtain ⟨⟨k9, m9, tt9, hO⟩, ho, hk6, hPR, hl6, hF2, hF5⟩ := hI
  have hm := hO.1
  have hk := hO.2.1
  have hl := hO.live
  obtain ⟨z, hz, z1, z2⟩ := hO.2.2.2.2.2.2.1.1
  have kI : (nI k9).toInt = (k9 : Int) := nI_tI (by omega)
  refine XV.cast lw_0 ?_
  refine XV.run C okL_law11 2 (q := (736, ([some (.ref (0)), some (.ref (4)), some (.ref (213)), some (.ref (219)), some (.int (nI (4 * j))), none, none, none, none], [.ref (219), .ref (4)]))) rfl ?_
  refine XV.callSX C (As := [.ref (4), .ref (219)]) (rest := []) (ct_L_undo hfl (by decide) ho hk6 (by decide) ((blk_out (Or.inr (by decide))).trans h219)) (xlk_ok okL_law11 rfl) rfl wM_L_121 wS_L_undo wN_L wB_L_undo hy_L_undo (fun q => q.elim) ⟨Nat.le_of_ble_eq_true rfl, Nat.le_of_ble_eq_true rfl⟩ ⟨room_c (by omega), room_s (by omega)⟩ (Nat.le_of_ble_eq_true rfl) (fun r n h hp => ?_) (fun _ _ _ q => q.elim)
  obtain ⟨rfl, hp⟩ := hp
  rcases hp with ⟨j1, hc, rfl, rfl⟩ | ⟨hc, rfl, rfl⟩
  ·
    refine XV.cast lw_1 ?_
    refine XV.run C okL_law11 2 (q := (742, ([some (.ref (0)), some (.ref (4)), some (.ref (213)), some (.ref (219)), some (.int (nI (4 * j))), some (.int (0)), none, none, none], [.ref (213)]))) rfl ?_
    refine XV.callV C (As := []) (rest := []) (ci := 5) (ct_M_undo hfl (by decide) (kp := j1) (hF2.trans (congrArg nI hc)) (by omega)) (xlk_ok okL_law11 rfl) rfl (by decide) (by decide) rfl (mw_o) rfl wM_L_123 wI_M_undo wV_M_undo wN_M wB_M_undo hy_M_undo (fun q => q.elim) ⟨Nat.le_of_ble_eq_true rfl, Nat.le_of_ble_eq_true rfl⟩ ⟨room_c (by omega), room_s (by omega)⟩ (Nat.le_of_ble_eq_true rfl) (fun r n h hp => ?_) (fun _ _ _ q => q.elim)
    obtain ⟨rfl, rfl, rfl⟩ := hp
    refine XV.run C okL_law11 2 (q := (748, ([some (.ref (0)), some (.ref (4)), some (.ref (213)), some (.ref (219)), some (.int (nI (4 * j))), some (.int (0)), some (.int (nI j1)), none, none], [.ref (213)]))) rfl ?_
    refine XV.callV C (As := []) (rest := []) (ci := 5) (ct_M_thrown hfl (by decide)) (xlk_ok okL_law11 rfl) rfl (by decide) (by decide) rfl (mw_o) rfl wM_L_83 wI_M_thrown wV_M_thrown wN_M wB_M_thrown hy_M_thrown (fun q => q.elim) ⟨Nat.le_of_ble_eq_true rfl, Nat.le_of_ble_eq_true rfl⟩ ⟨room_c (by omega), room_s (by omega)⟩ (Nat.le_of_ble_eq_true rfl) (fun r n h hp => ?_) (fun _ _ _ q => q.elim)
    obtain ⟨rfl, rfl, rfl⟩ := hp
    refine XV.run C okL_law11 1 (q := (753, ([some (.ref (0)), some (.ref (4)), some (.ref (213)), some (.ref (219)), some (.int (nI (4 * j))), some (.int (0)), some (.int (nI j1)), none, none], [.int (0), .int ((upd (upd F 6 0) 2 (nI j1)) 6)]))) rfl ?_
    refine XV.icmp_eq C (tgt := 758) (xlk_ok okL_law11 rfl) rfl (fun _ => ?_) (fun hc => absurd ((upd_ne (by decide)).trans upd_eq) hc)
    refine XV.run C okL_law11 1 (q := (760, ([some (.ref (0)), some (.ref (4)), some (.ref (213)), some (.ref (219)), some (.int (nI (4 * j))), some (.int (0)), some (.int (nI j1)), none, none], [.int (0)]))) rfl ?_
    refine XV.if_ne C (tgt := 775) (xlk_ok okL_law11 rfl) rfl (fun hc => absurd (rfl) hc) (fun _ => ?_)
    refine XV.run C okL_law11 2 (q := (765, ([some (.ref (0)), some (.ref (4)), some (.ref (213)), some (.ref (219)), some (.int (nI (4 * j))), some (.int (0)), some (.int (nI j1)), none, none], [.int (0), .ref (219)]))) rfl ?_
    refine XV.lald C (N := 1) (a := 0) (f := vp_updL fo 0 (nI j1).toInt64) (xlk_ok okL_law11 rfl) (by decide) (by decide) (lw_219 (xup_at hb 219 _)) rfl (by decide) (by decide) ?_
    rw [upL_0]
    refine XV.run C okL_law11 3 (q := (770, ([some (.ref (0)), some (.ref (4)), some (.ref (213)), some (.ref (219)), some (.int (nI (4 * j))), some (.int (0)), some (.int (nI j1)), none, none], [.int (lg_cmp ((nI j1).toInt64) ((nI j1).toInt64))]))) rfl ?_
    refine XV.if_eq C (tgt := 775) (xlk_ok okL_law11 rfl) rfl (fun _ => ?_) (fun hc => absurd (lcmp_eq (congrArg Int32.toInt64 (rfl))) hc)
    refine XV.run C okL_law11 1 (q := (1390, ([some (.ref (0)), some (.ref (4)), some (.ref (213)), some (.ref (219)), some (.int (nI (4 * j))), some (.int (0)), some (.int (nI j1)), none, none], []))) rfl ?_
    refine XV.cast (mw_gc (fun q hq => ((hPR j1 (by omega)).2 q hq).symm)) ?_
    exact XV.widen (by omega) (by omega) (XV.drop (kk _ _ _ _ _ _ _ _ _ _ _ _ _ _ (xup_at hb 219 _) ⟨(hPR j1 (by omega)).1, ho, by omega, fun i hi => hPR i (by omega), hl6, upd_eq, (upd_ne (by decide)).trans ((upd_ne (by decide)).trans hF5)⟩) rfl (by simp [xle]))
  ·
    refine XV.cast lw_0.symm ?_
    refine XV.run C okL_law11 2 (q := (742, ([some (.ref (0)), some (.ref (4)), some (.ref (213)), some (.ref (219)), some (.int (nI (4 * j))), some (.int (1)), none, none, none], [.ref (213)]))) rfl ?_
    refine XV.callV C (As := []) (rest := []) (ci := 5) (ct_M_undo_0 hfl (by decide) (hF2.trans (congrArg nI hc))) (xlk_ok okL_law11 rfl) rfl (by decide) (by decide) rfl (mw_o) rfl wM_L_123 wI_M_undo wV_M_undo wN_M wB_M_undo hy_M_undo (fun q => q.elim) ⟨Nat.le_of_ble_eq_true rfl, Nat.le_of_ble_eq_true rfl⟩ ⟨room_c (by omega), room_s (by omega)⟩ (Nat.le_of_ble_eq_true rfl) (fun r n h hp => ?_) (fun _ _ _ q => q.elim)
    obtain ⟨rfl, rfl, rfl⟩ := hp
    refine XV.run C okL_law11 2 (q := (748, ([some (.ref (0)), some (.ref (4)), some (.ref (213)), some (.ref (219)), some (.int (nI (4 * j))), some (.int (1)), some (.int (0)), none, none], [.ref (213)]))) rfl ?_
    refine XV.callV C (As := []) (rest := []) (ci := 5) (ct_M_thrown hfl (by decide)) (xlk_ok okL_law11 rfl) rfl (by decide) (by decide) rfl (mw_o) rfl wM_L_83 wI_M_thrown wV_M_thrown wN_M wB_M_thrown hy_M_thrown (fun q => q.elim) ⟨Nat.le_of_ble_eq_true rfl, Nat.le_of_ble_eq_true rfl⟩ ⟨room_c (by omega), room_s (by omega)⟩ (Nat.le_of_ble_eq_true rfl) (fun r n h hp => ?_) (fun _ _ _ q => q.elim)
    obtain ⟨rfl, rfl, rfl⟩ := hp
    refine XV.run C okL_law11 1 (q := (753, ([some (.ref (0)), some (.ref (4)), some (.ref (213)), some (.ref (219)), some (.int (nI (4 * j))), some (.int (1)), some (.int (0)), none, none], [.int (1), .int ((upd (upd F 6 0) 6 1) 6)]))) rfl ?_
    refine XV.icmp_eq C (tgt := 758) (xlk_ok okL_law11 rfl) rfl (fun _ => ?_) (fun hc => absurd (upd_eq) hc)
    refine XV.run C okL_law11 1 (q := (760, ([some (.ref (0)), some (.ref (4)), some (.ref (213)), some (.ref (219)), some (.int (nI (4 * j))), some (.int (1)), some (.int (0)), none, none], [.int (1)]))) rfl ?_
    refine XV.if_ne C (tgt := 775) (xlk_ok okL_law11 rfl) rfl (fun _ => ?_) (fun hc => absurd hc (by decide))
    refine XV.run C okL_law11 1 (q := (1390, ([some (.ref (0)), some (.ref (4)), some (.ref (213)), some (.ref (219)), some (.int (nI (4 * j))), some (.int (1)), some (.int (0)), none, none], []))) rfl ?_
    exact XV.widen (by omega) (by omega) (XV.drop (kk _ _ _ _ _ _ _ _ _ _ _ _ _ _ h219 ⟨⟨_, _, _, hO⟩, ho, hk6, hPR, hl6, (upd_ne (by decide)).trans ((upd_ne (by decide)).trans hF2), (upd_ne (by decide)).trans ((upd_ne (by decide)).trans hF5)⟩) rfl (by simp [xle]))
def kL_law20 : List (Nat × (Instr × Nat)) := [(1322, (.aload_n 1, 1)), (1323, (.invokevirtual 148, 3)), (1326, (.aload_n 2, 1)), (1327, (.invokevirtual 151, 3)), (1330, (.if_icmp .eq 60, 3)), (1333, (.iconst 0, 1)), (1334, (.ireturn, 1))]
set_option maxRecDepth 100000 in
theorem okL_law20 : ∀ a ∈ kL_law20, decode code a.1 = .ok a.2 := by decide +kernel
set_option maxHeartbeats 4000000 in
set_option maxRecDepth 100000 in
theorem law_c20 (hfl : l.stackTraces = false) (hL : xL G < 2 ^ 31) (C : XCx G l "RopeThreadsLaw" code 9 p' s' m' g' t' c') (hk8 : k + 8 ≤ 601024) (hks : ks + 48 ≤ 7293034) (hj : 4 * j + 4 ≤ xL G) (h219 : hb 219 = outC fo) (hI : LI f o kp P len pa F) (kk : ∀ (hb : XH) (f : Nat → Int32) (o kp : Nat) (P : Nat → Nat → Int32) (tx : Nat → Int32) (len : Nat) (p : PT) (ρ pa tr td F : Nat → Int32) (fo : Nat → Int64), hb 219 = outC fo → LI f o kp P len pa F → XV G 9 p' l e' room_1 s' m' g' b' t' c' Q 1390 [some (.ref 0), some (.ref 4), some (.ref 213), some (.ref 219), some (.int (nI (4 * j))), none, none, none, none] [] 216 (setM (setCW hb f o kp P tx len p ρ) f pa tr tx td F) (k + 8) (ks + 48)) : XV G 9 p' l e' room_1 s' m' g' b' t' c' Q 1322 [some (.ref 0), some (.ref 4), some (.ref 213), some (.ref 219), some (.int (nI (4 * j))), none, none, none, none] [] 216 (setM (setCW hb f o kp P tx len p ρ) f pa tr tx td F) (k) (ks) := by
  obtain ⟨⟨k9, m9, tt9, hO⟩, ho, hk6, hPR, hl6, hF2, hF5⟩ := hI
  have hm := hO.1
  have hk := hO.2.1
  have hl := hO.live
  obtain ⟨z, hz, z1, z2⟩ := hO.2.2.2.2.2.2.1.1
  have kI : (nI k9).toInt = (k9 : Int) := nI_tI (by omega)
  refine XV.cast lw_0 ?_
  refine XV.run C okL_law20 1 (q := (1323, ([some (.ref (0)), some (.ref (4)), some (.ref (213)), some (.ref (219)), some (.int (nI (4 * j))), none, none, none, none], [.ref (4)]))) rfl ?_
  refine XV.callV C (As := []) (rest := []) (ci := 4) (ct_C_unseen hfl (by decide) hm hk hl hz z1 z2) (xlk_ok okL_law20 rfl) rfl (by decide) (by decide) rfl (cw_o) rfl wM_L_148 wI_C_unseen wV_C_unseen wN_C wB_C_unseen hy_C_unseen (fun q => q.elim) ⟨Nat.le_of_ble_eq_true rfl, Nat.le_of_ble_eq_true rfl⟩ ⟨room_c (by omega), room_s (by omega)⟩ (Nat.le_of_ble_eq_true rfl) (fun r n h hp => ?_) (fun _ _ _ q => q.elim)
  obtain ⟨rfl, rfl, ρ1, rfl⟩ := hp
  refine XV.cast lw_0.symm ?_
  refine XV.run C okL_law20 1 (q := (1327, ([some (.ref (0)), some (.ref (4)), some (.ref (213)), some (.ref (219)), some (.int (nI (4 * j))), none, none, none, none], [.ref (213), .int (luK f z k9 0)]))) rfl ?_
  refine XV.callV C (As := []) (rest := [.int (luK f z k9 0)]) (ci := 5) (ct_M_unseen hfl (by decide) hm hk hl hz z1 z2) (xlk_ok okL_law20 rfl) rfl (by decide) (by decide) rfl (mw_o) rfl wM_L_151 wI_M_unseen wV_M_unseen wN_M wB_M_unseen hy_M_unseen (fun q => q.elim) ⟨Nat.le_of_ble_eq_true rfl, Nat.le_of_ble_eq_true rfl⟩ ⟨room_c (by omega), room_s (by omega)⟩ (Nat.le_of_ble_eq_true rfl) (fun r n h hp => ?_) (fun _ _ _ q => q.elim)
  obtain ⟨rfl, rfl, tr1, rfl⟩ := hp
  refine XV.icmp_eq C (tgt := 1390) (xlk_ok okL_law20 rfl) rfl (fun _ => ?_) (fun hc => absurd (hO.lu z2 k9 0 (Nat.zero_add k9)) hc)
  exact XV.widen (by omega) (by omega) (XV.drop (kk _ _ _ _ _ _ _ _ _ _ _ _ _ _ h219 ⟨⟨_, _, _, hO⟩, ho, hk6, hPR, hl6, (upd_ne (by decide)).trans hF2, (upd_ne (by decide)).trans hF5⟩) rfl (by simp [xle]))
def kL_law21 : List (Nat × (Instr × Nat)) := [(1335, (.aload_n 1, 1)), (1336, (.invokevirtual 152, 3)), (1339, (.dstore 5, 2)), (1341, (.aload_n 2, 1)), (1342, (.invokevirtual 156, 3)), (1345, (.dstore 7, 2)), (1347, (.dload 5, 2)), (1349, (.dload 7, 2)), (1351, (.dcmp .l, 1)), (1352, (.ifCond .eq 21, 3)), (1355, (.dload 5, 2)), (1357, (.dload 5, 2)), (1359, (.dcmp .l, 1)), (1360, (.ifCond .eq 11, 3)), (1363, (.dload 7, 2)), (1365, (.dload 7, 2)), (1367, (.dcmp .l, 1)), (1368, (.ifCond .ne 5, 3)), (1371, (.iconst 0, 1)), (1372, (.ireturn, 1)), (1373, (.goto 17, 3))]
set_option maxRecDepth 100000 in
theorem okL_law21 : ∀ a ∈ kL_law21, decode code a.1 = .ok a.2 := by decide +kernel
set_option maxHeartbeats 4000000 in
set_option maxRecDepth 100000 in
theorem law_c21 (hfl : l.stackTraces = false) (hL : xL G < 2 ^ 31) (C : XCx G l "RopeThreadsLaw" code 9 p' s' m' g' t' c') (hk8 : k + 8 ≤ 601024) (hks : ks + 48 ≤ 7293034) (hj : 4 * j + 4 ≤ xL G) (h219 : hb 219 = outC fo) (hI : LI f o kp P len pa F) (kk : ∀ (hb : XH) (f : Nat → Int32) (o kp : Nat) (P : Nat → Nat → Int32) (tx : Nat → Int32) (len : Nat) (p : PT) (ρ pa tr td F : Nat → Int32) (fo : Nat → Int64), hb 219 = outC fo → LI f o kp P len pa F → XV G 9 p' l e' room_1 s' m' g' b' t' c' Q 1390 [some (.ref 0), some (.ref 4), some (.ref 213), some (.ref 219), some (.int (nI (4 * j))), none, none, none, none] [] 216 (setM (setCW hb f o kp P tx len p ρ) f pa tr tx td F) (k + 8) (ks + 48)) : XV G 9 p' l e' room_1 s' m' g' b' t' c' Q 1335 [some (.ref 0), some (.ref 4), some (.ref 213), some (.ref 219), some (.int (nI (4 * j))), none, none, none, none] [] 216 (setM (setCW hb f o kp P tx len p ρ) f pa tr tx td F) (k) (ks) := by
  obtain ⟨⟨k9, m9, tt9, hO⟩, ho, hk6, hPR, hl6, hF2, hF5⟩ := hI
  have hm := hO.1
  have hk := hO.2.1
  have hl := hO.live
  obtain ⟨z, hz, z1, z2⟩ := hO.2.2.2.2.2.2.1.1
  have kI : (nI k9).toInt = (k9 : Int) := nI_tI (by omega)
  refine XV.cast lw_0 ?_
  refine XV.run C okL_law21 1 (q := (1336, ([some (.ref (0)), some (.ref (4)), some (.ref (213)), some (.ref (219)), some (.int (nI (4 * j))), none, none, none, none], [.ref (4)]))) rfl ?_
  refine XV.callV C (As := []) (rest := []) (ci := 4) (ct_C_countedShare hfl (by decide) hm hk hl (shr_dv hO)) (xlk_ok okL_law21 rfl) rfl (by decide) (by decide) rfl (cw_o) rfl wM_L_152 wI_C_countedShare wV_C_countedShare wN_C wB_C_countedShare hy_C_countedShare (fun q => q.elim) ⟨Nat.le_of_ble_eq_true rfl, Nat.le_of_ble_eq_true rfl⟩ ⟨room_c (by omega), room_s (by omega)⟩ (Nat.le_of_ble_eq_true rfl) (fun r n h hp => ?_) (fun _ _ _ q => q.elim)
  obtain ⟨rfl, rfl, rfl⟩ := hp
  refine XV.cast lw_0.symm ?_
  refine XV.run C okL_law21 2 (q := (1342, ([some (.ref (0)), some (.ref (4)), some (.ref (213)), some (.ref (219)), some (.int (nI (4 * j))), some (.double (shrK f k9)), none, none, none], [.ref (213)]))) rfl ?_
  refine XV.callV C (As := []) (rest := []) (ci := 5) (ct_M_countedShare hfl (by decide) hm hk hl (shr_dv hO)) (xlk_ok okL_law21 rfl) rfl (by decide) (by decide) rfl (mw_o) rfl wM_L_156 wI_M_countedShare wV_M_countedShare wN_M wB_M_countedShare hy_M_countedShare (fun q => q.elim) ⟨Nat.le_of_ble_eq_true rfl, Nat.le_of_ble_eq_true rfl⟩ ⟨room_c (by omega), room_s (by omega)⟩ (Nat.le_of_ble_eq_true rfl) (fun r n h hp => ?_) (fun _ _ _ q => q.elim)
  obtain ⟨rfl, rfl, rfl⟩ := hp
  refine XV.run C okL_law21 4 (q := (1352, ([some (.ref (0)), some (.ref (4)), some (.ref (213)), some (.ref (219)), some (.int (nI (4 * j))), some (.double (shrK f k9)), none, some (.double (shrK f k9)), none], [.int (Op.cmpValue (FP.dcmp (shrK f k9) (shrK f k9)) .l)]))) rfl ?_
  refine XV.if_eq C (tgt := 1373) (xlk_ok okL_law21 rfl) rfl (fun _ => ?_) (fun hc => absurd (cmp_self (shr_eq hO)) hc)
  refine XV.run C okL_law21 1 (q := (1390, ([some (.ref (0)), some (.ref (4)), some (.ref (213)), some (.ref (219)), some (.int (nI (4 * j))), some (.double (shrK f k9)), none, some (.double (shrK f k9)), none], []))) rfl ?_
  exact XV.widen (by omega) (by omega) (XV.drop (kk _ _ _ _ _ _ _ _ _ _ _ _ _ _ h219 ⟨⟨_, _, _, hO⟩, ho, hk6, hPR, hl6, (upd_ne (by decide)).trans hF2, (upd_ne (by decide)).trans hF5⟩) rfl (by simp [xle]))
def kL_law22 : List (Nat × (Instr × Nat)) := [(1376, (.aload_n 1, 1)), (1377, (.invokevirtual 157, 3)), (1380, (.aload_n 2, 1)), (1381, (.invokevirtual 161, 3)), (1384, (.lcmp, 1)), (1385, (.ifCond .eq 5, 3)), (1388, (.iconst 0, 1)), (1389, (.ireturn, 1))]
set_option maxRecDepth 100000 in
theorem okL_law22 : ∀ a ∈ kL_law22, decode code a.1 = .ok a.2 := by decide +kernel
set_option maxHeartbeats 4000000 in
set_option maxRecDepth 100000 in
theorem law_c22 (hfl : l.stackTraces = false) (hL : xL G < 2 ^ 31) (C : XCx G l "RopeThreadsLaw" code 9 p' s' m' g' t' c') (hk8 : k + 8 ≤ 601024) (hks : ks + 48 ≤ 7293034) (hj : 4 * j + 4 ≤ xL G) (h219 : hb 219 = outC fo) (hI : LI f o kp P len pa F) (kk : ∀ (hb : XH) (f : Nat → Int32) (o kp : Nat) (P : Nat → Nat → Int32) (tx : Nat → Int32) (len : Nat) (p : PT) (ρ pa tr td F : Nat → Int32) (fo : Nat → Int64), hb 219 = outC fo → LI f o kp P len pa F → XV G 9 p' l e' room_1 s' m' g' b' t' c' Q 1390 [some (.ref 0), some (.ref 4), some (.ref 213), some (.ref 219), some (.int (nI (4 * j))), none, none, none, none] [] 216 (setM (setCW hb f o kp P tx len p ρ) f pa tr tx td F) (k + 8) (ks + 48)) : XV G 9 p' l e' room_1 s' m' g' b' t' c' Q 1376 [some (.ref 0), some (.ref 4), some (.ref 213), some (.ref 219), some (.int (nI (4 * j))), none, none, none, none] [] 216 (setM (setCW hb f o kp P tx len p ρ) f pa tr tx td F) (k) (ks) := by
  obtain ⟨⟨k9, m9, tt9, hO⟩, ho, hk6, hPR, hl6, hF2, hF5⟩ := hI
  have hm := hO.1
  have hk := hO.2.1
  have hl := hO.live
  obtain ⟨z, hz, z1, z2⟩ := hO.2.2.2.2.2.2.1.1
  have kI : (nI k9).toInt = (k9 : Int) := nI_tI (by omega)
  refine XV.cast lw_0 ?_
  refine XV.run C okL_law22 1 (q := (1377, ([some (.ref (0)), some (.ref (4)), some (.ref (213)), some (.ref (219)), some (.int (nI (4 * j))), none, none, none, none], [.ref (4)]))) rfl ?_
  refine XV.callV C (As := []) (rest := []) (ci := 4) (ct_C_digest hfl (by decide) hm hk hl hz z1 z2 ho hk6 (shr_dv hO) (ct_C_bits hfl hO) hl6) (xlk_ok okL_law22 rfl) rfl (by decide) (by decide) rfl (cw_o) rfl wM_L_157 wI_C_digest wV_C_digest wN_C wB_C_digest hy_C_digest (fun q => q.elim) ⟨Nat.le_of_ble_eq_true rfl, Nat.le_of_ble_eq_true rfl⟩ ⟨room_c (by omega), room_s (by omega)⟩ (Nat.le_of_ble_eq_true rfl) (fun r n h hp => ?_) (fun _ _ _ q => q.elim)
  obtain ⟨rfl, rfl, ρ1, rfl⟩ := hp
  refine XV.cast lw_0.symm ?_
  refine XV.run C okL_law22 1 (q := (1381, ([some (.ref (0)), some (.ref (4)), some (.ref (213)), some (.ref (219)), some (.int (nI (4 * j))), none, none, none, none], [.ref (213), .long (digK2 f z k9 kp tx len (shrK f k9).toInt64)]))) rfl ?_
  refine XV.callV C (As := []) (rest := [.long (digK2 f z k9 kp tx len (shrK f k9).toInt64)]) (ci := 5) (ct_M_digest hfl (by decide) hm hk hl hz z1 z2 hF5 hl6 (shr_dv hO) (shr_eq hO)) (xlk_ok okL_law22 rfl) rfl (by decide) (by decide) rfl (mw_o) rfl wM_L_161 wI_M_digest wV_M_digest wN_M wB_M_digest hy_M_digest (fun q => q.elim) ⟨Nat.le_of_ble_eq_true rfl, Nat.le_of_ble_eq_true rfl⟩ ⟨room_c (by omega), room_s (by omega)⟩ (Nat.le_of_ble_eq_true rfl) (fun r n h hp => ?_) (fun _ _ _ q => q.elim)
  obtain ⟨rfl, rfl, tr1, rfl⟩ := hp
  refine XV.run C okL_law22 1 (q := (1385, ([some (.ref (0)), some (.ref (4)), some (.ref (213)), some (.ref (219)), some (.int (nI (4 * j))), none, none, none, none], [.int (lg_cmp (digK2 f z k9 kp tx len (shrK f k9).toInt64) (digM f (upd F 6 0) tx z k9 len))]))) rfl ?_
  refine XV.if_eq C (tgt := 1390) (xlk_ok okL_law22 rfl) rfl (fun _ => ?_) (fun hc => absurd (lcmp_eq (hO.dig hz z1 z2 ((upd_ne (by decide)).trans hF2) rfl)) hc)
  exact XV.widen (by omega) (by omega) (XV.drop (kk _ _ _ _ _ _ _ _ _ _ _ _ _ _ h219 ⟨⟨_, _, _, hO⟩, ho, hk6, hPR, hl6, (upd_ne (by decide)).trans hF2, (upd_ne (by decide)).trans hF5⟩) rfl (by simp [xle]))
end LAWC
