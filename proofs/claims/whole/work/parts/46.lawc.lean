/-! The law: count to tripsLeft -/
section LAWC
variable {l : Launch} {G : XG} {p' : Program} {e' : Env} {s' : State} {m' : MethodId} {g' : Array Value} {b' : List Frame} {t' : Method} {c' : Code} {Q : State → Prop} {k ks j : Nat} {hb : XH} {f : Nat → Int32} {o kp : Nat} {P : Nat → Nat → Int32} {tx : Nat → Int32} {len : Nat} {p : PT} {ρ pa tr td F : Nat → Int32} {fo : Nat → Int64}
def kL_law15 : List (Nat × (Instr × Nat)) := [(1006, (.aload_n 1, 1)), (1007, (.aload_n 0, 1)), (1008, (.iload 4, 2)), (1010, (.iconst 1, 1)), (1011, (.iadd, 1)), (1012, (.iaload, 1)), (1013, (.aload_n 3, 1)), (1014, (.invokestatic 133, 3)), (1017, (.istore 5, 2)), (1019, (.aload_n 2, 1)), (1020, (.aload_n 0, 1)), (1021, (.iload 4, 2)), (1023, (.iconst 1, 1)), (1024, (.iadd, 1)), (1025, (.iaload, 1)), (1026, (.invokevirtual 135, 3)), (1029, (.istore 6, 2)), (1031, (.aload_n 2, 1)), (1032, (.invokevirtual 83, 3)), (1035, (.iload 5, 2)), (1037, (.if_icmp .eq 5, 3)), (1040, (.iconst 0, 1)), (1041, (.ireturn, 1)), (1042, (.iload 5, 2)), (1044, (.ifCond .ne 15, 3)), (1047, (.aload_n 3, 1)), (1048, (.iconst 0, 1)), (1049, (.laload, 1)), (1050, (.iload 6, 2)), (1052, (.i2l, 1)), (1053, (.lcmp, 1)), (1054, (.ifCond .eq 5, 3)), (1057, (.iconst 0, 1)), (1058, (.ireturn, 1)), (1059, (.goto 331, 3))]
set_option maxRecDepth 100000 in
theorem okL_law15 : ∀ a ∈ kL_law15, decode code a.1 = .ok a.2 := by decide +kernel
set_option maxHeartbeats 4000000 in
set_option maxRecDepth 100000 in
theorem law_c15 (hfl : l.stackTraces = false) (hL : xL G < 2 ^ 31) (C : XCx G l "RopeThreadsLaw" code 9 p' s' m' g' t' c') (hk8 : k + 8 ≤ 601024) (hks : ks + 48 ≤ 7293034) (hj : 4 * j + 4 ≤ xL G) (h219 : hb 219 = outC fo) (hI : LI f o kp P len pa F) (kk : ∀ (hb : XH) (f : Nat → Int32) (o kp : Nat) (P : Nat → Nat → Int32) (tx : Nat → Int32) (len : Nat) (p : PT) (ρ pa tr td F : Nat → Int32) (fo : Nat → Int64), hb 219 = outC fo → LI f o kp P len pa F → XV G 9 p' l e' room_1 s' m' g' b' t' c' Q 1390 [some (.ref 0), some (.ref 4), some (.ref 213), some (.ref 219), some (.int (nI (4 * j))), none, none, none, none] [] 216 (setM (setCW hb f o kp P tx len p ρ) f pa tr tx td F) (k + 8) (ks + 48)) : XV G 9 p' l e' room_1 s' m' g' b' t' c' Q 1006 [some (.ref 0), some (.ref 4), some (.ref 213), some (.ref 219), some (.int (nI (4 * j))), none, none, none, none] [] 216 (setM (setCW hb f o kp P tx len p ρ) f pa tr tx td F) (k) (ks) := by
  obtain ⟨⟨k9, m9, tt9, hO⟩, ho, hk6, hPR, hl6, hF2, hF5⟩ := hI
  have hm := hO.1
  have hk := hO.2.1
  have hl := hO.live
  obtain ⟨z, hz, z1, z2⟩ := hO.2.2.2.2.2.2.1.1
  have kI : (nI k9).toInt = (k9 : Int) := nI_tI (by omega)
  refine XV.cast lw_0 ?_
  refine XV.run C okL_law15 5 (q := (1012, ([some (.ref (0)), some (.ref (4)), some (.ref (213)), some (.ref (219)), some (.int (nI (4 * j))), none, none, none, none], [.int ((nI (4 * j)) + 1), .ref (0), .ref (4)]))) rfl ?_
  refine XV.sald C (a := (4 * j + 1)) (xlk_ok okL_law15 rfl) (nI_add _ 1) (by omega) hL ?_
  refine XV.run C okL_law15 1 (q := (1014, ([some (.ref (0)), some (.ref (4)), some (.ref (213)), some (.ref (219)), some (.int (nI (4 * j))), none, none, none, none], [.ref (219), .int (xxs G (4 * j + 1)), .ref (4)]))) rfl ?_
  refine XV.callSX C (As := [.ref (4), .int (xxs G (4 * j + 1)), .ref (219)]) (rest := []) (ct_L_count hfl (by decide) hm hk hl hz z1 z2 ho hk6 (xxs G (4 * j + 1)) (by decide) ((blk_out (Or.inr (by decide))).trans h219)) (xlk_ok okL_law15 rfl) rfl wM_L_133 wS_L_count wN_L wB_L_count hy_L_count (fun q => q.elim) ⟨Nat.le_of_ble_eq_true rfl, Nat.le_of_ble_eq_true rfl⟩ ⟨room_c (by omega), room_s (by omega)⟩ (Nat.le_of_ble_eq_true rfl) (fun r n h hp => ?_) (fun _ _ _ q => q.elim)
  obtain ⟨rfl, hp⟩ := hp
  rcases hp with ⟨w1, hc, rfl, rfl⟩ | ⟨hc, rfl, rfl⟩
  ·
    refine XV.cast lw_1 ?_
    refine XV.run C okL_law15 6 (q := (1025, ([some (.ref (0)), some (.ref (4)), some (.ref (213)), some (.ref (219)), some (.int (nI (4 * j))), some (.int (0)), none, none, none], [.int ((nI (4 * j)) + 1), .ref (0), .ref (213)]))) rfl ?_
    refine XV.sald C (a := (4 * j + 1)) (xlk_ok okL_law15 rfl) (nI_add _ 1) (by omega) hL ?_
    refine XV.callV C (As := [.int (xxs G (4 * j + 1))]) (rest := []) (ci := 5) (ct_M_count hfl (by decide) hm hk hl hz z1 z2 (xxs G (4 * j + 1))) (xlk_ok okL_law15 rfl) rfl (by decide) (by decide) rfl (mw_o) rfl wM_L_135 wI_M_count wV_M_count wN_M wB_M_count hy_M_count (fun q => q.elim) ⟨Nat.le_of_ble_eq_true rfl, Nat.le_of_ble_eq_true rfl⟩ ⟨room_c (by omega), room_s (by omega)⟩ (Nat.le_of_ble_eq_true rfl) (fun r n h hp => ?_) (fun _ _ _ q => q.elim)
    obtain ⟨rfl, ⟨v, rfl⟩, hp⟩ := hp
    rcases hp with ⟨hd, rfl⟩ | ⟨w2, hd, hr, rfl⟩
    ·
      obtain ⟨hc0, hc1⟩ := hc
      have thc0 := nI_teq hc0 (by omega)
      exfalso
      try simp only [le_tI, lt_tI, tI_0, tI_1, tc_4, tc_5, tc_7, tc_8, tc_9, tc_23, tc_24, tc_33, tc_99, tc_126, kI] at hc1
      try simp only [le_tI, lt_tI, tI_0, tI_1, tc_4, tc_5, tc_7, tc_8, tc_9, tc_23, tc_24, tc_33, tc_99, tc_126, kI] at hd
      omega
    ·
      obtain ⟨hc0, hc1⟩ := hc
      obtain ⟨hd0, hd1⟩ := hd
      have thc0 := nI_teq hc0 (by omega)
      have thd0 := nI_teq hd0 (by omega)
      obtain rfl : w1 = w2 := by omega
      cases hr
      -- both answer
      refine XV.run C okL_law15 2 (q := (1032, ([some (.ref (0)), some (.ref (4)), some (.ref (213)), some (.ref (219)), some (.int (nI (4 * j))), some (.int (0)), some (.int ((countFigM f (upd F 6 0) z k9 w1))), none, none], [.ref (213)]))) rfl ?_
      refine XV.callV C (As := []) (rest := []) (ci := 5) (ct_M_thrown hfl (by decide)) (xlk_ok okL_law15 rfl) rfl (by decide) (by decide) rfl (mw_o) rfl wM_L_83 wI_M_thrown wV_M_thrown wN_M wB_M_thrown hy_M_thrown (fun q => q.elim) ⟨Nat.le_of_ble_eq_true rfl, Nat.le_of_ble_eq_true rfl⟩ ⟨room_c (by omega), room_s (by omega)⟩ (Nat.le_of_ble_eq_true rfl) (fun r n h hp => ?_) (fun _ _ _ q => q.elim)
      obtain ⟨rfl, rfl, rfl⟩ := hp
      refine XV.run C okL_law15 1 (q := (1037, ([some (.ref (0)), some (.ref (4)), some (.ref (213)), some (.ref (219)), some (.int (nI (4 * j))), some (.int (0)), some (.int ((countFigM f (upd F 6 0) z k9 w1))), none, none], [.int (0), .int ((upd F 6 0) 6)]))) rfl ?_
      refine XV.icmp_eq C (tgt := 1042) (xlk_ok okL_law15 rfl) rfl (fun _ => ?_) (fun hc => absurd (upd_eq) hc)
      refine XV.run C okL_law15 1 (q := (1044, ([some (.ref (0)), some (.ref (4)), some (.ref (213)), some (.ref (219)), some (.int (nI (4 * j))), some (.int (0)), some (.int ((countFigM f (upd F 6 0) z k9 w1))), none, none], [.int (0)]))) rfl ?_
      refine XV.if_ne C (tgt := 1059) (xlk_ok okL_law15 rfl) rfl (fun hc => absurd (rfl) hc) (fun _ => ?_)
      refine XV.run C okL_law15 2 (q := (1049, ([some (.ref (0)), some (.ref (4)), some (.ref (213)), some (.ref (219)), some (.int (nI (4 * j))), some (.int (0)), some (.int ((countFigM f (upd F 6 0) z k9 w1))), none, none], [.int (0), .ref (219)]))) rfl ?_
      refine XV.lald C (N := 1) (a := 0) (f := vp_updL fo 0 (countFigK f z k9 kp w1).toInt64) (xlk_ok okL_law15 rfl) (by decide) (by decide) (lw_219 (xup_at hb 219 _)) rfl (by decide) (by decide) ?_
      rw [upL_0]
      refine XV.run C okL_law15 3 (q := (1054, ([some (.ref (0)), some (.ref (4)), some (.ref (213)), some (.ref (219)), some (.int (nI (4 * j))), some (.int (0)), some (.int ((countFigM f (upd F 6 0) z k9 w1))), none, none], [.int (lg_cmp ((countFigK f z k9 kp w1).toInt64) (((countFigM f (upd F 6 0) z k9 w1)).toInt64))]))) rfl ?_
      refine XV.if_eq C (tgt := 1059) (xlk_ok okL_law15 rfl) rfl (fun _ => ?_) (fun hc => absurd (lcmp_eq (congrArg Int32.toInt64 (hO.countFig z2 ((upd_ne (by decide)).trans hF2) hc1))) hc)
      refine XV.run C okL_law15 1 (q := (1390, ([some (.ref (0)), some (.ref (4)), some (.ref (213)), some (.ref (219)), some (.int (nI (4 * j))), some (.int (0)), some (.int ((countFigM f (upd F 6 0) z k9 w1))), none, none], []))) rfl ?_
      exact XV.widen (by omega) (by omega) (XV.drop (kk _ _ _ _ _ _ _ _ _ _ _ _ _ _ (xup_at hb 219 _) ⟨⟨_, _, _, hO⟩, ho, hk6, hPR, hl6, (upd_ne (by decide)).trans hF2, (upd_ne (by decide)).trans hF5⟩) rfl (by simp [xle]))
  ·
    refine XV.cast lw_0.symm ?_
    refine XV.run C okL_law15 6 (q := (1025, ([some (.ref (0)), some (.ref (4)), some (.ref (213)), some (.ref (219)), some (.int (nI (4 * j))), some (.int (1)), none, none, none], [.int ((nI (4 * j)) + 1), .ref (0), .ref (213)]))) rfl ?_
    refine XV.sald C (a := (4 * j + 1)) (xlk_ok okL_law15 rfl) (nI_add _ 1) (by omega) hL ?_
    refine XV.callV C (As := [.int (xxs G (4 * j + 1))]) (rest := []) (ci := 5) (ct_M_count hfl (by decide) hm hk hl hz z1 z2 (xxs G (4 * j + 1))) (xlk_ok okL_law15 rfl) rfl (by decide) (by decide) rfl (mw_o) rfl wM_L_135 wI_M_count wV_M_count wN_M wB_M_count hy_M_count (fun q => q.elim) ⟨Nat.le_of_ble_eq_true rfl, Nat.le_of_ble_eq_true rfl⟩ ⟨room_c (by omega), room_s (by omega)⟩ (Nat.le_of_ble_eq_true rfl) (fun r n h hp => ?_) (fun _ _ _ q => q.elim)
    obtain ⟨rfl, ⟨v, rfl⟩, hp⟩ := hp
    rcases hp with ⟨hd, rfl⟩ | ⟨w2, hd, hr, rfl⟩
    ·
      refine XV.run C okL_law15 2 (q := (1032, ([some (.ref (0)), some (.ref (4)), some (.ref (213)), some (.ref (219)), some (.int (nI (4 * j))), some (.int (1)), some (.int (v)), none, none], [.ref (213)]))) rfl ?_
      refine XV.callV C (As := []) (rest := []) (ci := 5) (ct_M_thrown hfl (by decide)) (xlk_ok okL_law15 rfl) rfl (by decide) (by decide) rfl (mw_o) rfl wM_L_83 wI_M_thrown wV_M_thrown wN_M wB_M_thrown hy_M_thrown (fun q => q.elim) ⟨Nat.le_of_ble_eq_true rfl, Nat.le_of_ble_eq_true rfl⟩ ⟨room_c (by omega), room_s (by omega)⟩ (Nat.le_of_ble_eq_true rfl) (fun r n h hp => ?_) (fun _ _ _ q => q.elim)
      obtain ⟨rfl, rfl, rfl⟩ := hp
      refine XV.run C okL_law15 1 (q := (1037, ([some (.ref (0)), some (.ref (4)), some (.ref (213)), some (.ref (219)), some (.int (nI (4 * j))), some (.int (1)), some (.int (v)), none, none], [.int (1), .int ((upd (upd F 6 0) 6 1) 6)]))) rfl ?_
      refine XV.icmp_eq C (tgt := 1042) (xlk_ok okL_law15 rfl) rfl (fun _ => ?_) (fun hc => absurd (upd_eq) hc)
      refine XV.run C okL_law15 1 (q := (1044, ([some (.ref (0)), some (.ref (4)), some (.ref (213)), some (.ref (219)), some (.int (nI (4 * j))), some (.int (1)), some (.int (v)), none, none], [.int (1)]))) rfl ?_
      refine XV.if_ne C (tgt := 1059) (xlk_ok okL_law15 rfl) rfl (fun _ => ?_) (fun hc => absurd hc (by decide))
      refine XV.run C okL_law15 1 (q := (1390, ([some (.ref (0)), some (.ref (4)), some (.ref (213)), some (.ref (219)), some (.int (nI (4 * j))), some (.int (1)), some (.int (v)), none, none], []))) rfl ?_
      exact XV.widen (by omega) (by omega) (XV.drop (kk _ _ _ _ _ _ _ _ _ _ _ _ _ _ h219 ⟨⟨_, _, _, hO⟩, ho, hk6, hPR, hl6, (upd_ne (by decide)).trans ((upd_ne (by decide)).trans hF2), (upd_ne (by decide)).trans ((upd_ne (by decide)).trans hF5)⟩) rfl (by simp [xle]))
    ·
      obtain ⟨hd0, hd1⟩ := hd
      have thd0 := nI_teq hd0 (by omega)
      exfalso
      try simp only [le_tI, lt_tI, tI_0, tI_1, tc_4, tc_5, tc_7, tc_8, tc_9, tc_23, tc_24, tc_33, tc_99, tc_126, kI] at hc
      try simp only [le_tI, lt_tI, tI_0, tI_1, tc_4, tc_5, tc_7, tc_8, tc_9, tc_23, tc_24, tc_33, tc_99, tc_126, kI] at hd1
      omega
def kL_law16 : List (Nat × (Instr × Nat)) := [(1062, (.aload_n 1, 1)), (1063, (.aload_n 0, 1)), (1064, (.iload 4, 2)), (1066, (.iconst 1, 1)), (1067, (.iadd, 1)), (1068, (.iaload, 1)), (1069, (.aload_n 3, 1)), (1070, (.invokestatic 136, 3)), (1073, (.istore 5, 2)), (1075, (.aload_n 2, 1)), (1076, (.aload_n 0, 1)), (1077, (.iload 4, 2)), (1079, (.iconst 1, 1)), (1080, (.iadd, 1)), (1081, (.iaload, 1)), (1082, (.invokevirtual 138, 3)), (1085, (.istore 6, 2)), (1087, (.aload_n 2, 1)), (1088, (.invokevirtual 83, 3)), (1091, (.iload 5, 2)), (1093, (.if_icmp .eq 5, 3)), (1096, (.iconst 0, 1)), (1097, (.ireturn, 1)), (1098, (.iload 5, 2)), (1100, (.ifCond .ne 15, 3)), (1103, (.aload_n 3, 1)), (1104, (.iconst 0, 1)), (1105, (.laload, 1)), (1106, (.iload 6, 2)), (1108, (.i2l, 1)), (1109, (.lcmp, 1)), (1110, (.ifCond .eq 5, 3)), (1113, (.iconst 0, 1)), (1114, (.ireturn, 1)), (1115, (.goto 275, 3))]
set_option maxRecDepth 100000 in
theorem okL_law16 : ∀ a ∈ kL_law16, decode code a.1 = .ok a.2 := by decide +kernel
set_option maxHeartbeats 4000000 in
set_option maxRecDepth 100000 in
theorem law_c16 (hfl : l.stackTraces = false) (hL : xL G < 2 ^ 31) (C : XCx G l "RopeThreadsLaw" code 9 p' s' m' g' t' c') (hk8 : k + 8 ≤ 601024) (hks : ks + 48 ≤ 7293034) (hj : 4 * j + 4 ≤ xL G) (h219 : hb 219 = outC fo) (hI : LI f o kp P len pa F) (kk : ∀ (hb : XH) (f : Nat → Int32) (o kp : Nat) (P : Nat → Nat → Int32) (tx : Nat → Int32) (len : Nat) (p : PT) (ρ pa tr td F : Nat → Int32) (fo : Nat → Int64), hb 219 = outC fo → LI f o kp P len pa F → XV G 9 p' l e' room_1 s' m' g' b' t' c' Q 1390 [some (.ref 0), some (.ref 4), some (.ref 213), some (.ref 219), some (.int (nI (4 * j))), none, none, none, none] [] 216 (setM (setCW hb f o kp P tx len p ρ) f pa tr tx td F) (k + 8) (ks + 48)) : XV G 9 p' l e' room_1 s' m' g' b' t' c' Q 1062 [some (.ref 0), some (.ref 4), some (.ref 213), some (.ref 219), some (.int (nI (4 * j))), none, none, none, none] [] 216 (setM (setCW hb f o kp P tx len p ρ) f pa tr tx td F) (k) (ks) := by
  obtain ⟨⟨k9, m9, tt9, hO⟩, ho, hk6, hPR, hl6, hF2, hF5⟩ := hI
  have hm := hO.1
  have hk := hO.2.1
  have hl := hO.live
  obtain ⟨z, hz, z1, z2⟩ := hO.2.2.2.2.2.2.1.1
  have kI : (nI k9).toInt = (k9 : Int) := nI_tI (by omega)
  refine XV.cast lw_0 ?_
  refine XV.run C okL_law16 5 (q := (1068, ([some (.ref (0)), some (.ref (4)), some (.ref (213)), some (.ref (219)), some (.int (nI (4 * j))), none, none, none, none], [.int ((nI (4 * j)) + 1), .ref (0), .ref (4)]))) rfl ?_
  refine XV.sald C (a := (4 * j + 1)) (xlk_ok okL_law16 rfl) (nI_add _ 1) (by omega) hL ?_
  refine XV.run C okL_law16 1 (q := (1070, ([some (.ref (0)), some (.ref (4)), some (.ref (213)), some (.ref (219)), some (.int (nI (4 * j))), none, none, none, none], [.ref (219), .int (xxs G (4 * j + 1)), .ref (4)]))) rfl ?_
  refine XV.callSX C (As := [.ref (4), .int (xxs G (4 * j + 1)), .ref (219)]) (rest := []) (ct_L_setting hfl (by decide) (xxs G (4 * j + 1)) (by decide) ((blk_out (Or.inr (by decide))).trans h219)) (xlk_ok okL_law16 rfl) rfl wM_L_136 wS_L_setting wN_L wB_L_setting hy_L_setting (fun q => q.elim) ⟨Nat.le_of_ble_eq_true rfl, Nat.le_of_ble_eq_true rfl⟩ ⟨room_c (by omega), room_s (by omega)⟩ (Nat.le_of_ble_eq_true rfl) (fun r n h hp => ?_) (fun _ _ _ q => q.elim)
  obtain ⟨rfl, hp⟩ := hp
  rcases hp with ⟨i1, hc, rfl, rfl⟩ | ⟨hc, rfl, rfl⟩
  ·
    refine XV.cast lw_1 ?_
    refine XV.run C okL_law16 6 (q := (1081, ([some (.ref (0)), some (.ref (4)), some (.ref (213)), some (.ref (219)), some (.int (nI (4 * j))), some (.int (0)), none, none, none], [.int ((nI (4 * j)) + 1), .ref (0), .ref (213)]))) rfl ?_
    refine XV.sald C (a := (4 * j + 1)) (xlk_ok okL_law16 rfl) (nI_add _ 1) (by omega) hL ?_
    refine XV.callV C (As := [.int (xxs G (4 * j + 1))]) (rest := []) (ci := 5) (ct_M_setting hfl (by decide) (xxs G (4 * j + 1))) (xlk_ok okL_law16 rfl) rfl (by decide) (by decide) rfl (mw_o) rfl wM_L_138 wI_M_setting wV_M_setting wN_M wB_M_setting hy_M_setting (fun q => q.elim) ⟨Nat.le_of_ble_eq_true rfl, Nat.le_of_ble_eq_true rfl⟩ ⟨room_c (by omega), room_s (by omega)⟩ (Nat.le_of_ble_eq_true rfl) (fun r n h hp => ?_) (fun _ _ _ q => q.elim)
    obtain ⟨rfl, ⟨v, rfl⟩, hp⟩ := hp
    rcases hp with ⟨hd, rfl⟩ | ⟨w2, hd, hr, rfl⟩
    ·
      obtain ⟨hc0, hc1⟩ := hc
      have thc0 := nI_teq hc0 (by omega)
      exfalso
      try simp only [le_tI, lt_tI, tI_0, tI_1, tc_4, tc_5, tc_7, tc_8, tc_9, tc_23, tc_24, tc_33, tc_99, tc_126, kI] at hc1
      try simp only [le_tI, lt_tI, tI_0, tI_1, tc_4, tc_5, tc_7, tc_8, tc_9, tc_23, tc_24, tc_33, tc_99, tc_126, kI] at hd
      omega
    ·
      obtain ⟨hc0, hc1⟩ := hc
      obtain ⟨hd0, hd1⟩ := hd
      have thc0 := nI_teq hc0 (by omega)
      have thd0 := nI_teq hd0 (by omega)
      obtain rfl : i1 = w2 := by omega
      cases hr
      -- both answer
      refine XV.run C okL_law16 2 (q := (1088, ([some (.ref (0)), some (.ref (4)), some (.ref (213)), some (.ref (219)), some (.int (nI (4 * j))), some (.int (0)), some (.int ((f (2 + i1)))), none, none], [.ref (213)]))) rfl ?_
      refine XV.callV C (As := []) (rest := []) (ci := 5) (ct_M_thrown hfl (by decide)) (xlk_ok okL_law16 rfl) rfl (by decide) (by decide) rfl (mw_o) rfl wM_L_83 wI_M_thrown wV_M_thrown wN_M wB_M_thrown hy_M_thrown (fun q => q.elim) ⟨Nat.le_of_ble_eq_true rfl, Nat.le_of_ble_eq_true rfl⟩ ⟨room_c (by omega), room_s (by omega)⟩ (Nat.le_of_ble_eq_true rfl) (fun r n h hp => ?_) (fun _ _ _ q => q.elim)
      obtain ⟨rfl, rfl, rfl⟩ := hp
      refine XV.run C okL_law16 1 (q := (1093, ([some (.ref (0)), some (.ref (4)), some (.ref (213)), some (.ref (219)), some (.int (nI (4 * j))), some (.int (0)), some (.int ((f (2 + i1)))), none, none], [.int (0), .int ((upd F 6 0) 6)]))) rfl ?_
      refine XV.icmp_eq C (tgt := 1098) (xlk_ok okL_law16 rfl) rfl (fun _ => ?_) (fun hc => absurd (upd_eq) hc)
      refine XV.run C okL_law16 1 (q := (1100, ([some (.ref (0)), some (.ref (4)), some (.ref (213)), some (.ref (219)), some (.int (nI (4 * j))), some (.int (0)), some (.int ((f (2 + i1)))), none, none], [.int (0)]))) rfl ?_
      refine XV.if_ne C (tgt := 1115) (xlk_ok okL_law16 rfl) rfl (fun hc => absurd (rfl) hc) (fun _ => ?_)
      refine XV.run C okL_law16 2 (q := (1105, ([some (.ref (0)), some (.ref (4)), some (.ref (213)), some (.ref (219)), some (.int (nI (4 * j))), some (.int (0)), some (.int ((f (2 + i1)))), none, none], [.int (0), .ref (219)]))) rfl ?_
      refine XV.lald C (N := 1) (a := 0) (f := vp_updL fo 0 (f (2 + i1)).toInt64) (xlk_ok okL_law16 rfl) (by decide) (by decide) (lw_219 (xup_at hb 219 _)) rfl (by decide) (by decide) ?_
      rw [upL_0]
      refine XV.run C okL_law16 3 (q := (1110, ([some (.ref (0)), some (.ref (4)), some (.ref (213)), some (.ref (219)), some (.int (nI (4 * j))), some (.int (0)), some (.int ((f (2 + i1)))), none, none], [.int (lg_cmp ((f (2 + i1)).toInt64) (((f (2 + i1))).toInt64))]))) rfl ?_
      refine XV.if_eq C (tgt := 1115) (xlk_ok okL_law16 rfl) rfl (fun _ => ?_) (fun hc => absurd (lcmp_eq (congrArg Int32.toInt64 (rfl))) hc)
      refine XV.run C okL_law16 1 (q := (1390, ([some (.ref (0)), some (.ref (4)), some (.ref (213)), some (.ref (219)), some (.int (nI (4 * j))), some (.int (0)), some (.int ((f (2 + i1)))), none, none], []))) rfl ?_
      exact XV.widen (by omega) (by omega) (XV.drop (kk _ _ _ _ _ _ _ _ _ _ _ _ _ _ (xup_at hb 219 _) ⟨⟨_, _, _, hO⟩, ho, hk6, hPR, hl6, (upd_ne (by decide)).trans hF2, (upd_ne (by decide)).trans hF5⟩) rfl (by simp [xle]))
  ·
    refine XV.cast lw_0.symm ?_
    refine XV.run C okL_law16 6 (q := (1081, ([some (.ref (0)), some (.ref (4)), some (.ref (213)), some (.ref (219)), some (.int (nI (4 * j))), some (.int (1)), none, none, none], [.int ((nI (4 * j)) + 1), .ref (0), .ref (213)]))) rfl ?_
    refine XV.sald C (a := (4 * j + 1)) (xlk_ok okL_law16 rfl) (nI_add _ 1) (by omega) hL ?_
    refine XV.callV C (As := [.int (xxs G (4 * j + 1))]) (rest := []) (ci := 5) (ct_M_setting hfl (by decide) (xxs G (4 * j + 1))) (xlk_ok okL_law16 rfl) rfl (by decide) (by decide) rfl (mw_o) rfl wM_L_138 wI_M_setting wV_M_setting wN_M wB_M_setting hy_M_setting (fun q => q.elim) ⟨Nat.le_of_ble_eq_true rfl, Nat.le_of_ble_eq_true rfl⟩ ⟨room_c (by omega), room_s (by omega)⟩ (Nat.le_of_ble_eq_true rfl) (fun r n h hp => ?_) (fun _ _ _ q => q.elim)
    obtain ⟨rfl, ⟨v, rfl⟩, hp⟩ := hp
    rcases hp with ⟨hd, rfl⟩ | ⟨w2, hd, hr, rfl⟩
    ·
      refine XV.run C okL_law16 2 (q := (1088, ([some (.ref (0)), some (.ref (4)), some (.ref (213)), some (.ref (219)), some (.int (nI (4 * j))), some (.int (1)), some (.int (v)), none, none], [.ref (213)]))) rfl ?_
      refine XV.callV C (As := []) (rest := []) (ci := 5) (ct_M_thrown hfl (by decide)) (xlk_ok okL_law16 rfl) rfl (by decide) (by decide) rfl (mw_o) rfl wM_L_83 wI_M_thrown wV_M_thrown wN_M wB_M_thrown hy_M_thrown (fun q => q.elim) ⟨Nat.le_of_ble_eq_true rfl, Nat.le_of_ble_eq_true rfl⟩ ⟨room_c (by omega), room_s (by omega)⟩ (Nat.le_of_ble_eq_true rfl) (fun r n h hp => ?_) (fun _ _ _ q => q.elim)
      obtain ⟨rfl, rfl, rfl⟩ := hp
      refine XV.run C okL_law16 1 (q := (1093, ([some (.ref (0)), some (.ref (4)), some (.ref (213)), some (.ref (219)), some (.int (nI (4 * j))), some (.int (1)), some (.int (v)), none, none], [.int (1), .int ((upd (upd F 6 0) 6 1) 6)]))) rfl ?_
      refine XV.icmp_eq C (tgt := 1098) (xlk_ok okL_law16 rfl) rfl (fun _ => ?_) (fun hc => absurd (upd_eq) hc)
      refine XV.run C okL_law16 1 (q := (1100, ([some (.ref (0)), some (.ref (4)), some (.ref (213)), some (.ref (219)), some (.int (nI (4 * j))), some (.int (1)), some (.int (v)), none, none], [.int (1)]))) rfl ?_
      refine XV.if_ne C (tgt := 1115) (xlk_ok okL_law16 rfl) rfl (fun _ => ?_) (fun hc => absurd hc (by decide))
      refine XV.run C okL_law16 1 (q := (1390, ([some (.ref (0)), some (.ref (4)), some (.ref (213)), some (.ref (219)), some (.int (nI (4 * j))), some (.int (1)), some (.int (v)), none, none], []))) rfl ?_
      exact XV.widen (by omega) (by omega) (XV.drop (kk _ _ _ _ _ _ _ _ _ _ _ _ _ _ h219 ⟨⟨_, _, _, hO⟩, ho, hk6, hPR, hl6, (upd_ne (by decide)).trans ((upd_ne (by decide)).trans hF2), (upd_ne (by decide)).trans ((upd_ne (by decide)).trans hF5)⟩) rfl (by simp [xle]))
    ·
      obtain ⟨hd0, hd1⟩ := hd
      have thd0 := nI_teq hd0 (by omega)
      exfalso
      try simp only [le_tI, lt_tI, tI_0, tI_1, tc_4, tc_5, tc_7, tc_8, tc_9, tc_23, tc_24, tc_33, tc_99, tc_126, kI] at hc
      try simp only [le_tI, lt_tI, tI_0, tI_1, tc_4, tc_5, tc_7, tc_8, tc_9, tc_23, tc_24, tc_33, tc_99, tc_126, kI] at hd1
      omega
def kL_law17 : List (Nat × (Instr × Nat)) := [(1118, (.aload_n 1, 1)), (1119, (.aload_n 0, 1)), (1120, (.iload 4, 2)), (1122, (.iconst 1, 1)), (1123, (.iadd, 1)), (1124, (.iaload, 1)), (1125, (.aload_n 0, 1)), (1126, (.iload 4, 2)), (1128, (.iconst 2, 1)), (1129, (.iadd, 1)), (1130, (.iaload, 1)), (1131, (.aload_n 0, 1)), (1132, (.iload 4, 2)), (1134, (.iconst 3, 1)), (1135, (.iadd, 1)), (1136, (.iaload, 1)), (1137, (.aload_n 3, 1)), (1138, (.invokestatic 139, 3)), (1141, (.istore 5, 2)), (1143, (.aload_n 2, 1)), (1144, (.aload_n 0, 1)), (1145, (.iload 4, 2)), (1147, (.iconst 1, 1)), (1148, (.iadd, 1)), (1149, (.iaload, 1)), (1150, (.aload_n 0, 1)), (1151, (.iload 4, 2)), (1153, (.iconst 2, 1)), (1154, (.iadd, 1)), (1155, (.iaload, 1)), (1156, (.aload_n 0, 1)), (1157, (.iload 4, 2)), (1159, (.iconst 3, 1)), (1160, (.iadd, 1)), (1161, (.iaload, 1)), (1162, (.invokevirtual 141, 3)), (1165, (.istore 6, 2)), (1167, (.aload_n 2, 1)), (1168, (.invokevirtual 83, 3)), (1171, (.iload 5, 2)), (1173, (.if_icmp .eq 5, 3)), (1176, (.iconst 0, 1)), (1177, (.ireturn, 1)), (1178, (.iload 5, 2)), (1180, (.ifCond .ne 15, 3)), (1183, (.aload_n 3, 1)), (1184, (.iconst 0, 1)), (1185, (.laload, 1)), (1186, (.iload 6, 2)), (1188, (.i2l, 1)), (1189, (.lcmp, 1)), (1190, (.ifCond .eq 5, 3)), (1193, (.iconst 0, 1)), (1194, (.ireturn, 1)), (1195, (.goto 195, 3))]
set_option maxRecDepth 100000 in
theorem okL_law17 : ∀ a ∈ kL_law17, decode code a.1 = .ok a.2 := by decide +kernel
set_option maxHeartbeats 4000000 in
set_option maxRecDepth 100000 in
theorem law_c17 (hfl : l.stackTraces = false) (hL : xL G < 2 ^ 31) (C : XCx G l "RopeThreadsLaw" code 9 p' s' m' g' t' c') (hk8 : k + 8 ≤ 601024) (hks : ks + 48 ≤ 7293034) (hj : 4 * j + 4 ≤ xL G) (h219 : hb 219 = outC fo) (hI : LI f o kp P len pa F) (kk : ∀ (hb : XH) (f : Nat → Int32) (o kp : Nat) (P : Nat → Nat → Int32) (tx : Nat → Int32) (len : Nat) (p : PT) (ρ pa tr td F : Nat → Int32) (fo : Nat → Int64), hb 219 = outC fo → LI f o kp P len pa F → XV G 9 p' l e' room_1 s' m' g' b' t' c' Q 1390 [some (.ref 0), some (.ref 4), some (.ref 213), some (.ref 219), some (.int (nI (4 * j))), none, none, none, none] [] 216 (setM (setCW hb f o kp P tx len p ρ) f pa tr tx td F) (k + 8) (ks + 48)) : XV G 9 p' l e' room_1 s' m' g' b' t' c' Q 1118 [some (.ref 0), some (.ref 4), some (.ref 213), some (.ref 219), some (.int (nI (4 * j))), none, none, none, none] [] 216 (setM (setCW hb f o kp P tx len p ρ) f pa tr tx td F) (k) (ks) := by
  obtain ⟨⟨k9, m9, tt9, hO⟩, ho, hk6, hPR, hl6, hF2, hF5⟩ := hI
  have hm := hO.1
  have hk := hO.2.1
  have hl := hO.live
  obtain ⟨z, hz, z1, z2⟩ := hO.2.2.2.2.2.2.1.1
  have kI : (nI k9).toInt = (k9 : Int) := nI_tI (by omega)
  refine XV.cast lw_0 ?_
  refine XV.run C okL_law17 5 (q := (1124, ([some (.ref (0)), some (.ref (4)), some (.ref (213)), some (.ref (219)), some (.int (nI (4 * j))), none, none, none, none], [.int ((nI (4 * j)) + 1), .ref (0), .ref (4)]))) rfl ?_
  refine XV.sald C (a := (4 * j + 1)) (xlk_ok okL_law17 rfl) (nI_add _ 1) (by omega) hL ?_
  refine XV.run C okL_law17 4 (q := (1130, ([some (.ref (0)), some (.ref (4)), some (.ref (213)), some (.ref (219)), some (.int (nI (4 * j))), none, none, none, none], [.int ((nI (4 * j)) + 2), .ref (0), .int (xxs G (4 * j + 1)), .ref (4)]))) rfl ?_
  refine XV.sald C (a := (4 * j + 2)) (xlk_ok okL_law17 rfl) (nI_add _ 2) (by omega) hL ?_
  refine XV.run C okL_law17 4 (q := (1136, ([some (.ref (0)), some (.ref (4)), some (.ref (213)), some (.ref (219)), some (.int (nI (4 * j))), none, none, none, none], [.int ((nI (4 * j)) + 3), .ref (0), .int (xxs G (4 * j + 2)), .int (xxs G (4 * j + 1)), .ref (4)]))) rfl ?_
  refine XV.sald C (a := (4 * j + 3)) (xlk_ok okL_law17 rfl) (nI_add _ 3) (by omega) hL ?_
  refine XV.run C okL_law17 1 (q := (1138, ([some (.ref (0)), some (.ref (4)), some (.ref (213)), some (.ref (219)), some (.int (nI (4 * j))), none, none, none, none], [.ref (219), .int (xxs G (4 * j + 3)), .int (xxs G (4 * j + 2)), .int (xxs G (4 * j + 1)), .ref (4)]))) rfl ?_
  refine XV.callSX C (As := [.ref (4), .int (xxs G (4 * j + 1)), .int (xxs G (4 * j + 2)), .int (xxs G (4 * j + 3)), .ref (219)]) (rest := []) (ct_L_ifInspected hfl (by decide) hm hk hl hz z1 z2 (xxs G (4 * j + 1)) (xxs G (4 * j + 2)) (xxs G (4 * j + 3)) (by decide) ((blk_out (Or.inr (by decide))).trans h219)) (xlk_ok okL_law17 rfl) rfl wM_L_139 wS_L_ifInspected wN_L wB_L_ifInspected hy_L_ifInspected (fun q => q.elim) ⟨Nat.le_of_ble_eq_true rfl, Nat.le_of_ble_eq_true rfl⟩ ⟨room_c (by omega), room_s (by omega)⟩ (Nat.le_of_ble_eq_true rfl) (fun r n h hp => ?_) (fun _ _ _ q => q.elim)
  obtain ⟨rfl, hp⟩ := hp
  rcases hp with ⟨i1, a1, b1, hc, rfl, rfl⟩ | ⟨hc, rfl, rfl⟩ | ⟨hc, rfl, rfl⟩ | ⟨hc, rfl, rfl⟩
  ·
    refine XV.cast lw_1 ?_
    refine XV.run C okL_law17 6 (q := (1149, ([some (.ref (0)), some (.ref (4)), some (.ref (213)), some (.ref (219)), some (.int (nI (4 * j))), some (.int (0)), none, none, none], [.int ((nI (4 * j)) + 1), .ref (0), .ref (213)]))) rfl ?_
    refine XV.sald C (a := (4 * j + 1)) (xlk_ok okL_law17 rfl) (nI_add _ 1) (by omega) hL ?_
    refine XV.run C okL_law17 4 (q := (1155, ([some (.ref (0)), some (.ref (4)), some (.ref (213)), some (.ref (219)), some (.int (nI (4 * j))), some (.int (0)), none, none, none], [.int ((nI (4 * j)) + 2), .ref (0), .int (xxs G (4 * j + 1)), .ref (213)]))) rfl ?_
    refine XV.sald C (a := (4 * j + 2)) (xlk_ok okL_law17 rfl) (nI_add _ 2) (by omega) hL ?_
    refine XV.run C okL_law17 4 (q := (1161, ([some (.ref (0)), some (.ref (4)), some (.ref (213)), some (.ref (219)), some (.int (nI (4 * j))), some (.int (0)), none, none, none], [.int ((nI (4 * j)) + 3), .ref (0), .int (xxs G (4 * j + 2)), .int (xxs G (4 * j + 1)), .ref (213)]))) rfl ?_
    refine XV.sald C (a := (4 * j + 3)) (xlk_ok okL_law17 rfl) (nI_add _ 3) (by omega) hL ?_
    refine XV.callV C (As := [.int (xxs G (4 * j + 1)), .int (xxs G (4 * j + 2)), .int (xxs G (4 * j + 3))]) (rest := []) (ci := 5) (ct_M_ifInspected hfl (by decide) hm hk hl hz z1 z2 (xxs G (4 * j + 1)) (xxs G (4 * j + 2)) (xxs G (4 * j + 3))) (xlk_ok okL_law17 rfl) rfl (by decide) (by decide) rfl (mw_o) rfl wM_L_141 wI_M_ifInspected wV_M_ifInspected wN_M wB_M_ifInspected hy_M_ifInspected (fun q => q.elim) ⟨Nat.le_of_ble_eq_true rfl, Nat.le_of_ble_eq_true rfl⟩ ⟨room_c (by omega), room_s (by omega)⟩ (Nat.le_of_ble_eq_true rfl) (fun r n h hp => ?_) (fun _ _ _ q => q.elim)
    obtain ⟨rfl, ⟨v, rfl⟩, hp⟩ := hp
    rcases hp with ⟨hd, rfl⟩ | ⟨hd, rfl⟩ | ⟨i2, a2, b2, hd, hr, tr1, rfl⟩
    ·
      obtain ⟨hc0, hc1, hc2, hc3, hc4, hc5⟩ := hc
      have thc0 := nI_teq hc0 (by omega)
      have thc2 := nI_teq hc2 (by omega)
      have thc3 := nI_teq hc3 (by omega)
      exfalso
      try simp only [le_tI, lt_tI, tI_0, tI_1, tc_4, tc_5, tc_7, tc_8, tc_9, tc_23, tc_24, tc_33, tc_99, tc_126, kI] at hc1
      try simp only [le_tI, lt_tI, tI_0, tI_1, tc_4, tc_5, tc_7, tc_8, tc_9, tc_23, tc_24, tc_33, tc_99, tc_126, kI] at hc4
      try simp only [le_tI, lt_tI, tI_0, tI_1, tc_4, tc_5, tc_7, tc_8, tc_9, tc_23, tc_24, tc_33, tc_99, tc_126, kI] at hc5
      try simp only [le_tI, lt_tI, tI_0, tI_1, tc_4, tc_5, tc_7, tc_8, tc_9, tc_23, tc_24, tc_33, tc_99, tc_126, kI] at hd
      omega
    ·
      obtain ⟨hc0, hc1, hc2, hc3, hc4, hc5⟩ := hc
      have thc0 := nI_teq hc0 (by omega)
      have thc2 := nI_teq hc2 (by omega)
      have thc3 := nI_teq hc3 (by omega)
      exfalso
      try simp only [le_tI, lt_tI, tI_0, tI_1, tc_4, tc_5, tc_7, tc_8, tc_9, tc_23, tc_24, tc_33, tc_99, tc_126, kI] at hc1
      try simp only [le_tI, lt_tI, tI_0, tI_1, tc_4, tc_5, tc_7, tc_8, tc_9, tc_23, tc_24, tc_33, tc_99, tc_126, kI] at hc4
      try simp only [le_tI, lt_tI, tI_0, tI_1, tc_4, tc_5, tc_7, tc_8, tc_9, tc_23, tc_24, tc_33, tc_99, tc_126, kI] at hc5
      try simp only [le_tI, lt_tI, tI_0, tI_1, tc_4, tc_5, tc_7, tc_8, tc_9, tc_23, tc_24, tc_33, tc_99, tc_126, kI] at hd
      omega
    ·
      obtain ⟨hc0, hc1, hc2, hc3, hc4, hc5⟩ := hc
      obtain ⟨hd0, hd1, hd2, hd3, hd4, hd5⟩ := hd
      have thc0 := nI_teq hc0 (by omega)
      have thc2 := nI_teq hc2 (by omega)
      have thc3 := nI_teq hc3 (by omega)
      have thd0 := nI_teq hd0 (by omega)
      have thd2 := nI_teq hd2 (by omega)
      have thd3 := nI_teq hd3 (by omega)
      obtain rfl : i1 = i2 := by omega
      obtain rfl : a1 = a2 := by omega
      obtain rfl : b1 = b2 := by omega
      cases hr
      -- both answer
      refine XV.run C okL_law17 2 (q := (1168, ([some (.ref (0)), some (.ref (4)), some (.ref (213)), some (.ref (219)), some (.int (nI (4 * j))), some (.int (0)), some (.int ((reasonM f (rLook (rowOf f i1) a1 (b1 + 1 - a1) (f 0)) z))), none, none], [.ref (213)]))) rfl ?_
      refine XV.callV C (As := []) (rest := []) (ci := 5) (ct_M_thrown hfl (by decide)) (xlk_ok okL_law17 rfl) rfl (by decide) (by decide) rfl (mw_o) rfl wM_L_83 wI_M_thrown wV_M_thrown wN_M wB_M_thrown hy_M_thrown (fun q => q.elim) ⟨Nat.le_of_ble_eq_true rfl, Nat.le_of_ble_eq_true rfl⟩ ⟨room_c (by omega), room_s (by omega)⟩ (Nat.le_of_ble_eq_true rfl) (fun r n h hp => ?_) (fun _ _ _ q => q.elim)
      obtain ⟨rfl, rfl, rfl⟩ := hp
      refine XV.run C okL_law17 1 (q := (1173, ([some (.ref (0)), some (.ref (4)), some (.ref (213)), some (.ref (219)), some (.int (nI (4 * j))), some (.int (0)), some (.int ((reasonM f (rLook (rowOf f i1) a1 (b1 + 1 - a1) (f 0)) z))), none, none], [.int (0), .int ((upd F 6 0) 6)]))) rfl ?_
      refine XV.icmp_eq C (tgt := 1178) (xlk_ok okL_law17 rfl) rfl (fun _ => ?_) (fun hc => absurd (upd_eq) hc)
      refine XV.run C okL_law17 1 (q := (1180, ([some (.ref (0)), some (.ref (4)), some (.ref (213)), some (.ref (219)), some (.int (nI (4 * j))), some (.int (0)), some (.int ((reasonM f (rLook (rowOf f i1) a1 (b1 + 1 - a1) (f 0)) z))), none, none], [.int (0)]))) rfl ?_
      refine XV.if_ne C (tgt := 1195) (xlk_ok okL_law17 rfl) rfl (fun hc => absurd (rfl) hc) (fun _ => ?_)
      refine XV.run C okL_law17 2 (q := (1185, ([some (.ref (0)), some (.ref (4)), some (.ref (213)), some (.ref (219)), some (.int (nI (4 * j))), some (.int (0)), some (.int ((reasonM f (rLook (rowOf f i1) a1 (b1 + 1 - a1) (f 0)) z))), none, none], [.int (0), .ref (219)]))) rfl ?_
      refine XV.lald C (N := 1) (a := 0) (f := vp_updL fo 0 (reasonK f (rLook (rowOf f i1) a1 (b1 + 1 - a1) (f 0)) z).toInt64) (xlk_ok okL_law17 rfl) (by decide) (by decide) (lw_219 (xup_at hb 219 _)) rfl (by decide) (by decide) ?_
      rw [upL_0]
      refine XV.run C okL_law17 3 (q := (1190, ([some (.ref (0)), some (.ref (4)), some (.ref (213)), some (.ref (219)), some (.int (nI (4 * j))), some (.int (0)), some (.int ((reasonM f (rLook (rowOf f i1) a1 (b1 + 1 - a1) (f 0)) z))), none, none], [.int (lg_cmp ((reasonK f (rLook (rowOf f i1) a1 (b1 + 1 - a1) (f 0)) z).toInt64) (((reasonM f (rLook (rowOf f i1) a1 (b1 + 1 - a1) (f 0)) z)).toInt64))]))) rfl ?_
      refine XV.if_eq C (tgt := 1195) (xlk_ok okL_law17 rfl) rfl (fun _ => ?_) (fun hc => absurd (lcmp_eq (congrArg Int32.toInt64 (hO.reasonL z2 hc1 (by omega)))) hc)
      refine XV.run C okL_law17 1 (q := (1390, ([some (.ref (0)), some (.ref (4)), some (.ref (213)), some (.ref (219)), some (.int (nI (4 * j))), some (.int (0)), some (.int ((reasonM f (rLook (rowOf f i1) a1 (b1 + 1 - a1) (f 0)) z))), none, none], []))) rfl ?_
      exact XV.widen (by omega) (by omega) (XV.drop (kk _ _ _ _ _ _ _ _ _ _ _ _ _ _ (xup_at hb 219 _) ⟨⟨_, _, _, hO⟩, ho, hk6, hPR, hl6, (upd_ne (by decide)).trans hF2, (upd_ne (by decide)).trans hF5⟩) rfl (by simp [xle]))
  ·
    refine XV.cast lw_0.symm ?_
    refine XV.run C okL_law17 6 (q := (1149, ([some (.ref (0)), some (.ref (4)), some (.ref (213)), some (.ref (219)), some (.int (nI (4 * j))), some (.int (1)), none, none, none], [.int ((nI (4 * j)) + 1), .ref (0), .ref (213)]))) rfl ?_
    refine XV.sald C (a := (4 * j + 1)) (xlk_ok okL_law17 rfl) (nI_add _ 1) (by omega) hL ?_
    refine XV.run C okL_law17 4 (q := (1155, ([some (.ref (0)), some (.ref (4)), some (.ref (213)), some (.ref (219)), some (.int (nI (4 * j))), some (.int (1)), none, none, none], [.int ((nI (4 * j)) + 2), .ref (0), .int (xxs G (4 * j + 1)), .ref (213)]))) rfl ?_
    refine XV.sald C (a := (4 * j + 2)) (xlk_ok okL_law17 rfl) (nI_add _ 2) (by omega) hL ?_
    refine XV.run C okL_law17 4 (q := (1161, ([some (.ref (0)), some (.ref (4)), some (.ref (213)), some (.ref (219)), some (.int (nI (4 * j))), some (.int (1)), none, none, none], [.int ((nI (4 * j)) + 3), .ref (0), .int (xxs G (4 * j + 2)), .int (xxs G (4 * j + 1)), .ref (213)]))) rfl ?_
    refine XV.sald C (a := (4 * j + 3)) (xlk_ok okL_law17 rfl) (nI_add _ 3) (by omega) hL ?_
    refine XV.callV C (As := [.int (xxs G (4 * j + 1)), .int (xxs G (4 * j + 2)), .int (xxs G (4 * j + 3))]) (rest := []) (ci := 5) (ct_M_ifInspected hfl (by decide) hm hk hl hz z1 z2 (xxs G (4 * j + 1)) (xxs G (4 * j + 2)) (xxs G (4 * j + 3))) (xlk_ok okL_law17 rfl) rfl (by decide) (by decide) rfl (mw_o) rfl wM_L_141 wI_M_ifInspected wV_M_ifInspected wN_M wB_M_ifInspected hy_M_ifInspected (fun q => q.elim) ⟨Nat.le_of_ble_eq_true rfl, Nat.le_of_ble_eq_true rfl⟩ ⟨room_c (by omega), room_s (by omega)⟩ (Nat.le_of_ble_eq_true rfl) (fun r n h hp => ?_) (fun _ _ _ q => q.elim)
    obtain ⟨rfl, ⟨v, rfl⟩, hp⟩ := hp
    rcases hp with ⟨hd, rfl⟩ | ⟨hd, rfl⟩ | ⟨i2, a2, b2, hd, hr, tr1, rfl⟩
    ·
      refine XV.run C okL_law17 2 (q := (1168, ([some (.ref (0)), some (.ref (4)), some (.ref (213)), some (.ref (219)), some (.int (nI (4 * j))), some (.int (1)), some (.int (v)), none, none], [.ref (213)]))) rfl ?_
      refine XV.callV C (As := []) (rest := []) (ci := 5) (ct_M_thrown hfl (by decide)) (xlk_ok okL_law17 rfl) rfl (by decide) (by decide) rfl (mw_o) rfl wM_L_83 wI_M_thrown wV_M_thrown wN_M wB_M_thrown hy_M_thrown (fun q => q.elim) ⟨Nat.le_of_ble_eq_true rfl, Nat.le_of_ble_eq_true rfl⟩ ⟨room_c (by omega), room_s (by omega)⟩ (Nat.le_of_ble_eq_true rfl) (fun r n h hp => ?_) (fun _ _ _ q => q.elim)
      obtain ⟨rfl, rfl, rfl⟩ := hp
      refine XV.run C okL_law17 1 (q := (1173, ([some (.ref (0)), some (.ref (4)), some (.ref (213)), some (.ref (219)), some (.int (nI (4 * j))), some (.int (1)), some (.int (v)), none, none], [.int (1), .int ((upd (upd F 6 0) 6 1) 6)]))) rfl ?_
      refine XV.icmp_eq C (tgt := 1178) (xlk_ok okL_law17 rfl) rfl (fun _ => ?_) (fun hc => absurd (upd_eq) hc)
      refine XV.run C okL_law17 1 (q := (1180, ([some (.ref (0)), some (.ref (4)), some (.ref (213)), some (.ref (219)), some (.int (nI (4 * j))), some (.int (1)), some (.int (v)), none, none], [.int (1)]))) rfl ?_
      refine XV.if_ne C (tgt := 1195) (xlk_ok okL_law17 rfl) rfl (fun _ => ?_) (fun hc => absurd hc (by decide))
      refine XV.run C okL_law17 1 (q := (1390, ([some (.ref (0)), some (.ref (4)), some (.ref (213)), some (.ref (219)), some (.int (nI (4 * j))), some (.int (1)), some (.int (v)), none, none], []))) rfl ?_
      exact XV.widen (by omega) (by omega) (XV.drop (kk _ _ _ _ _ _ _ _ _ _ _ _ _ _ h219 ⟨⟨_, _, _, hO⟩, ho, hk6, hPR, hl6, (upd_ne (by decide)).trans ((upd_ne (by decide)).trans hF2), (upd_ne (by decide)).trans ((upd_ne (by decide)).trans hF5)⟩) rfl (by simp [xle]))
    ·
      exfalso
      try simp only [le_tI, lt_tI, tI_0, tI_1, tc_4, tc_5, tc_7, tc_8, tc_9, tc_23, tc_24, tc_33, tc_99, tc_126, kI] at hc
      try simp only [le_tI, lt_tI, tI_0, tI_1, tc_4, tc_5, tc_7, tc_8, tc_9, tc_23, tc_24, tc_33, tc_99, tc_126, kI] at hd
      omega
    ·
      obtain ⟨hd0, hd1, hd2, hd3, hd4, hd5⟩ := hd
      have thd0 := nI_teq hd0 (by omega)
      have thd2 := nI_teq hd2 (by omega)
      have thd3 := nI_teq hd3 (by omega)
      exfalso
      try simp only [le_tI, lt_tI, tI_0, tI_1, tc_4, tc_5, tc_7, tc_8, tc_9, tc_23, tc_24, tc_33, tc_99, tc_126, kI] at hc
      try simp only [le_tI, lt_tI, tI_0, tI_1, tc_4, tc_5, tc_7, tc_8, tc_9, tc_23, tc_24, tc_33, tc_99, tc_126, kI] at hd1
      try simp only [le_tI, lt_tI, tI_0, tI_1, tc_4, tc_5, tc_7, tc_8, tc_9, tc_23, tc_24, tc_33, tc_99, tc_126, kI] at hd4
      try simp only [le_tI, lt_tI, tI_0, tI_1, tc_4, tc_5, tc_7, tc_8, tc_9, tc_23, tc_24, tc_33, tc_99, tc_126, kI] at hd5
      omega
  ·
    refine XV.cast lw_0.symm ?_
    refine XV.run C okL_law17 6 (q := (1149, ([some (.ref (0)), some (.ref (4)), some (.ref (213)), some (.ref (219)), some (.int (nI (4 * j))), some (.int (1)), none, none, none], [.int ((nI (4 * j)) + 1), .ref (0), .ref (213)]))) rfl ?_
    refine XV.sald C (a := (4 * j + 1)) (xlk_ok okL_law17 rfl) (nI_add _ 1) (by omega) hL ?_
    refine XV.run C okL_law17 4 (q := (1155, ([some (.ref (0)), some (.ref (4)), some (.ref (213)), some (.ref (219)), some (.int (nI (4 * j))), some (.int (1)), none, none, none], [.int ((nI (4 * j)) + 2), .ref (0), .int (xxs G (4 * j + 1)), .ref (213)]))) rfl ?_
    refine XV.sald C (a := (4 * j + 2)) (xlk_ok okL_law17 rfl) (nI_add _ 2) (by omega) hL ?_
    refine XV.run C okL_law17 4 (q := (1161, ([some (.ref (0)), some (.ref (4)), some (.ref (213)), some (.ref (219)), some (.int (nI (4 * j))), some (.int (1)), none, none, none], [.int ((nI (4 * j)) + 3), .ref (0), .int (xxs G (4 * j + 2)), .int (xxs G (4 * j + 1)), .ref (213)]))) rfl ?_
    refine XV.sald C (a := (4 * j + 3)) (xlk_ok okL_law17 rfl) (nI_add _ 3) (by omega) hL ?_
    refine XV.callV C (As := [.int (xxs G (4 * j + 1)), .int (xxs G (4 * j + 2)), .int (xxs G (4 * j + 3))]) (rest := []) (ci := 5) (ct_M_ifInspected hfl (by decide) hm hk hl hz z1 z2 (xxs G (4 * j + 1)) (xxs G (4 * j + 2)) (xxs G (4 * j + 3))) (xlk_ok okL_law17 rfl) rfl (by decide) (by decide) rfl (mw_o) rfl wM_L_141 wI_M_ifInspected wV_M_ifInspected wN_M wB_M_ifInspected hy_M_ifInspected (fun q => q.elim) ⟨Nat.le_of_ble_eq_true rfl, Nat.le_of_ble_eq_true rfl⟩ ⟨room_c (by omega), room_s (by omega)⟩ (Nat.le_of_ble_eq_true rfl) (fun r n h hp => ?_) (fun _ _ _ q => q.elim)
    obtain ⟨rfl, ⟨v, rfl⟩, hp⟩ := hp
    rcases hp with ⟨hd, rfl⟩ | ⟨hd, rfl⟩ | ⟨i2, a2, b2, hd, hr, tr1, rfl⟩
    ·
      refine XV.run C okL_law17 2 (q := (1168, ([some (.ref (0)), some (.ref (4)), some (.ref (213)), some (.ref (219)), some (.int (nI (4 * j))), some (.int (1)), some (.int (v)), none, none], [.ref (213)]))) rfl ?_
      refine XV.callV C (As := []) (rest := []) (ci := 5) (ct_M_thrown hfl (by decide)) (xlk_ok okL_law17 rfl) rfl (by decide) (by decide) rfl (mw_o) rfl wM_L_83 wI_M_thrown wV_M_thrown wN_M wB_M_thrown hy_M_thrown (fun q => q.elim) ⟨Nat.le_of_ble_eq_true rfl, Nat.le_of_ble_eq_true rfl⟩ ⟨room_c (by omega), room_s (by omega)⟩ (Nat.le_of_ble_eq_true rfl) (fun r n h hp => ?_) (fun _ _ _ q => q.elim)
      obtain ⟨rfl, rfl, rfl⟩ := hp
      refine XV.run C okL_law17 1 (q := (1173, ([some (.ref (0)), some (.ref (4)), some (.ref (213)), some (.ref (219)), some (.int (nI (4 * j))), some (.int (1)), some (.int (v)), none, none], [.int (1), .int ((upd (upd F 6 0) 6 1) 6)]))) rfl ?_
      refine XV.icmp_eq C (tgt := 1178) (xlk_ok okL_law17 rfl) rfl (fun _ => ?_) (fun hc => absurd (upd_eq) hc)
      refine XV.run C okL_law17 1 (q := (1180, ([some (.ref (0)), some (.ref (4)), some (.ref (213)), some (.ref (219)), some (.int (nI (4 * j))), some (.int (1)), some (.int (v)), none, none], [.int (1)]))) rfl ?_
      refine XV.if_ne C (tgt := 1195) (xlk_ok okL_law17 rfl) rfl (fun _ => ?_) (fun hc => absurd hc (by decide))
      refine XV.run C okL_law17 1 (q := (1390, ([some (.ref (0)), some (.ref (4)), some (.ref (213)), some (.ref (219)), some (.int (nI (4 * j))), some (.int (1)), some (.int (v)), none, none], []))) rfl ?_
      exact XV.widen (by omega) (by omega) (XV.drop (kk _ _ _ _ _ _ _ _ _ _ _ _ _ _ h219 ⟨⟨_, _, _, hO⟩, ho, hk6, hPR, hl6, (upd_ne (by decide)).trans ((upd_ne (by decide)).trans hF2), (upd_ne (by decide)).trans ((upd_ne (by decide)).trans hF5)⟩) rfl (by simp [xle]))
    ·
      exfalso
      try simp only [le_tI, lt_tI, tI_0, tI_1, tc_4, tc_5, tc_7, tc_8, tc_9, tc_23, tc_24, tc_33, tc_99, tc_126, kI] at hc
      try simp only [le_tI, lt_tI, tI_0, tI_1, tc_4, tc_5, tc_7, tc_8, tc_9, tc_23, tc_24, tc_33, tc_99, tc_126, kI] at hd
      omega
    ·
      obtain ⟨hd0, hd1, hd2, hd3, hd4, hd5⟩ := hd
      have thd0 := nI_teq hd0 (by omega)
      have thd2 := nI_teq hd2 (by omega)
      have thd3 := nI_teq hd3 (by omega)
      exfalso
      try simp only [le_tI, lt_tI, tI_0, tI_1, tc_4, tc_5, tc_7, tc_8, tc_9, tc_23, tc_24, tc_33, tc_99, tc_126, kI] at hc
      try simp only [le_tI, lt_tI, tI_0, tI_1, tc_4, tc_5, tc_7, tc_8, tc_9, tc_23, tc_24, tc_33, tc_99, tc_126, kI] at hd1
      try simp only [le_tI, lt_tI, tI_0, tI_1, tc_4, tc_5, tc_7, tc_8, tc_9, tc_23, tc_24, tc_33, tc_99, tc_126, kI] at hd4
      try simp only [le_tI, lt_tI, tI_0, tI_1, tc_4, tc_5, tc_7, tc_8, tc_9, tc_23, tc_24, tc_33, tc_99, tc_126, kI] at hd5
      omega
  ·
    refine XV.cast lw_0.symm ?_
    refine XV.run C okL_law17 6 (q := (1149, ([some (.ref (0)), some (.ref (4)), some (.ref (213)), some (.ref (219)), some (.int (nI (4 * j))), some (.int (2)), none, none, none], [.int ((nI (4 * j)) + 1), .ref (0), .ref (213)]))) rfl ?_
    refine XV.sald C (a := (4 * j + 1)) (xlk_ok okL_law17 rfl) (nI_add _ 1) (by omega) hL ?_
    refine XV.run C okL_law17 4 (q := (1155, ([some (.ref (0)), some (.ref (4)), some (.ref (213)), some (.ref (219)), some (.int (nI (4 * j))), some (.int (2)), none, none, none], [.int ((nI (4 * j)) + 2), .ref (0), .int (xxs G (4 * j + 1)), .ref (213)]))) rfl ?_
    refine XV.sald C (a := (4 * j + 2)) (xlk_ok okL_law17 rfl) (nI_add _ 2) (by omega) hL ?_
    refine XV.run C okL_law17 4 (q := (1161, ([some (.ref (0)), some (.ref (4)), some (.ref (213)), some (.ref (219)), some (.int (nI (4 * j))), some (.int (2)), none, none, none], [.int ((nI (4 * j)) + 3), .ref (0), .int (xxs G (4 * j + 2)), .int (xxs G (4 * j + 1)), .ref (213)]))) rfl ?_
    refine XV.sald C (a := (4 * j + 3)) (xlk_ok okL_law17 rfl) (nI_add _ 3) (by omega) hL ?_
    refine XV.callV C (As := [.int (xxs G (4 * j + 1)), .int (xxs G (4 * j + 2)), .int (xxs G (4 * j + 3))]) (rest := []) (ci := 5) (ct_M_ifInspected hfl (by decide) hm hk hl hz z1 z2 (xxs G (4 * j + 1)) (xxs G (4 * j + 2)) (xxs G (4 * j + 3))) (xlk_ok okL_law17 rfl) rfl (by decide) (by decide) rfl (mw_o) rfl wM_L_141 wI_M_ifInspected wV_M_ifInspected wN_M wB_M_ifInspected hy_M_ifInspected (fun q => q.elim) ⟨Nat.le_of_ble_eq_true rfl, Nat.le_of_ble_eq_true rfl⟩ ⟨room_c (by omega), room_s (by omega)⟩ (Nat.le_of_ble_eq_true rfl) (fun r n h hp => ?_) (fun _ _ _ q => q.elim)
    obtain ⟨rfl, ⟨v, rfl⟩, hp⟩ := hp
    rcases hp with ⟨hd, rfl⟩ | ⟨hd, rfl⟩ | ⟨i2, a2, b2, hd, hr, tr1, rfl⟩
    ·
      exfalso
      try simp only [le_tI, lt_tI, tI_0, tI_1, tc_4, tc_5, tc_7, tc_8, tc_9, tc_23, tc_24, tc_33, tc_99, tc_126, kI] at hc
      try simp only [le_tI, lt_tI, tI_0, tI_1, tc_4, tc_5, tc_7, tc_8, tc_9, tc_23, tc_24, tc_33, tc_99, tc_126, kI] at hd
      omega
    ·
      refine XV.run C okL_law17 2 (q := (1168, ([some (.ref (0)), some (.ref (4)), some (.ref (213)), some (.ref (219)), some (.int (nI (4 * j))), some (.int (2)), some (.int (v)), none, none], [.ref (213)]))) rfl ?_
      refine XV.callV C (As := []) (rest := []) (ci := 5) (ct_M_thrown hfl (by decide)) (xlk_ok okL_law17 rfl) rfl (by decide) (by decide) rfl (mw_o) rfl wM_L_83 wI_M_thrown wV_M_thrown wN_M wB_M_thrown hy_M_thrown (fun q => q.elim) ⟨Nat.le_of_ble_eq_true rfl, Nat.le_of_ble_eq_true rfl⟩ ⟨room_c (by omega), room_s (by omega)⟩ (Nat.le_of_ble_eq_true rfl) (fun r n h hp => ?_) (fun _ _ _ q => q.elim)
      obtain ⟨rfl, rfl, rfl⟩ := hp
      refine XV.run C okL_law17 1 (q := (1173, ([some (.ref (0)), some (.ref (4)), some (.ref (213)), some (.ref (219)), some (.int (nI (4 * j))), some (.int (2)), some (.int (v)), none, none], [.int (2), .int ((upd (upd F 6 0) 6 2) 6)]))) rfl ?_
      refine XV.icmp_eq C (tgt := 1178) (xlk_ok okL_law17 rfl) rfl (fun _ => ?_) (fun hc => absurd (upd_eq) hc)
      refine XV.run C okL_law17 1 (q := (1180, ([some (.ref (0)), some (.ref (4)), some (.ref (213)), some (.ref (219)), some (.int (nI (4 * j))), some (.int (2)), some (.int (v)), none, none], [.int (2)]))) rfl ?_
      refine XV.if_ne C (tgt := 1195) (xlk_ok okL_law17 rfl) rfl (fun _ => ?_) (fun hc => absurd hc (by decide))
      refine XV.run C okL_law17 1 (q := (1390, ([some (.ref (0)), some (.ref (4)), some (.ref (213)), some (.ref (219)), some (.int (nI (4 * j))), some (.int (2)), some (.int (v)), none, none], []))) rfl ?_
      exact XV.widen (by omega) (by omega) (XV.drop (kk _ _ _ _ _ _ _ _ _ _ _ _ _ _ h219 ⟨⟨_, _, _, hO⟩, ho, hk6, hPR, hl6, (upd_ne (by decide)).trans ((upd_ne (by decide)).trans hF2), (upd_ne (by decide)).trans ((upd_ne (by decide)).trans hF5)⟩) rfl (by simp [xle]))
    ·
      obtain ⟨hd0, hd1, hd2, hd3, hd4, hd5⟩ := hd
      have thd0 := nI_teq hd0 (by omega)
      have thd2 := nI_teq hd2 (by omega)
      have thd3 := nI_teq hd3 (by omega)
      exfalso
      try simp only [le_tI, lt_tI, tI_0, tI_1, tc_4, tc_5, tc_7, tc_8, tc_9, tc_23, tc_24, tc_33, tc_99, tc_126, kI] at hc
      try simp only [le_tI, lt_tI, tI_0, tI_1, tc_4, tc_5, tc_7, tc_8, tc_9, tc_23, tc_24, tc_33, tc_99, tc_126, kI] at hd1
      try simp only [le_tI, lt_tI, tI_0, tI_1, tc_4, tc_5, tc_7, tc_8, tc_9, tc_23, tc_24, tc_33, tc_99, tc_126, kI] at hd4
      try simp only [le_tI, lt_tI, tI_0, tI_1, tc_4, tc_5, tc_7, tc_8, tc_9, tc_23, tc_24, tc_33, tc_99, tc_126, kI] at hd5
      omega
def kL_law18 : List (Nat × (Instr × Nat)) := [(1198, (.aload_n 1, 1)), (1199, (.aload_n 0, 1)), (1200, (.iload 4, 2)), (1202, (.iconst 1, 1)), (1203, (.iadd, 1)), (1204, (.iaload, 1)), (1205, (.aload_n 0, 1)), (1206, (.iload 4, 2)), (1208, (.iconst 2, 1)), (1209, (.iadd, 1)), (1210, (.iaload, 1)), (1211, (.aload_n 3, 1)), (1212, (.invokestatic 142, 3)), (1215, (.istore 5, 2)), (1217, (.aload_n 2, 1)), (1218, (.aload_n 0, 1)), (1219, (.iload 4, 2)), (1221, (.iconst 1, 1)), (1222, (.iadd, 1)), (1223, (.iaload, 1)), (1224, (.aload_n 0, 1)), (1225, (.iload 4, 2)), (1227, (.iconst 2, 1)), (1228, (.iadd, 1)), (1229, (.iaload, 1)), (1230, (.invokevirtual 144, 3)), (1233, (.istore 6, 2)), (1235, (.aload_n 2, 1)), (1236, (.invokevirtual 83, 3)), (1239, (.iload 5, 2)), (1241, (.if_icmp .eq 5, 3)), (1244, (.iconst 0, 1)), (1245, (.ireturn, 1)), (1246, (.iload 5, 2)), (1248, (.ifCond .ne 15, 3)), (1251, (.aload_n 3, 1)), (1252, (.iconst 0, 1)), (1253, (.laload, 1)), (1254, (.iload 6, 2)), (1256, (.i2l, 1)), (1257, (.lcmp, 1)), (1258, (.ifCond .eq 5, 3)), (1261, (.iconst 0, 1)), (1262, (.ireturn, 1)), (1263, (.goto 127, 3))]
set_option maxRecDepth 100000 in
theorem okL_law18 : ∀ a ∈ kL_law18, decode code a.1 = .ok a.2 := by decide +kernel
set_option maxHeartbeats 4000000 in
set_option maxRecDepth 100000 in
theorem law_c18 (hfl : l.stackTraces = false) (hL : xL G < 2 ^ 31) (C : XCx G l "RopeThreadsLaw" code 9 p' s' m' g' t' c') (hk8 : k + 8 ≤ 601024) (hks : ks + 48 ≤ 7293034) (hj : 4 * j + 4 ≤ xL G) (h219 : hb 219 = outC fo) (hI : LI f o kp P len pa F) (kk : ∀ (hb : XH) (f : Nat → Int32) (o kp : Nat) (P : Nat → Nat → Int32) (tx : Nat → Int32) (len : Nat) (p : PT) (ρ pa tr td F : Nat → Int32) (fo : Nat → Int64), hb 219 = outC fo → LI f o kp P len pa F → XV G 9 p' l e' room_1 s' m' g' b' t' c' Q 1390 [some (.ref 0), some (.ref 4), some (.ref 213), some (.ref 219), some (.int (nI (4 * j))), none, none, none, none] [] 216 (setM (setCW hb f o kp P tx len p ρ) f pa tr tx td F) (k + 8) (ks + 48)) : XV G 9 p' l e' room_1 s' m' g' b' t' c' Q 1198 [some (.ref 0), some (.ref 4), some (.ref 213), some (.ref 219), some (.int (nI (4 * j))), none, none, none, none] [] 216 (setM (setCW hb f o kp P tx len p ρ) f pa tr tx td F) (k) (ks) := by
  obtain ⟨⟨k9, m9, tt9, hO⟩, ho, hk6, hPR, hl6, hF2, hF5⟩ := hI
  have hm := hO.1
  have hk := hO.2.1
  have hl := hO.live
  obtain ⟨z, hz, z1, z2⟩ := hO.2.2.2.2.2.2.1.1
  have kI : (nI k9).toInt = (k9 : Int) := nI_tI (by omega)
  refine XV.cast lw_0 ?_
  refine XV.run C okL_law18 5 (q := (1204, ([some (.ref (0)), some (.ref (4)), some (.ref (213)), some (.ref (219)), some (.int (nI (4 * j))), none, none, none, none], [.int ((nI (4 * j)) + 1), .ref (0), .ref (4)]))) rfl ?_
  refine XV.sald C (a := (4 * j + 1)) (xlk_ok okL_law18 rfl) (nI_add _ 1) (by omega) hL ?_
  refine XV.run C okL_law18 4 (q := (1210, ([some (.ref (0)), some (.ref (4)), some (.ref (213)), some (.ref (219)), some (.int (nI (4 * j))), none, none, none, none], [.int ((nI (4 * j)) + 2), .ref (0), .int (xxs G (4 * j + 1)), .ref (4)]))) rfl ?_
  refine XV.sald C (a := (4 * j + 2)) (xlk_ok okL_law18 rfl) (nI_add _ 2) (by omega) hL ?_
  refine XV.run C okL_law18 1 (q := (1212, ([some (.ref (0)), some (.ref (4)), some (.ref (213)), some (.ref (219)), some (.int (nI (4 * j))), none, none, none, none], [.ref (219), .int (xxs G (4 * j + 2)), .int (xxs G (4 * j + 1)), .ref (4)]))) rfl ?_
  refine XV.callSX C (As := [.ref (4), .int (xxs G (4 * j + 1)), .int (xxs G (4 * j + 2)), .ref (219)]) (rest := []) (ct_L_bestInspection hfl (by decide) hm hk hl (xxs G (4 * j + 1)) (xxs G (4 * j + 2)) (by decide) ((blk_out (Or.inr (by decide))).trans h219)) (xlk_ok okL_law18 rfl) rfl wM_L_142 wS_L_bestInspection wN_L wB_L_bestInspection hy_L_bestInspection (fun q => q.elim) ⟨Nat.le_of_ble_eq_true rfl, Nat.le_of_ble_eq_true rfl⟩ ⟨room_c (by omega), room_s (by omega)⟩ (Nat.le_of_ble_eq_true rfl) (fun r n h hp => ?_) (fun _ _ _ q => q.elim)
  obtain ⟨rfl, hp⟩ := hp
  rcases hp with ⟨i1, w1, hc, rfl, rfl⟩ | ⟨hc, rfl, rfl⟩ | ⟨hc, rfl, rfl⟩
  ·
    refine XV.cast lw_1 ?_
    refine XV.run C okL_law18 6 (q := (1223, ([some (.ref (0)), some (.ref (4)), some (.ref (213)), some (.ref (219)), some (.int (nI (4 * j))), some (.int (0)), none, none, none], [.int ((nI (4 * j)) + 1), .ref (0), .ref (213)]))) rfl ?_
    refine XV.sald C (a := (4 * j + 1)) (xlk_ok okL_law18 rfl) (nI_add _ 1) (by omega) hL ?_
    refine XV.run C okL_law18 4 (q := (1229, ([some (.ref (0)), some (.ref (4)), some (.ref (213)), some (.ref (219)), some (.int (nI (4 * j))), some (.int (0)), none, none, none], [.int ((nI (4 * j)) + 2), .ref (0), .int (xxs G (4 * j + 1)), .ref (213)]))) rfl ?_
    refine XV.sald C (a := (4 * j + 2)) (xlk_ok okL_law18 rfl) (nI_add _ 2) (by omega) hL ?_
    refine XV.callV C (As := [.int (xxs G (4 * j + 1)), .int (xxs G (4 * j + 2))]) (rest := []) (ci := 5) (ct_M_bestInspection hfl (by decide) hm hk hl (xxs G (4 * j + 1)) (xxs G (4 * j + 2))) (xlk_ok okL_law18 rfl) rfl (by decide) (by decide) rfl (mw_o) rfl wM_L_144 wI_M_bestInspection wV_M_bestInspection wN_M wB_M_bestInspection hy_M_bestInspection (fun q => q.elim) ⟨Nat.le_of_ble_eq_true rfl, Nat.le_of_ble_eq_true rfl⟩ ⟨room_c (by omega), room_s (by omega)⟩ (Nat.le_of_ble_eq_true rfl) (fun r n h hp => ?_) (fun _ _ _ q => q.elim)
    obtain ⟨rfl, ⟨v, rfl⟩, hp⟩ := hp
    rcases hp with ⟨hd, rfl⟩ | ⟨hd, rfl⟩ | ⟨i2, w2, hd, hr, rfl⟩
    ·
      obtain ⟨hc0, hc1, hc2, hc3, hc4⟩ := hc
      have thc0 := nI_teq hc0 (by omega)
      have thc2 := nI_teq hc2 (by omega)
      exfalso
      try simp only [le_tI, lt_tI, tI_0, tI_1, tc_4, tc_5, tc_7, tc_8, tc_9, tc_23, tc_24, tc_33, tc_99, tc_126, kI] at hc1
      try simp only [le_tI, lt_tI, tI_0, tI_1, tc_4, tc_5, tc_7, tc_8, tc_9, tc_23, tc_24, tc_33, tc_99, tc_126, kI] at hc3
      try simp only [le_tI, lt_tI, tI_0, tI_1, tc_4, tc_5, tc_7, tc_8, tc_9, tc_23, tc_24, tc_33, tc_99, tc_126, kI] at hc4
      try simp only [le_tI, lt_tI, tI_0, tI_1, tc_4, tc_5, tc_7, tc_8, tc_9, tc_23, tc_24, tc_33, tc_99, tc_126, kI] at hd
      omega
    ·
      obtain ⟨hc0, hc1, hc2, hc3, hc4⟩ := hc
      have thc0 := nI_teq hc0 (by omega)
      have thc2 := nI_teq hc2 (by omega)
      exfalso
      try simp only [le_tI, lt_tI, tI_0, tI_1, tc_4, tc_5, tc_7, tc_8, tc_9, tc_23, tc_24, tc_33, tc_99, tc_126, kI] at hc1
      try simp only [le_tI, lt_tI, tI_0, tI_1, tc_4, tc_5, tc_7, tc_8, tc_9, tc_23, tc_24, tc_33, tc_99, tc_126, kI] at hc3
      try simp only [le_tI, lt_tI, tI_0, tI_1, tc_4, tc_5, tc_7, tc_8, tc_9, tc_23, tc_24, tc_33, tc_99, tc_126, kI] at hc4
      try simp only [le_tI, lt_tI, tI_0, tI_1, tc_4, tc_5, tc_7, tc_8, tc_9, tc_23, tc_24, tc_33, tc_99, tc_126, kI] at hd
      omega
    ·
      obtain ⟨hc0, hc1, hc2, hc3, hc4⟩ := hc
      obtain ⟨hd0, hd1, hd2, hd3, hd4⟩ := hd
      have thc0 := nI_teq hc0 (by omega)
      have thc2 := nI_teq hc2 (by omega)
      have thd0 := nI_teq hd0 (by omega)
      have thd2 := nI_teq hd2 (by omega)
      obtain rfl : i1 = i2 := by omega
      obtain rfl : w1 = w2 := by omega
      cases hr
      -- both answer
      refine XV.run C okL_law18 2 (q := (1236, ([some (.ref (0)), some (.ref (4)), some (.ref (213)), some (.ref (219)), some (.int (nI (4 * j))), some (.int (0)), some (.int ((nI (bestI (rowOf f i1) w1)))), none, none], [.ref (213)]))) rfl ?_
      refine XV.callV C (As := []) (rest := []) (ci := 5) (ct_M_thrown hfl (by decide)) (xlk_ok okL_law18 rfl) rfl (by decide) (by decide) rfl (mw_o) rfl wM_L_83 wI_M_thrown wV_M_thrown wN_M wB_M_thrown hy_M_thrown (fun q => q.elim) ⟨Nat.le_of_ble_eq_true rfl, Nat.le_of_ble_eq_true rfl⟩ ⟨room_c (by omega), room_s (by omega)⟩ (Nat.le_of_ble_eq_true rfl) (fun r n h hp => ?_) (fun _ _ _ q => q.elim)
      obtain ⟨rfl, rfl, rfl⟩ := hp
      refine XV.run C okL_law18 1 (q := (1241, ([some (.ref (0)), some (.ref (4)), some (.ref (213)), some (.ref (219)), some (.int (nI (4 * j))), some (.int (0)), some (.int ((nI (bestI (rowOf f i1) w1)))), none, none], [.int (0), .int ((upd F 6 0) 6)]))) rfl ?_
      refine XV.icmp_eq C (tgt := 1246) (xlk_ok okL_law18 rfl) rfl (fun _ => ?_) (fun hc => absurd (upd_eq) hc)
      refine XV.run C okL_law18 1 (q := (1248, ([some (.ref (0)), some (.ref (4)), some (.ref (213)), some (.ref (219)), some (.int (nI (4 * j))), some (.int (0)), some (.int ((nI (bestI (rowOf f i1) w1)))), none, none], [.int (0)]))) rfl ?_
      refine XV.if_ne C (tgt := 1263) (xlk_ok okL_law18 rfl) rfl (fun hc => absurd (rfl) hc) (fun _ => ?_)
      refine XV.run C okL_law18 2 (q := (1253, ([some (.ref (0)), some (.ref (4)), some (.ref (213)), some (.ref (219)), some (.int (nI (4 * j))), some (.int (0)), some (.int ((nI (bestI (rowOf f i1) w1)))), none, none], [.int (0), .ref (219)]))) rfl ?_
      refine XV.lald C (N := 1) (a := 0) (f := vp_updL fo 0 (nI (bestI (rowOf f i1) w1)).toInt64) (xlk_ok okL_law18 rfl) (by decide) (by decide) (lw_219 (xup_at hb 219 _)) rfl (by decide) (by decide) ?_
      rw [upL_0]
      refine XV.run C okL_law18 3 (q := (1258, ([some (.ref (0)), some (.ref (4)), some (.ref (213)), some (.ref (219)), some (.int (nI (4 * j))), some (.int (0)), some (.int ((nI (bestI (rowOf f i1) w1)))), none, none], [.int (lg_cmp ((nI (bestI (rowOf f i1) w1)).toInt64) (((nI (bestI (rowOf f i1) w1))).toInt64))]))) rfl ?_
      refine XV.if_eq C (tgt := 1263) (xlk_ok okL_law18 rfl) rfl (fun _ => ?_) (fun hc => absurd (lcmp_eq (congrArg Int32.toInt64 (rfl))) hc)
      refine XV.run C okL_law18 1 (q := (1390, ([some (.ref (0)), some (.ref (4)), some (.ref (213)), some (.ref (219)), some (.int (nI (4 * j))), some (.int (0)), some (.int ((nI (bestI (rowOf f i1) w1)))), none, none], []))) rfl ?_
      exact XV.widen (by omega) (by omega) (XV.drop (kk _ _ _ _ _ _ _ _ _ _ _ _ _ _ (xup_at hb 219 _) ⟨⟨_, _, _, hO⟩, ho, hk6, hPR, hl6, (upd_ne (by decide)).trans hF2, (upd_ne (by decide)).trans hF5⟩) rfl (by simp [xle]))
  ·
    refine XV.cast lw_0.symm ?_
    refine XV.run C okL_law18 6 (q := (1223, ([some (.ref (0)), some (.ref (4)), some (.ref (213)), some (.ref (219)), some (.int (nI (4 * j))), some (.int (1)), none, none, none], [.int ((nI (4 * j)) + 1), .ref (0), .ref (213)]))) rfl ?_
    refine XV.sald C (a := (4 * j + 1)) (xlk_ok okL_law18 rfl) (nI_add _ 1) (by omega) hL ?_
    refine XV.run C okL_law18 4 (q := (1229, ([some (.ref (0)), some (.ref (4)), some (.ref (213)), some (.ref (219)), some (.int (nI (4 * j))), some (.int (1)), none, none, none], [.int ((nI (4 * j)) + 2), .ref (0), .int (xxs G (4 * j + 1)), .ref (213)]))) rfl ?_
    refine XV.sald C (a := (4 * j + 2)) (xlk_ok okL_law18 rfl) (nI_add _ 2) (by omega) hL ?_
    refine XV.callV C (As := [.int (xxs G (4 * j + 1)), .int (xxs G (4 * j + 2))]) (rest := []) (ci := 5) (ct_M_bestInspection hfl (by decide) hm hk hl (xxs G (4 * j + 1)) (xxs G (4 * j + 2))) (xlk_ok okL_law18 rfl) rfl (by decide) (by decide) rfl (mw_o) rfl wM_L_144 wI_M_bestInspection wV_M_bestInspection wN_M wB_M_bestInspection hy_M_bestInspection (fun q => q.elim) ⟨Nat.le_of_ble_eq_true rfl, Nat.le_of_ble_eq_true rfl⟩ ⟨room_c (by omega), room_s (by omega)⟩ (Nat.le_of_ble_eq_true rfl) (fun r n h hp => ?_) (fun _ _ _ q => q.elim)
    obtain ⟨rfl, ⟨v, rfl⟩, hp⟩ := hp
    rcases hp with ⟨hd, rfl⟩ | ⟨hd, rfl⟩ | ⟨i2, w2, hd, hr, rfl⟩
    ·
      refine XV.run C okL_law18 2 (q := (1236, ([some (.ref (0)), some (.ref (4)), some (.ref (213)), some (.ref (219)), some (.int (nI (4 * j))), some (.int (1)), some (.int (v)), none, none], [.ref (213)]))) rfl ?_
      refine XV.callV C (As := []) (rest := []) (ci := 5) (ct_M_thrown hfl (by decide)) (xlk_ok okL_law18 rfl) rfl (by decide) (by decide) rfl (mw_o) rfl wM_L_83 wI_M_thrown wV_M_thrown wN_M wB_M_thrown hy_M_thrown (fun q => q.elim) ⟨Nat.le_of_ble_eq_true rfl, Nat.le_of_ble_eq_true rfl⟩ ⟨room_c (by omega), room_s (by omega)⟩ (Nat.le_of_ble_eq_true rfl) (fun r n h hp => ?_) (fun _ _ _ q => q.elim)
      obtain ⟨rfl, rfl, rfl⟩ := hp
      refine XV.run C okL_law18 1 (q := (1241, ([some (.ref (0)), some (.ref (4)), some (.ref (213)), some (.ref (219)), some (.int (nI (4 * j))), some (.int (1)), some (.int (v)), none, none], [.int (1), .int ((upd (upd F 6 0) 6 1) 6)]))) rfl ?_
      refine XV.icmp_eq C (tgt := 1246) (xlk_ok okL_law18 rfl) rfl (fun _ => ?_) (fun hc => absurd (upd_eq) hc)
      refine XV.run C okL_law18 1 (q := (1248, ([some (.ref (0)), some (.ref (4)), some (.ref (213)), some (.ref (219)), some (.int (nI (4 * j))), some (.int (1)), some (.int (v)), none, none], [.int (1)]))) rfl ?_
      refine XV.if_ne C (tgt := 1263) (xlk_ok okL_law18 rfl) rfl (fun _ => ?_) (fun hc => absurd hc (by decide))
      refine XV.run C okL_law18 1 (q := (1390, ([some (.ref (0)), some (.ref (4)), some (.ref (213)), some (.ref (219)), some (.int (nI (4 * j))), some (.int (1)), some (.int (v)), none, none], []))) rfl ?_
      exact XV.widen (by omega) (by omega) (XV.drop (kk _ _ _ _ _ _ _ _ _ _ _ _ _ _ h219 ⟨⟨_, _, _, hO⟩, ho, hk6, hPR, hl6, (upd_ne (by decide)).trans ((upd_ne (by decide)).trans hF2), (upd_ne (by decide)).trans ((upd_ne (by decide)).trans hF5)⟩) rfl (by simp [xle]))
    ·
      exfalso
      try simp only [le_tI, lt_tI, tI_0, tI_1, tc_4, tc_5, tc_7, tc_8, tc_9, tc_23, tc_24, tc_33, tc_99, tc_126, kI] at hc
      try simp only [le_tI, lt_tI, tI_0, tI_1, tc_4, tc_5, tc_7, tc_8, tc_9, tc_23, tc_24, tc_33, tc_99, tc_126, kI] at hd
      omega
    ·
      obtain ⟨hd0, hd1, hd2, hd3, hd4⟩ := hd
      have thd0 := nI_teq hd0 (by omega)
      have thd2 := nI_teq hd2 (by omega)
      exfalso
      try simp only [le_tI, lt_tI, tI_0, tI_1, tc_4, tc_5, tc_7, tc_8, tc_9, tc_23, tc_24, tc_33, tc_99, tc_126, kI] at hc
      try simp only [le_tI, lt_tI, tI_0, tI_1, tc_4, tc_5, tc_7, tc_8, tc_9, tc_23, tc_24, tc_33, tc_99, tc_126, kI] at hd1
      try simp only [le_tI, lt_tI, tI_0, tI_1, tc_4, tc_5, tc_7, tc_8, tc_9, tc_23, tc_24, tc_33, tc_99, tc_126, kI] at hd3
      try simp only [le_tI, lt_tI, tI_0, tI_1, tc_4, tc_5, tc_7, tc_8, tc_9, tc_23, tc_24, tc_33, tc_99, tc_126, kI] at hd4
      omega
  ·
    refine XV.cast lw_0.symm ?_
    refine XV.run C okL_law18 6 (q := (1223, ([some (.ref (0)), some (.ref (4)), some (.ref (213)), some (.ref (219)), some (.int (nI (4 * j))), some (.int (2)), none, none, none], [.int ((nI (4 * j)) + 1), .ref (0), .ref (213)]))) rfl ?_
    refine XV.sald C (a := (4 * j + 1)) (xlk_ok okL_law18 rfl) (nI_add _ 1) (by omega) hL ?_
    refine XV.run C okL_law18 4 (q := (1229, ([some (.ref (0)), some (.ref (4)), some (.ref (213)), some (.ref (219)), some (.int (nI (4 * j))), some (.int (2)), none, none, none], [.int ((nI (4 * j)) + 2), .ref (0), .int (xxs G (4 * j + 1)), .ref (213)]))) rfl ?_
    refine XV.sald C (a := (4 * j + 2)) (xlk_ok okL_law18 rfl) (nI_add _ 2) (by omega) hL ?_
    refine XV.callV C (As := [.int (xxs G (4 * j + 1)), .int (xxs G (4 * j + 2))]) (rest := []) (ci := 5) (ct_M_bestInspection hfl (by decide) hm hk hl (xxs G (4 * j + 1)) (xxs G (4 * j + 2))) (xlk_ok okL_law18 rfl) rfl (by decide) (by decide) rfl (mw_o) rfl wM_L_144 wI_M_bestInspection wV_M_bestInspection wN_M wB_M_bestInspection hy_M_bestInspection (fun q => q.elim) ⟨Nat.le_of_ble_eq_true rfl, Nat.le_of_ble_eq_true rfl⟩ ⟨room_c (by omega), room_s (by omega)⟩ (Nat.le_of_ble_eq_true rfl) (fun r n h hp => ?_) (fun _ _ _ q => q.elim)
    obtain ⟨rfl, ⟨v, rfl⟩, hp⟩ := hp
    rcases hp with ⟨hd, rfl⟩ | ⟨hd, rfl⟩ | ⟨i2, w2, hd, hr, rfl⟩
    ·
      exfalso
      try simp only [le_tI, lt_tI, tI_0, tI_1, tc_4, tc_5, tc_7, tc_8, tc_9, tc_23, tc_24, tc_33, tc_99, tc_126, kI] at hc
      try simp only [le_tI, lt_tI, tI_0, tI_1, tc_4, tc_5, tc_7, tc_8, tc_9, tc_23, tc_24, tc_33, tc_99, tc_126, kI] at hd
      omega
    ·
      refine XV.run C okL_law18 2 (q := (1236, ([some (.ref (0)), some (.ref (4)), some (.ref (213)), some (.ref (219)), some (.int (nI (4 * j))), some (.int (2)), some (.int (v)), none, none], [.ref (213)]))) rfl ?_
      refine XV.callV C (As := []) (rest := []) (ci := 5) (ct_M_thrown hfl (by decide)) (xlk_ok okL_law18 rfl) rfl (by decide) (by decide) rfl (mw_o) rfl wM_L_83 wI_M_thrown wV_M_thrown wN_M wB_M_thrown hy_M_thrown (fun q => q.elim) ⟨Nat.le_of_ble_eq_true rfl, Nat.le_of_ble_eq_true rfl⟩ ⟨room_c (by omega), room_s (by omega)⟩ (Nat.le_of_ble_eq_true rfl) (fun r n h hp => ?_) (fun _ _ _ q => q.elim)
      obtain ⟨rfl, rfl, rfl⟩ := hp
      refine XV.run C okL_law18 1 (q := (1241, ([some (.ref (0)), some (.ref (4)), some (.ref (213)), some (.ref (219)), some (.int (nI (4 * j))), some (.int (2)), some (.int (v)), none, none], [.int (2), .int ((upd (upd F 6 0) 6 2) 6)]))) rfl ?_
      refine XV.icmp_eq C (tgt := 1246) (xlk_ok okL_law18 rfl) rfl (fun _ => ?_) (fun hc => absurd (upd_eq) hc)
      refine XV.run C okL_law18 1 (q := (1248, ([some (.ref (0)), some (.ref (4)), some (.ref (213)), some (.ref (219)), some (.int (nI (4 * j))), some (.int (2)), some (.int (v)), none, none], [.int (2)]))) rfl ?_
      refine XV.if_ne C (tgt := 1263) (xlk_ok okL_law18 rfl) rfl (fun _ => ?_) (fun hc => absurd hc (by decide))
      refine XV.run C okL_law18 1 (q := (1390, ([some (.ref (0)), some (.ref (4)), some (.ref (213)), some (.ref (219)), some (.int (nI (4 * j))), some (.int (2)), some (.int (v)), none, none], []))) rfl ?_
      exact XV.widen (by omega) (by omega) (XV.drop (kk _ _ _ _ _ _ _ _ _ _ _ _ _ _ h219 ⟨⟨_, _, _, hO⟩, ho, hk6, hPR, hl6, (upd_ne (by decide)).trans ((upd_ne (by decide)).trans hF2), (upd_ne (by decide)).trans ((upd_ne (by decide)).trans hF5)⟩) rfl (by simp [xle]))
    ·
      obtain ⟨hd0, hd1, hd2, hd3, hd4⟩ := hd
      have thd0 := nI_teq hd0 (by omega)
      have thd2 := nI_teq hd2 (by omega)
      exfalso
      try simp only [le_tI, lt_tI, tI_0, tI_1, tc_4, tc_5, tc_7, tc_8, tc_9, tc_23, tc_24, tc_33, tc_99, tc_126, kI] at hc
      try simp only [le_tI, lt_tI, tI_0, tI_1, tc_4, tc_5, tc_7, tc_8, tc_9, tc_23, tc_24, tc_33, tc_99, tc_126, kI] at hd1
      try simp only [le_tI, lt_tI, tI_0, tI_1, tc_4, tc_5, tc_7, tc_8, tc_9, tc_23, tc_24, tc_33, tc_99, tc_126, kI] at hd3
      try simp only [le_tI, lt_tI, tI_0, tI_1, tc_4, tc_5, tc_7, tc_8, tc_9, tc_23, tc_24, tc_33, tc_99, tc_126, kI] at hd4
      omega
def kL_law19 : List (Nat × (Instr × Nat)) := [(1266, (.aload_n 1, 1)), (1267, (.aload_n 0, 1)), (1268, (.iload 4, 2)), (1270, (.iconst 1, 1)), (1271, (.iadd, 1)), (1272, (.iaload, 1)), (1273, (.aload_n 3, 1)), (1274, (.invokestatic 145, 3)), (1277, (.istore 5, 2)), (1279, (.aload_n 2, 1)), (1280, (.aload_n 0, 1)), (1281, (.iload 4, 2)), (1283, (.iconst 1, 1)), (1284, (.iadd, 1)), (1285, (.iaload, 1)), (1286, (.invokevirtual 147, 3)), (1289, (.istore 6, 2)), (1291, (.aload_n 2, 1)), (1292, (.invokevirtual 83, 3)), (1295, (.iload 5, 2)), (1297, (.if_icmp .eq 5, 3)), (1300, (.iconst 0, 1)), (1301, (.ireturn, 1)), (1302, (.iload 5, 2)), (1304, (.ifCond .ne 15, 3)), (1307, (.aload_n 3, 1)), (1308, (.iconst 0, 1)), (1309, (.laload, 1)), (1310, (.iload 6, 2)), (1312, (.i2l, 1)), (1313, (.lcmp, 1)), (1314, (.ifCond .eq 5, 3)), (1317, (.iconst 0, 1)), (1318, (.ireturn, 1)), (1319, (.goto 71, 3))]
set_option maxRecDepth 100000 in
theorem okL_law19 : ∀ a ∈ kL_law19, decode code a.1 = .ok a.2 := by decide +kernel
set_option maxHeartbeats 4000000 in
set_option maxRecDepth 100000 in
theorem law_c19 (hfl : l.stackTraces = false) (hL : xL G < 2 ^ 31) (C : XCx G l "RopeThreadsLaw" code 9 p' s' m' g' t' c') (hk8 : k + 8 ≤ 601024) (hks : ks + 48 ≤ 7293034) (hj : 4 * j + 4 ≤ xL G) (h219 : hb 219 = outC fo) (hI : LI f o kp P len pa F) (kk : ∀ (hb : XH) (f : Nat → Int32) (o kp : Nat) (P : Nat → Nat → Int32) (tx : Nat → Int32) (len : Nat) (p : PT) (ρ pa tr td F : Nat → Int32) (fo : Nat → Int64), hb 219 = outC fo → LI f o kp P len pa F → XV G 9 p' l e' room_1 s' m' g' b' t' c' Q 1390 [some (.ref 0), some (.ref 4), some (.ref 213), some (.ref 219), some (.int (nI (4 * j))), none, none, none, none] [] 216 (setM (setCW hb f o kp P tx len p ρ) f pa tr tx td F) (k + 8) (ks + 48)) : XV G 9 p' l e' room_1 s' m' g' b' t' c' Q 1266 [some (.ref 0), some (.ref 4), some (.ref 213), some (.ref 219), some (.int (nI (4 * j))), none, none, none, none] [] 216 (setM (setCW hb f o kp P tx len p ρ) f pa tr tx td F) (k) (ks) := by
  obtain ⟨⟨k9, m9, tt9, hO⟩, ho, hk6, hPR, hl6, hF2, hF5⟩ := hI
  have hm := hO.1
  have hk := hO.2.1
  have hl := hO.live
  obtain ⟨z, hz, z1, z2⟩ := hO.2.2.2.2.2.2.1.1
  have kI : (nI k9).toInt = (k9 : Int) := nI_tI (by omega)
  refine XV.cast lw_0 ?_
  refine XV.run C okL_law19 5 (q := (1272, ([some (.ref (0)), some (.ref (4)), some (.ref (213)), some (.ref (219)), some (.int (nI (4 * j))), none, none, none, none], [.int ((nI (4 * j)) + 1), .ref (0), .ref (4)]))) rfl ?_
  refine XV.sald C (a := (4 * j + 1)) (xlk_ok okL_law19 rfl) (nI_add _ 1) (by omega) hL ?_
  refine XV.run C okL_law19 1 (q := (1274, ([some (.ref (0)), some (.ref (4)), some (.ref (213)), some (.ref (219)), some (.int (nI (4 * j))), none, none, none, none], [.ref (219), .int (xxs G (4 * j + 1)), .ref (4)]))) rfl ?_
  refine XV.callSX C (As := [.ref (4), .int (xxs G (4 * j + 1)), .ref (219)]) (rest := []) (ct_L_tripsLeft hfl (by decide) hm hk hl hz z1 z2 (xxs G (4 * j + 1)) (by decide) ((blk_out (Or.inr (by decide))).trans h219)) (xlk_ok okL_law19 rfl) rfl wM_L_145 wS_L_tripsLeft wN_L wB_L_tripsLeft hy_L_tripsLeft (fun q => q.elim) ⟨Nat.le_of_ble_eq_true rfl, Nat.le_of_ble_eq_true rfl⟩ ⟨room_c (by omega), room_s (by omega)⟩ (Nat.le_of_ble_eq_true rfl) (fun r n h hp => ?_) (fun _ _ _ q => q.elim)
  obtain ⟨rfl, hp⟩ := hp
  rcases hp with ⟨i1, hc, rfl, ρ1, rfl⟩ | ⟨hc, rfl, rfl⟩
  ·
    refine XV.cast lw_1 ?_
    refine XV.run C okL_law19 6 (q := (1285, ([some (.ref (0)), some (.ref (4)), some (.ref (213)), some (.ref (219)), some (.int (nI (4 * j))), some (.int (0)), none, none, none], [.int ((nI (4 * j)) + 1), .ref (0), .ref (213)]))) rfl ?_
    refine XV.sald C (a := (4 * j + 1)) (xlk_ok okL_law19 rfl) (nI_add _ 1) (by omega) hL ?_
    refine XV.callV C (As := [.int (xxs G (4 * j + 1))]) (rest := []) (ci := 5) (ct_M_tripsLeft hfl (by decide) hm hk hl hz z1 z2 (xxs G (4 * j + 1))) (xlk_ok okL_law19 rfl) rfl (by decide) (by decide) rfl (mw_o) rfl wM_L_147 wI_M_tripsLeft wV_M_tripsLeft wN_M wB_M_tripsLeft hy_M_tripsLeft (fun q => q.elim) ⟨Nat.le_of_ble_eq_true rfl, Nat.le_of_ble_eq_true rfl⟩ ⟨room_c (by omega), room_s (by omega)⟩ (Nat.le_of_ble_eq_true rfl) (fun r n h hp => ?_) (fun _ _ _ q => q.elim)
    obtain ⟨rfl, ⟨v, rfl⟩, hp⟩ := hp
    rcases hp with ⟨hd, rfl⟩ | ⟨i2, hd, hr, tr1, rfl⟩
    ·
      obtain ⟨hc0, hc1⟩ := hc
      have thc0 := nI_teq hc0 (by omega)
      exfalso
      try simp only [le_tI, lt_tI, tI_0, tI_1, tc_4, tc_5, tc_7, tc_8, tc_9, tc_23, tc_24, tc_33, tc_99, tc_126, kI] at hc1
      try simp only [le_tI, lt_tI, tI_0, tI_1, tc_4, tc_5, tc_7, tc_8, tc_9, tc_23, tc_24, tc_33, tc_99, tc_126, kI] at hd
      omega
    ·
      obtain ⟨hc0, hc1⟩ := hc
      obtain ⟨hd0, hd1⟩ := hd
      have thc0 := nI_teq hc0 (by omega)
      have thd0 := nI_teq hd0 (by omega)
      obtain rfl : i1 = i2 := by omega
      cases hr
      -- both answer
      refine XV.run C okL_law19 2 (q := (1292, ([some (.ref (0)), some (.ref (4)), some (.ref (213)), some (.ref (219)), some (.int (nI (4 * j))), some (.int (0)), some (.int ((nI (lfM f (rowOf f i1) z 14 0 9801)))), none, none], [.ref (213)]))) rfl ?_
      refine XV.callV C (As := []) (rest := []) (ci := 5) (ct_M_thrown hfl (by decide)) (xlk_ok okL_law19 rfl) rfl (by decide) (by decide) rfl (mw_o) rfl wM_L_83 wI_M_thrown wV_M_thrown wN_M wB_M_thrown hy_M_thrown (fun q => q.elim) ⟨Nat.le_of_ble_eq_true rfl, Nat.le_of_ble_eq_true rfl⟩ ⟨room_c (by omega), room_s (by omega)⟩ (Nat.le_of_ble_eq_true rfl) (fun r n h hp => ?_) (fun _ _ _ q => q.elim)
      obtain ⟨rfl, rfl, rfl⟩ := hp
      refine XV.run C okL_law19 1 (q := (1297, ([some (.ref (0)), some (.ref (4)), some (.ref (213)), some (.ref (219)), some (.int (nI (4 * j))), some (.int (0)), some (.int ((nI (lfM f (rowOf f i1) z 14 0 9801)))), none, none], [.int (0), .int ((upd F 6 0) 6)]))) rfl ?_
      refine XV.icmp_eq C (tgt := 1302) (xlk_ok okL_law19 rfl) rfl (fun _ => ?_) (fun hc => absurd (upd_eq) hc)
      refine XV.run C okL_law19 1 (q := (1304, ([some (.ref (0)), some (.ref (4)), some (.ref (213)), some (.ref (219)), some (.int (nI (4 * j))), some (.int (0)), some (.int ((nI (lfM f (rowOf f i1) z 14 0 9801)))), none, none], [.int (0)]))) rfl ?_
      refine XV.if_ne C (tgt := 1319) (xlk_ok okL_law19 rfl) rfl (fun hc => absurd (rfl) hc) (fun _ => ?_)
      refine XV.run C okL_law19 2 (q := (1309, ([some (.ref (0)), some (.ref (4)), some (.ref (213)), some (.ref (219)), some (.int (nI (4 * j))), some (.int (0)), some (.int ((nI (lfM f (rowOf f i1) z 14 0 9801)))), none, none], [.int (0), .ref (219)]))) rfl ?_
      refine XV.lald C (N := 1) (a := 0) (f := vp_updL fo 0 (tlK f (rowOf f i1) z 32 0 (f 3 * rowOf f i1 0)).toInt64) (xlk_ok okL_law19 rfl) (by decide) (by decide) (lw_219 (xup_at hb 219 _)) rfl (by decide) (by decide) ?_
      rw [upL_0]
      refine XV.run C okL_law19 3 (q := (1314, ([some (.ref (0)), some (.ref (4)), some (.ref (213)), some (.ref (219)), some (.int (nI (4 * j))), some (.int (0)), some (.int ((nI (lfM f (rowOf f i1) z 14 0 9801)))), none, none], [.int (lg_cmp ((tlK f (rowOf f i1) z 32 0 (f 3 * rowOf f i1 0)).toInt64) (((nI (lfM f (rowOf f i1) z 14 0 9801))).toInt64))]))) rfl ?_
      refine XV.if_eq C (tgt := 1319) (xlk_ok okL_law19 rfl) rfl (fun _ => ?_) (fun hc => absurd (lcmp_eq (congrArg Int32.toInt64 (hO.tl hc1 hz z1 z2))) hc)
      refine XV.run C okL_law19 1 (q := (1390, ([some (.ref (0)), some (.ref (4)), some (.ref (213)), some (.ref (219)), some (.int (nI (4 * j))), some (.int (0)), some (.int ((nI (lfM f (rowOf f i1) z 14 0 9801)))), none, none], []))) rfl ?_
      exact XV.widen (by omega) (by omega) (XV.drop (kk _ _ _ _ _ _ _ _ _ _ _ _ _ _ (xup_at hb 219 _) ⟨⟨_, _, _, hO⟩, ho, hk6, hPR, hl6, (upd_ne (by decide)).trans hF2, (upd_ne (by decide)).trans hF5⟩) rfl (by simp [xle]))
  ·
    refine XV.cast lw_0.symm ?_
    refine XV.run C okL_law19 6 (q := (1285, ([some (.ref (0)), some (.ref (4)), some (.ref (213)), some (.ref (219)), some (.int (nI (4 * j))), some (.int (1)), none, none, none], [.int ((nI (4 * j)) + 1), .ref (0), .ref (213)]))) rfl ?_
    refine XV.sald C (a := (4 * j + 1)) (xlk_ok okL_law19 rfl) (nI_add _ 1) (by omega) hL ?_
    refine XV.callV C (As := [.int (xxs G (4 * j + 1))]) (rest := []) (ci := 5) (ct_M_tripsLeft hfl (by decide) hm hk hl hz z1 z2 (xxs G (4 * j + 1))) (xlk_ok okL_law19 rfl) rfl (by decide) (by decide) rfl (mw_o) rfl wM_L_147 wI_M_tripsLeft wV_M_tripsLeft wN_M wB_M_tripsLeft hy_M_tripsLeft (fun q => q.elim) ⟨Nat.le_of_ble_eq_true rfl, Nat.le_of_ble_eq_true rfl⟩ ⟨room_c (by omega), room_s (by omega)⟩ (Nat.le_of_ble_eq_true rfl) (fun r n h hp => ?_) (fun _ _ _ q => q.elim)
    obtain ⟨rfl, ⟨v, rfl⟩, hp⟩ := hp
    rcases hp with ⟨hd, rfl⟩ | ⟨i2, hd, hr, tr1, rfl⟩
    ·
      refine XV.run C okL_law19 2 (q := (1292, ([some (.ref (0)), some (.ref (4)), some (.ref (213)), some (.ref (219)), some (.int (nI (4 * j))), some (.int (1)), some (.int (v)), none, none], [.ref (213)]))) rfl ?_
      refine XV.callV C (As := []) (rest := []) (ci := 5) (ct_M_thrown hfl (by decide)) (xlk_ok okL_law19 rfl) rfl (by decide) (by decide) rfl (mw_o) rfl wM_L_83 wI_M_thrown wV_M_thrown wN_M wB_M_thrown hy_M_thrown (fun q => q.elim) ⟨Nat.le_of_ble_eq_true rfl, Nat.le_of_ble_eq_true rfl⟩ ⟨room_c (by omega), room_s (by omega)⟩ (Nat.le_of_ble_eq_true rfl) (fun r n h hp => ?_) (fun _ _ _ q => q.elim)
      obtain ⟨rfl, rfl, rfl⟩ := hp
      refine XV.run C okL_law19 1 (q := (1297, ([some (.ref (0)), some (.ref (4)), some (.ref (213)), some (.ref (219)), some (.int (nI (4 * j))), some (.int (1)), some (.int (v)), none, none], [.int (1), .int ((upd (upd F 6 0) 6 1) 6)]))) rfl ?_
      refine XV.icmp_eq C (tgt := 1302) (xlk_ok okL_law19 rfl) rfl (fun _ => ?_) (fun hc => absurd (upd_eq) hc)
      refine XV.run C okL_law19 1 (q := (1304, ([some (.ref (0)), some (.ref (4)), some (.ref (213)), some (.ref (219)), some (.int (nI (4 * j))), some (.int (1)), some (.int (v)), none, none], [.int (1)]))) rfl ?_
      refine XV.if_ne C (tgt := 1319) (xlk_ok okL_law19 rfl) rfl (fun _ => ?_) (fun hc => absurd hc (by decide))
      refine XV.run C okL_law19 1 (q := (1390, ([some (.ref (0)), some (.ref (4)), some (.ref (213)), some (.ref (219)), some (.int (nI (4 * j))), some (.int (1)), some (.int (v)), none, none], []))) rfl ?_
      exact XV.widen (by omega) (by omega) (XV.drop (kk _ _ _ _ _ _ _ _ _ _ _ _ _ _ h219 ⟨⟨_, _, _, hO⟩, ho, hk6, hPR, hl6, (upd_ne (by decide)).trans ((upd_ne (by decide)).trans hF2), (upd_ne (by decide)).trans ((upd_ne (by decide)).trans hF5)⟩) rfl (by simp [xle]))
    ·
      obtain ⟨hd0, hd1⟩ := hd
      have thd0 := nI_teq hd0 (by omega)
      exfalso
      try simp only [le_tI, lt_tI, tI_0, tI_1, tc_4, tc_5, tc_7, tc_8, tc_9, tc_23, tc_24, tc_33, tc_99, tc_126, kI] at hc
      try simp only [le_tI, lt_tI, tI_0, tI_1, tc_4, tc_5, tc_7, tc_8, tc_9, tc_23, tc_24, tc_33, tc_99, tc_126, kI] at hd1
      omega
end LAWC
