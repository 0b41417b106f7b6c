/-! The law: hang to pass -/
section LAWC
variable {l : Launch} {G : XG} {p' : Program} {e' : Env} {s' : State} {m' : MethodId} {g' : Array Value} {b' : List Frame} {t' : Method} {c' : Code} {Q : State → Prop} {k ks j : Nat} {hb : XH} {f : Nat → Int32} {o kp : Nat} {P : Nat → Nat → Int32} {tx : Nat → Int32} {len : Nat} {p : PT} {ρ pa tr td F : Nat → Int32} {fo : Nat → Int64}
def kL_law0 : List (Nat × (Instr × Nat)) := [(144, (.aload_n 1, 1)), (145, (.aload_n 0, 1)), (146, (.iload 4, 2)), (148, (.iconst 1, 1)), (149, (.iadd, 1)), (150, (.iaload, 1)), (151, (.aload_n 3, 1)), (152, (.invokestatic 77, 3)), (155, (.istore 5, 2)), (157, (.aload_n 2, 1)), (158, (.aload_n 0, 1)), (159, (.iload 4, 2)), (161, (.iconst 1, 1)), (162, (.iadd, 1)), (163, (.iaload, 1)), (164, (.invokevirtual 82, 3)), (167, (.istore 6, 2)), (169, (.aload_n 2, 1)), (170, (.invokevirtual 83, 3)), (173, (.iload 5, 2)), (175, (.if_icmp .eq 5, 3)), (178, (.iconst 0, 1)), (179, (.ireturn, 1)), (180, (.iload 5, 2)), (182, (.ifCond .ne 15, 3)), (185, (.aload_n 3, 1)), (186, (.iconst 0, 1)), (187, (.laload, 1)), (188, (.iload 6, 2)), (190, (.i2l, 1)), (191, (.lcmp, 1)), (192, (.ifCond .eq 5, 3)), (195, (.iconst 0, 1)), (196, (.ireturn, 1)), (197, (.goto 1193, 3))]
set_option maxRecDepth 100000 in
theorem okL_law0 : ∀ a ∈ kL_law0, decode code a.1 = .ok a.2 := by decide +kernel
set_option maxHeartbeats 4000000 in
set_option maxRecDepth 100000 in
theorem law_c0 (hfl : l.stackTraces = false) (hL : xL G < 2 ^ 31) (C : XCx G l "RopeThreadsLaw" code 9 p' s' m' g' t' c') (hk8 : k + 8 ≤ 601024) (hks : ks + 48 ≤ 7293034) (hj : 4 * j + 4 ≤ xL G) (h219 : hb 219 = outC fo) (hI : LI f o kp P len pa F) (kk : ∀ (hb : XH) (f : Nat → Int32) (o kp : Nat) (P : Nat → Nat → Int32) (tx : Nat → Int32) (len : Nat) (p : PT) (ρ pa tr td F : Nat → Int32) (fo : Nat → Int64), hb 219 = outC fo → LI f o kp P len pa F → XV G 9 p' l e' room_1 s' m' g' b' t' c' Q 1390 [some (.ref 0), some (.ref 4), some (.ref 213), some (.ref 219), some (.int (nI (4 * j))), none, none, none, none] [] 216 (setM (setCW hb f o kp P tx len p ρ) f pa tr tx td F) (k + 8) (ks + 48)) : XV G 9 p' l e' room_1 s' m' g' b' t' c' Q 144 [some (.ref 0), some (.ref 4), some (.ref 213), some (.ref 219), some (.int (nI (4 * j))), none, none, none, none] [] 216 (setM (setCW hb f o kp P tx len p ρ) f pa tr tx td F) (k) (ks) := by
  obtain ⟨⟨k9, m9, tt9, hO⟩, ho, hk6, hPR, hl6, hF2, hF5⟩ := hI
  have hm := hO.1
  have hk := hO.2.1
  have hl := hO.live
  obtain ⟨z, hz, z1, z2⟩ := hO.2.2.2.2.2.2.1.1
  have kI : (nI k9).toInt = (k9 : Int) := nI_tI (by omega)
  refine XV.cast lw_0 ?_
  refine XV.run C okL_law0 5 (q := (150, ([some (.ref (0)), some (.ref (4)), some (.ref (213)), some (.ref (219)), some (.int (nI (4 * j))), none, none, none, none], [.int ((nI (4 * j)) + 1), .ref (0), .ref (4)]))) rfl ?_
  refine XV.sald C (a := (4 * j + 1)) (xlk_ok okL_law0 rfl) (nI_add _ 1) (by omega) hL ?_
  refine XV.run C okL_law0 1 (q := (152, ([some (.ref (0)), some (.ref (4)), some (.ref (213)), some (.ref (219)), some (.int (nI (4 * j))), none, none, none, none], [.ref (219), .int (xxs G (4 * j + 1)), .ref (4)]))) rfl ?_
  refine XV.callSX C (As := [.ref (4), .int (xxs G (4 * j + 1)), .ref (219)]) (rest := []) (ct_L_hang hfl (by decide) hm hk hl ho hk6 (xxs G (4 * j + 1)) (by decide) ((blk_out (Or.inr (by decide))).trans h219)) (xlk_ok okL_law0 rfl) rfl wM_L_77 wS_L_hang wN_L wB_L_hang hy_L_hang (fun q => q.elim) ⟨Nat.le_of_ble_eq_true rfl, Nat.le_of_ble_eq_true rfl⟩ ⟨room_c (by omega), room_s (by omega)⟩ (Nat.le_of_ble_eq_true rfl) (fun r n h hp => ?_) (fun _ _ _ q => q.elim)
  obtain ⟨rfl, hp⟩ := hp
  rcases hp with ⟨hc, rfl, rfl⟩ | ⟨hc, rfl, rfl⟩ | ⟨hc, rfl, rfl⟩
  ·
    refine XV.cast lw_1 ?_
    refine XV.run C okL_law0 6 (q := (163, ([some (.ref (0)), some (.ref (4)), some (.ref (213)), some (.ref (219)), some (.int (nI (4 * j))), some (.int (0)), none, none, none], [.int ((nI (4 * j)) + 1), .ref (0), .ref (213)]))) rfl ?_
    refine XV.sald C (a := (4 * j + 1)) (xlk_ok okL_law0 rfl) (nI_add _ 1) (by omega) hL ?_
    refine XV.callV C (As := [.int (xxs G (4 * j + 1))]) (rest := []) (ci := 5) (ct_M_hang hfl (by decide) hm hk hF2 hk6 (xxs G (4 * j + 1))) (xlk_ok okL_law0 rfl) rfl (by decide) (by decide) rfl (mw_o) rfl wM_L_82 wI_M_hang wV_M_hang wN_M wB_M_hang hy_M_hang (fun q => q.elim) ⟨Nat.le_of_ble_eq_true rfl, Nat.le_of_ble_eq_true rfl⟩ ⟨room_c (by omega), room_s (by omega)⟩ (Nat.le_of_ble_eq_true rfl) (fun r n h hp => ?_) (fun _ _ _ q => q.elim)
    obtain ⟨rfl, ⟨v, rfl⟩, hp⟩ := hp
    rcases hp with ⟨hd, rfl⟩ | ⟨hd, rfl⟩ | ⟨hd, hr, rfl⟩
    ·
      obtain ⟨hc0, hc1⟩ := hc
      exfalso
      try simp only [le_tI, lt_tI, tI_0, tI_1, tc_4, tc_5, tc_7, tc_8, tc_9, tc_23, tc_24, tc_33, tc_99, tc_126, kI] at hc0
      try simp only [le_tI, lt_tI, tI_0, tI_1, tc_4, tc_5, tc_7, tc_8, tc_9, tc_23, tc_24, tc_33, tc_99, tc_126, kI] at hc1
      try simp only [le_tI, lt_tI, tI_0, tI_1, tc_4, tc_5, tc_7, tc_8, tc_9, tc_23, tc_24, tc_33, tc_99, tc_126, kI] at hd
      omega
    ·
      obtain ⟨hc0, hc1⟩ := hc
      exfalso
      try simp only [le_tI, lt_tI, tI_0, tI_1, tc_4, tc_5, tc_7, tc_8, tc_9, tc_23, tc_24, tc_33, tc_99, tc_126, kI] at hc0
      try simp only [le_tI, lt_tI, tI_0, tI_1, tc_4, tc_5, tc_7, tc_8, tc_9, tc_23, tc_24, tc_33, tc_99, tc_126, kI] at hc1
      try simp only [le_tI, lt_tI, tI_0, tI_1, tc_4, tc_5, tc_7, tc_8, tc_9, tc_23, tc_24, tc_33, tc_99, tc_126, kI] at hd
      omega
    ·
      obtain ⟨hc0, hc1⟩ := hc
      obtain ⟨hd0, hd1⟩ := hd
      cases hr
      -- both answer
      refine XV.run C okL_law0 2 (q := (170, ([some (.ref (0)), some (.ref (4)), some (.ref (213)), some (.ref (219)), some (.int (nI (4 * j))), some (.int (0)), some (.int ((nI k9))), none, none], [.ref (213)]))) rfl ?_
      refine XV.callV C (As := []) (rest := []) (ci := 5) (ct_M_thrown hfl (by decide)) (xlk_ok okL_law0 rfl) rfl (by decide) (by decide) rfl (mw_o) rfl wM_L_83 wI_M_thrown wV_M_thrown wN_M wB_M_thrown hy_M_thrown (fun q => q.elim) ⟨Nat.le_of_ble_eq_true rfl, Nat.le_of_ble_eq_true rfl⟩ ⟨room_c (by omega), room_s (by omega)⟩ (Nat.le_of_ble_eq_true rfl) (fun r n h hp => ?_) (fun _ _ _ q => q.elim)
      obtain ⟨rfl, rfl, rfl⟩ := hp
      refine XV.run C okL_law0 1 (q := (175, ([some (.ref (0)), some (.ref (4)), some (.ref (213)), some (.ref (219)), some (.int (nI (4 * j))), some (.int (0)), some (.int ((nI k9))), none, none], [.int (0), .int ((upd (upd F 6 0) 2 (nI (kK kp))) 6)]))) rfl ?_
      refine XV.icmp_eq C (tgt := 180) (xlk_ok okL_law0 rfl) rfl (fun _ => ?_) (fun hc => absurd ((upd_ne (by decide)).trans upd_eq) hc)
      refine XV.run C okL_law0 1 (q := (182, ([some (.ref (0)), some (.ref (4)), some (.ref (213)), some (.ref (219)), some (.int (nI (4 * j))), some (.int (0)), some (.int ((nI k9))), none, none], [.int (0)]))) rfl ?_
      refine XV.if_ne C (tgt := 197) (xlk_ok okL_law0 rfl) rfl (fun hc => absurd (rfl) hc) (fun _ => ?_)
      refine XV.run C okL_law0 2 (q := (187, ([some (.ref (0)), some (.ref (4)), some (.ref (213)), some (.ref (219)), some (.int (nI (4 * j))), some (.int (0)), some (.int ((nI k9))), none, none], [.int (0), .ref (219)]))) rfl ?_
      refine XV.lald C (N := 1) (a := 0) (f := vp_updL fo 0 (nI k9).toInt64) (xlk_ok okL_law0 rfl) (by decide) (by decide) (lw_219 (xup_at hb 219 _)) rfl (by decide) (by decide) ?_
      rw [upL_0]
      refine XV.run C okL_law0 3 (q := (192, ([some (.ref (0)), some (.ref (4)), some (.ref (213)), some (.ref (219)), some (.int (nI (4 * j))), some (.int (0)), some (.int ((nI k9))), none, none], [.int (lg_cmp ((nI k9).toInt64) (((nI k9)).toInt64))]))) rfl ?_
      refine XV.if_eq C (tgt := 197) (xlk_ok okL_law0 rfl) rfl (fun _ => ?_) (fun hc => absurd (lcmp_eq (congrArg Int32.toInt64 (rfl))) hc)
      refine XV.run C okL_law0 1 (q := (1390, ([some (.ref (0)), some (.ref (4)), some (.ref (213)), some (.ref (219)), some (.int (nI (4 * j))), some (.int (0)), some (.int ((nI k9))), none, none], []))) rfl ?_
      refine XV.cast (mw_ge (putRow_updlo (by decide)).symm) ?_
      exact XV.widen (by omega) (by omega) (XV.drop (kk _ _ _ _ _ _ _ _ _ _ _ _ _ _ (xup_at hb 219 _) ⟨⟨_, _, _, OKf_hang hO hc0 hc1⟩, kO_lt ho, kK_le hk6, PR_save ho hk6 hPR ⟨_, _, _, hO⟩, hl6, upd_eq, (upd_ne (by decide)).trans ((upd_ne (by decide)).trans hF5)⟩) rfl (by simp [xle]))
  ·
    refine XV.cast lw_0.symm ?_
    refine XV.run C okL_law0 6 (q := (163, ([some (.ref (0)), some (.ref (4)), some (.ref (213)), some (.ref (219)), some (.int (nI (4 * j))), some (.int (1)), none, none, none], [.int ((nI (4 * j)) + 1), .ref (0), .ref (213)]))) rfl ?_
    refine XV.sald C (a := (4 * j + 1)) (xlk_ok okL_law0 rfl) (nI_add _ 1) (by omega) hL ?_
    refine XV.callV C (As := [.int (xxs G (4 * j + 1))]) (rest := []) (ci := 5) (ct_M_hang hfl (by decide) hm hk hF2 hk6 (xxs G (4 * j + 1))) (xlk_ok okL_law0 rfl) rfl (by decide) (by decide) rfl (mw_o) rfl wM_L_82 wI_M_hang wV_M_hang wN_M wB_M_hang hy_M_hang (fun q => q.elim) ⟨Nat.le_of_ble_eq_true rfl, Nat.le_of_ble_eq_true rfl⟩ ⟨room_c (by omega), room_s (by omega)⟩ (Nat.le_of_ble_eq_true rfl) (fun r n h hp => ?_) (fun _ _ _ q => q.elim)
    obtain ⟨rfl, ⟨v, rfl⟩, hp⟩ := hp
    rcases hp with ⟨hd, rfl⟩ | ⟨hd, rfl⟩ | ⟨hd, hr, rfl⟩
    ·
      refine XV.run C okL_law0 2 (q := (170, ([some (.ref (0)), some (.ref (4)), some (.ref (213)), some (.ref (219)), some (.int (nI (4 * j))), some (.int (1)), some (.int (v)), none, none], [.ref (213)]))) rfl ?_
      refine XV.callV C (As := []) (rest := []) (ci := 5) (ct_M_thrown hfl (by decide)) (xlk_ok okL_law0 rfl) rfl (by decide) (by decide) rfl (mw_o) rfl wM_L_83 wI_M_thrown wV_M_thrown wN_M wB_M_thrown hy_M_thrown (fun q => q.elim) ⟨Nat.le_of_ble_eq_true rfl, Nat.le_of_ble_eq_true rfl⟩ ⟨room_c (by omega), room_s (by omega)⟩ (Nat.le_of_ble_eq_true rfl) (fun r n h hp => ?_) (fun _ _ _ q => q.elim)
      obtain ⟨rfl, rfl, rfl⟩ := hp
      refine XV.run C okL_law0 1 (q := (175, ([some (.ref (0)), some (.ref (4)), some (.ref (213)), some (.ref (219)), some (.int (nI (4 * j))), some (.int (1)), some (.int (v)), none, none], [.int (1), .int ((upd (upd F 6 0) 6 1) 6)]))) rfl ?_
      refine XV.icmp_eq C (tgt := 180) (xlk_ok okL_law0 rfl) rfl (fun _ => ?_) (fun hc => absurd (upd_eq) hc)
      refine XV.run C okL_law0 1 (q := (182, ([some (.ref (0)), some (.ref (4)), some (.ref (213)), some (.ref (219)), some (.int (nI (4 * j))), some (.int (1)), some (.int (v)), none, none], [.int (1)]))) rfl ?_
      refine XV.if_ne C (tgt := 197) (xlk_ok okL_law0 rfl) rfl (fun _ => ?_) (fun hc => absurd hc (by decide))
      refine XV.run C okL_law0 1 (q := (1390, ([some (.ref (0)), some (.ref (4)), some (.ref (213)), some (.ref (219)), some (.int (nI (4 * j))), some (.int (1)), some (.int (v)), none, none], []))) rfl ?_
      exact XV.widen (by omega) (by omega) (XV.drop (kk _ _ _ _ _ _ _ _ _ _ _ _ _ _ h219 ⟨⟨_, _, _, hO⟩, ho, hk6, hPR, hl6, (upd_ne (by decide)).trans ((upd_ne (by decide)).trans hF2), (upd_ne (by decide)).trans ((upd_ne (by decide)).trans hF5)⟩) rfl (by simp [xle]))
    ·
      exfalso
      try simp only [le_tI, lt_tI, tI_0, tI_1, tc_4, tc_5, tc_7, tc_8, tc_9, tc_23, tc_24, tc_33, tc_99, tc_126, kI] at hc
      try simp only [le_tI, lt_tI, tI_0, tI_1, tc_4, tc_5, tc_7, tc_8, tc_9, tc_23, tc_24, tc_33, tc_99, tc_126, kI] at hd
      omega
    ·
      obtain ⟨hd0, hd1⟩ := hd
      exfalso
      try simp only [le_tI, lt_tI, tI_0, tI_1, tc_4, tc_5, tc_7, tc_8, tc_9, tc_23, tc_24, tc_33, tc_99, tc_126, kI] at hc
      try simp only [le_tI, lt_tI, tI_0, tI_1, tc_4, tc_5, tc_7, tc_8, tc_9, tc_23, tc_24, tc_33, tc_99, tc_126, kI] at hd0
      try simp only [le_tI, lt_tI, tI_0, tI_1, tc_4, tc_5, tc_7, tc_8, tc_9, tc_23, tc_24, tc_33, tc_99, tc_126, kI] at hd1
      omega
  ·
    refine XV.cast lw_0.symm ?_
    refine XV.run C okL_law0 6 (q := (163, ([some (.ref (0)), some (.ref (4)), some (.ref (213)), some (.ref (219)), some (.int (nI (4 * j))), some (.int (2)), none, none, none], [.int ((nI (4 * j)) + 1), .ref (0), .ref (213)]))) rfl ?_
    refine XV.sald C (a := (4 * j + 1)) (xlk_ok okL_law0 rfl) (nI_add _ 1) (by omega) hL ?_
    refine XV.callV C (As := [.int (xxs G (4 * j + 1))]) (rest := []) (ci := 5) (ct_M_hang hfl (by decide) hm hk hF2 hk6 (xxs G (4 * j + 1))) (xlk_ok okL_law0 rfl) rfl (by decide) (by decide) rfl (mw_o) rfl wM_L_82 wI_M_hang wV_M_hang wN_M wB_M_hang hy_M_hang (fun q => q.elim) ⟨Nat.le_of_ble_eq_true rfl, Nat.le_of_ble_eq_true rfl⟩ ⟨room_c (by omega), room_s (by omega)⟩ (Nat.le_of_ble_eq_true rfl) (fun r n h hp => ?_) (fun _ _ _ q => q.elim)
    obtain ⟨rfl, ⟨v, rfl⟩, hp⟩ := hp
    rcases hp with ⟨hd, rfl⟩ | ⟨hd, rfl⟩ | ⟨hd, hr, rfl⟩
    ·
      exfalso
      try simp only [le_tI, lt_tI, tI_0, tI_1, tc_4, tc_5, tc_7, tc_8, tc_9, tc_23, tc_24, tc_33, tc_99, tc_126, kI] at hc
      try simp only [le_tI, lt_tI, tI_0, tI_1, tc_4, tc_5, tc_7, tc_8, tc_9, tc_23, tc_24, tc_33, tc_99, tc_126, kI] at hd
      omega
    ·
      refine XV.run C okL_law0 2 (q := (170, ([some (.ref (0)), some (.ref (4)), some (.ref (213)), some (.ref (219)), some (.int (nI (4 * j))), some (.int (2)), some (.int (v)), none, none], [.ref (213)]))) rfl ?_
      refine XV.callV C (As := []) (rest := []) (ci := 5) (ct_M_thrown hfl (by decide)) (xlk_ok okL_law0 rfl) rfl (by decide) (by decide) rfl (mw_o) rfl wM_L_83 wI_M_thrown wV_M_thrown wN_M wB_M_thrown hy_M_thrown (fun q => q.elim) ⟨Nat.le_of_ble_eq_true rfl, Nat.le_of_ble_eq_true rfl⟩ ⟨room_c (by omega), room_s (by omega)⟩ (Nat.le_of_ble_eq_true rfl) (fun r n h hp => ?_) (fun _ _ _ q => q.elim)
      obtain ⟨rfl, rfl, rfl⟩ := hp
      refine XV.run C okL_law0 1 (q := (175, ([some (.ref (0)), some (.ref (4)), some (.ref (213)), some (.ref (219)), some (.int (nI (4 * j))), some (.int (2)), some (.int (v)), none, none], [.int (2), .int ((upd (upd F 6 0) 6 2) 6)]))) rfl ?_
      refine XV.icmp_eq C (tgt := 180) (xlk_ok okL_law0 rfl) rfl (fun _ => ?_) (fun hc => absurd (upd_eq) hc)
      refine XV.run C okL_law0 1 (q := (182, ([some (.ref (0)), some (.ref (4)), some (.ref (213)), some (.ref (219)), some (.int (nI (4 * j))), some (.int (2)), some (.int (v)), none, none], [.int (2)]))) rfl ?_
      refine XV.if_ne C (tgt := 197) (xlk_ok okL_law0 rfl) rfl (fun _ => ?_) (fun hc => absurd hc (by decide))
      refine XV.run C okL_law0 1 (q := (1390, ([some (.ref (0)), some (.ref (4)), some (.ref (213)), some (.ref (219)), some (.int (nI (4 * j))), some (.int (2)), some (.int (v)), none, none], []))) rfl ?_
      exact XV.widen (by omega) (by omega) (XV.drop (kk _ _ _ _ _ _ _ _ _ _ _ _ _ _ h219 ⟨⟨_, _, _, hO⟩, ho, hk6, hPR, hl6, (upd_ne (by decide)).trans ((upd_ne (by decide)).trans hF2), (upd_ne (by decide)).trans ((upd_ne (by decide)).trans hF5)⟩) rfl (by simp [xle]))
    ·
      obtain ⟨hd0, hd1⟩ := hd
      exfalso
      try simp only [le_tI, lt_tI, tI_0, tI_1, tc_4, tc_5, tc_7, tc_8, tc_9, tc_23, tc_24, tc_33, tc_99, tc_126, kI] at hc
      try simp only [le_tI, lt_tI, tI_0, tI_1, tc_4, tc_5, tc_7, tc_8, tc_9, tc_23, tc_24, tc_33, tc_99, tc_126, kI] at hd0
      try simp only [le_tI, lt_tI, tI_0, tI_1, tc_4, tc_5, tc_7, tc_8, tc_9, tc_23, tc_24, tc_33, tc_99, tc_126, kI] at hd1
      omega
def kL_law1 : List (Nat × (Instr × Nat)) := [(200, (.aload_n 1, 1)), (201, (.aload_n 0, 1)), (202, (.iload 4, 2)), (204, (.iconst 1, 1)), (205, (.iadd, 1)), (206, (.iaload, 1)), (207, (.aload_n 3, 1)), (208, (.invokestatic 86, 3)), (211, (.istore 5, 2)), (213, (.aload_n 2, 1)), (214, (.aload_n 0, 1)), (215, (.iload 4, 2)), (217, (.iconst 1, 1)), (218, (.iadd, 1)), (219, (.iaload, 1)), (220, (.invokevirtual 88, 3)), (223, (.istore 6, 2)), (225, (.aload_n 2, 1)), (226, (.invokevirtual 83, 3)), (229, (.iload 5, 2)), (231, (.if_icmp .eq 5, 3)), (234, (.iconst 0, 1)), (235, (.ireturn, 1)), (236, (.iload 5, 2)), (238, (.ifCond .ne 15, 3)), (241, (.aload_n 3, 1)), (242, (.iconst 0, 1)), (243, (.laload, 1)), (244, (.iload 6, 2)), (246, (.i2l, 1)), (247, (.lcmp, 1)), (248, (.ifCond .eq 5, 3)), (251, (.iconst 0, 1)), (252, (.ireturn, 1)), (253, (.goto 1137, 3))]
set_option maxRecDepth 100000 in
theorem okL_law1 : ∀ a ∈ kL_law1, decode code a.1 = .ok a.2 := by decide +kernel
set_option maxHeartbeats 4000000 in
set_option maxRecDepth 100000 in
theorem law_c1 (hfl : l.stackTraces = false) (hL : xL G < 2 ^ 31) (C : XCx G l "RopeThreadsLaw" code 9 p' s' m' g' t' c') (hk8 : k + 8 ≤ 601024) (hks : ks + 48 ≤ 7293034) (hj : 4 * j + 4 ≤ xL G) (h219 : hb 219 = outC fo) (hI : LI f o kp P len pa F) (kk : ∀ (hb : XH) (f : Nat → Int32) (o kp : Nat) (P : Nat → Nat → Int32) (tx : Nat → Int32) (len : Nat) (p : PT) (ρ pa tr td F : Nat → Int32) (fo : Nat → Int64), hb 219 = outC fo → LI f o kp P len pa F → XV G 9 p' l e' room_1 s' m' g' b' t' c' Q 1390 [some (.ref 0), some (.ref 4), some (.ref 213), some (.ref 219), some (.int (nI (4 * j))), none, none, none, none] [] 216 (setM (setCW hb f o kp P tx len p ρ) f pa tr tx td F) (k + 8) (ks + 48)) : XV G 9 p' l e' room_1 s' m' g' b' t' c' Q 200 [some (.ref 0), some (.ref 4), some (.ref 213), some (.ref 219), some (.int (nI (4 * j))), none, none, none, none] [] 216 (setM (setCW hb f o kp P tx len p ρ) f pa tr tx td F) (k) (ks) := by
  obtain ⟨⟨k9, m9, tt9, hO⟩, ho, hk6, hPR, hl6, hF2, hF5⟩ := hI
  have hm := hO.1
  have hk := hO.2.1
  have hl := hO.live
  obtain ⟨z, hz, z1, z2⟩ := hO.2.2.2.2.2.2.1.1
  have kI : (nI k9).toInt = (k9 : Int) := nI_tI (by omega)
  refine XV.cast lw_0 ?_
  refine XV.run C okL_law1 5 (q := (206, ([some (.ref (0)), some (.ref (4)), some (.ref (213)), some (.ref (219)), some (.int (nI (4 * j))), none, none, none, none], [.int ((nI (4 * j)) + 1), .ref (0), .ref (4)]))) rfl ?_
  refine XV.sald C (a := (4 * j + 1)) (xlk_ok okL_law1 rfl) (nI_add _ 1) (by omega) hL ?_
  refine XV.run C okL_law1 1 (q := (208, ([some (.ref (0)), some (.ref (4)), some (.ref (213)), some (.ref (219)), some (.int (nI (4 * j))), none, none, none, none], [.ref (219), .int (xxs G (4 * j + 1)), .ref (4)]))) rfl ?_
  refine XV.callSX C (As := [.ref (4), .int (xxs G (4 * j + 1)), .ref (219)]) (rest := []) (ct_L_cut hfl (by decide) hm hk hl ho hk6 (xxs G (4 * j + 1)) (by decide) ((blk_out (Or.inr (by decide))).trans h219)) (xlk_ok okL_law1 rfl) rfl wM_L_86 wS_L_cut wN_L wB_L_cut hy_L_cut (fun q => q.elim) ⟨Nat.le_of_ble_eq_true rfl, Nat.le_of_ble_eq_true rfl⟩ ⟨room_c (by omega), room_s (by omega)⟩ (Nat.le_of_ble_eq_true rfl) (fun r n h hp => ?_) (fun _ _ _ q => q.elim)
  obtain ⟨rfl, hp⟩ := hp
  rcases hp with ⟨i1, hc, rfl, rfl⟩ | ⟨hc, rfl, rfl⟩
  ·
    refine XV.cast lw_1 ?_
    refine XV.run C okL_law1 6 (q := (219, ([some (.ref (0)), some (.ref (4)), some (.ref (213)), some (.ref (219)), some (.int (nI (4 * j))), some (.int (0)), none, none, none], [.int ((nI (4 * j)) + 1), .ref (0), .ref (213)]))) rfl ?_
    refine XV.sald C (a := (4 * j + 1)) (xlk_ok okL_law1 rfl) (nI_add _ 1) (by omega) hL ?_
    refine XV.callV C (As := [.int (xxs G (4 * j + 1))]) (rest := []) (ci := 5) (ct_M_cut hfl (by decide) hm hk hF2 hk6 (xxs G (4 * j + 1))) (xlk_ok okL_law1 rfl) rfl (by decide) (by decide) rfl (mw_o) rfl wM_L_88 wI_M_cut wV_M_cut wN_M wB_M_cut hy_M_cut (fun q => q.elim) ⟨Nat.le_of_ble_eq_true rfl, Nat.le_of_ble_eq_true rfl⟩ ⟨room_c (by omega), room_s (by omega)⟩ (Nat.le_of_ble_eq_true rfl) (fun r n h hp => ?_) (fun _ _ _ q => q.elim)
    obtain ⟨rfl, ⟨v, rfl⟩, hp⟩ := hp
    rcases hp with ⟨hd, rfl⟩ | ⟨i2, hd, hr, rfl⟩
    ·
      obtain ⟨hc0, hc1⟩ := hc
      have thc0 := nI_teq hc0 (by omega)
      exfalso
      try simp only [le_tI, lt_tI, tI_0, tI_1, tc_4, tc_5, tc_7, tc_8, tc_9, tc_23, tc_24, tc_33, tc_99, tc_126, kI] at hc1
      try simp only [le_tI, lt_tI, tI_0, tI_1, tc_4, tc_5, tc_7, tc_8, tc_9, tc_23, tc_24, tc_33, tc_99, tc_126, kI] at hd
      omega
    ·
      obtain ⟨hc0, hc1⟩ := hc
      obtain ⟨hd0, hd1⟩ := hd
      have thc0 := nI_teq hc0 (by omega)
      have thd0 := nI_teq hd0 (by omega)
      obtain rfl : i1 = i2 := by omega
      cases hr
      -- both answer
      refine XV.run C okL_law1 2 (q := (226, ([some (.ref (0)), some (.ref (4)), some (.ref (213)), some (.ref (219)), some (.int (nI (4 * j))), some (.int (0)), some (.int ((nI (k9 - 1)))), none, none], [.ref (213)]))) rfl ?_
      refine XV.callV C (As := []) (rest := []) (ci := 5) (ct_M_thrown hfl (by decide)) (xlk_ok okL_law1 rfl) rfl (by decide) (by decide) rfl (mw_o) rfl wM_L_83 wI_M_thrown wV_M_thrown wN_M wB_M_thrown hy_M_thrown (fun q => q.elim) ⟨Nat.le_of_ble_eq_true rfl, Nat.le_of_ble_eq_true rfl⟩ ⟨room_c (by omega), room_s (by omega)⟩ (Nat.le_of_ble_eq_true rfl) (fun r n h hp => ?_) (fun _ _ _ q => q.elim)
      obtain ⟨rfl, rfl, rfl⟩ := hp
      refine XV.run C okL_law1 1 (q := (231, ([some (.ref (0)), some (.ref (4)), some (.ref (213)), some (.ref (219)), some (.int (nI (4 * j))), some (.int (0)), some (.int ((nI (k9 - 1)))), none, none], [.int (0), .int ((upd (upd F 6 0) 2 (nI (kK kp))) 6)]))) rfl ?_
      refine XV.icmp_eq C (tgt := 236) (xlk_ok okL_law1 rfl) rfl (fun _ => ?_) (fun hc => absurd ((upd_ne (by decide)).trans upd_eq) hc)
      refine XV.run C okL_law1 1 (q := (238, ([some (.ref (0)), some (.ref (4)), some (.ref (213)), some (.ref (219)), some (.int (nI (4 * j))), some (.int (0)), some (.int ((nI (k9 - 1)))), none, none], [.int (0)]))) rfl ?_
      refine XV.if_ne C (tgt := 253) (xlk_ok okL_law1 rfl) rfl (fun hc => absurd (rfl) hc) (fun _ => ?_)
      refine XV.run C okL_law1 2 (q := (243, ([some (.ref (0)), some (.ref (4)), some (.ref (213)), some (.ref (219)), some (.int (nI (4 * j))), some (.int (0)), some (.int ((nI (k9 - 1)))), none, none], [.int (0), .ref (219)]))) rfl ?_
      refine XV.lald C (N := 1) (a := 0) (f := vp_updL fo 0 (nI (k9 - 1)).toInt64) (xlk_ok okL_law1 rfl) (by decide) (by decide) (lw_219 (xup_at hb 219 _)) rfl (by decide) (by decide) ?_
      rw [upL_0]
      refine XV.run C okL_law1 3 (q := (248, ([some (.ref (0)), some (.ref (4)), some (.ref (213)), some (.ref (219)), some (.int (nI (4 * j))), some (.int (0)), some (.int ((nI (k9 - 1)))), none, none], [.int (lg_cmp ((nI (k9 - 1)).toInt64) (((nI (k9 - 1))).toInt64))]))) rfl ?_
      refine XV.if_eq C (tgt := 253) (xlk_ok okL_law1 rfl) rfl (fun _ => ?_) (fun hc => absurd (lcmp_eq (congrArg Int32.toInt64 (rfl))) hc)
      refine XV.run C okL_law1 1 (q := (1390, ([some (.ref (0)), some (.ref (4)), some (.ref (213)), some (.ref (219)), some (.int (nI (4 * j))), some (.int (0)), some (.int ((nI (k9 - 1)))), none, none], []))) rfl ?_
      exact XV.widen (by omega) (by omega) (XV.drop (kk _ _ _ _ _ _ _ _ _ _ _ _ _ _ (xup_at hb 219 _) ⟨⟨_, _, _, OKf_cut hO hc1⟩, kO_lt ho, kK_le hk6, PR_save ho hk6 hPR ⟨_, _, _, hO⟩, hl6, upd_eq, (upd_ne (by decide)).trans ((upd_ne (by decide)).trans hF5)⟩) rfl (by simp [xle]))
  ·
    refine XV.cast lw_0.symm ?_
    refine XV.run C okL_law1 6 (q := (219, ([some (.ref (0)), some (.ref (4)), some (.ref (213)), some (.ref (219)), some (.int (nI (4 * j))), some (.int (1)), none, none, none], [.int ((nI (4 * j)) + 1), .ref (0), .ref (213)]))) rfl ?_
    refine XV.sald C (a := (4 * j + 1)) (xlk_ok okL_law1 rfl) (nI_add _ 1) (by omega) hL ?_
    refine XV.callV C (As := [.int (xxs G (4 * j + 1))]) (rest := []) (ci := 5) (ct_M_cut hfl (by decide) hm hk hF2 hk6 (xxs G (4 * j + 1))) (xlk_ok okL_law1 rfl) rfl (by decide) (by decide) rfl (mw_o) rfl wM_L_88 wI_M_cut wV_M_cut wN_M wB_M_cut hy_M_cut (fun q => q.elim) ⟨Nat.le_of_ble_eq_true rfl, Nat.le_of_ble_eq_true rfl⟩ ⟨room_c (by omega), room_s (by omega)⟩ (Nat.le_of_ble_eq_true rfl) (fun r n h hp => ?_) (fun _ _ _ q => q.elim)
    obtain ⟨rfl, ⟨v, rfl⟩, hp⟩ := hp
    rcases hp with ⟨hd, rfl⟩ | ⟨i2, hd, hr, rfl⟩
    ·
      refine XV.run C okL_law1 2 (q := (226, ([some (.ref (0)), some (.ref (4)), some (.ref (213)), some (.ref (219)), some (.int (nI (4 * j))), some (.int (1)), some (.int (v)), none, none], [.ref (213)]))) rfl ?_
      refine XV.callV C (As := []) (rest := []) (ci := 5) (ct_M_thrown hfl (by decide)) (xlk_ok okL_law1 rfl) rfl (by decide) (by decide) rfl (mw_o) rfl wM_L_83 wI_M_thrown wV_M_thrown wN_M wB_M_thrown hy_M_thrown (fun q => q.elim) ⟨Nat.le_of_ble_eq_true rfl, Nat.le_of_ble_eq_true rfl⟩ ⟨room_c (by omega), room_s (by omega)⟩ (Nat.le_of_ble_eq_true rfl) (fun r n h hp => ?_) (fun _ _ _ q => q.elim)
      obtain ⟨rfl, rfl, rfl⟩ := hp
      refine XV.run C okL_law1 1 (q := (231, ([some (.ref (0)), some (.ref (4)), some (.ref (213)), some (.ref (219)), some (.int (nI (4 * j))), some (.int (1)), some (.int (v)), none, none], [.int (1), .int ((upd (upd F 6 0) 6 1) 6)]))) rfl ?_
      refine XV.icmp_eq C (tgt := 236) (xlk_ok okL_law1 rfl) rfl (fun _ => ?_) (fun hc => absurd (upd_eq) hc)
      refine XV.run C okL_law1 1 (q := (238, ([some (.ref (0)), some (.ref (4)), some (.ref (213)), some (.ref (219)), some (.int (nI (4 * j))), some (.int (1)), some (.int (v)), none, none], [.int (1)]))) rfl ?_
      refine XV.if_ne C (tgt := 253) (xlk_ok okL_law1 rfl) rfl (fun _ => ?_) (fun hc => absurd hc (by decide))
      refine XV.run C okL_law1 1 (q := (1390, ([some (.ref (0)), some (.ref (4)), some (.ref (213)), some (.ref (219)), some (.int (nI (4 * j))), some (.int (1)), some (.int (v)), none, none], []))) rfl ?_
      exact XV.widen (by omega) (by omega) (XV.drop (kk _ _ _ _ _ _ _ _ _ _ _ _ _ _ h219 ⟨⟨_, _, _, hO⟩, ho, hk6, hPR, hl6, (upd_ne (by decide)).trans ((upd_ne (by decide)).trans hF2), (upd_ne (by decide)).trans ((upd_ne (by decide)).trans hF5)⟩) rfl (by simp [xle]))
    ·
      obtain ⟨hd0, hd1⟩ := hd
      have thd0 := nI_teq hd0 (by omega)
      exfalso
      try simp only [le_tI, lt_tI, tI_0, tI_1, tc_4, tc_5, tc_7, tc_8, tc_9, tc_23, tc_24, tc_33, tc_99, tc_126, kI] at hc
      try simp only [le_tI, lt_tI, tI_0, tI_1, tc_4, tc_5, tc_7, tc_8, tc_9, tc_23, tc_24, tc_33, tc_99, tc_126, kI] at hd1
      omega
def kL_law2 : List (Nat × (Instr × Nat)) := [(256, (.aload_n 1, 1)), (257, (.aload_n 0, 1)), (258, (.iload 4, 2)), (260, (.iconst 1, 1)), (261, (.iadd, 1)), (262, (.iaload, 1)), (263, (.aload_n 0, 1)), (264, (.iload 4, 2)), (266, (.iconst 2, 1)), (267, (.iadd, 1)), (268, (.iaload, 1)), (269, (.aload_n 3, 1)), (270, (.invokestatic 89, 3)), (273, (.istore 5, 2)), (275, (.aload_n 2, 1)), (276, (.aload_n 0, 1)), (277, (.iload 4, 2)), (279, (.iconst 1, 1)), (280, (.iadd, 1)), (281, (.iaload, 1)), (282, (.aload_n 0, 1)), (283, (.iload 4, 2)), (285, (.iconst 2, 1)), (286, (.iadd, 1)), (287, (.iaload, 1)), (288, (.invokevirtual 92, 3)), (291, (.istore 6, 2)), (293, (.aload_n 2, 1)), (294, (.invokevirtual 83, 3)), (297, (.iload 5, 2)), (299, (.if_icmp .eq 5, 3)), (302, (.iconst 0, 1)), (303, (.ireturn, 1)), (304, (.iload 5, 2)), (306, (.ifCond .ne 15, 3)), (309, (.aload_n 3, 1)), (310, (.iconst 0, 1)), (311, (.laload, 1)), (312, (.iload 6, 2)), (314, (.i2l, 1)), (315, (.lcmp, 1)), (316, (.ifCond .eq 5, 3)), (319, (.iconst 0, 1)), (320, (.ireturn, 1)), (321, (.goto 1069, 3))]
set_option maxRecDepth 100000 in
theorem okL_law2 : ∀ a ∈ kL_law2, decode code a.1 = .ok a.2 := by decide +kernel
set_option maxHeartbeats 4000000 in
set_option maxRecDepth 100000 in
theorem law_c2 (hfl : l.stackTraces = false) (hL : xL G < 2 ^ 31) (C : XCx G l "RopeThreadsLaw" code 9 p' s' m' g' t' c') (hk8 : k + 8 ≤ 601024) (hks : ks + 48 ≤ 7293034) (hj : 4 * j + 4 ≤ xL G) (h219 : hb 219 = outC fo) (hI : LI f o kp P len pa F) (kk : ∀ (hb : XH) (f : Nat → Int32) (o kp : Nat) (P : Nat → Nat → Int32) (tx : Nat → Int32) (len : Nat) (p : PT) (ρ pa tr td F : Nat → Int32) (fo : Nat → Int64), hb 219 = outC fo → LI f o kp P len pa F → XV G 9 p' l e' room_1 s' m' g' b' t' c' Q 1390 [some (.ref 0), some (.ref 4), some (.ref 213), some (.ref 219), some (.int (nI (4 * j))), none, none, none, none] [] 216 (setM (setCW hb f o kp P tx len p ρ) f pa tr tx td F) (k + 8) (ks + 48)) : XV G 9 p' l e' room_1 s' m' g' b' t' c' Q 256 [some (.ref 0), some (.ref 4), some (.ref 213), some (.ref 219), some (.int (nI (4 * j))), none, none, none, none] [] 216 (setM (setCW hb f o kp P tx len p ρ) f pa tr tx td F) (k) (ks) := by
  obtain ⟨⟨k9, m9, tt9, hO⟩, ho, hk6, hPR, hl6, hF2, hF5⟩ := hI
  have hm := hO.1
  have hk := hO.2.1
  have hl := hO.live
  obtain ⟨z, hz, z1, z2⟩ := hO.2.2.2.2.2.2.1.1
  have kI : (nI k9).toInt = (k9 : Int) := nI_tI (by omega)
  refine XV.cast lw_0 ?_
  refine XV.run C okL_law2 5 (q := (262, ([some (.ref (0)), some (.ref (4)), some (.ref (213)), some (.ref (219)), some (.int (nI (4 * j))), none, none, none, none], [.int ((nI (4 * j)) + 1), .ref (0), .ref (4)]))) rfl ?_
  refine XV.sald C (a := (4 * j + 1)) (xlk_ok okL_law2 rfl) (nI_add _ 1) (by omega) hL ?_
  refine XV.run C okL_law2 4 (q := (268, ([some (.ref (0)), some (.ref (4)), some (.ref (213)), some (.ref (219)), some (.int (nI (4 * j))), none, none, none, none], [.int ((nI (4 * j)) + 2), .ref (0), .int (xxs G (4 * j + 1)), .ref (4)]))) rfl ?_
  refine XV.sald C (a := (4 * j + 2)) (xlk_ok okL_law2 rfl) (nI_add _ 2) (by omega) hL ?_
  refine XV.run C okL_law2 1 (q := (270, ([some (.ref (0)), some (.ref (4)), some (.ref (213)), some (.ref (219)), some (.int (nI (4 * j))), none, none, none, none], [.ref (219), .int (xxs G (4 * j + 2)), .int (xxs G (4 * j + 1)), .ref (4)]))) rfl ?_
  refine XV.callSX C (As := [.ref (4), .int (xxs G (4 * j + 1)), .int (xxs G (4 * j + 2)), .ref (219)]) (rest := []) (ct_L_swap hfl (by decide) hm hk hl ho hk6 (xxs G (4 * j + 1)) (xxs G (4 * j + 2)) (by decide) ((blk_out (Or.inr (by decide))).trans h219)) (xlk_ok okL_law2 rfl) rfl wM_L_89 wS_L_swap wN_L wB_L_swap hy_L_swap (fun q => q.elim) ⟨Nat.le_of_ble_eq_true rfl, Nat.le_of_ble_eq_true rfl⟩ ⟨room_c (by omega), room_s (by omega)⟩ (Nat.le_of_ble_eq_true rfl) (fun r n h hp => ?_) (fun _ _ _ q => q.elim)
  obtain ⟨rfl, hp⟩ := hp
  rcases hp with ⟨i1, hc, rfl, rfl⟩ | ⟨hc, rfl, rfl⟩ | ⟨hc, rfl, rfl⟩
  ·
    refine XV.cast lw_1 ?_
    refine XV.run C okL_law2 6 (q := (281, ([some (.ref (0)), some (.ref (4)), some (.ref (213)), some (.ref (219)), some (.int (nI (4 * j))), some (.int (0)), none, none, none], [.int ((nI (4 * j)) + 1), .ref (0), .ref (213)]))) rfl ?_
    refine XV.sald C (a := (4 * j + 1)) (xlk_ok okL_law2 rfl) (nI_add _ 1) (by omega) hL ?_
    refine XV.run C okL_law2 4 (q := (287, ([some (.ref (0)), some (.ref (4)), some (.ref (213)), some (.ref (219)), some (.int (nI (4 * j))), some (.int (0)), none, none, none], [.int ((nI (4 * j)) + 2), .ref (0), .int (xxs G (4 * j + 1)), .ref (213)]))) rfl ?_
    refine XV.sald C (a := (4 * j + 2)) (xlk_ok okL_law2 rfl) (nI_add _ 2) (by omega) hL ?_
    refine XV.callV C (As := [.int (xxs G (4 * j + 1)), .int (xxs G (4 * j + 2))]) (rest := []) (ci := 5) (ct_M_swap hfl (by decide) hm hk hl hF2 hk6 (xxs G (4 * j + 1)) (xxs G (4 * j + 2))) (xlk_ok okL_law2 rfl) rfl (by decide) (by decide) rfl (mw_o) rfl wM_L_92 wI_M_swap wV_M_swap wN_M wB_M_swap hy_M_swap (fun q => q.elim) ⟨Nat.le_of_ble_eq_true rfl, Nat.le_of_ble_eq_true rfl⟩ ⟨room_c (by omega), room_s (by omega)⟩ (Nat.le_of_ble_eq_true rfl) (fun r n h hp => ?_) (fun _ _ _ q => q.elim)
    obtain ⟨rfl, ⟨v, rfl⟩, hp⟩ := hp
    rcases hp with ⟨hd, rfl⟩ | ⟨hd, rfl⟩ | ⟨i2, hd, hr, rfl⟩
    ·
      obtain ⟨hc0, hc1, hc2⟩ := hc
      have thc0 := nI_teq hc0 (by omega)
      exfalso
      try simp only [le_tI, lt_tI, tI_0, tI_1, tc_4, tc_5, tc_7, tc_8, tc_9, tc_23, tc_24, tc_33, tc_99, tc_126, kI] at hc1
      try simp only [le_tI, lt_tI, tI_0, tI_1, tc_4, tc_5, tc_7, tc_8, tc_9, tc_23, tc_24, tc_33, tc_99, tc_126, kI] at hc2
      try simp only [le_tI, lt_tI, tI_0, tI_1, tc_4, tc_5, tc_7, tc_8, tc_9, tc_23, tc_24, tc_33, tc_99, tc_126, kI] at hd
      omega
    ·
      obtain ⟨hc0, hc1, hc2⟩ := hc
      have thc0 := nI_teq hc0 (by omega)
      exfalso
      try simp only [le_tI, lt_tI, tI_0, tI_1, tc_4, tc_5, tc_7, tc_8, tc_9, tc_23, tc_24, tc_33, tc_99, tc_126, kI] at hc1
      try simp only [le_tI, lt_tI, tI_0, tI_1, tc_4, tc_5, tc_7, tc_8, tc_9, tc_23, tc_24, tc_33, tc_99, tc_126, kI] at hc2
      try simp only [le_tI, lt_tI, tI_0, tI_1, tc_4, tc_5, tc_7, tc_8, tc_9, tc_23, tc_24, tc_33, tc_99, tc_126, kI] at hd
      omega
    ·
      obtain ⟨hc0, hc1, hc2⟩ := hc
      obtain ⟨hd0, hd1, hd2⟩ := hd
      have thc0 := nI_teq hc0 (by omega)
      have thd0 := nI_teq hd0 (by omega)
      obtain rfl : i1 = i2 := by omega
      cases hr
      -- both answer
      refine XV.run C okL_law2 2 (q := (294, ([some (.ref (0)), some (.ref (4)), some (.ref (213)), some (.ref (219)), some (.int (nI (4 * j))), some (.int (0)), some (.int ((sumN (colR (rowOf f i1) true) 0 24))), none, none], [.ref (213)]))) rfl ?_
      refine XV.callV C (As := []) (rest := []) (ci := 5) (ct_M_thrown hfl (by decide)) (xlk_ok okL_law2 rfl) rfl (by decide) (by decide) rfl (mw_o) rfl wM_L_83 wI_M_thrown wV_M_thrown wN_M wB_M_thrown hy_M_thrown (fun q => q.elim) ⟨Nat.le_of_ble_eq_true rfl, Nat.le_of_ble_eq_true rfl⟩ ⟨room_c (by omega), room_s (by omega)⟩ (Nat.le_of_ble_eq_true rfl) (fun r n h hp => ?_) (fun _ _ _ q => q.elim)
      obtain ⟨rfl, rfl, rfl⟩ := hp
      refine XV.run C okL_law2 1 (q := (299, ([some (.ref (0)), some (.ref (4)), some (.ref (213)), some (.ref (219)), some (.int (nI (4 * j))), some (.int (0)), some (.int ((sumN (colR (rowOf f i1) true) 0 24))), none, none], [.int (0), .int ((upd (upd F 6 0) 2 (nI (kK kp))) 6)]))) rfl ?_
      refine XV.icmp_eq C (tgt := 304) (xlk_ok okL_law2 rfl) rfl (fun _ => ?_) (fun hc => absurd ((upd_ne (by decide)).trans upd_eq) hc)
      refine XV.run C okL_law2 1 (q := (306, ([some (.ref (0)), some (.ref (4)), some (.ref (213)), some (.ref (219)), some (.int (nI (4 * j))), some (.int (0)), some (.int ((sumN (colR (rowOf f i1) true) 0 24))), none, none], [.int (0)]))) rfl ?_
      refine XV.if_ne C (tgt := 321) (xlk_ok okL_law2 rfl) rfl (fun hc => absurd (rfl) hc) (fun _ => ?_)
      refine XV.run C okL_law2 2 (q := (311, ([some (.ref (0)), some (.ref (4)), some (.ref (213)), some (.ref (219)), some (.int (nI (4 * j))), some (.int (0)), some (.int ((sumN (colR (rowOf f i1) true) 0 24))), none, none], [.int (0), .ref (219)]))) rfl ?_
      refine XV.lald C (N := 1) (a := 0) (f := vp_updL fo 0 (sumN (colR (rowOf f i1) true) 0 24).toInt64) (xlk_ok okL_law2 rfl) (by decide) (by decide) (lw_219 (xup_at hb 219 _)) rfl (by decide) (by decide) ?_
      rw [upL_0]
      refine XV.run C okL_law2 3 (q := (316, ([some (.ref (0)), some (.ref (4)), some (.ref (213)), some (.ref (219)), some (.int (nI (4 * j))), some (.int (0)), some (.int ((sumN (colR (rowOf f i1) true) 0 24))), none, none], [.int (lg_cmp ((sumN (colR (rowOf f i1) true) 0 24).toInt64) (((sumN (colR (rowOf f i1) true) 0 24)).toInt64))]))) rfl ?_
      refine XV.if_eq C (tgt := 321) (xlk_ok okL_law2 rfl) rfl (fun _ => ?_) (fun hc => absurd (lcmp_eq (congrArg Int32.toInt64 (rfl))) hc)
      refine XV.run C okL_law2 1 (q := (1390, ([some (.ref (0)), some (.ref (4)), some (.ref (213)), some (.ref (219)), some (.int (nI (4 * j))), some (.int (0)), some (.int ((sumN (colR (rowOf f i1) true) 0 24))), none, none], []))) rfl ?_
      exact XV.widen (by omega) (by omega) (XV.drop (kk _ _ _ _ _ _ _ _ _ _ _ _ _ _ (xup_at hb 219 _) ⟨⟨_, _, _, OKf_swap hO hc1 hc2⟩, kO_lt ho, kK_le hk6, PR_save ho hk6 hPR ⟨_, _, _, hO⟩, hl6, upd_eq, (upd_ne (by decide)).trans ((upd_ne (by decide)).trans hF5)⟩) rfl (by simp [xle]))
  ·
    refine XV.cast lw_0.symm ?_
    refine XV.run C okL_law2 6 (q := (281, ([some (.ref (0)), some (.ref (4)), some (.ref (213)), some (.ref (219)), some (.int (nI (4 * j))), some (.int (1)), none, none, none], [.int ((nI (4 * j)) + 1), .ref (0), .ref (213)]))) rfl ?_
    refine XV.sald C (a := (4 * j + 1)) (xlk_ok okL_law2 rfl) (nI_add _ 1) (by omega) hL ?_
    refine XV.run C okL_law2 4 (q := (287, ([some (.ref (0)), some (.ref (4)), some (.ref (213)), some (.ref (219)), some (.int (nI (4 * j))), some (.int (1)), none, none, none], [.int ((nI (4 * j)) + 2), .ref (0), .int (xxs G (4 * j + 1)), .ref (213)]))) rfl ?_
    refine XV.sald C (a := (4 * j + 2)) (xlk_ok okL_law2 rfl) (nI_add _ 2) (by omega) hL ?_
    refine XV.callV C (As := [.int (xxs G (4 * j + 1)), .int (xxs G (4 * j + 2))]) (rest := []) (ci := 5) (ct_M_swap hfl (by decide) hm hk hl hF2 hk6 (xxs G (4 * j + 1)) (xxs G (4 * j + 2))) (xlk_ok okL_law2 rfl) rfl (by decide) (by decide) rfl (mw_o) rfl wM_L_92 wI_M_swap wV_M_swap wN_M wB_M_swap hy_M_swap (fun q => q.elim) ⟨Nat.le_of_ble_eq_true rfl, Nat.le_of_ble_eq_true rfl⟩ ⟨room_c (by omega), room_s (by omega)⟩ (Nat.le_of_ble_eq_true rfl) (fun r n h hp => ?_) (fun _ _ _ q => q.elim)
    obtain ⟨rfl, ⟨v, rfl⟩, hp⟩ := hp
    rcases hp with ⟨hd, rfl⟩ | ⟨hd, rfl⟩ | ⟨i2, hd, hr, rfl⟩
    ·
      refine XV.run C okL_law2 2 (q := (294, ([some (.ref (0)), some (.ref (4)), some (.ref (213)), some (.ref (219)), some (.int (nI (4 * j))), some (.int (1)), some (.int (v)), none, none], [.ref (213)]))) rfl ?_
      refine XV.callV C (As := []) (rest := []) (ci := 5) (ct_M_thrown hfl (by decide)) (xlk_ok okL_law2 rfl) rfl (by decide) (by decide) rfl (mw_o) rfl wM_L_83 wI_M_thrown wV_M_thrown wN_M wB_M_thrown hy_M_thrown (fun q => q.elim) ⟨Nat.le_of_ble_eq_true rfl, Nat.le_of_ble_eq_true rfl⟩ ⟨room_c (by omega), room_s (by omega)⟩ (Nat.le_of_ble_eq_true rfl) (fun r n h hp => ?_) (fun _ _ _ q => q.elim)
      obtain ⟨rfl, rfl, rfl⟩ := hp
      refine XV.run C okL_law2 1 (q := (299, ([some (.ref (0)), some (.ref (4)), some (.ref (213)), some (.ref (219)), some (.int (nI (4 * j))), some (.int (1)), some (.int (v)), none, none], [.int (1), .int ((upd (upd F 6 0) 6 1) 6)]))) rfl ?_
      refine XV.icmp_eq C (tgt := 304) (xlk_ok okL_law2 rfl) rfl (fun _ => ?_) (fun hc => absurd (upd_eq) hc)
      refine XV.run C okL_law2 1 (q := (306, ([some (.ref (0)), some (.ref (4)), some (.ref (213)), some (.ref (219)), some (.int (nI (4 * j))), some (.int (1)), some (.int (v)), none, none], [.int (1)]))) rfl ?_
      refine XV.if_ne C (tgt := 321) (xlk_ok okL_law2 rfl) rfl (fun _ => ?_) (fun hc => absurd hc (by decide))
      refine XV.run C okL_law2 1 (q := (1390, ([some (.ref (0)), some (.ref (4)), some (.ref (213)), some (.ref (219)), some (.int (nI (4 * j))), some (.int (1)), some (.int (v)), none, none], []))) rfl ?_
      exact XV.widen (by omega) (by omega) (XV.drop (kk _ _ _ _ _ _ _ _ _ _ _ _ _ _ h219 ⟨⟨_, _, _, hO⟩, ho, hk6, hPR, hl6, (upd_ne (by decide)).trans ((upd_ne (by decide)).trans hF2), (upd_ne (by decide)).trans ((upd_ne (by decide)).trans hF5)⟩) rfl (by simp [xle]))
    ·
      exfalso
      try simp only [le_tI, lt_tI, tI_0, tI_1, tc_4, tc_5, tc_7, tc_8, tc_9, tc_23, tc_24, tc_33, tc_99, tc_126, kI] at hc
      try simp only [le_tI, lt_tI, tI_0, tI_1, tc_4, tc_5, tc_7, tc_8, tc_9, tc_23, tc_24, tc_33, tc_99, tc_126, kI] at hd
      omega
    ·
      obtain ⟨hd0, hd1, hd2⟩ := hd
      have thd0 := nI_teq hd0 (by omega)
      exfalso
      try simp only [le_tI, lt_tI, tI_0, tI_1, tc_4, tc_5, tc_7, tc_8, tc_9, tc_23, tc_24, tc_33, tc_99, tc_126, kI] at hc
      try simp only [le_tI, lt_tI, tI_0, tI_1, tc_4, tc_5, tc_7, tc_8, tc_9, tc_23, tc_24, tc_33, tc_99, tc_126, kI] at hd1
      try simp only [le_tI, lt_tI, tI_0, tI_1, tc_4, tc_5, tc_7, tc_8, tc_9, tc_23, tc_24, tc_33, tc_99, tc_126, kI] at hd2
      omega
  ·
    refine XV.cast lw_0.symm ?_
    refine XV.run C okL_law2 6 (q := (281, ([some (.ref (0)), some (.ref (4)), some (.ref (213)), some (.ref (219)), some (.int (nI (4 * j))), some (.int (2)), none, none, none], [.int ((nI (4 * j)) + 1), .ref (0), .ref (213)]))) rfl ?_
    refine XV.sald C (a := (4 * j + 1)) (xlk_ok okL_law2 rfl) (nI_add _ 1) (by omega) hL ?_
    refine XV.run C okL_law2 4 (q := (287, ([some (.ref (0)), some (.ref (4)), some (.ref (213)), some (.ref (219)), some (.int (nI (4 * j))), some (.int (2)), none, none, none], [.int ((nI (4 * j)) + 2), .ref (0), .int (xxs G (4 * j + 1)), .ref (213)]))) rfl ?_
    refine XV.sald C (a := (4 * j + 2)) (xlk_ok okL_law2 rfl) (nI_add _ 2) (by omega) hL ?_
    refine XV.callV C (As := [.int (xxs G (4 * j + 1)), .int (xxs G (4 * j + 2))]) (rest := []) (ci := 5) (ct_M_swap hfl (by decide) hm hk hl hF2 hk6 (xxs G (4 * j + 1)) (xxs G (4 * j + 2))) (xlk_ok okL_law2 rfl) rfl (by decide) (by decide) rfl (mw_o) rfl wM_L_92 wI_M_swap wV_M_swap wN_M wB_M_swap hy_M_swap (fun q => q.elim) ⟨Nat.le_of_ble_eq_true rfl, Nat.le_of_ble_eq_true rfl⟩ ⟨room_c (by omega), room_s (by omega)⟩ (Nat.le_of_ble_eq_true rfl) (fun r n h hp => ?_) (fun _ _ _ q => q.elim)
    obtain ⟨rfl, ⟨v, rfl⟩, hp⟩ := hp
    rcases hp with ⟨hd, rfl⟩ | ⟨hd, rfl⟩ | ⟨i2, hd, hr, rfl⟩
    ·
      exfalso
      try simp only [le_tI, lt_tI, tI_0, tI_1, tc_4, tc_5, tc_7, tc_8, tc_9, tc_23, tc_24, tc_33, tc_99, tc_126, kI] at hc
      try simp only [le_tI, lt_tI, tI_0, tI_1, tc_4, tc_5, tc_7, tc_8, tc_9, tc_23, tc_24, tc_33, tc_99, tc_126, kI] at hd
      omega
    ·
      refine XV.run C okL_law2 2 (q := (294, ([some (.ref (0)), some (.ref (4)), some (.ref (213)), some (.ref (219)), some (.int (nI (4 * j))), some (.int (2)), some (.int (v)), none, none], [.ref (213)]))) rfl ?_
      refine XV.callV C (As := []) (rest := []) (ci := 5) (ct_M_thrown hfl (by decide)) (xlk_ok okL_law2 rfl) rfl (by decide) (by decide) rfl (mw_o) rfl wM_L_83 wI_M_thrown wV_M_thrown wN_M wB_M_thrown hy_M_thrown (fun q => q.elim) ⟨Nat.le_of_ble_eq_true rfl, Nat.le_of_ble_eq_true rfl⟩ ⟨room_c (by omega), room_s (by omega)⟩ (Nat.le_of_ble_eq_true rfl) (fun r n h hp => ?_) (fun _ _ _ q => q.elim)
      obtain ⟨rfl, rfl, rfl⟩ := hp
      refine XV.run C okL_law2 1 (q := (299, ([some (.ref (0)), some (.ref (4)), some (.ref (213)), some (.ref (219)), some (.int (nI (4 * j))), some (.int (2)), some (.int (v)), none, none], [.int (2), .int ((upd (upd F 6 0) 6 2) 6)]))) rfl ?_
      refine XV.icmp_eq C (tgt := 304) (xlk_ok okL_law2 rfl) rfl (fun _ => ?_) (fun hc => absurd (upd_eq) hc)
      refine XV.run C okL_law2 1 (q := (306, ([some (.ref (0)), some (.ref (4)), some (.ref (213)), some (.ref (219)), some (.int (nI (4 * j))), some (.int (2)), some (.int (v)), none, none], [.int (2)]))) rfl ?_
      refine XV.if_ne C (tgt := 321) (xlk_ok okL_law2 rfl) rfl (fun _ => ?_) (fun hc => absurd hc (by decide))
      refine XV.run C okL_law2 1 (q := (1390, ([some (.ref (0)), some (.ref (4)), some (.ref (213)), some (.ref (219)), some (.int (nI (4 * j))), some (.int (2)), some (.int (v)), none, none], []))) rfl ?_
      exact XV.widen (by omega) (by omega) (XV.drop (kk _ _ _ _ _ _ _ _ _ _ _ _ _ _ h219 ⟨⟨_, _, _, hO⟩, ho, hk6, hPR, hl6, (upd_ne (by decide)).trans ((upd_ne (by decide)).trans hF2), (upd_ne (by decide)).trans ((upd_ne (by decide)).trans hF5)⟩) rfl (by simp [xle]))
    ·
      obtain ⟨hd0, hd1, hd2⟩ := hd
      have thd0 := nI_teq hd0 (by omega)
      exfalso
      try simp only [le_tI, lt_tI, tI_0, tI_1, tc_4, tc_5, tc_7, tc_8, tc_9, tc_23, tc_24, tc_33, tc_99, tc_126, kI] at hc
      try simp only [le_tI, lt_tI, tI_0, tI_1, tc_4, tc_5, tc_7, tc_8, tc_9, tc_23, tc_24, tc_33, tc_99, tc_126, kI] at hd1
      try simp only [le_tI, lt_tI, tI_0, tI_1, tc_4, tc_5, tc_7, tc_8, tc_9, tc_23, tc_24, tc_33, tc_99, tc_126, kI] at hd2
      omega
def kL_law3 : List (Nat × (Instr × Nat)) := [(324, (.aload_n 1, 1)), (325, (.aload_n 0, 1)), (326, (.iload 4, 2)), (328, (.iconst 1, 1)), (329, (.iadd, 1)), (330, (.iaload, 1)), (331, (.aload_n 0, 1)), (332, (.iload 4, 2)), (334, (.iconst 2, 1)), (335, (.iadd, 1)), (336, (.iaload, 1)), (337, (.aload_n 0, 1)), (338, (.iload 4, 2)), (340, (.iconst 3, 1)), (341, (.iadd, 1)), (342, (.iaload, 1)), (343, (.aload_n 3, 1)), (344, (.invokestatic 93, 3)), (347, (.istore 5, 2)), (349, (.aload_n 2, 1)), (350, (.aload_n 0, 1)), (351, (.iload 4, 2)), (353, (.iconst 1, 1)), (354, (.iadd, 1)), (355, (.iaload, 1)), (356, (.aload_n 0, 1)), (357, (.iload 4, 2)), (359, (.iconst 2, 1)), (360, (.iadd, 1)), (361, (.iaload, 1)), (362, (.aload_n 0, 1)), (363, (.iload 4, 2)), (365, (.iconst 3, 1)), (366, (.iadd, 1)), (367, (.iaload, 1)), (368, (.invokevirtual 96, 3)), (371, (.istore 6, 2)), (373, (.aload_n 2, 1)), (374, (.invokevirtual 83, 3)), (377, (.iload 5, 2)), (379, (.if_icmp .eq 5, 3)), (382, (.iconst 0, 1)), (383, (.ireturn, 1)), (384, (.iload 5, 2)), (386, (.ifCond .ne 15, 3)), (389, (.aload_n 3, 1)), (390, (.iconst 0, 1)), (391, (.laload, 1)), (392, (.iload 6, 2)), (394, (.i2l, 1)), (395, (.lcmp, 1)), (396, (.ifCond .eq 5, 3)), (399, (.iconst 0, 1)), (400, (.ireturn, 1)), (401, (.goto 989, 3))]
set_option maxRecDepth 100000 in
theorem okL_law3 : ∀ a ∈ kL_law3, decode code a.1 = .ok a.2 := by decide +kernel
set_option maxHeartbeats 4000000 in
set_option maxRecDepth 100000 in
theorem law_c3 (hfl : l.stackTraces = false) (hL : xL G < 2 ^ 31) (C : XCx G l "RopeThreadsLaw" code 9 p' s' m' g' t' c') (hk8 : k + 8 ≤ 601024) (hks : ks + 48 ≤ 7293034) (hj : 4 * j + 4 ≤ xL G) (h219 : hb 219 = outC fo) (hI : LI f o kp P len pa F) (kk : ∀ (hb : XH) (f : Nat → Int32) (o kp : Nat) (P : Nat → Nat → Int32) (tx : Nat → Int32) (len : Nat) (p : PT) (ρ pa tr td F : Nat → Int32) (fo : Nat → Int64), hb 219 = outC fo → LI f o kp P len pa F → XV G 9 p' l e' room_1 s' m' g' b' t' c' Q 1390 [some (.ref 0), some (.ref 4), some (.ref 213), some (.ref 219), some (.int (nI (4 * j))), none, none, none, none] [] 216 (setM (setCW hb f o kp P tx len p ρ) f pa tr tx td F) (k + 8) (ks + 48)) : XV G 9 p' l e' room_1 s' m' g' b' t' c' Q 324 [some (.ref 0), some (.ref 4), some (.ref 213), some (.ref 219), some (.int (nI (4 * j))), none, none, none, none] [] 216 (setM (setCW hb f o kp P tx len p ρ) f pa tr tx td F) (k) (ks) := by
  obtain ⟨⟨k9, m9, tt9, hO⟩, ho, hk6, hPR, hl6, hF2, hF5⟩ := hI
  have hm := hO.1
  have hk := hO.2.1
  have hl := hO.live
  obtain ⟨z, hz, z1, z2⟩ := hO.2.2.2.2.2.2.1.1
  have kI : (nI k9).toInt = (k9 : Int) := nI_tI (by omega)
  refine XV.cast lw_0 ?_
  refine XV.run C okL_law3 5 (q := (330, ([some (.ref (0)), some (.ref (4)), some (.ref (213)), some (.ref (219)), some (.int (nI (4 * j))), none, none, none, none], [.int ((nI (4 * j)) + 1), .ref (0), .ref (4)]))) rfl ?_
  refine XV.sald C (a := (4 * j + 1)) (xlk_ok okL_law3 rfl) (nI_add _ 1) (by omega) hL ?_
  refine XV.run C okL_law3 4 (q := (336, ([some (.ref (0)), some (.ref (4)), some (.ref (213)), some (.ref (219)), some (.int (nI (4 * j))), none, none, none, none], [.int ((nI (4 * j)) + 2), .ref (0), .int (xxs G (4 * j + 1)), .ref (4)]))) rfl ?_
  refine XV.sald C (a := (4 * j + 2)) (xlk_ok okL_law3 rfl) (nI_add _ 2) (by omega) hL ?_
  refine XV.run C okL_law3 4 (q := (342, ([some (.ref (0)), some (.ref (4)), some (.ref (213)), some (.ref (219)), some (.int (nI (4 * j))), none, none, none, none], [.int ((nI (4 * j)) + 3), .ref (0), .int (xxs G (4 * j + 2)), .int (xxs G (4 * j + 1)), .ref (4)]))) rfl ?_
  refine XV.sald C (a := (4 * j + 3)) (xlk_ok okL_law3 rfl) (nI_add _ 3) (by omega) hL ?_
  refine XV.run C okL_law3 1 (q := (344, ([some (.ref (0)), some (.ref (4)), some (.ref (213)), some (.ref (219)), some (.int (nI (4 * j))), none, none, none, none], [.ref (219), .int (xxs G (4 * j + 3)), .int (xxs G (4 * j + 2)), .int (xxs G (4 * j + 1)), .ref (4)]))) rfl ?_
  refine XV.callSX C (As := [.ref (4), .int (xxs G (4 * j + 1)), .int (xxs G (4 * j + 2)), .int (xxs G (4 * j + 3)), .ref (219)]) (rest := []) (ct_L_inspect hfl (by decide) hm hk hl ho hk6 (xxs G (4 * j + 1)) (xxs G (4 * j + 2)) (xxs G (4 * j + 3)) (by decide) ((blk_out (Or.inr (by decide))).trans h219)) (xlk_ok okL_law3 rfl) rfl wM_L_93 wS_L_inspect wN_L wB_L_inspect hy_L_inspect (fun q => q.elim) ⟨Nat.le_of_ble_eq_true rfl, Nat.le_of_ble_eq_true rfl⟩ ⟨room_c (by omega), room_s (by omega)⟩ (Nat.le_of_ble_eq_true rfl) (fun r n h hp => ?_) (fun _ _ _ q => q.elim)
  obtain ⟨rfl, hp⟩ := hp
  rcases hp with ⟨i1, a1, b1, hc, rfl, rfl⟩ | ⟨hc, rfl, rfl⟩ | ⟨hc, rfl, rfl⟩ | ⟨hc, rfl, rfl⟩
  ·
    refine XV.cast lw_1 ?_
    refine XV.run C okL_law3 6 (q := (355, ([some (.ref (0)), some (.ref (4)), some (.ref (213)), some (.ref (219)), some (.int (nI (4 * j))), some (.int (0)), none, none, none], [.int ((nI (4 * j)) + 1), .ref (0), .ref (213)]))) rfl ?_
    refine XV.sald C (a := (4 * j + 1)) (xlk_ok okL_law3 rfl) (nI_add _ 1) (by omega) hL ?_
    refine XV.run C okL_law3 4 (q := (361, ([some (.ref (0)), some (.ref (4)), some (.ref (213)), some (.ref (219)), some (.int (nI (4 * j))), some (.int (0)), none, none, none], [.int ((nI (4 * j)) + 2), .ref (0), .int (xxs G (4 * j + 1)), .ref (213)]))) rfl ?_
    refine XV.sald C (a := (4 * j + 2)) (xlk_ok okL_law3 rfl) (nI_add _ 2) (by omega) hL ?_
    refine XV.run C okL_law3 4 (q := (367, ([some (.ref (0)), some (.ref (4)), some (.ref (213)), some (.ref (219)), some (.int (nI (4 * j))), some (.int (0)), none, none, none], [.int ((nI (4 * j)) + 3), .ref (0), .int (xxs G (4 * j + 2)), .int (xxs G (4 * j + 1)), .ref (213)]))) rfl ?_
    refine XV.sald C (a := (4 * j + 3)) (xlk_ok okL_law3 rfl) (nI_add _ 3) (by omega) hL ?_
    refine XV.callV C (As := [.int (xxs G (4 * j + 1)), .int (xxs G (4 * j + 2)), .int (xxs G (4 * j + 3))]) (rest := []) (ci := 5) (ct_M_inspect hfl (by decide) hm hk hl hF2 hk6 (xxs G (4 * j + 1)) (xxs G (4 * j + 2)) (xxs G (4 * j + 3))) (xlk_ok okL_law3 rfl) rfl (by decide) (by decide) rfl (mw_o) rfl wM_L_96 wI_M_inspect wV_M_inspect wN_M wB_M_inspect hy_M_inspect (fun q => q.elim) ⟨Nat.le_of_ble_eq_true rfl, Nat.le_of_ble_eq_true rfl⟩ ⟨room_c (by omega), room_s (by omega)⟩ (Nat.le_of_ble_eq_true rfl) (fun r n h hp => ?_) (fun _ _ _ q => q.elim)
    obtain ⟨rfl, ⟨v, rfl⟩, hp⟩ := hp
    rcases hp with ⟨hd, rfl⟩ | ⟨hd, rfl⟩ | ⟨i2, a2, b2, hd, hr, rfl⟩
    ·
      obtain ⟨hc0, hc1, hc2, hc3, hc4, hc5⟩ := hc
      have thc0 := nI_teq hc0 (by omega)
      have thc2 := nI_teq hc2 (by omega)
      have thc3 := nI_teq hc3 (by omega)
      exfalso
      try simp only [le_tI, lt_tI, tI_0, tI_1, tc_4, tc_5, tc_7, tc_8, tc_9, tc_23, tc_24, tc_33, tc_99, tc_126, kI] at hc1
      try simp only [le_tI, lt_tI, tI_0, tI_1, tc_4, tc_5, tc_7, tc_8, tc_9, tc_23, tc_24, tc_33, tc_99, tc_126, kI] at hc4
      try simp only [le_tI, lt_tI, tI_0, tI_1, tc_4, tc_5, tc_7, tc_8, tc_9, tc_23, tc_24, tc_33, tc_99, tc_126, kI] at hc5
      try simp only [le_tI, lt_tI, tI_0, tI_1, tc_4, tc_5, tc_7, tc_8, tc_9, tc_23, tc_24, tc_33, tc_99, tc_126, kI] at hd
      omega
    ·
      obtain ⟨hc0, hc1, hc2, hc3, hc4, hc5⟩ := hc
      have thc0 := nI_teq hc0 (by omega)
      have thc2 := nI_teq hc2 (by omega)
      have thc3 := nI_teq hc3 (by omega)
      exfalso
      try simp only [le_tI, lt_tI, tI_0, tI_1, tc_4, tc_5, tc_7, tc_8, tc_9, tc_23, tc_24, tc_33, tc_99, tc_126, kI] at hc1
      try simp only [le_tI, lt_tI, tI_0, tI_1, tc_4, tc_5, tc_7, tc_8, tc_9, tc_23, tc_24, tc_33, tc_99, tc_126, kI] at hc4
      try simp only [le_tI, lt_tI, tI_0, tI_1, tc_4, tc_5, tc_7, tc_8, tc_9, tc_23, tc_24, tc_33, tc_99, tc_126, kI] at hc5
      try simp only [le_tI, lt_tI, tI_0, tI_1, tc_4, tc_5, tc_7, tc_8, tc_9, tc_23, tc_24, tc_33, tc_99, tc_126, kI] at hd
      omega
    ·
      obtain ⟨hc0, hc1, hc2, hc3, hc4, hc5⟩ := hc
      obtain ⟨hd0, hd1, hd2, hd3, hd4, hd5⟩ := hd
      have thc0 := nI_teq hc0 (by omega)
      have thc2 := nI_teq hc2 (by omega)
      have thc3 := nI_teq hc3 (by omega)
      have thd0 := nI_teq hd0 (by omega)
      have thd2 := nI_teq hd2 (by omega)
      have thd3 := nI_teq hd3 (by omega)
      obtain rfl : i1 = i2 := by omega
      obtain rfl : a1 = a2 := by omega
      obtain rfl : b1 = b2 := by omega
      cases hr
      -- both answer
      refine XV.run C okL_law3 2 (q := (374, ([some (.ref (0)), some (.ref (4)), some (.ref (213)), some (.ref (219)), some (.int (nI (4 * j))), some (.int (0)), some (.int ((sumN (colR (rowOf (upd (putRow f i1 (rLook (rowOf f i1) a1 (b1 + 1 - a1) (f 0))) 8 (putRow f i1 (rLook (rowOf f i1) a1 (b1 + 1 - a1) (f 0)) 8 + ((xxs G (4 * j + 3)) - (xxs G (4 * j + 2)) + 1))) i1) false) 0 24 - sumN (colR (rowOf f i1) false) 0 24))), none, none], [.ref (213)]))) rfl ?_
      refine XV.callV C (As := []) (rest := []) (ci := 5) (ct_M_thrown hfl (by decide)) (xlk_ok okL_law3 rfl) rfl (by decide) (by decide) rfl (mw_o) rfl wM_L_83 wI_M_thrown wV_M_thrown wN_M wB_M_thrown hy_M_thrown (fun q => q.elim) ⟨Nat.le_of_ble_eq_true rfl, Nat.le_of_ble_eq_true rfl⟩ ⟨room_c (by omega), room_s (by omega)⟩ (Nat.le_of_ble_eq_true rfl) (fun r n h hp => ?_) (fun _ _ _ q => q.elim)
      obtain ⟨rfl, rfl, rfl⟩ := hp
      refine XV.run C okL_law3 1 (q := (379, ([some (.ref (0)), some (.ref (4)), some (.ref (213)), some (.ref (219)), some (.int (nI (4 * j))), some (.int (0)), some (.int ((sumN (colR (rowOf (upd (putRow f i1 (rLook (rowOf f i1) a1 (b1 + 1 - a1) (f 0))) 8 (putRow f i1 (rLook (rowOf f i1) a1 (b1 + 1 - a1) (f 0)) 8 + ((xxs G (4 * j + 3)) - (xxs G (4 * j + 2)) + 1))) i1) false) 0 24 - sumN (colR (rowOf f i1) false) 0 24))), none, none], [.int (0), .int ((upd (upd F 6 0) 2 (nI (kK kp))) 6)]))) rfl ?_
      refine XV.icmp_eq C (tgt := 384) (xlk_ok okL_law3 rfl) rfl (fun _ => ?_) (fun hc => absurd ((upd_ne (by decide)).trans upd_eq) hc)
      refine XV.run C okL_law3 1 (q := (386, ([some (.ref (0)), some (.ref (4)), some (.ref (213)), some (.ref (219)), some (.int (nI (4 * j))), some (.int (0)), some (.int ((sumN (colR (rowOf (upd (putRow f i1 (rLook (rowOf f i1) a1 (b1 + 1 - a1) (f 0))) 8 (putRow f i1 (rLook (rowOf f i1) a1 (b1 + 1 - a1) (f 0)) 8 + ((xxs G (4 * j + 3)) - (xxs G (4 * j + 2)) + 1))) i1) false) 0 24 - sumN (colR (rowOf f i1) false) 0 24))), none, none], [.int (0)]))) rfl ?_
      refine XV.if_ne C (tgt := 401) (xlk_ok okL_law3 rfl) rfl (fun hc => absurd (rfl) hc) (fun _ => ?_)
      refine XV.run C okL_law3 2 (q := (391, ([some (.ref (0)), some (.ref (4)), some (.ref (213)), some (.ref (219)), some (.int (nI (4 * j))), some (.int (0)), some (.int ((sumN (colR (rowOf (upd (putRow f i1 (rLook (rowOf f i1) a1 (b1 + 1 - a1) (f 0))) 8 (putRow f i1 (rLook (rowOf f i1) a1 (b1 + 1 - a1) (f 0)) 8 + ((xxs G (4 * j + 3)) - (xxs G (4 * j + 2)) + 1))) i1) false) 0 24 - sumN (colR (rowOf f i1) false) 0 24))), none, none], [.int (0), .ref (219)]))) rfl ?_
      refine XV.lald C (N := 1) (a := 0) (f := vp_updL fo 0 (sumN (colR (rowOf (upd (putRow f i1 (rLook (rowOf f i1) a1 (b1 + 1 - a1) (f 0))) 8 (putRow f i1 (rLook (rowOf f i1) a1 (b1 + 1 - a1) (f 0)) 8 + ((xxs G (4 * j + 3)) - (xxs G (4 * j + 2)) + 1))) i1) false) 0 24 - sumN (colR (rowOf f i1) false) 0 24).toInt64) (xlk_ok okL_law3 rfl) (by decide) (by decide) (lw_219 (xup_at hb 219 _)) rfl (by decide) (by decide) ?_
      rw [upL_0]
      refine XV.run C okL_law3 3 (q := (396, ([some (.ref (0)), some (.ref (4)), some (.ref (213)), some (.ref (219)), some (.int (nI (4 * j))), some (.int (0)), some (.int ((sumN (colR (rowOf (upd (putRow f i1 (rLook (rowOf f i1) a1 (b1 + 1 - a1) (f 0))) 8 (putRow f i1 (rLook (rowOf f i1) a1 (b1 + 1 - a1) (f 0)) 8 + ((xxs G (4 * j + 3)) - (xxs G (4 * j + 2)) + 1))) i1) false) 0 24 - sumN (colR (rowOf f i1) false) 0 24))), none, none], [.int (lg_cmp ((sumN (colR (rowOf (upd (putRow f i1 (rLook (rowOf f i1) a1 (b1 + 1 - a1) (f 0))) 8 (putRow f i1 (rLook (rowOf f i1) a1 (b1 + 1 - a1) (f 0)) 8 + ((xxs G (4 * j + 3)) - (xxs G (4 * j + 2)) + 1))) i1) false) 0 24 - sumN (colR (rowOf f i1) false) 0 24).toInt64) (((sumN (colR (rowOf (upd (putRow f i1 (rLook (rowOf f i1) a1 (b1 + 1 - a1) (f 0))) 8 (putRow f i1 (rLook (rowOf f i1) a1 (b1 + 1 - a1) (f 0)) 8 + ((xxs G (4 * j + 3)) - (xxs G (4 * j + 2)) + 1))) i1) false) 0 24 - sumN (colR (rowOf f i1) false) 0 24)).toInt64))]))) rfl ?_
      refine XV.if_eq C (tgt := 401) (xlk_ok okL_law3 rfl) rfl (fun _ => ?_) (fun hc => absurd (lcmp_eq (congrArg Int32.toInt64 (rfl))) hc)
      refine XV.run C okL_law3 1 (q := (1390, ([some (.ref (0)), some (.ref (4)), some (.ref (213)), some (.ref (219)), some (.int (nI (4 * j))), some (.int (0)), some (.int ((sumN (colR (rowOf (upd (putRow f i1 (rLook (rowOf f i1) a1 (b1 + 1 - a1) (f 0))) 8 (putRow f i1 (rLook (rowOf f i1) a1 (b1 + 1 - a1) (f 0)) 8 + ((xxs G (4 * j + 3)) - (xxs G (4 * j + 2)) + 1))) i1) false) 0 24 - sumN (colR (rowOf f i1) false) 0 24))), none, none], []))) rfl ?_
      exact XV.widen (by omega) (by omega) (XV.drop (kk _ _ _ _ _ _ _ _ _ _ _ _ _ _ (xup_at hb 219 _) ⟨⟨_, _, _, OKf_inspect hO hc1 (by omega)⟩, kO_lt ho, kK_le hk6, PR_save ho hk6 hPR ⟨_, _, _, hO⟩, hl6, upd_eq, (upd_ne (by decide)).trans ((upd_ne (by decide)).trans hF5)⟩) rfl (by simp [xle]))
  ·
    refine XV.cast lw_0.symm ?_
    refine XV.run C okL_law3 6 (q := (355, ([some (.ref (0)), some (.ref (4)), some (.ref (213)), some (.ref (219)), some (.int (nI (4 * j))), some (.int (1)), none, none, none], [.int ((nI (4 * j)) + 1), .ref (0), .ref (213)]))) rfl ?_
    refine XV.sald C (a := (4 * j + 1)) (xlk_ok okL_law3 rfl) (nI_add _ 1) (by omega) hL ?_
    refine XV.run C okL_law3 4 (q := (361, ([some (.ref (0)), some (.ref (4)), some (.ref (213)), some (.ref (219)), some (.int (nI (4 * j))), some (.int (1)), none, none, none], [.int ((nI (4 * j)) + 2), .ref (0), .int (xxs G (4 * j + 1)), .ref (213)]))) rfl ?_
    refine XV.sald C (a := (4 * j + 2)) (xlk_ok okL_law3 rfl) (nI_add _ 2) (by omega) hL ?_
    refine XV.run C okL_law3 4 (q := (367, ([some (.ref (0)), some (.ref (4)), some (.ref (213)), some (.ref (219)), some (.int (nI (4 * j))), some (.int (1)), none, none, none], [.int ((nI (4 * j)) + 3), .ref (0), .int (xxs G (4 * j + 2)), .int (xxs G (4 * j + 1)), .ref (213)]))) rfl ?_
    refine XV.sald C (a := (4 * j + 3)) (xlk_ok okL_law3 rfl) (nI_add _ 3) (by omega) hL ?_
    refine XV.callV C (As := [.int (xxs G (4 * j + 1)), .int (xxs G (4 * j + 2)), .int (xxs G (4 * j + 3))]) (rest := []) (ci := 5) (ct_M_inspect hfl (by decide) hm hk hl hF2 hk6 (xxs G (4 * j + 1)) (xxs G (4 * j + 2)) (xxs G (4 * j + 3))) (xlk_ok okL_law3 rfl) rfl (by decide) (by decide) rfl (mw_o) rfl wM_L_96 wI_M_inspect wV_M_inspect wN_M wB_M_inspect hy_M_inspect (fun q => q.elim) ⟨Nat.le_of_ble_eq_true rfl, Nat.le_of_ble_eq_true rfl⟩ ⟨room_c (by omega), room_s (by omega)⟩ (Nat.le_of_ble_eq_true rfl) (fun r n h hp => ?_) (fun _ _ _ q => q.elim)
    obtain ⟨rfl, ⟨v, rfl⟩, hp⟩ := hp
    rcases hp with ⟨hd, rfl⟩ | ⟨hd, rfl⟩ | ⟨i2, a2, b2, hd, hr, rfl⟩
    ·
      refine XV.run C okL_law3 2 (q := (374, ([some (.ref (0)), some (.ref (4)), some (.ref (213)), some (.ref (219)), some (.int (nI (4 * j))), some (.int (1)), some (.int (v)), none, none], [.ref (213)]))) rfl ?_
      refine XV.callV C (As := []) (rest := []) (ci := 5) (ct_M_thrown hfl (by decide)) (xlk_ok okL_law3 rfl) rfl (by decide) (by decide) rfl (mw_o) rfl wM_L_83 wI_M_thrown wV_M_thrown wN_M wB_M_thrown hy_M_thrown (fun q => q.elim) ⟨Nat.le_of_ble_eq_true rfl, Nat.le_of_ble_eq_true rfl⟩ ⟨room_c (by omega), room_s (by omega)⟩ (Nat.le_of_ble_eq_true rfl) (fun r n h hp => ?_) (fun _ _ _ q => q.elim)
      obtain ⟨rfl, rfl, rfl⟩ := hp
      refine XV.run C okL_law3 1 (q := (379, ([some (.ref (0)), some (.ref (4)), some (.ref (213)), some (.ref (219)), some (.int (nI (4 * j))), some (.int (1)), some (.int (v)), none, none], [.int (1), .int ((upd (upd F 6 0) 6 1) 6)]))) rfl ?_
      refine XV.icmp_eq C (tgt := 384) (xlk_ok okL_law3 rfl) rfl (fun _ => ?_) (fun hc => absurd (upd_eq) hc)
      refine XV.run C okL_law3 1 (q := (386, ([some (.ref (0)), some (.ref (4)), some (.ref (213)), some (.ref (219)), some (.int (nI (4 * j))), some (.int (1)), some (.int (v)), none, none], [.int (1)]))) rfl ?_
      refine XV.if_ne C (tgt := 401) (xlk_ok okL_law3 rfl) rfl (fun _ => ?_) (fun hc => absurd hc (by decide))
      refine XV.run C okL_law3 1 (q := (1390, ([some (.ref (0)), some (.ref (4)), some (.ref (213)), some (.ref (219)), some (.int (nI (4 * j))), some (.int (1)), some (.int (v)), none, none], []))) rfl ?_
      exact XV.widen (by omega) (by omega) (XV.drop (kk _ _ _ _ _ _ _ _ _ _ _ _ _ _ h219 ⟨⟨_, _, _, hO⟩, ho, hk6, hPR, hl6, (upd_ne (by decide)).trans ((upd_ne (by decide)).trans hF2), (upd_ne (by decide)).trans ((upd_ne (by decide)).trans hF5)⟩) rfl (by simp [xle]))
    ·
      exfalso
      try simp only [le_tI, lt_tI, tI_0, tI_1, tc_4, tc_5, tc_7, tc_8, tc_9, tc_23, tc_24, tc_33, tc_99, tc_126, kI] at hc
      try simp only [le_tI, lt_tI, tI_0, tI_1, tc_4, tc_5, tc_7, tc_8, tc_9, tc_23, tc_24, tc_33, tc_99, tc_126, kI] at hd
      omega
    ·
      obtain ⟨hd0, hd1, hd2, hd3, hd4, hd5⟩ := hd
      have thd0 := nI_teq hd0 (by omega)
      have thd2 := nI_teq hd2 (by omega)
      have thd3 := nI_teq hd3 (by omega)
      exfalso
      try simp only [le_tI, lt_tI, tI_0, tI_1, tc_4, tc_5, tc_7, tc_8, tc_9, tc_23, tc_24, tc_33, tc_99, tc_126, kI] at hc
      try simp only [le_tI, lt_tI, tI_0, tI_1, tc_4, tc_5, tc_7, tc_8, tc_9, tc_23, tc_24, tc_33, tc_99, tc_126, kI] at hd1
      try simp only [le_tI, lt_tI, tI_0, tI_1, tc_4, tc_5, tc_7, tc_8, tc_9, tc_23, tc_24, tc_33, tc_99, tc_126, kI] at hd4
      try simp only [le_tI, lt_tI, tI_0, tI_1, tc_4, tc_5, tc_7, tc_8, tc_9, tc_23, tc_24, tc_33, tc_99, tc_126, kI] at hd5
      omega
  ·
    refine XV.cast lw_0.symm ?_
    refine XV.run C okL_law3 6 (q := (355, ([some (.ref (0)), some (.ref (4)), some (.ref (213)), some (.ref (219)), some (.int (nI (4 * j))), some (.int (1)), none, none, none], [.int ((nI (4 * j)) + 1), .ref (0), .ref (213)]))) rfl ?_
    refine XV.sald C (a := (4 * j + 1)) (xlk_ok okL_law3 rfl) (nI_add _ 1) (by omega) hL ?_
    refine XV.run C okL_law3 4 (q := (361, ([some (.ref (0)), some (.ref (4)), some (.ref (213)), some (.ref (219)), some (.int (nI (4 * j))), some (.int (1)), none, none, none], [.int ((nI (4 * j)) + 2), .ref (0), .int (xxs G (4 * j + 1)), .ref (213)]))) rfl ?_
    refine XV.sald C (a := (4 * j + 2)) (xlk_ok okL_law3 rfl) (nI_add _ 2) (by omega) hL ?_
    refine XV.run C okL_law3 4 (q := (367, ([some (.ref (0)), some (.ref (4)), some (.ref (213)), some (.ref (219)), some (.int (nI (4 * j))), some (.int (1)), none, none, none], [.int ((nI (4 * j)) + 3), .ref (0), .int (xxs G (4 * j + 2)), .int (xxs G (4 * j + 1)), .ref (213)]))) rfl ?_
    refine XV.sald C (a := (4 * j + 3)) (xlk_ok okL_law3 rfl) (nI_add _ 3) (by omega) hL ?_
    refine XV.callV C (As := [.int (xxs G (4 * j + 1)), .int (xxs G (4 * j + 2)), .int (xxs G (4 * j + 3))]) (rest := []) (ci := 5) (ct_M_inspect hfl (by decide) hm hk hl hF2 hk6 (xxs G (4 * j + 1)) (xxs G (4 * j + 2)) (xxs G (4 * j + 3))) (xlk_ok okL_law3 rfl) rfl (by decide) (by decide) rfl (mw_o) rfl wM_L_96 wI_M_inspect wV_M_inspect wN_M wB_M_inspect hy_M_inspect (fun q => q.elim) ⟨Nat.le_of_ble_eq_true rfl, Nat.le_of_ble_eq_true rfl⟩ ⟨room_c (by omega), room_s (by omega)⟩ (Nat.le_of_ble_eq_true rfl) (fun r n h hp => ?_) (fun _ _ _ q => q.elim)
    obtain ⟨rfl, ⟨v, rfl⟩, hp⟩ := hp
    rcases hp with ⟨hd, rfl⟩ | ⟨hd, rfl⟩ | ⟨i2, a2, b2, hd, hr, rfl⟩
    ·
      refine XV.run C okL_law3 2 (q := (374, ([some (.ref (0)), some (.ref (4)), some (.ref (213)), some (.ref (219)), some (.int (nI (4 * j))), some (.int (1)), some (.int (v)), none, none], [.ref (213)]))) rfl ?_
      refine XV.callV C (As := []) (rest := []) (ci := 5) (ct_M_thrown hfl (by decide)) (xlk_ok okL_law3 rfl) rfl (by decide) (by decide) rfl (mw_o) rfl wM_L_83 wI_M_thrown wV_M_thrown wN_M wB_M_thrown hy_M_thrown (fun q => q.elim) ⟨Nat.le_of_ble_eq_true rfl, Nat.le_of_ble_eq_true rfl⟩ ⟨room_c (by omega), room_s (by omega)⟩ (Nat.le_of_ble_eq_true rfl) (fun r n h hp => ?_) (fun _ _ _ q => q.elim)
      obtain ⟨rfl, rfl, rfl⟩ := hp
      refine XV.run C okL_law3 1 (q := (379, ([some (.ref (0)), some (.ref (4)), some (.ref (213)), some (.ref (219)), some (.int (nI (4 * j))), some (.int (1)), some (.int (v)), none, none], [.int (1), .int ((upd (upd F 6 0) 6 1) 6)]))) rfl ?_
      refine XV.icmp_eq C (tgt := 384) (xlk_ok okL_law3 rfl) rfl (fun _ => ?_) (fun hc => absurd (upd_eq) hc)
      refine XV.run C okL_law3 1 (q := (386, ([some (.ref (0)), some (.ref (4)), some (.ref (213)), some (.ref (219)), some (.int (nI (4 * j))), some (.int (1)), some (.int (v)), none, none], [.int (1)]))) rfl ?_
      refine XV.if_ne C (tgt := 401) (xlk_ok okL_law3 rfl) rfl (fun _ => ?_) (fun hc => absurd hc (by decide))
      refine XV.run C okL_law3 1 (q := (1390, ([some (.ref (0)), some (.ref (4)), some (.ref (213)), some (.ref (219)), some (.int (nI (4 * j))), some (.int (1)), some (.int (v)), none, none], []))) rfl ?_
      exact XV.widen (by omega) (by omega) (XV.drop (kk _ _ _ _ _ _ _ _ _ _ _ _ _ _ h219 ⟨⟨_, _, _, hO⟩, ho, hk6, hPR, hl6, (upd_ne (by decide)).trans ((upd_ne (by decide)).trans hF2), (upd_ne (by decide)).trans ((upd_ne (by decide)).trans hF5)⟩) rfl (by simp [xle]))
    ·
      exfalso
      try simp only [le_tI, lt_tI, tI_0, tI_1, tc_4, tc_5, tc_7, tc_8, tc_9, tc_23, tc_24, tc_33, tc_99, tc_126, kI] at hc
      try simp only [le_tI, lt_tI, tI_0, tI_1, tc_4, tc_5, tc_7, tc_8, tc_9, tc_23, tc_24, tc_33, tc_99, tc_126, kI] at hd
      omega
    ·
      obtain ⟨hd0, hd1, hd2, hd3, hd4, hd5⟩ := hd
      have thd0 := nI_teq hd0 (by omega)
      have thd2 := nI_teq hd2 (by omega)
      have thd3 := nI_teq hd3 (by omega)
      exfalso
      try simp only [le_tI, lt_tI, tI_0, tI_1, tc_4, tc_5, tc_7, tc_8, tc_9, tc_23, tc_24, tc_33, tc_99, tc_126, kI] at hc
      try simp only [le_tI, lt_tI, tI_0, tI_1, tc_4, tc_5, tc_7, tc_8, tc_9, tc_23, tc_24, tc_33, tc_99, tc_126, kI] at hd1
      try simp only [le_tI, lt_tI, tI_0, tI_1, tc_4, tc_5, tc_7, tc_8, tc_9, tc_23, tc_24, tc_33, tc_99, tc_126, kI] at hd4
      try simp only [le_tI, lt_tI, tI_0, tI_1, tc_4, tc_5, tc_7, tc_8, tc_9, tc_23, tc_24, tc_33, tc_99, tc_126, kI] at hd5
      omega
  ·
    refine XV.cast lw_0.symm ?_
    refine XV.run C okL_law3 6 (q := (355, ([some (.ref (0)), some (.ref (4)), some (.ref (213)), some (.ref (219)), some (.int (nI (4 * j))), some (.int (2)), none, none, none], [.int ((nI (4 * j)) + 1), .ref (0), .ref (213)]))) rfl ?_
    refine XV.sald C (a := (4 * j + 1)) (xlk_ok okL_law3 rfl) (nI_add _ 1) (by omega) hL ?_
    refine XV.run C okL_law3 4 (q := (361, ([some (.ref (0)), some (.ref (4)), some (.ref (213)), some (.ref (219)), some (.int (nI (4 * j))), some (.int (2)), none, none, none], [.int ((nI (4 * j)) + 2), .ref (0), .int (xxs G (4 * j + 1)), .ref (213)]))) rfl ?_
    refine XV.sald C (a := (4 * j + 2)) (xlk_ok okL_law3 rfl) (nI_add _ 2) (by omega) hL ?_
    refine XV.run C okL_law3 4 (q := (367, ([some (.ref (0)), some (.ref (4)), some (.ref (213)), some (.ref (219)), some (.int (nI (4 * j))), some (.int (2)), none, none, none], [.int ((nI (4 * j)) + 3), .ref (0), .int (xxs G (4 * j + 2)), .int (xxs G (4 * j + 1)), .ref (213)]))) rfl ?_
    refine XV.sald C (a := (4 * j + 3)) (xlk_ok okL_law3 rfl) (nI_add _ 3) (by omega) hL ?_
    refine XV.callV C (As := [.int (xxs G (4 * j + 1)), .int (xxs G (4 * j + 2)), .int (xxs G (4 * j + 3))]) (rest := []) (ci := 5) (ct_M_inspect hfl (by decide) hm hk hl hF2 hk6 (xxs G (4 * j + 1)) (xxs G (4 * j + 2)) (xxs G (4 * j + 3))) (xlk_ok okL_law3 rfl) rfl (by decide) (by decide) rfl (mw_o) rfl wM_L_96 wI_M_inspect wV_M_inspect wN_M wB_M_inspect hy_M_inspect (fun q => q.elim) ⟨Nat.le_of_ble_eq_true rfl, Nat.le_of_ble_eq_true rfl⟩ ⟨room_c (by omega), room_s (by omega)⟩ (Nat.le_of_ble_eq_true rfl) (fun r n h hp => ?_) (fun _ _ _ q => q.elim)
    obtain ⟨rfl, ⟨v, rfl⟩, hp⟩ := hp
    rcases hp with ⟨hd, rfl⟩ | ⟨hd, rfl⟩ | ⟨i2, a2, b2, hd, hr, rfl⟩
    ·
      exfalso
      try simp only [le_tI, lt_tI, tI_0, tI_1, tc_4, tc_5, tc_7, tc_8, tc_9, tc_23, tc_24, tc_33, tc_99, tc_126, kI] at hc
      try simp only [le_tI, lt_tI, tI_0, tI_1, tc_4, tc_5, tc_7, tc_8, tc_9, tc_23, tc_24, tc_33, tc_99, tc_126, kI] at hd
      omega
    ·
      refine XV.run C okL_law3 2 (q := (374, ([some (.ref (0)), some (.ref (4)), some (.ref (213)), some (.ref (219)), some (.int (nI (4 * j))), some (.int (2)), some (.int (v)), none, none], [.ref (213)]))) rfl ?_
      refine XV.callV C (As := []) (rest := []) (ci := 5) (ct_M_thrown hfl (by decide)) (xlk_ok okL_law3 rfl) rfl (by decide) (by decide) rfl (mw_o) rfl wM_L_83 wI_M_thrown wV_M_thrown wN_M wB_M_thrown hy_M_thrown (fun q => q.elim) ⟨Nat.le_of_ble_eq_true rfl, Nat.le_of_ble_eq_true rfl⟩ ⟨room_c (by omega), room_s (by omega)⟩ (Nat.le_of_ble_eq_true rfl) (fun r n h hp => ?_) (fun _ _ _ q => q.elim)
      obtain ⟨rfl, rfl, rfl⟩ := hp
      refine XV.run C okL_law3 1 (q := (379, ([some (.ref (0)), some (.ref (4)), some (.ref (213)), some (.ref (219)), some (.int (nI (4 * j))), some (.int (2)), some (.int (v)), none, none], [.int (2), .int ((upd (upd F 6 0) 6 2) 6)]))) rfl ?_
      refine XV.icmp_eq C (tgt := 384) (xlk_ok okL_law3 rfl) rfl (fun _ => ?_) (fun hc => absurd (upd_eq) hc)
      refine XV.run C okL_law3 1 (q := (386, ([some (.ref (0)), some (.ref (4)), some (.ref (213)), some (.ref (219)), some (.int (nI (4 * j))), some (.int (2)), some (.int (v)), none, none], [.int (2)]))) rfl ?_
      refine XV.if_ne C (tgt := 401) (xlk_ok okL_law3 rfl) rfl (fun _ => ?_) (fun hc => absurd hc (by decide))
      refine XV.run C okL_law3 1 (q := (1390, ([some (.ref (0)), some (.ref (4)), some (.ref (213)), some (.ref (219)), some (.int (nI (4 * j))), some (.int (2)), some (.int (v)), none, none], []))) rfl ?_
      exact XV.widen (by omega) (by omega) (XV.drop (kk _ _ _ _ _ _ _ _ _ _ _ _ _ _ h219 ⟨⟨_, _, _, hO⟩, ho, hk6, hPR, hl6, (upd_ne (by decide)).trans ((upd_ne (by decide)).trans hF2), (upd_ne (by decide)).trans ((upd_ne (by decide)).trans hF5)⟩) rfl (by simp [xle]))
    ·
      obtain ⟨hd0, hd1, hd2, hd3, hd4, hd5⟩ := hd
      have thd0 := nI_teq hd0 (by omega)
      have thd2 := nI_teq hd2 (by omega)
      have thd3 := nI_teq hd3 (by omega)
      exfalso
      try simp only [le_tI, lt_tI, tI_0, tI_1, tc_4, tc_5, tc_7, tc_8, tc_9, tc_23, tc_24, tc_33, tc_99, tc_126, kI] at hc
      try simp only [le_tI, lt_tI, tI_0, tI_1, tc_4, tc_5, tc_7, tc_8, tc_9, tc_23, tc_24, tc_33, tc_99, tc_126, kI] at hd1
      try simp only [le_tI, lt_tI, tI_0, tI_1, tc_4, tc_5, tc_7, tc_8, tc_9, tc_23, tc_24, tc_33, tc_99, tc_126, kI] at hd4
      try simp only [le_tI, lt_tI, tI_0, tI_1, tc_4, tc_5, tc_7, tc_8, tc_9, tc_23, tc_24, tc_33, tc_99, tc_126, kI] at hd5
      omega
def kL_law4 : List (Nat × (Instr × Nat)) := [(404, (.aload_n 1, 1)), (405, (.aload_n 0, 1)), (406, (.iload 4, 2)), (408, (.iconst 1, 1)), (409, (.iadd, 1)), (410, (.iaload, 1)), (411, (.aload_n 0, 1)), (412, (.iload 4, 2)), (414, (.iconst 2, 1)), (415, (.iadd, 1)), (416, (.iaload, 1)), (417, (.aload_n 3, 1)), (418, (.invokestatic 97, 3)), (421, (.istore 5, 2)), (423, (.aload_n 2, 1)), (424, (.aload_n 0, 1)), (425, (.iload 4, 2)), (427, (.iconst 1, 1)), (428, (.iadd, 1)), (429, (.iaload, 1)), (430, (.aload_n 0, 1)), (431, (.iload 4, 2)), (433, (.iconst 2, 1)), (434, (.iadd, 1)), (435, (.iaload, 1)), (436, (.invokevirtual 99, 3)), (439, (.istore 6, 2)), (441, (.aload_n 2, 1)), (442, (.invokevirtual 83, 3)), (445, (.iload 5, 2)), (447, (.if_icmp .eq 5, 3)), (450, (.iconst 0, 1)), (451, (.ireturn, 1)), (452, (.iload 5, 2)), (454, (.ifCond .ne 15, 3)), (457, (.aload_n 3, 1)), (458, (.iconst 0, 1)), (459, (.laload, 1)), (460, (.iload 6, 2)), (462, (.i2l, 1)), (463, (.lcmp, 1)), (464, (.ifCond .eq 5, 3)), (467, (.iconst 0, 1)), (468, (.ireturn, 1)), (469, (.goto 921, 3))]
set_option maxRecDepth 100000 in
theorem okL_law4 : ∀ a ∈ kL_law4, decode code a.1 = .ok a.2 := by decide +kernel
set_option maxHeartbeats 4000000 in
set_option maxRecDepth 100000 in
theorem law_c4 (hfl : l.stackTraces = false) (hL : xL G < 2 ^ 31) (C : XCx G l "RopeThreadsLaw" code 9 p' s' m' g' t' c') (hk8 : k + 8 ≤ 601024) (hks : ks + 48 ≤ 7293034) (hj : 4 * j + 4 ≤ xL G) (h219 : hb 219 = outC fo) (hI : LI f o kp P len pa F) (kk : ∀ (hb : XH) (f : Nat → Int32) (o kp : Nat) (P : Nat → Nat → Int32) (tx : Nat → Int32) (len : Nat) (p : PT) (ρ pa tr td F : Nat → Int32) (fo : Nat → Int64), hb 219 = outC fo → LI f o kp P len pa F → XV G 9 p' l e' room_1 s' m' g' b' t' c' Q 1390 [some (.ref 0), some (.ref 4), some (.ref 213), some (.ref 219), some (.int (nI (4 * j))), none, none, none, none] [] 216 (setM (setCW hb f o kp P tx len p ρ) f pa tr tx td F) (k + 8) (ks + 48)) : XV G 9 p' l e' room_1 s' m' g' b' t' c' Q 404 [some (.ref 0), some (.ref 4), some (.ref 213), some (.ref 219), some (.int (nI (4 * j))), none, none, none, none] [] 216 (setM (setCW hb f o kp P tx len p ρ) f pa tr tx td F) (k) (ks) := by
  obtain ⟨⟨k9, m9, tt9, hO⟩, ho, hk6, hPR, hl6, hF2, hF5⟩ := hI
  have hm := hO.1
  have hk := hO.2.1
  have hl := hO.live
  obtain ⟨z, hz, z1, z2⟩ := hO.2.2.2.2.2.2.1.1
  have kI : (nI k9).toInt = (k9 : Int) := nI_tI (by omega)
  refine XV.cast lw_0 ?_
  refine XV.run C okL_law4 5 (q := (410, ([some (.ref (0)), some (.ref (4)), some (.ref (213)), some (.ref (219)), some (.int (nI (4 * j))), none, none, none, none], [.int ((nI (4 * j)) + 1), .ref (0), .ref (4)]))) rfl ?_
  refine XV.sald C (a := (4 * j + 1)) (xlk_ok okL_law4 rfl) (nI_add _ 1) (by omega) hL ?_
  refine XV.run C okL_law4 4 (q := (416, ([some (.ref (0)), some (.ref (4)), some (.ref (213)), some (.ref (219)), some (.int (nI (4 * j))), none, none, none, none], [.int ((nI (4 * j)) + 2), .ref (0), .int (xxs G (4 * j + 1)), .ref (4)]))) rfl ?_
  refine XV.sald C (a := (4 * j + 2)) (xlk_ok okL_law4 rfl) (nI_add _ 2) (by omega) hL ?_
  refine XV.run C okL_law4 1 (q := (418, ([some (.ref (0)), some (.ref (4)), some (.ref (213)), some (.ref (219)), some (.int (nI (4 * j))), none, none, none, none], [.ref (219), .int (xxs G (4 * j + 2)), .int (xxs G (4 * j + 1)), .ref (4)]))) rfl ?_
  refine XV.callSX C (As := [.ref (4), .int (xxs G (4 * j + 1)), .int (xxs G (4 * j + 2)), .ref (219)]) (rest := []) (ct_L_set hfl (by decide) ho hk6 (xxs G (4 * j + 1)) (xxs G (4 * j + 2)) (by decide) ((blk_out (Or.inr (by decide))).trans h219)) (xlk_ok okL_law4 rfl) rfl wM_L_97 wS_L_set wN_L wB_L_set hy_L_set (fun q => q.elim) ⟨Nat.le_of_ble_eq_true rfl, Nat.le_of_ble_eq_true rfl⟩ ⟨room_c (by omega), room_s (by omega)⟩ (Nat.le_of_ble_eq_true rfl) (fun r n h hp => ?_) (fun _ _ _ q => q.elim)
  obtain ⟨rfl, hp⟩ := hp
  rcases hp with ⟨i1, hc, rfl, rfl⟩ | ⟨hc, rfl, rfl⟩ | ⟨hc, rfl, rfl⟩
  ·
    refine XV.cast lw_1 ?_
    refine XV.run C okL_law4 6 (q := (429, ([some (.ref (0)), some (.ref (4)), some (.ref (213)), some (.ref (219)), some (.int (nI (4 * j))), some (.int (0)), none, none, none], [.int ((nI (4 * j)) + 1), .ref (0), .ref (213)]))) rfl ?_
    refine XV.sald C (a := (4 * j + 1)) (xlk_ok okL_law4 rfl) (nI_add _ 1) (by omega) hL ?_
    refine XV.run C okL_law4 4 (q := (435, ([some (.ref (0)), some (.ref (4)), some (.ref (213)), some (.ref (219)), some (.int (nI (4 * j))), some (.int (0)), none, none, none], [.int ((nI (4 * j)) + 2), .ref (0), .int (xxs G (4 * j + 1)), .ref (213)]))) rfl ?_
    refine XV.sald C (a := (4 * j + 2)) (xlk_ok okL_law4 rfl) (nI_add _ 2) (by omega) hL ?_
    refine XV.callV C (As := [.int (xxs G (4 * j + 1)), .int (xxs G (4 * j + 2))]) (rest := []) (ci := 5) (ct_M_set hfl (by decide) hF2 hk6 (xxs G (4 * j + 1)) (xxs G (4 * j + 2))) (xlk_ok okL_law4 rfl) rfl (by decide) (by decide) rfl (mw_o) rfl wM_L_99 wI_M_set wV_M_set wN_M wB_M_set hy_M_set (fun q => q.elim) ⟨Nat.le_of_ble_eq_true rfl, Nat.le_of_ble_eq_true rfl⟩ ⟨room_c (by omega), room_s (by omega)⟩ (Nat.le_of_ble_eq_true rfl) (fun r n h hp => ?_) (fun _ _ _ q => q.elim)
    obtain ⟨rfl, ⟨v, rfl⟩, hp⟩ := hp
    rcases hp with ⟨hd, rfl⟩ | ⟨hd, rfl⟩ | ⟨i2, hd, hr, rfl⟩
    ·
      obtain ⟨hc0, hc1, hc2⟩ := hc
      have thc0 := nI_teq hc0 (by omega)
      exfalso
      try simp only [le_tI, lt_tI, tI_0, tI_1, tc_4, tc_5, tc_7, tc_8, tc_9, tc_23, tc_24, tc_33, tc_99, tc_126, kI] at hc1
      try simp only [le_tI, lt_tI, tI_0, tI_1, tc_4, tc_5, tc_7, tc_8, tc_9, tc_23, tc_24, tc_33, tc_99, tc_126, kI] at hc2
      try simp only [le_tI, lt_tI, tI_0, tI_1, tc_4, tc_5, tc_7, tc_8, tc_9, tc_23, tc_24, tc_33, tc_99, tc_126, kI] at hd
      omega
    ·
      obtain ⟨hc0, hc1, hc2⟩ := hc
      obtain ⟨i2, hd0, hd1, hd2⟩ := hd
      have thc0 := nI_teq hc0 (by omega)
      have thd0 := nI_teq hd0 (by omega)
      exfalso
      obtain rfl : i1 = i2 := by omega
      try simp only [le_tI, lt_tI, tI_0, tI_1, tc_4, tc_5, tc_7, tc_8, tc_9, tc_23, tc_24, tc_33, tc_99, tc_126, kI] at hc1
      try simp only [le_tI, lt_tI, tI_0, tI_1, tc_4, tc_5, tc_7, tc_8, tc_9, tc_23, tc_24, tc_33, tc_99, tc_126, kI] at hc2
      try simp only [le_tI, lt_tI, tI_0, tI_1, tc_4, tc_5, tc_7, tc_8, tc_9, tc_23, tc_24, tc_33, tc_99, tc_126, kI] at hd1
      try simp only [le_tI, lt_tI, tI_0, tI_1, tc_4, tc_5, tc_7, tc_8, tc_9, tc_23, tc_24, tc_33, tc_99, tc_126, kI] at hd2
      omega
    ·
      obtain ⟨hc0, hc1, hc2⟩ := hc
      obtain ⟨hd0, hd1, hd2⟩ := hd
      have thc0 := nI_teq hc0 (by omega)
      have thd0 := nI_teq hd0 (by omega)
      obtain rfl : i1 = i2 := by omega
      cases hr
      -- both answer
      refine XV.run C okL_law4 2 (q := (442, ([some (.ref (0)), some (.ref (4)), some (.ref (213)), some (.ref (219)), some (.int (nI (4 * j))), some (.int (0)), some (.int ((f (2 + i1)))), none, none], [.ref (213)]))) rfl ?_
      refine XV.callV C (As := []) (rest := []) (ci := 5) (ct_M_thrown hfl (by decide)) (xlk_ok okL_law4 rfl) rfl (by decide) (by decide) rfl (mw_o) rfl wM_L_83 wI_M_thrown wV_M_thrown wN_M wB_M_thrown hy_M_thrown (fun q => q.elim) ⟨Nat.le_of_ble_eq_true rfl, Nat.le_of_ble_eq_true rfl⟩ ⟨room_c (by omega), room_s (by omega)⟩ (Nat.le_of_ble_eq_true rfl) (fun r n h hp => ?_) (fun _ _ _ q => q.elim)
      obtain ⟨rfl, rfl, rfl⟩ := hp
      refine XV.run C okL_law4 1 (q := (447, ([some (.ref (0)), some (.ref (4)), some (.ref (213)), some (.ref (219)), some (.int (nI (4 * j))), some (.int (0)), some (.int ((f (2 + i1)))), none, none], [.int (0), .int ((upd (upd F 6 0) 2 (nI (kK kp))) 6)]))) rfl ?_
      refine XV.icmp_eq C (tgt := 452) (xlk_ok okL_law4 rfl) rfl (fun _ => ?_) (fun hc => absurd ((upd_ne (by decide)).trans upd_eq) hc)
      refine XV.run C okL_law4 1 (q := (454, ([some (.ref (0)), some (.ref (4)), some (.ref (213)), some (.ref (219)), some (.int (nI (4 * j))), some (.int (0)), some (.int ((f (2 + i1)))), none, none], [.int (0)]))) rfl ?_
      refine XV.if_ne C (tgt := 469) (xlk_ok okL_law4 rfl) rfl (fun hc => absurd (rfl) hc) (fun _ => ?_)
      refine XV.run C okL_law4 2 (q := (459, ([some (.ref (0)), some (.ref (4)), some (.ref (213)), some (.ref (219)), some (.int (nI (4 * j))), some (.int (0)), some (.int ((f (2 + i1)))), none, none], [.int (0), .ref (219)]))) rfl ?_
      refine XV.lald C (N := 1) (a := 0) (f := vp_updL fo 0 (f (2 + i1)).toInt64) (xlk_ok okL_law4 rfl) (by decide) (by decide) (lw_219 (xup_at hb 219 _)) rfl (by decide) (by decide) ?_
      rw [upL_0]
      refine XV.run C okL_law4 3 (q := (464, ([some (.ref (0)), some (.ref (4)), some (.ref (213)), some (.ref (219)), some (.int (nI (4 * j))), some (.int (0)), some (.int ((f (2 + i1)))), none, none], [.int (lg_cmp ((f (2 + i1)).toInt64) (((f (2 + i1))).toInt64))]))) rfl ?_
      refine XV.if_eq C (tgt := 469) (xlk_ok okL_law4 rfl) rfl (fun _ => ?_) (fun hc => absurd (lcmp_eq (congrArg Int32.toInt64 (rfl))) hc)
      refine XV.run C okL_law4 1 (q := (1390, ([some (.ref (0)), some (.ref (4)), some (.ref (213)), some (.ref (219)), some (.int (nI (4 * j))), some (.int (0)), some (.int ((f (2 + i1)))), none, none], []))) rfl ?_
      exact XV.widen (by omega) (by omega) (XV.drop (kk _ _ _ _ _ _ _ _ _ _ _ _ _ _ (xup_at hb 219 _) ⟨⟨_, _, _, OKf_set hO hc1 hc2⟩, kO_lt ho, kK_le hk6, PR_save ho hk6 hPR ⟨_, _, _, hO⟩, hl6, upd_eq, (upd_ne (by decide)).trans ((upd_ne (by decide)).trans hF5)⟩) rfl (by simp [xle]))
  ·
    refine XV.cast lw_0.symm ?_
    refine XV.run C okL_law4 6 (q := (429, ([some (.ref (0)), some (.ref (4)), some (.ref (213)), some (.ref (219)), some (.int (nI (4 * j))), some (.int (1)), none, none, none], [.int ((nI (4 * j)) + 1), .ref (0), .ref (213)]))) rfl ?_
    refine XV.sald C (a := (4 * j + 1)) (xlk_ok okL_law4 rfl) (nI_add _ 1) (by omega) hL ?_
    refine XV.run C okL_law4 4 (q := (435, ([some (.ref (0)), some (.ref (4)), some (.ref (213)), some (.ref (219)), some (.int (nI (4 * j))), some (.int (1)), none, none, none], [.int ((nI (4 * j)) + 2), .ref (0), .int (xxs G (4 * j + 1)), .ref (213)]))) rfl ?_
    refine XV.sald C (a := (4 * j + 2)) (xlk_ok okL_law4 rfl) (nI_add _ 2) (by omega) hL ?_
    refine XV.callV C (As := [.int (xxs G (4 * j + 1)), .int (xxs G (4 * j + 2))]) (rest := []) (ci := 5) (ct_M_set hfl (by decide) hF2 hk6 (xxs G (4 * j + 1)) (xxs G (4 * j + 2))) (xlk_ok okL_law4 rfl) rfl (by decide) (by decide) rfl (mw_o) rfl wM_L_99 wI_M_set wV_M_set wN_M wB_M_set hy_M_set (fun q => q.elim) ⟨Nat.le_of_ble_eq_true rfl, Nat.le_of_ble_eq_true rfl⟩ ⟨room_c (by omega), room_s (by omega)⟩ (Nat.le_of_ble_eq_true rfl) (fun r n h hp => ?_) (fun _ _ _ q => q.elim)
    obtain ⟨rfl, ⟨v, rfl⟩, hp⟩ := hp
    rcases hp with ⟨hd, rfl⟩ | ⟨hd, rfl⟩ | ⟨i2, hd, hr, rfl⟩
    ·
      refine XV.run C okL_law4 2 (q := (442, ([some (.ref (0)), some (.ref (4)), some (.ref (213)), some (.ref (219)), some (.int (nI (4 * j))), some (.int (1)), some (.int (v)), none, none], [.ref (213)]))) rfl ?_
      refine XV.callV C (As := []) (rest := []) (ci := 5) (ct_M_thrown hfl (by decide)) (xlk_ok okL_law4 rfl) rfl (by decide) (by decide) rfl (mw_o) rfl wM_L_83 wI_M_thrown wV_M_thrown wN_M wB_M_thrown hy_M_thrown (fun q => q.elim) ⟨Nat.le_of_ble_eq_true rfl, Nat.le_of_ble_eq_true rfl⟩ ⟨room_c (by omega), room_s (by omega)⟩ (Nat.le_of_ble_eq_true rfl) (fun r n h hp => ?_) (fun _ _ _ q => q.elim)
      obtain ⟨rfl, rfl, rfl⟩ := hp
      refine XV.run C okL_law4 1 (q := (447, ([some (.ref (0)), some (.ref (4)), some (.ref (213)), some (.ref (219)), some (.int (nI (4 * j))), some (.int (1)), some (.int (v)), none, none], [.int (1), .int ((upd (upd F 6 0) 6 1) 6)]))) rfl ?_
      refine XV.icmp_eq C (tgt := 452) (xlk_ok okL_law4 rfl) rfl (fun _ => ?_) (fun hc => absurd (upd_eq) hc)
      refine XV.run C okL_law4 1 (q := (454, ([some (.ref (0)), some (.ref (4)), some (.ref (213)), some (.ref (219)), some (.int (nI (4 * j))), some (.int (1)), some (.int (v)), none, none], [.int (1)]))) rfl ?_
      refine XV.if_ne C (tgt := 469) (xlk_ok okL_law4 rfl) rfl (fun _ => ?_) (fun hc => absurd hc (by decide))
      refine XV.run C okL_law4 1 (q := (1390, ([some (.ref (0)), some (.ref (4)), some (.ref (213)), some (.ref (219)), some (.int (nI (4 * j))), some (.int (1)), some (.int (v)), none, none], []))) rfl ?_
      exact XV.widen (by omega) (by omega) (XV.drop (kk _ _ _ _ _ _ _ _ _ _ _ _ _ _ h219 ⟨⟨_, _, _, hO⟩, ho, hk6, hPR, hl6, (upd_ne (by decide)).trans ((upd_ne (by decide)).trans hF2), (upd_ne (by decide)).trans ((upd_ne (by decide)).trans hF5)⟩) rfl (by simp [xle]))
    ·
      obtain ⟨i2, hd0, hd1, hd2⟩ := hd
      have thd0 := nI_teq hd0 (by omega)
      exfalso
      try simp only [le_tI, lt_tI, tI_0, tI_1, tc_4, tc_5, tc_7, tc_8, tc_9, tc_23, tc_24, tc_33, tc_99, tc_126, kI] at hc
      try simp only [le_tI, lt_tI, tI_0, tI_1, tc_4, tc_5, tc_7, tc_8, tc_9, tc_23, tc_24, tc_33, tc_99, tc_126, kI] at hd1
      try simp only [le_tI, lt_tI, tI_0, tI_1, tc_4, tc_5, tc_7, tc_8, tc_9, tc_23, tc_24, tc_33, tc_99, tc_126, kI] at hd2
      omega
    ·
      obtain ⟨hd0, hd1, hd2⟩ := hd
      have thd0 := nI_teq hd0 (by omega)
      exfalso
      try simp only [le_tI, lt_tI, tI_0, tI_1, tc_4, tc_5, tc_7, tc_8, tc_9, tc_23, tc_24, tc_33, tc_99, tc_126, kI] at hc
      try simp only [le_tI, lt_tI, tI_0, tI_1, tc_4, tc_5, tc_7, tc_8, tc_9, tc_23, tc_24, tc_33, tc_99, tc_126, kI] at hd1
      try simp only [le_tI, lt_tI, tI_0, tI_1, tc_4, tc_5, tc_7, tc_8, tc_9, tc_23, tc_24, tc_33, tc_99, tc_126, kI] at hd2
      omega
  ·
    refine XV.cast lw_0.symm ?_
    refine XV.run C okL_law4 6 (q := (429, ([some (.ref (0)), some (.ref (4)), some (.ref (213)), some (.ref (219)), some (.int (nI (4 * j))), some (.int (2)), none, none, none], [.int ((nI (4 * j)) + 1), .ref (0), .ref (213)]))) rfl ?_
    refine XV.sald C (a := (4 * j + 1)) (xlk_ok okL_law4 rfl) (nI_add _ 1) (by omega) hL ?_
    refine XV.run C okL_law4 4 (q := (435, ([some (.ref (0)), some (.ref (4)), some (.ref (213)), some (.ref (219)), some (.int (nI (4 * j))), some (.int (2)), none, none, none], [.int ((nI (4 * j)) + 2), .ref (0), .int (xxs G (4 * j + 1)), .ref (213)]))) rfl ?_
    refine XV.sald C (a := (4 * j + 2)) (xlk_ok okL_law4 rfl) (nI_add _ 2) (by omega) hL ?_
    refine XV.callV C (As := [.int (xxs G (4 * j + 1)), .int (xxs G (4 * j + 2))]) (rest := []) (ci := 5) (ct_M_set hfl (by decide) hF2 hk6 (xxs G (4 * j + 1)) (xxs G (4 * j + 2))) (xlk_ok okL_law4 rfl) rfl (by decide) (by decide) rfl (mw_o) rfl wM_L_99 wI_M_set wV_M_set wN_M wB_M_set hy_M_set (fun q => q.elim) ⟨Nat.le_of_ble_eq_true rfl, Nat.le_of_ble_eq_true rfl⟩ ⟨room_c (by omega), room_s (by omega)⟩ (Nat.le_of_ble_eq_true rfl) (fun r n h hp => ?_) (fun _ _ _ q => q.elim)
    obtain ⟨rfl, ⟨v, rfl⟩, hp⟩ := hp
    rcases hp with ⟨hd, rfl⟩ | ⟨hd, rfl⟩ | ⟨i2, hd, hr, rfl⟩
    ·
      obtain ⟨i1, hc0, hc1, hc2⟩ := hc
      have thc0 := nI_teq hc0 (by omega)
      exfalso
      try simp only [le_tI, lt_tI, tI_0, tI_1, tc_4, tc_5, tc_7, tc_8, tc_9, tc_23, tc_24, tc_33, tc_99, tc_126, kI] at hc1
      try simp only [le_tI, lt_tI, tI_0, tI_1, tc_4, tc_5, tc_7, tc_8, tc_9, tc_23, tc_24, tc_33, tc_99, tc_126, kI] at hc2
      try simp only [le_tI, lt_tI, tI_0, tI_1, tc_4, tc_5, tc_7, tc_8, tc_9, tc_23, tc_24, tc_33, tc_99, tc_126, kI] at hd
      omega
    ·
      obtain ⟨i1, hc0, hc1, hc2⟩ := hc
      obtain ⟨i2, hd0, hd1, hd2⟩ := hd
      refine XV.run C okL_law4 2 (q := (442, ([some (.ref (0)), some (.ref (4)), some (.ref (213)), some (.ref (219)), some (.int (nI (4 * j))), some (.int (2)), some (.int (v)), none, none], [.ref (213)]))) rfl ?_
      refine XV.callV C (As := []) (rest := []) (ci := 5) (ct_M_thrown hfl (by decide)) (xlk_ok okL_law4 rfl) rfl (by decide) (by decide) rfl (mw_o) rfl wM_L_83 wI_M_thrown wV_M_thrown wN_M wB_M_thrown hy_M_thrown (fun q => q.elim) ⟨Nat.le_of_ble_eq_true rfl, Nat.le_of_ble_eq_true rfl⟩ ⟨room_c (by omega), room_s (by omega)⟩ (Nat.le_of_ble_eq_true rfl) (fun r n h hp => ?_) (fun _ _ _ q => q.elim)
      obtain ⟨rfl, rfl, rfl⟩ := hp
      refine XV.run C okL_law4 1 (q := (447, ([some (.ref (0)), some (.ref (4)), some (.ref (213)), some (.ref (219)), some (.int (nI (4 * j))), some (.int (2)), some (.int (v)), none, none], [.int (2), .int ((upd (upd F 6 0) 6 2) 6)]))) rfl ?_
      refine XV.icmp_eq C (tgt := 452) (xlk_ok okL_law4 rfl) rfl (fun _ => ?_) (fun hc => absurd (upd_eq) hc)
      refine XV.run C okL_law4 1 (q := (454, ([some (.ref (0)), some (.ref (4)), some (.ref (213)), some (.ref (219)), some (.int (nI (4 * j))), some (.int (2)), some (.int (v)), none, none], [.int (2)]))) rfl ?_
      refine XV.if_ne C (tgt := 469) (xlk_ok okL_law4 rfl) rfl (fun _ => ?_) (fun hc => absurd hc (by decide))
      refine XV.run C okL_law4 1 (q := (1390, ([some (.ref (0)), some (.ref (4)), some (.ref (213)), some (.ref (219)), some (.int (nI (4 * j))), some (.int (2)), some (.int (v)), none, none], []))) rfl ?_
      exact XV.widen (by omega) (by omega) (XV.drop (kk _ _ _ _ _ _ _ _ _ _ _ _ _ _ h219 ⟨⟨_, _, _, hO⟩, ho, hk6, hPR, hl6, (upd_ne (by decide)).trans ((upd_ne (by decide)).trans hF2), (upd_ne (by decide)).trans ((upd_ne (by decide)).trans hF5)⟩) rfl (by simp [xle]))
    ·
      obtain ⟨i1, hc0, hc1, hc2⟩ := hc
      obtain ⟨hd0, hd1, hd2⟩ := hd
      have thc0 := nI_teq hc0 (by omega)
      have thd0 := nI_teq hd0 (by omega)
      exfalso
      obtain rfl : i1 = i2 := by omega
      try simp only [le_tI, lt_tI, tI_0, tI_1, tc_4, tc_5, tc_7, tc_8, tc_9, tc_23, tc_24, tc_33, tc_99, tc_126, kI] at hc1
      try simp only [le_tI, lt_tI, tI_0, tI_1, tc_4, tc_5, tc_7, tc_8, tc_9, tc_23, tc_24, tc_33, tc_99, tc_126, kI] at hc2
      try simp only [le_tI, lt_tI, tI_0, tI_1, tc_4, tc_5, tc_7, tc_8, tc_9, tc_23, tc_24, tc_33, tc_99, tc_126, kI] at hd1
      try simp only [le_tI, lt_tI, tI_0, tI_1, tc_4, tc_5, tc_7, tc_8, tc_9, tc_23, tc_24, tc_33, tc_99, tc_126, kI] at hd2
      omega
end LAWC
