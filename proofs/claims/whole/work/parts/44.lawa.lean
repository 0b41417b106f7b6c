/-! The law: hang -/
section LAWC
variable {l : Launch} {G : XG} {p' : Program} {e' : Env} {s' : State} {m' : MethodId} {g' : Array Value} {b' : List Frame} {t' : Method} {c' : Code} {Q : State → Prop} {k ks j : Nat} {hb : XH} {f : Nat → Int32} {o kp : Nat} {P : Nat → Nat → Int32} {tx : Nat → Int32} {len : Nat} {p : PT} {ρ pa tr td F : Nat → Int32} {fo : Nat → Int64}
def kL_law0 : List (Nat × (Instr × Nat)) := [(144, (.aload_n 1, 1)), (145, (.aload_n 0, 1)), (146, (.iload 4, 2)), (148, (.iconst 1, 1)), (149, (.iadd, 1)), (150, (.iaload, 1)), (151, (.aload_n 3, 1)), (152, (.invokestatic 77, 3)), (155, (.istore 5, 2)), (157, (.aload_n 2, 1)), (158, (.aload_n 0, 1)), (159, (.iload 4, 2)), (161, (.iconst 1, 1)), (162, (.iadd, 1)), (163, (.iaload, 1)), (164, (.invokevirtual 82, 3)), (167, (.istore 6, 2)), (169, (.aload_n 2, 1)), (170, (.invokevirtual 83, 3)), (173, (.iload 5, 2)), (175, (.if_icmp .eq 5, 3)), (178, (.iconst 0, 1)), (179, (.ireturn, 1)), (180, (.iload 5, 2)), (182, (.ifCond .ne 15, 3)), (185, (.aload_n 3, 1)), (186, (.iconst 0, 1)), (187, (.laload, 1)), (188, (.iload 6, 2)), (190, (.i2l, 1)), (191, (.lcmp, 1)), (192, (.ifCond .eq 5, 3)), (195, (.iconst 0, 1)), (196, (.ireturn, 1)), (197, (.goto 1193, 3))]
set_option maxRecDepth 100000 in
theorem okL_law0 : ∀ a ∈ kL_law0, decode code a.1 = .ok a.2 := by decide +kernel
set_option maxHeartbeats 4000000 in
set_option maxRecDepth 100000 in
theorem law_c0 (hfl : l.stackTraces = false) (hL : xL G < 2 ^ 31) (C : XCx G l "RopeThreadsLaw" code 9 p' s' m' g' t' c') (hk8 : k + 8 ≤ 601024) (hks : ks + 48 ≤ 7293034) (hj : 4 * j + 4 ≤ xL G) (h219 : hb 219 = outC fo) (hI : LI f o kp P len pa F) (kk : ∀ (hb : XH) (f : Nat → Int32) (o kp : Nat) (P : Nat → Nat → Int32) (tx : Nat → Int32) (len : Nat) (p : PT) (ρ pa tr td F : Nat → Int32) (fo : Nat → Int64), hb 219 = outC fo → LI f o kp P len pa F → XV G 9 p' l e' room_1 s' m' g' b' t' c' Q 1390 [some (.ref 0), some (.ref 4), some (.ref 213), some (.ref 219), some (.int (nI (4 * j))), none, none, none, none] [] 216 (setM (setCW hb f o kp P tx len p ρ) f pa tr tx td F) (k + 8) (ks + 48)) : XV G 9 p' l e' room_1 s' m' g' b' t' c' Q 144 [some (.ref 0), some (.ref 4), some (.ref 213), some (.ref 219), some (.int (nI (4 * j))), none, none, none, none] [] 216 (setM (setCW hb f o kp P tx len p ρ) f pa tr tx td F) (k) (ks) := by
  obtain ⟨⟨k9, m9, tt9, hO⟩, ho, hk6, hPR, hl6, hF2, hF5⟩ := hI
  have hm := hO.1
  have hk := hO.2.1
  have hl := hO.live
  obtain ⟨z, hz, z1, z2⟩ := hO.2.2.2.2.2.2.1.1
  have kI : (nI k9).toInt = (k9 : Int) := nI_tI (by omega)
  refine XV.cast lw_0 ?_
  refine XV.run C okL_law0 5 (q := (150, ([some (.ref (0)), some (.ref (4)), some (.ref (213)), some (.ref (219)), some (.int (nI (4 * j))), none, none, none, none], [.int ((nI (4 * j)) + 1), .ref (0), .ref (4)]))) rfl ?_
  refine XV.sald C (a := (4 * j + 1)) (xlk_ok okL_law0 rfl) (nI_add _ 1) (by omega) hL ?_
  refine XV.run C okL_law0 1 (q := (152, ([some (.ref (0)), some (.ref (4)), some (.ref (213)), some (.ref (219)), some (.int (nI (4 * j))), none, none, none, none], [.ref (219), .int (xxs G (4 * j + 1)), .ref (4)]))) rfl ?_
  refine XV.callSX C (As := [.ref (4), .int (xxs G (4 * j + 1)), .ref (219)]) (rest := []) (ct_L_hang hfl (by decide) hm hk hl ho hk6 (xxs G (4 * j + 1)) (by decide) ((blk_out (Or.inr (by decide))).trans h219)) (xlk_ok okL_law0 rfl) rfl wM_L_77 wS_L_hang wN_L wB_L_hang hy_L_hang (fun q => q.elim) ⟨Nat.le_of_ble_eq_true rfl, Nat.le_of_ble_eq_true rfl⟩ ⟨room_c (by omega), room_s (by omega)⟩ (Nat.le_of_ble_eq_true rfl) (fun r n h hp => ?_) (fun _ _ _ q => q.elim)
  obtain ⟨rfl, hp⟩ := hp
  rcases hp with ⟨hc, rfl, rfl⟩ | ⟨hc, rfl, rfl⟩ | ⟨hc, rfl, rfl⟩
  ·
    refine XV.cast lw_1 ?_
    refine XV.run C okL_law0 6 (q := (163, ([some (.ref (0)), some (.ref (4)), some (.ref (213)), some (.ref (219)), some (.int (nI (4 * j))), some (.int (0)), none, none, none], [.int ((nI (4 * j)) + 1), .ref (0), .ref (213)]))) rfl ?_
    refine XV.sald C (a := (4 * j + 1)) (xlk_ok okL_law0 rfl) (nI_add _ 1) (by omega) hL ?_
    refine XV.callV C (As := [.int (xxs G (4 * j + 1))]) (rest := []) (ci := 5) (ct_M_hang hfl (by decide) hm hk hF2 hk6 (xxs G (4 * j + 1))) (xlk_ok okL_law0 rfl) rfl (by decide) (by decide) rfl (mw_o) rfl wM_L_82 wI_M_hang wV_M_hang wN_M wB_M_hang hy_M_hang (fun q => q.elim) ⟨Nat.le_of_ble_eq_true rfl, Nat.le_of_ble_eq_true rfl⟩ ⟨room_c (by omega), room_s (by omega)⟩ (Nat.le_of_ble_eq_true rfl) (fun r n h hp => ?_) (fun _ _ _ q => q.elim)
    obtain ⟨rfl, ⟨v, rfl⟩, hp⟩ := hp
    rcases hp with ⟨hd, rfl⟩ | ⟨hd, rfl⟩ | ⟨hd, hr, rfl⟩
    ·
      obtain ⟨hc0, hc1⟩ := hc
      exfalso
      try simp only [le_tI, lt_tI, tI_0, tI_1, tc_4, tc_5, tc_7, tc_8, tc_9, tc_23, tc_24, tc_33, tc_99, tc_126, kI] at hc0
      try simp only [le_tI, lt_tI, tI_0, tI_1, tc_4, tc_5, tc_7, tc_8, tc_9, tc_23, tc_24, tc_33, tc_99, tc_126, kI] at hc1
      try simp only [le_tI, lt_tI, tI_0, tI_1, tc_4, tc_5, tc_7, tc_8, tc_9, tc_23, tc_24, tc_33, tc_99, tc_126, kI] at hd
      omega
    ·
      obtain ⟨hc0, hc1⟩ := hc
      exfalso
      try simp only [le_tI, lt_tI, tI_0, tI_1, tc_4, tc_5, tc_7, tc_8, tc_9, tc_23, tc_24, tc_33, tc_99, tc_126, kI] at hc0
      try simp only [le_tI, lt_tI, tI_0, tI_1, tc_4, tc_5, tc_7, tc_8, tc_9, tc_23, tc_24, tc_33, tc_99, tc_126, kI] at hc1
      try simp only [le_tI, lt_tI, tI_0, tI_1, tc_4, tc_5, tc_7, tc_8, tc_9, tc_23, tc_24, tc_33, tc_99, tc_126, kI] at hd
      omega
    ·
      obtain ⟨hc0, hc1⟩ := hc
      obtain ⟨hd0, hd1⟩ := hd
      cases hr
      -- both answer
      refine XV.run C okL_law0 2 (q := (170, ([some (.ref (0)), some (.ref (4)), some (.ref (213)), some (.ref (219)), some (.int (nI (4 * j))), some (.int (0)), some (.int ((nI k9))), none, none], [.ref (213)]))) rfl ?_
      refine XV.callV C (As := []) (rest := []) (ci := 5) (ct_M_thrown hfl (by decide)) (xlk_ok okL_law0 rfl) rfl (by decide) (by decide) rfl (mw_o) rfl wM_L_83 wI_M_thrown wV_M_thrown wN_M wB_M_thrown hy_M_thrown (fun q => q.elim) ⟨Nat.le_of_ble_eq_true rfl, Nat.le_of_ble_eq_true rfl⟩ ⟨room_c (by omega), room_s (by omega)⟩ (Nat.le_of_ble_eq_true rfl) (fun r n h hp => ?_) (fun _ _ _ q => q.elim)
      obtain ⟨rfl, rfl, rfl⟩ := hp
      refine XV.run C okL_law0 1 (q := (175, ([some (.ref (0)), some (.ref (4)), some (.ref (213)), some (.ref (219)), some (.int (nI (4 * j))), some (.int (0)), some (.int ((nI k9))), none, none], [.int (0), .int ((upd (upd F 6 0) 2 (nI (kK kp))) 6)]))) rfl ?_
      refine XV.icmp_eq C (tgt := 180) (xlk_ok okL_law0 rfl) rfl (fun _ => ?_) (fun hc => absurd ((upd_ne (by decide)).trans upd_eq) hc)
      refine XV.run C okL_law0 1 (q := (182, ([some (.ref (0)), some (.ref (4)), some (.ref (213)), some (.ref (219)), some (.int (nI (4 * j))), some (.int (0)), some (.int ((nI k9))), none, none], [.int (0)]))) rfl ?_
      refine XV.if_ne C (tgt := 197) (xlk_ok okL_law0 rfl) rfl (fun hc => absurd (rfl) hc) (fun _ => ?_)
      refine XV.run C okL_law0 2 (q := (187, ([some (.ref (0)), some (.ref (4)), some (.ref (213)), some (.ref (219)), some (.int (nI (4 * j))), some (.int (0)), some (.int ((nI k9))), none, none], [.int (0), .ref (219)]))) rfl ?_
      refine XV.lald C (N := 1) (a := 0) (f := vp_updL fo 0 (nI k9).toInt64) (xlk_ok okL_law0 rfl) (by decide) (by decide) (lw_219 (xup_at hb 219 _)) rfl (by decide) (by decide) ?_
      rw [upL_0]
      refine XV.run C okL_law0 3 (q := (192, ([some (.ref (0)), some (.ref (4)), some (.ref (213)), some (.ref (219)), some (.int (nI (4 * j))), some (.int (0)), some (.int ((nI k9))), none, none], [.int (lg_cmp ((nI k9).toInt64) (((nI k9)).toInt64))]))) rfl ?_
      refine XV.if_eq C (tgt := 197) (xlk_ok okL_law0 rfl) rfl (fun _ => ?_) (fun hc => absurd (lcmp_eq (congrArg Int32.toInt64 (rfl))) hc)
      refine XV.run C okL_law0 1 (q := (1390, ([some (.ref (0)), some (.ref (4)), some (.ref (213)), some (.ref (219)), some (.int (nI (4 * j))), some (.int (0)), some (.int ((nI k9))), none, none], []))) rfl ?_
      refine XV.cast (mw_ge (putRow_updlo (by decide)).symm) ?_
      exact XV.widen (by omega) (by omega) (XV.drop (kk _ _ _ _ _ _ _ _ _ _ _ _ _ _ (xup_at hb 219 _) ⟨⟨_, _, _, OKf_hang hO hc0 hc1⟩, kO_lt ho, kK_le hk6, PR_save ho hk6 hPR ⟨_, _, _, hO⟩, hl6, upd_eq, (upd_ne (by decide)).trans ((upd_ne (by decide)).trans hF5)⟩) rfl (by simp [xle]))
  ·
    refine XV.cast lw_0.symm ?_
    refine XV.run C okL_law0 6 (q := (163, ([some (.ref (0)), some (.ref (4)), some (.ref (213)), some (.ref (219)), some (.int (nI (4 * j))), some (.int (1)), none, none, none], [.int ((nI (4 * j)) + 1), .ref (0), .ref (213)]))) rfl ?_
    refine XV.sald C (a := (4 * j + 1)) (xlk_ok okL_law0 rfl) (nI_add _ 1) (by omega) hL ?_
    refine XV.callV C (As := [.int (xxs G (4 * j + 1))]) (rest := []) (ci := 5) (ct_M_hang hfl (by decide) hm hk hF2 hk6 (xxs G (4 * j + 1))) (xlk_ok okL_law0 rfl) rfl (by decide) (by decide) rfl (mw_o) rfl wM_L_82 wI_M_hang wV_M_hang wN_M wB_M_hang hy_M_hang (fun q => q.elim) ⟨Nat.le_of_ble_eq_true rfl, Nat.le_of_ble_eq_true rfl⟩ ⟨room_c (by omega), room_s (by omega)⟩ (Nat.le_of_ble_eq_true rfl) (fun r n h hp => ?_) (fun _ _ _ q => q.elim)
    obtain ⟨rfl, ⟨v, rfl⟩, hp⟩ := hp
    rcases hp with ⟨hd, rfl⟩ | ⟨hd, rfl⟩ | ⟨hd, hr, rfl⟩
    ·
      refine XV.run C okL_law0 2 (q := (170, ([some (.ref (0)), some (.ref (4)), some (.ref (213)), some (.ref (219)), some (.int (nI (4 * j))), some (.int (1)), some (.int (v)), none, none], [.ref (213)]))) rfl ?_
      refine XV.callV C (As := []) (rest := []) (ci := 5) (ct_M_thrown hfl (by decide)) (xlk_ok okL_law0 rfl) rfl (by decide) (by decide) rfl (mw_o) rfl wM_L_83 wI_M_thrown wV_M_thrown wN_M wB_M_thrown hy_M_thrown (fun q => q.elim) ⟨Nat.le_of_ble_eq_true rfl, Nat.le_of_ble_eq_true rfl⟩ ⟨room_c (by omega), room_s (by omega)⟩ (Nat.le_of_ble_eq_true rfl) (fun r n h hp => ?_) (fun _ _ _ q => q.elim)
      obtain ⟨rfl, rfl, rfl⟩ := hp
      refine XV.run C okL_law0 1 (q := (175, ([some (.ref (0)), some (.ref (4)), some (.ref (213)), some (.ref (219)), some (.int (nI (4 * j))), some (.int (1)), some (.int (v)), none, none], [.int (1), .int ((upd (upd F 6 0) 6 1) 6)]))) rfl ?_
      refine XV.icmp_eq C (tgt := 180) (xlk_ok okL_law0 rfl) rfl (fun _ => ?_) (fun hc => absurd (upd_eq) hc)
      refine XV.run C okL_law0 1 (q := (182, ([some (.ref (0)), some (.ref (4)), some (.ref (213)), some (.ref (219)), some (.int (nI (4 * j))), some (.int (1)), some (.int (v)), none, none], [.int (1)]))) rfl ?_
      refine XV.if_ne C (tgt := 197) (xlk_ok okL_law0 rfl) rfl (fun _ => ?_) (fun hc => absurd hc (by decide))
      refine XV.run C okL_law0 1 (q := (1390, ([some (.ref (0)), some (.ref (4)), some (.ref (213)), some (.ref (219)), some (.int (nI (4 * j))), some (.int (1)), some (.int (v)), none, none], []))) rfl ?_
      exact XV.widen (by omega) (by omega) (XV.drop (kk _ _ _ _ _ _ _ _ _ _ _ _ _ _ h219 ⟨⟨_, _, _, hO⟩, ho, hk6, hPR, hl6, (upd_ne (by decide)).trans ((upd_ne (by decide)).trans hF2), (upd_ne (by decide)).trans ((upd_ne (by decide)).trans hF5)⟩) rfl (by simp [xle]))
    ·
      exfalso
      try simp only [le_tI, lt_tI, tI_0, tI_1, tc_4, tc_5, tc_7, tc_8, tc_9, tc_23, tc_24, tc_33, tc_99, tc_126, kI] at hc
      try simp only [le_tI, lt_tI, tI_0, tI_1, tc_4, tc_5, tc_7, tc_8, tc_9, tc_23, tc_24, tc_33, tc_99, tc_126, kI] at hd
      omega
    ·
      obtain ⟨hd0, hd1⟩ := hd
      exfalso
      try simp only [le_tI, lt_tI, tI_0, tI_1, tc_4, tc_5, tc_7, tc_8, tc_9, tc_23, tc_24, tc_33, tc_99, tc_126, kI] at hc
      try simp only [le_tI, lt_tI, tI_0, tI_1, tc_4, tc_5, tc_7, tc_8, tc_9, tc_23, tc_24, tc_33, tc_99, tc_126, kI] at hd0
      try simp only [le_tI, lt_tI, tI_0, tI_1, tc_4, tc_5, tc_7, tc_8, tc_9, tc_23, tc_24, tc_33, tc_99, tc_126, kI] at hd1
      omega
  ·
    refine XV.cast lw_0.symm ?_
    refine XV.run C okL_law0 6 (q := (163, ([some (.ref (0)), some (.ref (4)), some (.ref (213)), some (.ref (219)), some (.int (nI (4 * j))), some (.int (2)), none, none, none], [.int ((nI (4 * j)) + 1), .ref (0), .ref (213)]))) rfl ?_
    refine XV.sald C (a := (4 * j + 1)) (xlk_ok okL_law0 rfl) (nI_add _ 1) (by omega) hL ?_
    refine XV.callV C (As := [.int (xxs G (4 * j + 1))]) (rest := []) (ci := 5) (ct_M_hang hfl (by decide) hm hk hF2 hk6 (xxs G (4 * j + 1))) (xlk_ok okL_law0 rfl) rfl (by decide) (by decide) rfl (mw_o) rfl wM_L_82 wI_M_hang wV_M_hang wN_M wB_M_hang hy_M_hang (fun q => q.elim) ⟨Nat.le_of_ble_eq_true rfl, Nat.le_of_ble_eq_true rfl⟩ ⟨room_c (by omega), room_s (by omega)⟩ (Nat.le_of_ble_eq_true rfl) (fun r n h hp => ?_) (fun _ _ _ q => q.elim)
    obtain ⟨rfl, ⟨v, rfl⟩, hp⟩ := hp
    rcases hp with ⟨hd, rfl⟩ | ⟨hd, rfl⟩ | ⟨hd, hr, rfl⟩
    ·
      exfalso
      try simp only [le_tI, lt_tI, tI_0, tI_1, tc_4, tc_5, tc_7, tc_8, tc_9, tc_23, tc_24, tc_33, tc_99, tc_126, kI] at hc
      try simp only [le_tI, lt_tI, tI_0, tI_1, tc_4, tc_5, tc_7, tc_8, tc_9, tc_23, tc_24, tc_33, tc_99, tc_126, kI] at hd
      omega
    ·
      refine XV.run C okL_law0 2 (q := (170, ([some (.ref (0)), some (.ref (4)), some (.ref (213)), some (.ref (219)), some (.int (nI (4 * j))), some (.int (2)), some (.int (v)), none, none], [.ref (213)]))) rfl ?_
      refine XV.callV C (As := []) (rest := []) (ci := 5) (ct_M_thrown hfl (by decide)) (xlk_ok okL_law0 rfl) rfl (by decide) (by decide) rfl (mw_o) rfl wM_L_83 wI_M_thrown wV_M_thrown wN_M wB_M_thrown hy_M_thrown (fun q => q.elim) ⟨Nat.le_of_ble_eq_true rfl, Nat.le_of_ble_eq_true rfl⟩ ⟨room_c (by omega), room_s (by omega)⟩ (Nat.le_of_ble_eq_true rfl) (fun r n h hp => ?_) (fun _ _ _ q => q.elim)
      obtain ⟨rfl, rfl, rfl⟩ := hp
      refine XV.run C okL_law0 1 (q := (175, ([some (.ref (0)), some (.ref (4)), some (.ref (213)), some (.ref (219)), some (.int (nI (4 * j))), some (.int (2)), some (.int (v)), none, none], [.int (2), .int ((upd (upd F 6 0) 6 2) 6)]))) rfl ?_
      refine XV.icmp_eq C (tgt := 180) (xlk_ok okL_law0 rfl) rfl (fun _ => ?_) (fun hc => absurd (upd_eq) hc)
      refine XV.run C okL_law0 1 (q := (182, ([some (.ref (0)), some (.ref (4)), some (.ref (213)), some (.ref (219)), some (.int (nI (4 * j))), some (.int (2)), some (.int (v)), none, none], [.int (2)]))) rfl ?_
      refine XV.if_ne C (tgt := 197) (xlk_ok okL_law0 rfl) rfl (fun _ => ?_) (fun hc => absurd hc (by decide))
      refine XV.run C okL_law0 1 (q := (1390, ([some (.ref (0)), some (.ref (4)), some (.ref (213)), some (.ref (219)), some (.int (nI (4 * j))), some (.int (2)), some (.int (v)), none, none], []))) rfl ?_
      exact XV.widen (by omega) (by omega) (XV.drop (kk _ _ _ _ _ _ _ _ _ _ _ _ _ _ h219 ⟨⟨_, _, _, hO⟩, ho, hk6, hPR, hl6, (upd_ne (by decide)).trans ((upd_ne (by decide)).trans hF2), (upd_ne (by decide)).trans ((upd_ne (by decide)).trans hF5)⟩) rfl (by simp [xle]))
    ·
      obtain ⟨hd0, hd1⟩ := hd
      exfalso
      try simp only [le_tI, lt_tI, tI_0, tI_1, tc_4, tc_5, tc_7, tc_8, tc_9, tc_23, tc_24, tc_33, tc_99, tc_126, kI] at hc
      try simp only [le_tI, lt_tI, tI_0, tI_1, tc_4, tc_5, tc_7, tc_8, tc_9, tc_23, tc_24, tc_33, tc_99, tc_126, kI] at hd0
      try simp only [le_tI, lt_tI, tI_0, tI_1, tc_4, tc_5, tc_7, tc_8, tc_9, tc_23, tc_24, tc_33, tc_99, tc_126, kI] at hd1
      omega
end LAWC
