/-! The law: trip, pass, append, rope, section, window -/
section LAWC
variable {l : Launch} {G : XG} {p' : Program} {e' : Env} {s' : State} {m' : MethodId} {g' : Array Value} {b' : List Frame} {t' : Method} {c' : Code} {Q : State → Prop} {k ks j : Nat} {hb : XH} {f : Nat → Int32} {o kp : Nat} {P : Nat → Nat → Int32} {tx : Nat → Int32} {len : Nat} {p : PT} {ρ pa tr td F : Nat → Int32} {fo : Nat → Int64}
def kL_law5 : List (Nat × (Instr × Nat)) := [(472, (.aload_n 1, 1)), (473, (.aload_n 0, 1)), (474, (.iload 4, 2)), (476, (.iconst 1, 1)), (477, (.iadd, 1)), (478, (.iaload, 1)), (479, (.aload_n 0, 1)), (480, (.iload 4, 2)), (482, (.iconst 2, 1)), (483, (.iadd, 1)), (484, (.iaload, 1)), (485, (.aload_n 0, 1)), (486, (.iload 4, 2)), (488, (.iconst 3, 1)), (489, (.iadd, 1)), (490, (.iaload, 1)), (491, (.aload_n 3, 1)), (492, (.invokestatic 100, 3)), (495, (.istore 5, 2)), (497, (.aload_n 2, 1)), (498, (.aload_n 0, 1)), (499, (.iload 4, 2)), (501, (.iconst 1, 1)), (502, (.iadd, 1)), (503, (.iaload, 1)), (504, (.aload_n 0, 1)), (505, (.iload 4, 2)), (507, (.iconst 2, 1)), (508, (.iadd, 1)), (509, (.iaload, 1)), (510, (.aload_n 0, 1)), (511, (.iload 4, 2)), (513, (.iconst 3, 1)), (514, (.iadd, 1)), (515, (.iaload, 1)), (516, (.invokevirtual 102, 3)), (519, (.istore 6, 2)), (521, (.aload_n 2, 1)), (522, (.invokevirtual 83, 3)), (525, (.iload 5, 2)), (527, (.if_icmp .eq 5, 3)), (530, (.iconst 0, 1)), (531, (.ireturn, 1)), (532, (.iload 5, 2)), (534, (.ifCond .ne 15, 3)), (537, (.aload_n 3, 1)), (538, (.iconst 0, 1)), (539, (.laload, 1)), (540, (.iload 6, 2)), (542, (.i2l, 1)), (543, (.lcmp, 1)), (544, (.ifCond .eq 5, 3)), (547, (.iconst 0, 1)), (548, (.ireturn, 1)), (549, (.goto 841, 3))]
set_option maxRecDepth 100000 in
theorem okL_law5 : ∀ a ∈ kL_law5, decode code a.1 = .ok a.2 := by decide +kernel
set_option maxHeartbeats 4000000 in
set_option maxRecDepth 100000 in
theorem law_c5 (hfl : l.stackTraces = false) (hL : xL G < 2 ^ 31) (C : XCx G l "RopeThreadsLaw" code 9 p' s' m' g' t' c') (hk8 : k + 8 ≤ 601024) (hks : ks + 48 ≤ 7293034) (hj : 4 * j + 4 ≤ xL G) (h219 : hb 219 = outC fo) (hI : LI f o kp P len pa F) (kk : ∀ (hb : XH) (f : Nat → Int32) (o kp : Nat) (P : Nat → Nat → Int32) (tx : Nat → Int32) (len : Nat) (p : PT) (ρ pa tr td F : Nat → Int32) (fo : Nat → Int64), hb 219 = outC fo → LI f o kp P len pa F → XV G 9 p' l e' room_1 s' m' g' b' t' c' Q 1390 [some (.ref 0), some (.ref 4), some (.ref 213), some (.ref 219), some (.int (nI (4 * j))), none, none, none, none] [] 216 (setM (setCW hb f o kp P tx len p ρ) f pa tr tx td F) (k + 8) (ks + 48)) : XV G 9 p' l e' room_1 s' m' g' b' t' c' Q 472 [some (.ref 0), some (.ref 4), some (.ref 213), some (.ref 219), some (.int (nI (4 * j))), none, none, none, none] [] 216 (setM (setCW hb f o kp P tx len p ρ) f pa tr tx td F) (k) (ks) := by
  obtain ⟨⟨k9, m9, tt9, hO⟩, ho, hk6, hPR, hl6, hF2, hF5⟩ := hI
  have hm := hO.1
  have hk := hO.2.1
  have hl := hO.live
  obtain ⟨z, hz, z1, z2⟩ := hO.2.2.2.2.2.2.1.1
  have kI : (nI k9).toInt = (k9 : Int) := nI_tI (by omega)
  refine XV.cast lw_0 ?_
  refine XV.run C okL_law5 5 (q := (478, ([some (.ref (0)), some (.ref (4)), some (.ref (213)), some (.ref (219)), some (.int (nI (4 * j))), none, none, none, none], [.int ((nI (4 * j)) + 1), .ref (0), .ref (4)]))) rfl ?_
  refine XV.sald C (a := (4 * j + 1)) (xlk_ok okL_law5 rfl) (nI_add _ 1) (by omega) hL ?_
  refine XV.run C okL_law5 4 (q := (484, ([some (.ref (0)), some (.ref (4)), some (.ref (213)), some (.ref (219)), some (.int (nI (4 * j))), none, none, none, none], [.int ((nI (4 * j)) + 2), .ref (0), .int (xxs G (4 * j + 1)), .ref (4)]))) rfl ?_
  refine XV.sald C (a := (4 * j + 2)) (xlk_ok okL_law5 rfl) (nI_add _ 2) (by omega) hL ?_
  refine XV.run C okL_law5 4 (q := (490, ([some (.ref (0)), some (.ref (4)), some (.ref (213)), some (.ref (219)), some (.int (nI (4 * j))), none, none, none, none], [.int ((nI (4 * j)) + 3), .ref (0), .int (xxs G (4 * j + 2)), .int (xxs G (4 * j + 1)), .ref (4)]))) rfl ?_
  refine XV.sald C (a := (4 * j + 3)) (xlk_ok okL_law5 rfl) (nI_add _ 3) (by omega) hL ?_
  refine XV.run C okL_law5 1 (q := (492, ([some (.ref (0)), some (.ref (4)), some (.ref (213)), some (.ref (219)), some (.int (nI (4 * j))), none, none, none, none], [.ref (219), .int (xxs G (4 * j + 3)), .int (xxs G (4 * j + 2)), .int (xxs G (4 * j + 1)), .ref (4)]))) rfl ?_
  refine XV.callSX C (As := [.ref (4), .int (xxs G (4 * j + 1)), .int (xxs G (4 * j + 2)), .int (xxs G (4 * j + 3)), .ref (219)]) (rest := []) (ct_L_trip hfl (by decide) hm hk hl hz z1 z2 ho hk6 (xxs G (4 * j + 1)) (xxs G (4 * j + 2)) (xxs G (4 * j + 3)) (by decide) ((blk_out (Or.inr (by decide))).trans h219)) (xlk_ok okL_law5 rfl) rfl wM_L_100 wS_L_trip wN_L wB_L_trip hy_L_trip (fun q => q.elim) ⟨Nat.le_of_ble_eq_true rfl, Nat.le_of_ble_eq_true rfl⟩ ⟨room_c (by omega), room_s (by omega)⟩ (Nat.le_of_ble_eq_true rfl) (fun r n h hp => ?_) (fun _ _ _ q => q.elim)
  obtain ⟨rfl, hp⟩ := hp
  rcases hp with ⟨a1, b1, hc, rfl, rfl⟩ | ⟨hc, rfl, rfl⟩ | ⟨hc, rfl, rfl⟩ | ⟨hc, rfl, rfl⟩ | ⟨hc, rfl, rfl⟩
  ·
    refine XV.cast lw_1 ?_
    refine XV.run C okL_law5 6 (q := (503, ([some (.ref (0)), some (.ref (4)), some (.ref (213)), some (.ref (219)), some (.int (nI (4 * j))), some (.int (0)), none, none, none], [.int ((nI (4 * j)) + 1), .ref (0), .ref (213)]))) rfl ?_
    refine XV.sald C (a := (4 * j + 1)) (xlk_ok okL_law5 rfl) (nI_add _ 1) (by omega) hL ?_
    refine XV.run C okL_law5 4 (q := (509, ([some (.ref (0)), some (.ref (4)), some (.ref (213)), some (.ref (219)), some (.int (nI (4 * j))), some (.int (0)), none, none, none], [.int ((nI (4 * j)) + 2), .ref (0), .int (xxs G (4 * j + 1)), .ref (213)]))) rfl ?_
    refine XV.sald C (a := (4 * j + 2)) (xlk_ok okL_law5 rfl) (nI_add _ 2) (by omega) hL ?_
    refine XV.run C okL_law5 4 (q := (515, ([some (.ref (0)), some (.ref (4)), some (.ref (213)), some (.ref (219)), some (.int (nI (4 * j))), some (.int (0)), none, none, none], [.int ((nI (4 * j)) + 3), .ref (0), .int (xxs G (4 * j + 2)), .int (xxs G (4 * j + 1)), .ref (213)]))) rfl ?_
    refine XV.sald C (a := (4 * j + 3)) (xlk_ok okL_law5 rfl) (nI_add _ 3) (by omega) hL ?_
    refine XV.callV C (As := [.int (xxs G (4 * j + 1)), .int (xxs G (4 * j + 2)), .int (xxs G (4 * j + 3))]) (rest := []) (ci := 5) (ct_M_trip hfl (by decide) hm hk hz z1 z2 hF2 hk6 (xxs G (4 * j + 1)) (xxs G (4 * j + 2)) (xxs G (4 * j + 3))) (xlk_ok okL_law5 rfl) rfl (by decide) (by decide) rfl (mw_o) rfl wM_L_102 wI_M_trip wV_M_trip wN_M wB_M_trip hy_M_trip (fun q => q.elim) ⟨Nat.le_of_ble_eq_true rfl, Nat.le_of_ble_eq_true rfl⟩ ⟨room_c (by omega), room_s (by omega)⟩ (Nat.le_of_ble_eq_true rfl) (fun r n h hp => ?_) (fun _ _ _ q => q.elim)
    obtain ⟨rfl, ⟨v, rfl⟩, hp⟩ := hp
    rcases hp with ⟨hd, rfl⟩ | ⟨hd, rfl⟩ | ⟨hd, rfl⟩ | ⟨a2, b2, hd, hr, rfl⟩
    ·
      obtain ⟨hc0, hc1, hc2, hc3, hc4, hc5⟩ := hc
      have thc0 := nI_teq hc0 (by omega)
      have thc2 := nI_teq hc2 (by omega)
      exfalso
      try simp only [le_tI, lt_tI, tI_0, tI_1, tc_4, tc_5, tc_7, tc_8, tc_9, tc_23, tc_24, tc_33, tc_99, tc_126, kI] at hc1
      try simp only [le_tI, lt_tI, tI_0, tI_1, tc_4, tc_5, tc_7, tc_8, tc_9, tc_23, tc_24, tc_33, tc_99, tc_126, kI] at hc3
      try simp only [le_tI, lt_tI, tI_0, tI_1, tc_4, tc_5, tc_7, tc_8, tc_9, tc_23, tc_24, tc_33, tc_99, tc_126, kI] at hc4
      try simp only [le_tI, lt_tI, tI_0, tI_1, tc_4, tc_5, tc_7, tc_8, tc_9, tc_23, tc_24, tc_33, tc_99, tc_126, kI] at hc5
      try simp only [le_tI, lt_tI, tI_0, tI_1, tc_4, tc_5, tc_7, tc_8, tc_9, tc_23, tc_24, tc_33, tc_99, tc_126, kI] at hd
      omega
    ·
      obtain ⟨hc0, hc1, hc2, hc3, hc4, hc5⟩ := hc
      have thc0 := nI_teq hc0 (by omega)
      have thc2 := nI_teq hc2 (by omega)
      exfalso
      try simp only [le_tI, lt_tI, tI_0, tI_1, tc_4, tc_5, tc_7, tc_8, tc_9, tc_23, tc_24, tc_33, tc_99, tc_126, kI] at hc1
      try simp only [le_tI, lt_tI, tI_0, tI_1, tc_4, tc_5, tc_7, tc_8, tc_9, tc_23, tc_24, tc_33, tc_99, tc_126, kI] at hc3
      try simp only [le_tI, lt_tI, tI_0, tI_1, tc_4, tc_5, tc_7, tc_8, tc_9, tc_23, tc_24, tc_33, tc_99, tc_126, kI] at hc4
      try simp only [le_tI, lt_tI, tI_0, tI_1, tc_4, tc_5, tc_7, tc_8, tc_9, tc_23, tc_24, tc_33, tc_99, tc_126, kI] at hc5
      try simp only [le_tI, lt_tI, tI_0, tI_1, tc_4, tc_5, tc_7, tc_8, tc_9, tc_23, tc_24, tc_33, tc_99, tc_126, kI] at hd
      omega
    ·
      obtain ⟨hc0, hc1, hc2, hc3, hc4, hc5⟩ := hc
      have thc0 := nI_teq hc0 (by omega)
      have thc2 := nI_teq hc2 (by omega)
      exact absurd ⟨(hO.can z2).mp hc5.1, hc5.2⟩ hd.2.2.2
    ·
      obtain ⟨hc0, hc1, hc2, hc3, hc4, hc5⟩ := hc
      obtain ⟨hd0, hd1, hd2, hd3, hd4, hd5⟩ := hd
      have thc0 := nI_teq hc0 (by omega)
      have thc2 := nI_teq hc2 (by omega)
      have thd0 := nI_teq hd0 (by omega)
      have thd2 := nI_teq hd2 (by omega)
      obtain rfl : a1 = a2 := by omega
      obtain rfl : b1 = b2 := by omega
      cases hr
      -- both answer
      refine XV.run C okL_law5 2 (q := (522, ([some (.ref (0)), some (.ref (4)), some (.ref (213)), some (.ref (219)), some (.int (nI (4 * j))), some (.int (0)), some (.int ((f 7 + (xxs G (4 * j + 3))))), none, none], [.ref (213)]))) rfl ?_
      refine XV.callV C (As := []) (rest := []) (ci := 5) (ct_M_thrown hfl (by decide)) (xlk_ok okL_law5 rfl) rfl (by decide) (by decide) rfl (mw_o) rfl wM_L_83 wI_M_thrown wV_M_thrown wN_M wB_M_thrown hy_M_thrown (fun q => q.elim) ⟨Nat.le_of_ble_eq_true rfl, Nat.le_of_ble_eq_true rfl⟩ ⟨room_c (by omega), room_s (by omega)⟩ (Nat.le_of_ble_eq_true rfl) (fun r n h hp => ?_) (fun _ _ _ q => q.elim)
      obtain ⟨rfl, rfl, rfl⟩ := hp
      refine XV.run C okL_law5 1 (q := (527, ([some (.ref (0)), some (.ref (4)), some (.ref (213)), some (.ref (219)), some (.int (nI (4 * j))), some (.int (0)), some (.int ((f 7 + (xxs G (4 * j + 3))))), none, none], [.int (0), .int ((upd (upd F 6 0) 2 (nI (kK kp))) 6)]))) rfl ?_
      refine XV.icmp_eq C (tgt := 532) (xlk_ok okL_law5 rfl) rfl (fun _ => ?_) (fun hc => absurd ((upd_ne (by decide)).trans upd_eq) hc)
      refine XV.run C okL_law5 1 (q := (534, ([some (.ref (0)), some (.ref (4)), some (.ref (213)), some (.ref (219)), some (.int (nI (4 * j))), some (.int (0)), some (.int ((f 7 + (xxs G (4 * j + 3))))), none, none], [.int (0)]))) rfl ?_
      refine XV.if_ne C (tgt := 549) (xlk_ok okL_law5 rfl) rfl (fun hc => absurd (rfl) hc) (fun _ => ?_)
      refine XV.run C okL_law5 2 (q := (539, ([some (.ref (0)), some (.ref (4)), some (.ref (213)), some (.ref (219)), some (.int (nI (4 * j))), some (.int (0)), some (.int ((f 7 + (xxs G (4 * j + 3))))), none, none], [.int (0), .ref (219)]))) rfl ?_
      refine XV.lald C (N := 1) (a := 0) (f := vp_updL fo 0 (f 7 + (xxs G (4 * j + 3))).toInt64) (xlk_ok okL_law5 rfl) (by decide) (by decide) (lw_219 (xup_at hb 219 _)) rfl (by decide) (by decide) ?_
      rw [upL_0]
      refine XV.run C okL_law5 3 (q := (544, ([some (.ref (0)), some (.ref (4)), some (.ref (213)), some (.ref (219)), some (.int (nI (4 * j))), some (.int (0)), some (.int ((f 7 + (xxs G (4 * j + 3))))), none, none], [.int (lg_cmp ((f 7 + (xxs G (4 * j + 3))).toInt64) (((f 7 + (xxs G (4 * j + 3)))).toInt64))]))) rfl ?_
      refine XV.if_eq C (tgt := 549) (xlk_ok okL_law5 rfl) rfl (fun _ => ?_) (fun hc => absurd (lcmp_eq (congrArg Int32.toInt64 (rfl))) hc)
      refine XV.run C okL_law5 1 (q := (1390, ([some (.ref (0)), some (.ref (4)), some (.ref (213)), some (.ref (219)), some (.int (nI (4 * j))), some (.int (0)), some (.int ((f 7 + (xxs G (4 * j + 3))))), none, none], []))) rfl ?_
      exact XV.widen (by omega) (by omega) (XV.drop (kk _ _ _ _ _ _ _ _ _ _ _ _ _ _ (xup_at hb 219 _) ⟨OKs_trav hO hc1 hc3 hc4 hc5.2, kO_lt ho, kK_le hk6, PR_save ho hk6 hPR ⟨_, _, _, hO⟩, hl6, upd_eq, (upd_ne (by decide)).trans ((upd_ne (by decide)).trans hF5)⟩) rfl (by simp [xle]))
  ·
    refine XV.cast lw_0.symm ?_
    refine XV.run C okL_law5 6 (q := (503, ([some (.ref (0)), some (.ref (4)), some (.ref (213)), some (.ref (219)), some (.int (nI (4 * j))), some (.int (1)), none, none, none], [.int ((nI (4 * j)) + 1), .ref (0), .ref (213)]))) rfl ?_
    refine XV.sald C (a := (4 * j + 1)) (xlk_ok okL_law5 rfl) (nI_add _ 1) (by omega) hL ?_
    refine XV.run C okL_law5 4 (q := (509, ([some (.ref (0)), some (.ref (4)), some (.ref (213)), some (.ref (219)), some (.int (nI (4 * j))), some (.int (1)), none, none, none], [.int ((nI (4 * j)) + 2), .ref (0), .int (xxs G (4 * j + 1)), .ref (213)]))) rfl ?_
    refine XV.sald C (a := (4 * j + 2)) (xlk_ok okL_law5 rfl) (nI_add _ 2) (by omega) hL ?_
    refine XV.run C okL_law5 4 (q := (515, ([some (.ref (0)), some (.ref (4)), some (.ref (213)), some (.ref (219)), some (.int (nI (4 * j))), some (.int (1)), none, none, none], [.int ((nI (4 * j)) + 3), .ref (0), .int (xxs G (4 * j + 2)), .int (xxs G (4 * j + 1)), .ref (213)]))) rfl ?_
    refine XV.sald C (a := (4 * j + 3)) (xlk_ok okL_law5 rfl) (nI_add _ 3) (by omega) hL ?_
    refine XV.callV C (As := [.int (xxs G (4 * j + 1)), .int (xxs G (4 * j + 2)), .int (xxs G (4 * j + 3))]) (rest := []) (ci := 5) (ct_M_trip hfl (by decide) hm hk hz z1 z2 hF2 hk6 (xxs G (4 * j + 1)) (xxs G (4 * j + 2)) (xxs G (4 * j + 3))) (xlk_ok okL_law5 rfl) rfl (by decide) (by decide) rfl (mw_o) rfl wM_L_102 wI_M_trip wV_M_trip wN_M wB_M_trip hy_M_trip (fun q => q.elim) ⟨Nat.le_of_ble_eq_true rfl, Nat.le_of_ble_eq_true rfl⟩ ⟨room_c (by omega), room_s (by omega)⟩ (Nat.le_of_ble_eq_true rfl) (fun r n h hp => ?_) (fun _ _ _ q => q.elim)
    obtain ⟨rfl, ⟨v, rfl⟩, hp⟩ := hp
    rcases hp with ⟨hd, rfl⟩ | ⟨hd, rfl⟩ | ⟨hd, rfl⟩ | ⟨a2, b2, hd, hr, rfl⟩
    ·
      refine XV.run C okL_law5 2 (q := (522, ([some (.ref (0)), some (.ref (4)), some (.ref (213)), some (.ref (219)), some (.int (nI (4 * j))), some (.int (1)), some (.int (v)), none, none], [.ref (213)]))) rfl ?_
      refine XV.callV C (As := []) (rest := []) (ci := 5) (ct_M_thrown hfl (by decide)) (xlk_ok okL_law5 rfl) rfl (by decide) (by decide) rfl (mw_o) rfl wM_L_83 wI_M_thrown wV_M_thrown wN_M wB_M_thrown hy_M_thrown (fun q => q.elim) ⟨Nat.le_of_ble_eq_true rfl, Nat.le_of_ble_eq_true rfl⟩ ⟨room_c (by omega), room_s (by omega)⟩ (Nat.le_of_ble_eq_true rfl) (fun r n h hp => ?_) (fun _ _ _ q => q.elim)
      obtain ⟨rfl, rfl, rfl⟩ := hp
      refine XV.run C okL_law5 1 (q := (527, ([some (.ref (0)), some (.ref (4)), some (.ref (213)), some (.ref (219)), some (.int (nI (4 * j))), some (.int (1)), some (.int (v)), none, none], [.int (1), .int ((upd (upd F 6 0) 6 1) 6)]))) rfl ?_
      refine XV.icmp_eq C (tgt := 532) (xlk_ok okL_law5 rfl) rfl (fun _ => ?_) (fun hc => absurd (upd_eq) hc)
      refine XV.run C okL_law5 1 (q := (534, ([some (.ref (0)), some (.ref (4)), some (.ref (213)), some (.ref (219)), some (.int (nI (4 * j))), some (.int (1)), some (.int (v)), none, none], [.int (1)]))) rfl ?_
      refine XV.if_ne C (tgt := 549) (xlk_ok okL_law5 rfl) rfl (fun _ => ?_) (fun hc => absurd hc (by decide))
      refine XV.run C okL_law5 1 (q := (1390, ([some (.ref (0)), some (.ref (4)), some (.ref (213)), some (.ref (219)), some (.int (nI (4 * j))), some (.int (1)), some (.int (v)), none, none], []))) rfl ?_
      exact XV.widen (by omega) (by omega) (XV.drop (kk _ _ _ _ _ _ _ _ _ _ _ _ _ _ h219 ⟨⟨_, _, _, hO⟩, ho, hk6, hPR, hl6, (upd_ne (by decide)).trans ((upd_ne (by decide)).trans hF2), (upd_ne (by decide)).trans ((upd_ne (by decide)).trans hF5)⟩) rfl (by simp [xle]))
    ·
      exfalso
      try simp only [le_tI, lt_tI, tI_0, tI_1, tc_4, tc_5, tc_7, tc_8, tc_9, tc_23, tc_24, tc_33, tc_99, tc_126, kI] at hc
      try simp only [le_tI, lt_tI, tI_0, tI_1, tc_4, tc_5, tc_7, tc_8, tc_9, tc_23, tc_24, tc_33, tc_99, tc_126, kI] at hd
      omega
    ·
      exfalso
      try simp only [le_tI, lt_tI, tI_0, tI_1, tc_4, tc_5, tc_7, tc_8, tc_9, tc_23, tc_24, tc_33, tc_99, tc_126, kI] at hc
      try simp only [le_tI, lt_tI, tI_0, tI_1, tc_4, tc_5, tc_7, tc_8, tc_9, tc_23, tc_24, tc_33, tc_99, tc_126, kI] at hd
      omega
    ·
      obtain ⟨hd0, hd1, hd2, hd3, hd4, hd5⟩ := hd
      have thd0 := nI_teq hd0 (by omega)
      have thd2 := nI_teq hd2 (by omega)
      exfalso
      try simp only [le_tI, lt_tI, tI_0, tI_1, tc_4, tc_5, tc_7, tc_8, tc_9, tc_23, tc_24, tc_33, tc_99, tc_126, kI] at hc
      try simp only [le_tI, lt_tI, tI_0, tI_1, tc_4, tc_5, tc_7, tc_8, tc_9, tc_23, tc_24, tc_33, tc_99, tc_126, kI] at hd1
      try simp only [le_tI, lt_tI, tI_0, tI_1, tc_4, tc_5, tc_7, tc_8, tc_9, tc_23, tc_24, tc_33, tc_99, tc_126, kI] at hd3
      try simp only [le_tI, lt_tI, tI_0, tI_1, tc_4, tc_5, tc_7, tc_8, tc_9, tc_23, tc_24, tc_33, tc_99, tc_126, kI] at hd4
      try simp only [le_tI, lt_tI, tI_0, tI_1, tc_4, tc_5, tc_7, tc_8, tc_9, tc_23, tc_24, tc_33, tc_99, tc_126, kI] at hd5
      omega
  ·
    refine XV.cast lw_0.symm ?_
    refine XV.run C okL_law5 6 (q := (503, ([some (.ref (0)), some (.ref (4)), some (.ref (213)), some (.ref (219)), some (.int (nI (4 * j))), some (.int (1)), none, none, none], [.int ((nI (4 * j)) + 1), .ref (0), .ref (213)]))) rfl ?_
    refine XV.sald C (a := (4 * j + 1)) (xlk_ok okL_law5 rfl) (nI_add _ 1) (by omega) hL ?_
    refine XV.run C okL_law5 4 (q := (509, ([some (.ref (0)), some (.ref (4)), some (.ref (213)), some (.ref (219)), some (.int (nI (4 * j))), some (.int (1)), none, none, none], [.int ((nI (4 * j)) + 2), .ref (0), .int (xxs G (4 * j + 1)), .ref (213)]))) rfl ?_
    refine XV.sald C (a := (4 * j + 2)) (xlk_ok okL_law5 rfl) (nI_add _ 2) (by omega) hL ?_
    refine XV.run C okL_law5 4 (q := (515, ([some (.ref (0)), some (.ref (4)), some (.ref (213)), some (.ref (219)), some (.int (nI (4 * j))), some (.int (1)), none, none, none], [.int ((nI (4 * j)) + 3), .ref (0), .int (xxs G (4 * j + 2)), .int (xxs G (4 * j + 1)), .ref (213)]))) rfl ?_
    refine XV.sald C (a := (4 * j + 3)) (xlk_ok okL_law5 rfl) (nI_add _ 3) (by omega) hL ?_
    refine XV.callV C (As := [.int (xxs G (4 * j + 1)), .int (xxs G (4 * j + 2)), .int (xxs G (4 * j + 3))]) (rest := []) (ci := 5) (ct_M_trip hfl (by decide) hm hk hz z1 z2 hF2 hk6 (xxs G (4 * j + 1)) (xxs G (4 * j + 2)) (xxs G (4 * j + 3))) (xlk_ok okL_law5 rfl) rfl (by decide) (by decide) rfl (mw_o) rfl wM_L_102 wI_M_trip wV_M_trip wN_M wB_M_trip hy_M_trip (fun q => q.elim) ⟨Nat.le_of_ble_eq_true rfl, Nat.le_of_ble_eq_true rfl⟩ ⟨room_c (by omega), room_s (by omega)⟩ (Nat.le_of_ble_eq_true rfl) (fun r n h hp => ?_) (fun _ _ _ q => q.elim)
    obtain ⟨rfl, ⟨v, rfl⟩, hp⟩ := hp
    rcases hp with ⟨hd, rfl⟩ | ⟨hd, rfl⟩ | ⟨hd, rfl⟩ | ⟨a2, b2, hd, hr, rfl⟩
    ·
      refine XV.run C okL_law5 2 (q := (522, ([some (.ref (0)), some (.ref (4)), some (.ref (213)), some (.ref (219)), some (.int (nI (4 * j))), some (.int (1)), some (.int (v)), none, none], [.ref (213)]))) rfl ?_
      refine XV.callV C (As := []) (rest := []) (ci := 5) (ct_M_thrown hfl (by decide)) (xlk_ok okL_law5 rfl) rfl (by decide) (by decide) rfl (mw_o) rfl wM_L_83 wI_M_thrown wV_M_thrown wN_M wB_M_thrown hy_M_thrown (fun q => q.elim) ⟨Nat.le_of_ble_eq_true rfl, Nat.le_of_ble_eq_true rfl⟩ ⟨room_c (by omega), room_s (by omega)⟩ (Nat.le_of_ble_eq_true rfl) (fun r n h hp => ?_) (fun _ _ _ q => q.elim)
      obtain ⟨rfl, rfl, rfl⟩ := hp
      refine XV.run C okL_law5 1 (q := (527, ([some (.ref (0)), some (.ref (4)), some (.ref (213)), some (.ref (219)), some (.int (nI (4 * j))), some (.int (1)), some (.int (v)), none, none], [.int (1), .int ((upd (upd F 6 0) 6 1) 6)]))) rfl ?_
      refine XV.icmp_eq C (tgt := 532) (xlk_ok okL_law5 rfl) rfl (fun _ => ?_) (fun hc => absurd (upd_eq) hc)
      refine XV.run C okL_law5 1 (q := (534, ([some (.ref (0)), some (.ref (4)), some (.ref (213)), some (.ref (219)), some (.int (nI (4 * j))), some (.int (1)), some (.int (v)), none, none], [.int (1)]))) rfl ?_
      refine XV.if_ne C (tgt := 549) (xlk_ok okL_law5 rfl) rfl (fun _ => ?_) (fun hc => absurd hc (by decide))
      refine XV.run C okL_law5 1 (q := (1390, ([some (.ref (0)), some (.ref (4)), some (.ref (213)), some (.ref (219)), some (.int (nI (4 * j))), some (.int (1)), some (.int (v)), none, none], []))) rfl ?_
      exact XV.widen (by omega) (by omega) (XV.drop (kk _ _ _ _ _ _ _ _ _ _ _ _ _ _ h219 ⟨⟨_, _, _, hO⟩, ho, hk6, hPR, hl6, (upd_ne (by decide)).trans ((upd_ne (by decide)).trans hF2), (upd_ne (by decide)).trans ((upd_ne (by decide)).trans hF5)⟩) rfl (by simp [xle]))
    ·
      exfalso
      try simp only [le_tI, lt_tI, tI_0, tI_1, tc_4, tc_5, tc_7, tc_8, tc_9, tc_23, tc_24, tc_33, tc_99, tc_126, kI] at hc
      try simp only [le_tI, lt_tI, tI_0, tI_1, tc_4, tc_5, tc_7, tc_8, tc_9, tc_23, tc_24, tc_33, tc_99, tc_126, kI] at hd
      omega
    ·
      exfalso
      try simp only [le_tI, lt_tI, tI_0, tI_1, tc_4, tc_5, tc_7, tc_8, tc_9, tc_23, tc_24, tc_33, tc_99, tc_126, kI] at hc
      try simp only [le_tI, lt_tI, tI_0, tI_1, tc_4, tc_5, tc_7, tc_8, tc_9, tc_23, tc_24, tc_33, tc_99, tc_126, kI] at hd
      omega
    ·
      obtain ⟨hd0, hd1, hd2, hd3, hd4, hd5⟩ := hd
      have thd0 := nI_teq hd0 (by omega)
      have thd2 := nI_teq hd2 (by omega)
      exfalso
      try simp only [le_tI, lt_tI, tI_0, tI_1, tc_4, tc_5, tc_7, tc_8, tc_9, tc_23, tc_24, tc_33, tc_99, tc_126, kI] at hc
      try simp only [le_tI, lt_tI, tI_0, tI_1, tc_4, tc_5, tc_7, tc_8, tc_9, tc_23, tc_24, tc_33, tc_99, tc_126, kI] at hd1
      try simp only [le_tI, lt_tI, tI_0, tI_1, tc_4, tc_5, tc_7, tc_8, tc_9, tc_23, tc_24, tc_33, tc_99, tc_126, kI] at hd3
      try simp only [le_tI, lt_tI, tI_0, tI_1, tc_4, tc_5, tc_7, tc_8, tc_9, tc_23, tc_24, tc_33, tc_99, tc_126, kI] at hd4
      try simp only [le_tI, lt_tI, tI_0, tI_1, tc_4, tc_5, tc_7, tc_8, tc_9, tc_23, tc_24, tc_33, tc_99, tc_126, kI] at hd5
      omega
  ·
    refine XV.cast lw_0.symm ?_
    refine XV.run C okL_law5 6 (q := (503, ([some (.ref (0)), some (.ref (4)), some (.ref (213)), some (.ref (219)), some (.int (nI (4 * j))), some (.int (2)), none, none, none], [.int ((nI (4 * j)) + 1), .ref (0), .ref (213)]))) rfl ?_
    refine XV.sald C (a := (4 * j + 1)) (xlk_ok okL_law5 rfl) (nI_add _ 1) (by omega) hL ?_
    refine XV.run C okL_law5 4 (q := (509, ([some (.ref (0)), some (.ref (4)), some (.ref (213)), some (.ref (219)), some (.int (nI (4 * j))), some (.int (2)), none, none, none], [.int ((nI (4 * j)) + 2), .ref (0), .int (xxs G (4 * j + 1)), .ref (213)]))) rfl ?_
    refine XV.sald C (a := (4 * j + 2)) (xlk_ok okL_law5 rfl) (nI_add _ 2) (by omega) hL ?_
    refine XV.run C okL_law5 4 (q := (515, ([some (.ref (0)), some (.ref (4)), some (.ref (213)), some (.ref (219)), some (.int (nI (4 * j))), some (.int (2)), none, none, none], [.int ((nI (4 * j)) + 3), .ref (0), .int (xxs G (4 * j + 2)), .int (xxs G (4 * j + 1)), .ref (213)]))) rfl ?_
    refine XV.sald C (a := (4 * j + 3)) (xlk_ok okL_law5 rfl) (nI_add _ 3) (by omega) hL ?_
    refine XV.callV C (As := [.int (xxs G (4 * j + 1)), .int (xxs G (4 * j + 2)), .int (xxs G (4 * j + 3))]) (rest := []) (ci := 5) (ct_M_trip hfl (by decide) hm hk hz z1 z2 hF2 hk6 (xxs G (4 * j + 1)) (xxs G (4 * j + 2)) (xxs G (4 * j + 3))) (xlk_ok okL_law5 rfl) rfl (by decide) (by decide) rfl (mw_o) rfl wM_L_102 wI_M_trip wV_M_trip wN_M wB_M_trip hy_M_trip (fun q => q.elim) ⟨Nat.le_of_ble_eq_true rfl, Nat.le_of_ble_eq_true rfl⟩ ⟨room_c (by omega), room_s (by omega)⟩ (Nat.le_of_ble_eq_true rfl) (fun r n h hp => ?_) (fun _ _ _ q => q.elim)
    obtain ⟨rfl, ⟨v, rfl⟩, hp⟩ := hp
    rcases hp with ⟨hd, rfl⟩ | ⟨hd, rfl⟩ | ⟨hd, rfl⟩ | ⟨a2, b2, hd, hr, rfl⟩
    ·
      exfalso
      try simp only [le_tI, lt_tI, tI_0, tI_1, tc_4, tc_5, tc_7, tc_8, tc_9, tc_23, tc_24, tc_33, tc_99, tc_126, kI] at hc
      try simp only [le_tI, lt_tI, tI_0, tI_1, tc_4, tc_5, tc_7, tc_8, tc_9, tc_23, tc_24, tc_33, tc_99, tc_126, kI] at hd
      omega
    ·
      refine XV.run C okL_law5 2 (q := (522, ([some (.ref (0)), some (.ref (4)), some (.ref (213)), some (.ref (219)), some (.int (nI (4 * j))), some (.int (2)), some (.int (v)), none, none], [.ref (213)]))) rfl ?_
      refine XV.callV C (As := []) (rest := []) (ci := 5) (ct_M_thrown hfl (by decide)) (xlk_ok okL_law5 rfl) rfl (by decide) (by decide) rfl (mw_o) rfl wM_L_83 wI_M_thrown wV_M_thrown wN_M wB_M_thrown hy_M_thrown (fun q => q.elim) ⟨Nat.le_of_ble_eq_true rfl, Nat.le_of_ble_eq_true rfl⟩ ⟨room_c (by omega), room_s (by omega)⟩ (Nat.le_of_ble_eq_true rfl) (fun r n h hp => ?_) (fun _ _ _ q => q.elim)
      obtain ⟨rfl, rfl, rfl⟩ := hp
      refine XV.run C okL_law5 1 (q := (527, ([some (.ref (0)), some (.ref (4)), some (.ref (213)), some (.ref (219)), some (.int (nI (4 * j))), some (.int (2)), some (.int (v)), none, none], [.int (2), .int ((upd (upd F 6 0) 6 2) 6)]))) rfl ?_
      refine XV.icmp_eq C (tgt := 532) (xlk_ok okL_law5 rfl) rfl (fun _ => ?_) (fun hc => absurd (upd_eq) hc)
      refine XV.run C okL_law5 1 (q := (534, ([some (.ref (0)), some (.ref (4)), some (.ref (213)), some (.ref (219)), some (.int (nI (4 * j))), some (.int (2)), some (.int (v)), none, none], [.int (2)]))) rfl ?_
      refine XV.if_ne C (tgt := 549) (xlk_ok okL_law5 rfl) rfl (fun _ => ?_) (fun hc => absurd hc (by decide))
      refine XV.run C okL_law5 1 (q := (1390, ([some (.ref (0)), some (.ref (4)), some (.ref (213)), some (.ref (219)), some (.int (nI (4 * j))), some (.int (2)), some (.int (v)), none, none], []))) rfl ?_
      exact XV.widen (by omega) (by omega) (XV.drop (kk _ _ _ _ _ _ _ _ _ _ _ _ _ _ h219 ⟨⟨_, _, _, hO⟩, ho, hk6, hPR, hl6, (upd_ne (by decide)).trans ((upd_ne (by decide)).trans hF2), (upd_ne (by decide)).trans ((upd_ne (by decide)).trans hF5)⟩) rfl (by simp [xle]))
    ·
      exfalso
      try simp only [le_tI, lt_tI, tI_0, tI_1, tc_4, tc_5, tc_7, tc_8, tc_9, tc_23, tc_24, tc_33, tc_99, tc_126, kI] at hc
      try simp only [le_tI, lt_tI, tI_0, tI_1, tc_4, tc_5, tc_7, tc_8, tc_9, tc_23, tc_24, tc_33, tc_99, tc_126, kI] at hd
      omega
    ·
      obtain ⟨hd0, hd1, hd2, hd3, hd4, hd5⟩ := hd
      have thd0 := nI_teq hd0 (by omega)
      have thd2 := nI_teq hd2 (by omega)
      exfalso
      try simp only [le_tI, lt_tI, tI_0, tI_1, tc_4, tc_5, tc_7, tc_8, tc_9, tc_23, tc_24, tc_33, tc_99, tc_126, kI] at hc
      try simp only [le_tI, lt_tI, tI_0, tI_1, tc_4, tc_5, tc_7, tc_8, tc_9, tc_23, tc_24, tc_33, tc_99, tc_126, kI] at hd1
      try simp only [le_tI, lt_tI, tI_0, tI_1, tc_4, tc_5, tc_7, tc_8, tc_9, tc_23, tc_24, tc_33, tc_99, tc_126, kI] at hd3
      try simp only [le_tI, lt_tI, tI_0, tI_1, tc_4, tc_5, tc_7, tc_8, tc_9, tc_23, tc_24, tc_33, tc_99, tc_126, kI] at hd4
      try simp only [le_tI, lt_tI, tI_0, tI_1, tc_4, tc_5, tc_7, tc_8, tc_9, tc_23, tc_24, tc_33, tc_99, tc_126, kI] at hd5
      omega
  ·
    refine XV.cast lw_0.symm ?_
    refine XV.run C okL_law5 6 (q := (503, ([some (.ref (0)), some (.ref (4)), some (.ref (213)), some (.ref (219)), some (.int (nI (4 * j))), some (.int (3)), none, none, none], [.int ((nI (4 * j)) + 1), .ref (0), .ref (213)]))) rfl ?_
    refine XV.sald C (a := (4 * j + 1)) (xlk_ok okL_law5 rfl) (nI_add _ 1) (by omega) hL ?_
    refine XV.run C okL_law5 4 (q := (509, ([some (.ref (0)), some (.ref (4)), some (.ref (213)), some (.ref (219)), some (.int (nI (4 * j))), some (.int (3)), none, none, none], [.int ((nI (4 * j)) + 2), .ref (0), .int (xxs G (4 * j + 1)), .ref (213)]))) rfl ?_
    refine XV.sald C (a := (4 * j + 2)) (xlk_ok okL_law5 rfl) (nI_add _ 2) (by omega) hL ?_
    refine XV.run C okL_law5 4 (q := (515, ([some (.ref (0)), some (.ref (4)), some (.ref (213)), some (.ref (219)), some (.int (nI (4 * j))), some (.int (3)), none, none, none], [.int ((nI (4 * j)) + 3), .ref (0), .int (xxs G (4 * j + 2)), .int (xxs G (4 * j + 1)), .ref (213)]))) rfl ?_
    refine XV.sald C (a := (4 * j + 3)) (xlk_ok okL_law5 rfl) (nI_add _ 3) (by omega) hL ?_
    refine XV.callV C (As := [.int (xxs G (4 * j + 1)), .int (xxs G (4 * j + 2)), .int (xxs G (4 * j + 3))]) (rest := []) (ci := 5) (ct_M_trip hfl (by decide) hm hk hz z1 z2 hF2 hk6 (xxs G (4 * j + 1)) (xxs G (4 * j + 2)) (xxs G (4 * j + 3))) (xlk_ok okL_law5 rfl) rfl (by decide) (by decide) rfl (mw_o) rfl wM_L_102 wI_M_trip wV_M_trip wN_M wB_M_trip hy_M_trip (fun q => q.elim) ⟨Nat.le_of_ble_eq_true rfl, Nat.le_of_ble_eq_true rfl⟩ ⟨room_c (by omega), room_s (by omega)⟩ (Nat.le_of_ble_eq_true rfl) (fun r n h hp => ?_) (fun _ _ _ q => q.elim)
    obtain ⟨rfl, ⟨v, rfl⟩, hp⟩ := hp
    rcases hp with ⟨hd, rfl⟩ | ⟨hd, rfl⟩ | ⟨hd, rfl⟩ | ⟨a2, b2, hd, hr, rfl⟩
    ·
      exfalso
      try simp only [le_tI, lt_tI, tI_0, tI_1, tc_4, tc_5, tc_7, tc_8, tc_9, tc_23, tc_24, tc_33, tc_99, tc_126, kI] at hc
      try simp only [le_tI, lt_tI, tI_0, tI_1, tc_4, tc_5, tc_7, tc_8, tc_9, tc_23, tc_24, tc_33, tc_99, tc_126, kI] at hd
      omega
    ·
      exfalso
      try simp only [le_tI, lt_tI, tI_0, tI_1, tc_4, tc_5, tc_7, tc_8, tc_9, tc_23, tc_24, tc_33, tc_99, tc_126, kI] at hc
      try simp only [le_tI, lt_tI, tI_0, tI_1, tc_4, tc_5, tc_7, tc_8, tc_9, tc_23, tc_24, tc_33, tc_99, tc_126, kI] at hd
      omega
    ·
      refine XV.run C okL_law5 2 (q := (522, ([some (.ref (0)), some (.ref (4)), some (.ref (213)), some (.ref (219)), some (.int (nI (4 * j))), some (.int (3)), some (.int (v)), none, none], [.ref (213)]))) rfl ?_
      refine XV.callV C (As := []) (rest := []) (ci := 5) (ct_M_thrown hfl (by decide)) (xlk_ok okL_law5 rfl) rfl (by decide) (by decide) rfl (mw_o) rfl wM_L_83 wI_M_thrown wV_M_thrown wN_M wB_M_thrown hy_M_thrown (fun q => q.elim) ⟨Nat.le_of_ble_eq_true rfl, Nat.le_of_ble_eq_true rfl⟩ ⟨room_c (by omega), room_s (by omega)⟩ (Nat.le_of_ble_eq_true rfl) (fun r n h hp => ?_) (fun _ _ _ q => q.elim)
      obtain ⟨rfl, rfl, rfl⟩ := hp
      refine XV.run C okL_law5 1 (q := (527, ([some (.ref (0)), some (.ref (4)), some (.ref (213)), some (.ref (219)), some (.int (nI (4 * j))), some (.int (3)), some (.int (v)), none, none], [.int (3), .int ((upd (upd F 6 0) 6 3) 6)]))) rfl ?_
      refine XV.icmp_eq C (tgt := 532) (xlk_ok okL_law5 rfl) rfl (fun _ => ?_) (fun hc => absurd (upd_eq) hc)
      refine XV.run C okL_law5 1 (q := (534, ([some (.ref (0)), some (.ref (4)), some (.ref (213)), some (.ref (219)), some (.int (nI (4 * j))), some (.int (3)), some (.int (v)), none, none], [.int (3)]))) rfl ?_
      refine XV.if_ne C (tgt := 549) (xlk_ok okL_law5 rfl) rfl (fun _ => ?_) (fun hc => absurd hc (by decide))
      refine XV.run C okL_law5 1 (q := (1390, ([some (.ref (0)), some (.ref (4)), some (.ref (213)), some (.ref (219)), some (.int (nI (4 * j))), some (.int (3)), some (.int (v)), none, none], []))) rfl ?_
      exact XV.widen (by omega) (by omega) (XV.drop (kk _ _ _ _ _ _ _ _ _ _ _ _ _ _ h219 ⟨⟨_, _, _, hO⟩, ho, hk6, hPR, hl6, (upd_ne (by decide)).trans ((upd_ne (by decide)).trans hF2), (upd_ne (by decide)).trans ((upd_ne (by decide)).trans hF5)⟩) rfl (by simp [xle]))
    ·
      obtain ⟨hd0, hd1, hd2, hd3, hd4, hd5⟩ := hd
      have thd0 := nI_teq hd0 (by omega)
      have thd2 := nI_teq hd2 (by omega)
      exact absurd ⟨(hO.can z2).mpr hd5.1, hd5.2⟩ hc.2.2.2
def kL_law6 : List (Nat × (Instr × Nat)) := [(552, (.aload_n 1, 1)), (553, (.aload_n 0, 1)), (554, (.iload 4, 2)), (556, (.iconst 1, 1)), (557, (.iadd, 1)), (558, (.iaload, 1)), (559, (.aload_n 3, 1)), (560, (.invokestatic 103, 3)), (563, (.istore 5, 2)), (565, (.aload_n 2, 1)), (566, (.aload_n 0, 1)), (567, (.iload 4, 2)), (569, (.iconst 1, 1)), (570, (.iadd, 1)), (571, (.iaload, 1)), (572, (.invokevirtual 105, 3)), (575, (.istore 6, 2)), (577, (.aload_n 2, 1)), (578, (.invokevirtual 83, 3)), (581, (.iload 5, 2)), (583, (.if_icmp .eq 5, 3)), (586, (.iconst 0, 1)), (587, (.ireturn, 1)), (588, (.iload 5, 2)), (590, (.ifCond .ne 15, 3)), (593, (.aload_n 3, 1)), (594, (.iconst 0, 1)), (595, (.laload, 1)), (596, (.iload 6, 2)), (598, (.i2l, 1)), (599, (.lcmp, 1)), (600, (.ifCond .eq 5, 3)), (603, (.iconst 0, 1)), (604, (.ireturn, 1)), (605, (.goto 785, 3))]
set_option maxRecDepth 100000 in
theorem okL_law6 : ∀ a ∈ kL_law6, decode code a.1 = .ok a.2 := by decide +kernel
set_option maxHeartbeats 4000000 in
set_option maxRecDepth 100000 in
theorem law_c6 (hfl : l.stackTraces = false) (hL : xL G < 2 ^ 31) (C : XCx G l "RopeThreadsLaw" code 9 p' s' m' g' t' c') (hk8 : k + 8 ≤ 601024) (hks : ks + 48 ≤ 7293034) (hj : 4 * j + 4 ≤ xL G) (h219 : hb 219 = outC fo) (hI : LI f o kp P len pa F) (kk : ∀ (hb : XH) (f : Nat → Int32) (o kp : Nat) (P : Nat → Nat → Int32) (tx : Nat → Int32) (len : Nat) (p : PT) (ρ pa tr td F : Nat → Int32) (fo : Nat → Int64), hb 219 = outC fo → LI f o kp P len pa F → XV G 9 p' l e' room_1 s' m' g' b' t' c' Q 1390 [some (.ref 0), some (.ref 4), some (.ref 213), some (.ref 219), some (.int (nI (4 * j))), none, none, none, none] [] 216 (setM (setCW hb f o kp P tx len p ρ) f pa tr tx td F) (k + 8) (ks + 48)) : XV G 9 p' l e' room_1 s' m' g' b' t' c' Q 552 [some (.ref 0), some (.ref 4), some (.ref 213), some (.ref 219), some (.int (nI (4 * j))), none, none, none, none] [] 216 (setM (setCW hb f o kp P tx len p ρ) f pa tr tx td F) (k) (ks) := by
  obtain ⟨⟨k9, m9, tt9, hO⟩, ho, hk6, hPR, hl6, hF2, hF5⟩ := hI
  have hm := hO.1
  have hk := hO.2.1
  have hl := hO.live
  obtain ⟨z, hz, z1, z2⟩ := hO.2.2.2.2.2.2.1.1
  have kI : (nI k9).toInt = (k9 : Int) := nI_tI (by omega)
  refine XV.cast lw_0 ?_
  refine XV.run C okL_law6 5 (q := (558, ([some (.ref (0)), some (.ref (4)), some (.ref (213)), some (.ref (219)), some (.int (nI (4 * j))), none, none, none, none], [.int ((nI (4 * j)) + 1), .ref (0), .ref (4)]))) rfl ?_
  refine XV.sald C (a := (4 * j + 1)) (xlk_ok okL_law6 rfl) (nI_add _ 1) (by omega) hL ?_
  refine XV.run C okL_law6 1 (q := (560, ([some (.ref (0)), some (.ref (4)), some (.ref (213)), some (.ref (219)), some (.int (nI (4 * j))), none, none, none, none], [.ref (219), .int (xxs G (4 * j + 1)), .ref (4)]))) rfl ?_
  refine XV.callSX C (As := [.ref (4), .int (xxs G (4 * j + 1)), .ref (219)]) (rest := []) (ct_L_pass hfl (by decide) hm hk hl hz z1 z2 ho hk6 (xxs G (4 * j + 1)) (by decide) ((blk_out (Or.inr (by decide))).trans h219)) (xlk_ok okL_law6 rfl) rfl wM_L_103 wS_L_pass wN_L wB_L_pass hy_L_pass (fun q => q.elim) ⟨Nat.le_of_ble_eq_true rfl, Nat.le_of_ble_eq_true rfl⟩ ⟨room_c (by omega), room_s (by omega)⟩ (Nat.le_of_ble_eq_true rfl) (fun r n h hp => ?_) (fun _ _ _ q => q.elim)
  obtain ⟨rfl, hp⟩ := hp
  rcases hp with ⟨hc, rfl, rfl⟩ | ⟨hc, rfl, rfl⟩ | ⟨hc, rfl, rfl⟩
  ·
    refine XV.cast lw_1 ?_
    refine XV.run C okL_law6 6 (q := (571, ([some (.ref (0)), some (.ref (4)), some (.ref (213)), some (.ref (219)), some (.int (nI (4 * j))), some (.int (0)), none, none, none], [.int ((nI (4 * j)) + 1), .ref (0), .ref (213)]))) rfl ?_
    refine XV.sald C (a := (4 * j + 1)) (xlk_ok okL_law6 rfl) (nI_add _ 1) (by omega) hL ?_
    refine XV.callV C (As := [.int (xxs G (4 * j + 1))]) (rest := []) (ci := 5) (ct_M_pass hfl (by decide) hm hk hz z1 z2 hF2 hk6 (xxs G (4 * j + 1))) (xlk_ok okL_law6 rfl) rfl (by decide) (by decide) rfl (mw_o) rfl wM_L_105 wI_M_pass wV_M_pass wN_M wB_M_pass hy_M_pass (fun q => q.elim) ⟨Nat.le_of_ble_eq_true rfl, Nat.le_of_ble_eq_true rfl⟩ ⟨room_c (by omega), room_s (by omega)⟩ (Nat.le_of_ble_eq_true rfl) (fun r n h hp => ?_) (fun _ _ _ q => q.elim)
    obtain ⟨rfl, ⟨v, rfl⟩, hp⟩ := hp
    rcases hp with ⟨hd, rfl⟩ | ⟨hd, rfl⟩ | ⟨hd, hr, rfl⟩
    ·
      obtain ⟨hc0, hc1⟩ := hc
      exfalso
      try simp only [le_tI, lt_tI, tI_0, tI_1, tc_4, tc_5, tc_7, tc_8, tc_9, tc_23, tc_24, tc_33, tc_99, tc_126, kI] at hc0
      try simp only [le_tI, lt_tI, tI_0, tI_1, tc_4, tc_5, tc_7, tc_8, tc_9, tc_23, tc_24, tc_33, tc_99, tc_126, kI] at hc1
      try simp only [le_tI, lt_tI, tI_0, tI_1, tc_4, tc_5, tc_7, tc_8, tc_9, tc_23, tc_24, tc_33, tc_99, tc_126, kI] at hd
      omega
    ·
      obtain ⟨hc0, hc1⟩ := hc
      exfalso
      try simp only [le_tI, lt_tI, tI_0, tI_1, tc_4, tc_5, tc_7, tc_8, tc_9, tc_23, tc_24, tc_33, tc_99, tc_126, kI] at hc0
      try simp only [le_tI, lt_tI, tI_0, tI_1, tc_4, tc_5, tc_7, tc_8, tc_9, tc_23, tc_24, tc_33, tc_99, tc_126, kI] at hc1
      try simp only [le_tI, lt_tI, tI_0, tI_1, tc_4, tc_5, tc_7, tc_8, tc_9, tc_23, tc_24, tc_33, tc_99, tc_126, kI] at hd
      omega
    ·
      obtain ⟨hc0, hc1⟩ := hc
      obtain ⟨hd0, hd1⟩ := hd
      cases hr
      -- both answer
      refine XV.run C okL_law6 2 (q := (578, ([some (.ref (0)), some (.ref (4)), some (.ref (213)), some (.ref (219)), some (.int (nI (4 * j))), some (.int (0)), some (.int ((nI (retM (upd f 0 (f 0 + (xxs G (4 * j + 1)))) z k9)))), none, none], [.ref (213)]))) rfl ?_
      refine XV.callV C (As := []) (rest := []) (ci := 5) (ct_M_thrown hfl (by decide)) (xlk_ok okL_law6 rfl) rfl (by decide) (by decide) rfl (mw_o) rfl wM_L_83 wI_M_thrown wV_M_thrown wN_M wB_M_thrown hy_M_thrown (fun q => q.elim) ⟨Nat.le_of_ble_eq_true rfl, Nat.le_of_ble_eq_true rfl⟩ ⟨room_c (by omega), room_s (by omega)⟩ (Nat.le_of_ble_eq_true rfl) (fun r n h hp => ?_) (fun _ _ _ q => q.elim)
      obtain ⟨rfl, rfl, rfl⟩ := hp
      refine XV.run C okL_law6 1 (q := (583, ([some (.ref (0)), some (.ref (4)), some (.ref (213)), some (.ref (219)), some (.int (nI (4 * j))), some (.int (0)), some (.int ((nI (retM (upd f 0 (f 0 + (xxs G (4 * j + 1)))) z k9)))), none, none], [.int (0), .int ((upd (upd F 6 0) 2 (nI (kK kp))) 6)]))) rfl ?_
      refine XV.icmp_eq C (tgt := 588) (xlk_ok okL_law6 rfl) rfl (fun _ => ?_) (fun hc => absurd ((upd_ne (by decide)).trans upd_eq) hc)
      refine XV.run C okL_law6 1 (q := (590, ([some (.ref (0)), some (.ref (4)), some (.ref (213)), some (.ref (219)), some (.int (nI (4 * j))), some (.int (0)), some (.int ((nI (retM (upd f 0 (f 0 + (xxs G (4 * j + 1)))) z k9)))), none, none], [.int (0)]))) rfl ?_
      refine XV.if_ne C (tgt := 605) (xlk_ok okL_law6 rfl) rfl (fun hc => absurd (rfl) hc) (fun _ => ?_)
      refine XV.run C okL_law6 2 (q := (595, ([some (.ref (0)), some (.ref (4)), some (.ref (213)), some (.ref (219)), some (.int (nI (4 * j))), some (.int (0)), some (.int ((nI (retM (upd f 0 (f 0 + (xxs G (4 * j + 1)))) z k9)))), none, none], [.int (0), .ref (219)]))) rfl ?_
      refine XV.lald C (N := 1) (a := 0) (f := vp_updL fo 0 (nI (retK (upd f 0 (f 0 + (xxs G (4 * j + 1)))) z k9)).toInt64) (xlk_ok okL_law6 rfl) (by decide) (by decide) (lw_219 (xup_at hb 219 _)) rfl (by decide) (by decide) ?_
      rw [upL_0]
      refine XV.run C okL_law6 3 (q := (600, ([some (.ref (0)), some (.ref (4)), some (.ref (213)), some (.ref (219)), some (.int (nI (4 * j))), some (.int (0)), some (.int ((nI (retM (upd f 0 (f 0 + (xxs G (4 * j + 1)))) z k9)))), none, none], [.int (lg_cmp ((nI (retK (upd f 0 (f 0 + (xxs G (4 * j + 1)))) z k9)).toInt64) (((nI (retM (upd f 0 (f 0 + (xxs G (4 * j + 1)))) z k9))).toInt64))]))) rfl ?_
      refine XV.if_eq C (tgt := 605) (xlk_ok okL_law6 rfl) rfl (fun _ => ?_) (fun hc => absurd (lcmp_eq (congrArg Int32.toInt64 (ret_pass hO z2 hc0 hc1))) hc)
      refine XV.run C okL_law6 1 (q := (1390, ([some (.ref (0)), some (.ref (4)), some (.ref (213)), some (.ref (219)), some (.int (nI (4 * j))), some (.int (0)), some (.int ((nI (retM (upd f 0 (f 0 + (xxs G (4 * j + 1)))) z k9)))), none, none], []))) rfl ?_
      exact XV.widen (by omega) (by omega) (XV.drop (kk _ _ _ _ _ _ _ _ _ _ _ _ _ _ (xup_at hb 219 _) ⟨OKs_pass hO hc0 hc1, kO_lt ho, kK_le hk6, PR_save ho hk6 hPR ⟨_, _, _, hO⟩, hl6, upd_eq, (upd_ne (by decide)).trans ((upd_ne (by decide)).trans hF5)⟩) rfl (by simp [xle]))
  ·
    refine XV.cast lw_0.symm ?_
    refine XV.run C okL_law6 6 (q := (571, ([some (.ref (0)), some (.ref (4)), some (.ref (213)), some (.ref (219)), some (.int (nI (4 * j))), some (.int (1)), none, none, none], [.int ((nI (4 * j)) + 1), .ref (0), .ref (213)]))) rfl ?_
    refine XV.sald C (a := (4 * j + 1)) (xlk_ok okL_law6 rfl) (nI_add _ 1) (by omega) hL ?_
    refine XV.callV C (As := [.int (xxs G (4 * j + 1))]) (rest := []) (ci := 5) (ct_M_pass hfl (by decide) hm hk hz z1 z2 hF2 hk6 (xxs G (4 * j + 1))) (xlk_ok okL_law6 rfl) rfl (by decide) (by decide) rfl (mw_o) rfl wM_L_105 wI_M_pass wV_M_pass wN_M wB_M_pass hy_M_pass (fun q => q.elim) ⟨Nat.le_of_ble_eq_true rfl, Nat.le_of_ble_eq_true rfl⟩ ⟨room_c (by omega), room_s (by omega)⟩ (Nat.le_of_ble_eq_true rfl) (fun r n h hp => ?_) (fun _ _ _ q => q.elim)
    obtain ⟨rfl, ⟨v, rfl⟩, hp⟩ := hp
    rcases hp with ⟨hd, rfl⟩ | ⟨hd, rfl⟩ | ⟨hd, hr, rfl⟩
    ·
      refine XV.run C okL_law6 2 (q := (578, ([some (.ref (0)), some (.ref (4)), some (.ref (213)), some (.ref (219)), some (.int (nI (4 * j))), some (.int (1)), some (.int (v)), none, none], [.ref (213)]))) rfl ?_
      refine XV.callV C (As := []) (rest := []) (ci := 5) (ct_M_thrown hfl (by decide)) (xlk_ok okL_law6 rfl) rfl (by decide) (by decide) rfl (mw_o) rfl wM_L_83 wI_M_thrown wV_M_thrown wN_M wB_M_thrown hy_M_thrown (fun q => q.elim) ⟨Nat.le_of_ble_eq_true rfl, Nat.le_of_ble_eq_true rfl⟩ ⟨room_c (by omega), room_s (by omega)⟩ (Nat.le_of_ble_eq_true rfl) (fun r n h hp => ?_) (fun _ _ _ q => q.elim)
      obtain ⟨rfl, rfl, rfl⟩ := hp
      refine XV.run C okL_law6 1 (q := (583, ([some (.ref (0)), some (.ref (4)), some (.ref (213)), some (.ref (219)), some (.int (nI (4 * j))), some (.int (1)), some (.int (v)), none, none], [.int (1), .int ((upd (upd F 6 0) 6 1) 6)]))) rfl ?_
      refine XV.icmp_eq C (tgt := 588) (xlk_ok okL_law6 rfl) rfl (fun _ => ?_) (fun hc => absurd (upd_eq) hc)
      refine XV.run C okL_law6 1 (q := (590, ([some (.ref (0)), some (.ref (4)), some (.ref (213)), some (.ref (219)), some (.int (nI (4 * j))), some (.int (1)), some (.int (v)), none, none], [.int (1)]))) rfl ?_
      refine XV.if_ne C (tgt := 605) (xlk_ok okL_law6 rfl) rfl (fun _ => ?_) (fun hc => absurd hc (by decide))
      refine XV.run C okL_law6 1 (q := (1390, ([some (.ref (0)), some (.ref (4)), some (.ref (213)), some (.ref (219)), some (.int (nI (4 * j))), some (.int (1)), some (.int (v)), none, none], []))) rfl ?_
      exact XV.widen (by omega) (by omega) (XV.drop (kk _ _ _ _ _ _ _ _ _ _ _ _ _ _ h219 ⟨⟨_, _, _, hO⟩, ho, hk6, hPR, hl6, (upd_ne (by decide)).trans ((upd_ne (by decide)).trans hF2), (upd_ne (by decide)).trans ((upd_ne (by decide)).trans hF5)⟩) rfl (by simp [xle]))
    ·
      exfalso
      try simp only [le_tI, lt_tI, tI_0, tI_1, tc_4, tc_5, tc_7, tc_8, tc_9, tc_23, tc_24, tc_33, tc_99, tc_126, kI] at hc
      try simp only [le_tI, lt_tI, tI_0, tI_1, tc_4, tc_5, tc_7, tc_8, tc_9, tc_23, tc_24, tc_33, tc_99, tc_126, kI] at hd
      omega
    ·
      obtain ⟨hd0, hd1⟩ := hd
      exfalso
      try simp only [le_tI, lt_tI, tI_0, tI_1, tc_4, tc_5, tc_7, tc_8, tc_9, tc_23, tc_24, tc_33, tc_99, tc_126, kI] at hc
      try simp only [le_tI, lt_tI, tI_0, tI_1, tc_4, tc_5, tc_7, tc_8, tc_9, tc_23, tc_24, tc_33, tc_99, tc_126, kI] at hd0
      try simp only [le_tI, lt_tI, tI_0, tI_1, tc_4, tc_5, tc_7, tc_8, tc_9, tc_23, tc_24, tc_33, tc_99, tc_126, kI] at hd1
      omega
  ·
    refine XV.cast lw_0.symm ?_
    refine XV.run C okL_law6 6 (q := (571, ([some (.ref (0)), some (.ref (4)), some (.ref (213)), some (.ref (219)), some (.int (nI (4 * j))), some (.int (2)), none, none, none], [.int ((nI (4 * j)) + 1), .ref (0), .ref (213)]))) rfl ?_
    refine XV.sald C (a := (4 * j + 1)) (xlk_ok okL_law6 rfl) (nI_add _ 1) (by omega) hL ?_
    refine XV.callV C (As := [.int (xxs G (4 * j + 1))]) (rest := []) (ci := 5) (ct_M_pass hfl (by decide) hm hk hz z1 z2 hF2 hk6 (xxs G (4 * j + 1))) (xlk_ok okL_law6 rfl) rfl (by decide) (by decide) rfl (mw_o) rfl wM_L_105 wI_M_pass wV_M_pass wN_M wB_M_pass hy_M_pass (fun q => q.elim) ⟨Nat.le_of_ble_eq_true rfl, Nat.le_of_ble_eq_true rfl⟩ ⟨room_c (by omega), room_s (by omega)⟩ (Nat.le_of_ble_eq_true rfl) (fun r n h hp => ?_) (fun _ _ _ q => q.elim)
    obtain ⟨rfl, ⟨v, rfl⟩, hp⟩ := hp
    rcases hp with ⟨hd, rfl⟩ | ⟨hd, rfl⟩ | ⟨hd, hr, rfl⟩
    ·
      exfalso
      try simp only [le_tI, lt_tI, tI_0, tI_1, tc_4, tc_5, tc_7, tc_8, tc_9, tc_23, tc_24, tc_33, tc_99, tc_126, kI] at hc
      try simp only [le_tI, lt_tI, tI_0, tI_1, tc_4, tc_5, tc_7, tc_8, tc_9, tc_23, tc_24, tc_33, tc_99, tc_126, kI] at hd
      omega
    ·
      refine XV.run C okL_law6 2 (q := (578, ([some (.ref (0)), some (.ref (4)), some (.ref (213)), some (.ref (219)), some (.int (nI (4 * j))), some (.int (2)), some (.int (v)), none, none], [.ref (213)]))) rfl ?_
      refine XV.callV C (As := []) (rest := []) (ci := 5) (ct_M_thrown hfl (by decide)) (xlk_ok okL_law6 rfl) rfl (by decide) (by decide) rfl (mw_o) rfl wM_L_83 wI_M_thrown wV_M_thrown wN_M wB_M_thrown hy_M_thrown (fun q => q.elim) ⟨Nat.le_of_ble_eq_true rfl, Nat.le_of_ble_eq_true rfl⟩ ⟨room_c (by omega), room_s (by omega)⟩ (Nat.le_of_ble_eq_true rfl) (fun r n h hp => ?_) (fun _ _ _ q => q.elim)
      obtain ⟨rfl, rfl, rfl⟩ := hp
      refine XV.run C okL_law6 1 (q := (583, ([some (.ref (0)), some (.ref (4)), some (.ref (213)), some (.ref (219)), some (.int (nI (4 * j))), some (.int (2)), some (.int (v)), none, none], [.int (2), .int ((upd (upd F 6 0) 6 2) 6)]))) rfl ?_
      refine XV.icmp_eq C (tgt := 588) (xlk_ok okL_law6 rfl) rfl (fun _ => ?_) (fun hc => absurd (upd_eq) hc)
      refine XV.run C okL_law6 1 (q := (590, ([some (.ref (0)), some (.ref (4)), some (.ref (213)), some (.ref (219)), some (.int (nI (4 * j))), some (.int (2)), some (.int (v)), none, none], [.int (2)]))) rfl ?_
      refine XV.if_ne C (tgt := 605) (xlk_ok okL_law6 rfl) rfl (fun _ => ?_) (fun hc => absurd hc (by decide))
      refine XV.run C okL_law6 1 (q := (1390, ([some (.ref (0)), some (.ref (4)), some (.ref (213)), some (.ref (219)), some (.int (nI (4 * j))), some (.int (2)), some (.int (v)), none, none], []))) rfl ?_
      exact XV.widen (by omega) (by omega) (XV.drop (kk _ _ _ _ _ _ _ _ _ _ _ _ _ _ h219 ⟨⟨_, _, _, hO⟩, ho, hk6, hPR, hl6, (upd_ne (by decide)).trans ((upd_ne (by decide)).trans hF2), (upd_ne (by decide)).trans ((upd_ne (by decide)).trans hF5)⟩) rfl (by simp [xle]))
    ·
      obtain ⟨hd0, hd1⟩ := hd
      exfalso
      try simp only [le_tI, lt_tI, tI_0, tI_1, tc_4, tc_5, tc_7, tc_8, tc_9, tc_23, tc_24, tc_33, tc_99, tc_126, kI] at hc
      try simp only [le_tI, lt_tI, tI_0, tI_1, tc_4, tc_5, tc_7, tc_8, tc_9, tc_23, tc_24, tc_33, tc_99, tc_126, kI] at hd0
      try simp only [le_tI, lt_tI, tI_0, tI_1, tc_4, tc_5, tc_7, tc_8, tc_9, tc_23, tc_24, tc_33, tc_99, tc_126, kI] at hd1
      omega
def kL_law7 : List (Nat × (Instr × Nat)) := [(608, (.aload_n 1, 1)), (609, (.aload_n 0, 1)), (610, (.iload 4, 2)), (612, (.iconst 1, 1)), (613, (.iadd, 1)), (614, (.iaload, 1)), (615, (.aload_n 3, 1)), (616, (.invokestatic 106, 3)), (619, (.istore 5, 2)), (621, (.aload_n 2, 1)), (622, (.aload_n 0, 1)), (623, (.iload 4, 2)), (625, (.iconst 1, 1)), (626, (.iadd, 1)), (627, (.iaload, 1)), (628, (.invokevirtual 108, 3)), (631, (.istore 6, 2)), (633, (.aload_n 2, 1)), (634, (.invokevirtual 83, 3)), (637, (.iload 5, 2)), (639, (.if_icmp .eq 5, 3)), (642, (.iconst 0, 1)), (643, (.ireturn, 1)), (644, (.iload 5, 2)), (646, (.ifCond .ne 15, 3)), (649, (.aload_n 3, 1)), (650, (.iconst 0, 1)), (651, (.laload, 1)), (652, (.iload 6, 2)), (654, (.i2l, 1)), (655, (.lcmp, 1)), (656, (.ifCond .eq 5, 3)), (659, (.iconst 0, 1)), (660, (.ireturn, 1)), (661, (.goto 729, 3))]
set_option maxRecDepth 100000 in
theorem okL_law7 : ∀ a ∈ kL_law7, decode code a.1 = .ok a.2 := by decide +kernel
set_option maxHeartbeats 4000000 in
set_option maxRecDepth 100000 in
theorem law_c7 (hfl : l.stackTraces = false) (hL : xL G < 2 ^ 31) (C : XCx G l "RopeThreadsLaw" code 9 p' s' m' g' t' c') (hk8 : k + 8 ≤ 601024) (hks : ks + 48 ≤ 7293034) (hj : 4 * j + 4 ≤ xL G) (h219 : hb 219 = outC fo) (hI : LI f o kp P len pa F) (kk : ∀ (hb : XH) (f : Nat → Int32) (o kp : Nat) (P : Nat → Nat → Int32) (tx : Nat → Int32) (len : Nat) (p : PT) (ρ pa tr td F : Nat → Int32) (fo : Nat → Int64), hb 219 = outC fo → LI f o kp P len pa F → XV G 9 p' l e' room_1 s' m' g' b' t' c' Q 1390 [some (.ref 0), some (.ref 4), some (.ref 213), some (.ref 219), some (.int (nI (4 * j))), none, none, none, none] [] 216 (setM (setCW hb f o kp P tx len p ρ) f pa tr tx td F) (k + 8) (ks + 48)) : XV G 9 p' l e' room_1 s' m' g' b' t' c' Q 608 [some (.ref 0), some (.ref 4), some (.ref 213), some (.ref 219), some (.int (nI (4 * j))), none, none, none, none] [] 216 (setM (setCW hb f o kp P tx len p ρ) f pa tr tx td F) (k) (ks) := by
  obtain ⟨⟨k9, m9, tt9, hO⟩, ho, hk6, hPR, hl6, hF2, hF5⟩ := hI
  have hm := hO.1
  have hk := hO.2.1
  have hl := hO.live
  obtain ⟨z, hz, z1, z2⟩ := hO.2.2.2.2.2.2.1.1
  have kI : (nI k9).toInt = (k9 : Int) := nI_tI (by omega)
  refine XV.cast lw_0 ?_
  refine XV.run C okL_law7 5 (q := (614, ([some (.ref (0)), some (.ref (4)), some (.ref (213)), some (.ref (219)), some (.int (nI (4 * j))), none, none, none, none], [.int ((nI (4 * j)) + 1), .ref (0), .ref (4)]))) rfl ?_
  refine XV.sald C (a := (4 * j + 1)) (xlk_ok okL_law7 rfl) (nI_add _ 1) (by omega) hL ?_
  refine XV.run C okL_law7 1 (q := (616, ([some (.ref (0)), some (.ref (4)), some (.ref (213)), some (.ref (219)), some (.int (nI (4 * j))), none, none, none, none], [.ref (219), .int (xxs G (4 * j + 1)), .ref (4)]))) rfl ?_
  refine XV.callSX C (As := [.ref (4), .int (xxs G (4 * j + 1)), .ref (219)]) (rest := []) (ct_L_append hfl (by decide) hl6 (xxs G (4 * j + 1)) (by decide) ((blk_out (Or.inr (by decide))).trans h219)) (xlk_ok okL_law7 rfl) rfl wM_L_106 wS_L_append wN_L wB_L_append hy_L_append (fun q => q.elim) ⟨Nat.le_of_ble_eq_true rfl, Nat.le_of_ble_eq_true rfl⟩ ⟨room_c (by omega), room_s (by omega)⟩ (Nat.le_of_ble_eq_true rfl) (fun r n h hp => ?_) (fun _ _ _ q => q.elim)
  obtain ⟨rfl, hp⟩ := hp
  rcases hp with ⟨hc, rfl, rfl⟩ | ⟨hc, rfl, rfl⟩ | ⟨hc, rfl, rfl⟩
  ·
    refine XV.cast lw_1 ?_
    refine XV.run C okL_law7 6 (q := (627, ([some (.ref (0)), some (.ref (4)), some (.ref (213)), some (.ref (219)), some (.int (nI (4 * j))), some (.int (0)), none, none, none], [.int ((nI (4 * j)) + 1), .ref (0), .ref (213)]))) rfl ?_
    refine XV.sald C (a := (4 * j + 1)) (xlk_ok okL_law7 rfl) (nI_add _ 1) (by omega) hL ?_
    refine XV.callV C (As := [.int (xxs G (4 * j + 1))]) (rest := []) (ci := 5) (ct_M_append hfl (by decide) hF5 hl6 (xxs G (4 * j + 1))) (xlk_ok okL_law7 rfl) rfl (by decide) (by decide) rfl (mw_o) rfl wM_L_108 wI_M_append wV_M_append wN_M wB_M_append hy_M_append (fun q => q.elim) ⟨Nat.le_of_ble_eq_true rfl, Nat.le_of_ble_eq_true rfl⟩ ⟨room_c (by omega), room_s (by omega)⟩ (Nat.le_of_ble_eq_true rfl) (fun r n h hp => ?_) (fun _ _ _ q => q.elim)
    obtain ⟨rfl, ⟨v, rfl⟩, hp⟩ := hp
    rcases hp with ⟨hd, rfl⟩ | ⟨hd, rfl⟩ | ⟨hd, hr, rfl⟩
    ·
      obtain ⟨hc0, hc1⟩ := hc
      exfalso
      try simp only [le_tI, lt_tI, tI_0, tI_1, tc_4, tc_5, tc_7, tc_8, tc_9, tc_23, tc_24, tc_33, tc_99, tc_126, kI] at hc0
      try simp only [le_tI, lt_tI, tI_0, tI_1, tc_4, tc_5, tc_7, tc_8, tc_9, tc_23, tc_24, tc_33, tc_99, tc_126, kI] at hc1
      try simp only [le_tI, lt_tI, tI_0, tI_1, tc_4, tc_5, tc_7, tc_8, tc_9, tc_23, tc_24, tc_33, tc_99, tc_126, kI] at hd
      omega
    ·
      obtain ⟨hc0, hc1⟩ := hc
      exfalso
      try simp only [le_tI, lt_tI, tI_0, tI_1, tc_4, tc_5, tc_7, tc_8, tc_9, tc_23, tc_24, tc_33, tc_99, tc_126, kI] at hc0
      try simp only [le_tI, lt_tI, tI_0, tI_1, tc_4, tc_5, tc_7, tc_8, tc_9, tc_23, tc_24, tc_33, tc_99, tc_126, kI] at hc1
      try simp only [le_tI, lt_tI, tI_0, tI_1, tc_4, tc_5, tc_7, tc_8, tc_9, tc_23, tc_24, tc_33, tc_99, tc_126, kI] at hd
      omega
    ·
      obtain ⟨hc0, hc1⟩ := hc
      obtain ⟨hd0, hd1⟩ := hd
      cases hr
      -- both answer
      refine XV.run C okL_law7 2 (q := (634, ([some (.ref (0)), some (.ref (4)), some (.ref (213)), some (.ref (219)), some (.int (nI (4 * j))), some (.int (0)), some (.int ((nI (len + 1)))), none, none], [.ref (213)]))) rfl ?_
      refine XV.callV C (As := []) (rest := []) (ci := 5) (ct_M_thrown hfl (by decide)) (xlk_ok okL_law7 rfl) rfl (by decide) (by decide) rfl (mw_o) rfl wM_L_83 wI_M_thrown wV_M_thrown wN_M wB_M_thrown hy_M_thrown (fun q => q.elim) ⟨Nat.le_of_ble_eq_true rfl, Nat.le_of_ble_eq_true rfl⟩ ⟨room_c (by omega), room_s (by omega)⟩ (Nat.le_of_ble_eq_true rfl) (fun r n h hp => ?_) (fun _ _ _ q => q.elim)
      obtain ⟨rfl, rfl, rfl⟩ := hp
      refine XV.run C okL_law7 1 (q := (639, ([some (.ref (0)), some (.ref (4)), some (.ref (213)), some (.ref (219)), some (.int (nI (4 * j))), some (.int (0)), some (.int ((nI (len + 1)))), none, none], [.int (0), .int ((upd (upd F 6 0) 5 (nI (len + 1))) 6)]))) rfl ?_
      refine XV.icmp_eq C (tgt := 644) (xlk_ok okL_law7 rfl) rfl (fun _ => ?_) (fun hc => absurd ((upd_ne (by decide)).trans upd_eq) hc)
      refine XV.run C okL_law7 1 (q := (646, ([some (.ref (0)), some (.ref (4)), some (.ref (213)), some (.ref (219)), some (.int (nI (4 * j))), some (.int (0)), some (.int ((nI (len + 1)))), none, none], [.int (0)]))) rfl ?_
      refine XV.if_ne C (tgt := 661) (xlk_ok okL_law7 rfl) rfl (fun hc => absurd (rfl) hc) (fun _ => ?_)
      refine XV.run C okL_law7 2 (q := (651, ([some (.ref (0)), some (.ref (4)), some (.ref (213)), some (.ref (219)), some (.int (nI (4 * j))), some (.int (0)), some (.int ((nI (len + 1)))), none, none], [.int (0), .ref (219)]))) rfl ?_
      refine XV.lald C (N := 1) (a := 0) (f := vp_updL fo 0 (nI (len + 1)).toInt64) (xlk_ok okL_law7 rfl) (by decide) (by decide) (lw_219 (xup_at hb 219 _)) rfl (by decide) (by decide) ?_
      rw [upL_0]
      refine XV.run C okL_law7 3 (q := (656, ([some (.ref (0)), some (.ref (4)), some (.ref (213)), some (.ref (219)), some (.int (nI (4 * j))), some (.int (0)), some (.int ((nI (len + 1)))), none, none], [.int (lg_cmp ((nI (len + 1)).toInt64) (((nI (len + 1))).toInt64))]))) rfl ?_
      refine XV.if_eq C (tgt := 661) (xlk_ok okL_law7 rfl) rfl (fun _ => ?_) (fun hc => absurd (lcmp_eq (congrArg Int32.toInt64 (rfl))) hc)
      refine XV.run C okL_law7 1 (q := (1390, ([some (.ref (0)), some (.ref (4)), some (.ref (213)), some (.ref (219)), some (.int (nI (4 * j))), some (.int (0)), some (.int ((nI (len + 1)))), none, none], []))) rfl ?_
      exact XV.widen (by omega) (by omega) (XV.drop (kk _ _ _ _ _ _ _ _ _ _ _ _ _ _ (xup_at hb 219 _) ⟨⟨_, _, _, hO⟩, ho, hk6, hPR, by omega, (upd_ne (by decide)).trans ((upd_ne (by decide)).trans hF2), upd_eq⟩) rfl (by simp [xle]))
  ·
    refine XV.cast lw_0.symm ?_
    refine XV.run C okL_law7 6 (q := (627, ([some (.ref (0)), some (.ref (4)), some (.ref (213)), some (.ref (219)), some (.int (nI (4 * j))), some (.int (1)), none, none, none], [.int ((nI (4 * j)) + 1), .ref (0), .ref (213)]))) rfl ?_
    refine XV.sald C (a := (4 * j + 1)) (xlk_ok okL_law7 rfl) (nI_add _ 1) (by omega) hL ?_
    refine XV.callV C (As := [.int (xxs G (4 * j + 1))]) (rest := []) (ci := 5) (ct_M_append hfl (by decide) hF5 hl6 (xxs G (4 * j + 1))) (xlk_ok okL_law7 rfl) rfl (by decide) (by decide) rfl (mw_o) rfl wM_L_108 wI_M_append wV_M_append wN_M wB_M_append hy_M_append (fun q => q.elim) ⟨Nat.le_of_ble_eq_true rfl, Nat.le_of_ble_eq_true rfl⟩ ⟨room_c (by omega), room_s (by omega)⟩ (Nat.le_of_ble_eq_true rfl) (fun r n h hp => ?_) (fun _ _ _ q => q.elim)
    obtain ⟨rfl, ⟨v, rfl⟩, hp⟩ := hp
    rcases hp with ⟨hd, rfl⟩ | ⟨hd, rfl⟩ | ⟨hd, hr, rfl⟩
    ·
      refine XV.run C okL_law7 2 (q := (634, ([some (.ref (0)), some (.ref (4)), some (.ref (213)), some (.ref (219)), some (.int (nI (4 * j))), some (.int (1)), some (.int (v)), none, none], [.ref (213)]))) rfl ?_
      refine XV.callV C (As := []) (rest := []) (ci := 5) (ct_M_thrown hfl (by decide)) (xlk_ok okL_law7 rfl) rfl (by decide) (by decide) rfl (mw_o) rfl wM_L_83 wI_M_thrown wV_M_thrown wN_M wB_M_thrown hy_M_thrown (fun q => q.elim) ⟨Nat.le_of_ble_eq_true rfl, Nat.le_of_ble_eq_true rfl⟩ ⟨room_c (by omega), room_s (by omega)⟩ (Nat.le_of_ble_eq_true rfl) (fun r n h hp => ?_) (fun _ _ _ q => q.elim)
      obtain ⟨rfl, rfl, rfl⟩ := hp
      refine XV.run C okL_law7 1 (q := (639, ([some (.ref (0)), some (.ref (4)), some (.ref (213)), some (.ref (219)), some (.int (nI (4 * j))), some (.int (1)), some (.int (v)), none, none], [.int (1), .int ((upd (upd F 6 0) 6 1) 6)]))) rfl ?_
      refine XV.icmp_eq C (tgt := 644) (xlk_ok okL_law7 rfl) rfl (fun _ => ?_) (fun hc => absurd (upd_eq) hc)
      refine XV.run C okL_law7 1 (q := (646, ([some (.ref (0)), some (.ref (4)), some (.ref (213)), some (.ref (219)), some (.int (nI (4 * j))), some (.int (1)), some (.int (v)), none, none], [.int (1)]))) rfl ?_
      refine XV.if_ne C (tgt := 661) (xlk_ok okL_law7 rfl) rfl (fun _ => ?_) (fun hc => absurd hc (by decide))
      refine XV.run C okL_law7 1 (q := (1390, ([some (.ref (0)), some (.ref (4)), some (.ref (213)), some (.ref (219)), some (.int (nI (4 * j))), some (.int (1)), some (.int (v)), none, none], []))) rfl ?_
      exact XV.widen (by omega) (by omega) (XV.drop (kk _ _ _ _ _ _ _ _ _ _ _ _ _ _ h219 ⟨⟨_, _, _, hO⟩, ho, hk6, hPR, hl6, (upd_ne (by decide)).trans ((upd_ne (by decide)).trans hF2), (upd_ne (by decide)).trans ((upd_ne (by decide)).trans hF5)⟩) rfl (by simp [xle]))
    ·
      exfalso
      try simp only [le_tI, lt_tI, tI_0, tI_1, tc_4, tc_5, tc_7, tc_8, tc_9, tc_23, tc_24, tc_33, tc_99, tc_126, kI] at hc
      try simp only [le_tI, lt_tI, tI_0, tI_1, tc_4, tc_5, tc_7, tc_8, tc_9, tc_23, tc_24, tc_33, tc_99, tc_126, kI] at hd
      omega
    ·
      obtain ⟨hd0, hd1⟩ := hd
      exfalso
      try simp only [le_tI, lt_tI, tI_0, tI_1, tc_4, tc_5, tc_7, tc_8, tc_9, tc_23, tc_24, tc_33, tc_99, tc_126, kI] at hc
      try simp only [le_tI, lt_tI, tI_0, tI_1, tc_4, tc_5, tc_7, tc_8, tc_9, tc_23, tc_24, tc_33, tc_99, tc_126, kI] at hd0
      try simp only [le_tI, lt_tI, tI_0, tI_1, tc_4, tc_5, tc_7, tc_8, tc_9, tc_23, tc_24, tc_33, tc_99, tc_126, kI] at hd1
      omega
  ·
    refine XV.cast lw_0.symm ?_
    refine XV.run C okL_law7 6 (q := (627, ([some (.ref (0)), some (.ref (4)), some (.ref (213)), some (.ref (219)), some (.int (nI (4 * j))), some (.int (2)), none, none, none], [.int ((nI (4 * j)) + 1), .ref (0), .ref (213)]))) rfl ?_
    refine XV.sald C (a := (4 * j + 1)) (xlk_ok okL_law7 rfl) (nI_add _ 1) (by omega) hL ?_
    refine XV.callV C (As := [.int (xxs G (4 * j + 1))]) (rest := []) (ci := 5) (ct_M_append hfl (by decide) hF5 hl6 (xxs G (4 * j + 1))) (xlk_ok okL_law7 rfl) rfl (by decide) (by decide) rfl (mw_o) rfl wM_L_108 wI_M_append wV_M_append wN_M wB_M_append hy_M_append (fun q => q.elim) ⟨Nat.le_of_ble_eq_true rfl, Nat.le_of_ble_eq_true rfl⟩ ⟨room_c (by omega), room_s (by omega)⟩ (Nat.le_of_ble_eq_true rfl) (fun r n h hp => ?_) (fun _ _ _ q => q.elim)
    obtain ⟨rfl, ⟨v, rfl⟩, hp⟩ := hp
    rcases hp with ⟨hd, rfl⟩ | ⟨hd, rfl⟩ | ⟨hd, hr, rfl⟩
    ·
      exfalso
      try simp only [le_tI, lt_tI, tI_0, tI_1, tc_4, tc_5, tc_7, tc_8, tc_9, tc_23, tc_24, tc_33, tc_99, tc_126, kI] at hc
      try simp only [le_tI, lt_tI, tI_0, tI_1, tc_4, tc_5, tc_7, tc_8, tc_9, tc_23, tc_24, tc_33, tc_99, tc_126, kI] at hd
      omega
    ·
      refine XV.run C okL_law7 2 (q := (634, ([some (.ref (0)), some (.ref (4)), some (.ref (213)), some (.ref (219)), some (.int (nI (4 * j))), some (.int (2)), some (.int (v)), none, none], [.ref (213)]))) rfl ?_
      refine XV.callV C (As := []) (rest := []) (ci := 5) (ct_M_thrown hfl (by decide)) (xlk_ok okL_law7 rfl) rfl (by decide) (by decide) rfl (mw_o) rfl wM_L_83 wI_M_thrown wV_M_thrown wN_M wB_M_thrown hy_M_thrown (fun q => q.elim) ⟨Nat.le_of_ble_eq_true rfl, Nat.le_of_ble_eq_true rfl⟩ ⟨room_c (by omega), room_s (by omega)⟩ (Nat.le_of_ble_eq_true rfl) (fun r n h hp => ?_) (fun _ _ _ q => q.elim)
      obtain ⟨rfl, rfl, rfl⟩ := hp
      refine XV.run C okL_law7 1 (q := (639, ([some (.ref (0)), some (.ref (4)), some (.ref (213)), some (.ref (219)), some (.int (nI (4 * j))), some (.int (2)), some (.int (v)), none, none], [.int (2), .int ((upd (upd F 6 0) 6 2) 6)]))) rfl ?_
      refine XV.icmp_eq C (tgt := 644) (xlk_ok okL_law7 rfl) rfl (fun _ => ?_) (fun hc => absurd (upd_eq) hc)
      refine XV.run C okL_law7 1 (q := (646, ([some (.ref (0)), some (.ref (4)), some (.ref (213)), some (.ref (219)), some (.int (nI (4 * j))), some (.int (2)), some (.int (v)), none, none], [.int (2)]))) rfl ?_
      refine XV.if_ne C (tgt := 661) (xlk_ok okL_law7 rfl) rfl (fun _ => ?_) (fun hc => absurd hc (by decide))
      refine XV.run C okL_law7 1 (q := (1390, ([some (.ref (0)), some (.ref (4)), some (.ref (213)), some (.ref (219)), some (.int (nI (4 * j))), some (.int (2)), some (.int (v)), none, none], []))) rfl ?_
      exact XV.widen (by omega) (by omega) (XV.drop (kk _ _ _ _ _ _ _ _ _ _ _ _ _ _ h219 ⟨⟨_, _, _, hO⟩, ho, hk6, hPR, hl6, (upd_ne (by decide)).trans ((upd_ne (by decide)).trans hF2), (upd_ne (by decide)).trans ((upd_ne (by decide)).trans hF5)⟩) rfl (by simp [xle]))
    ·
      obtain ⟨hd0, hd1⟩ := hd
      exfalso
      try simp only [le_tI, lt_tI, tI_0, tI_1, tc_4, tc_5, tc_7, tc_8, tc_9, tc_23, tc_24, tc_33, tc_99, tc_126, kI] at hc
      try simp only [le_tI, lt_tI, tI_0, tI_1, tc_4, tc_5, tc_7, tc_8, tc_9, tc_23, tc_24, tc_33, tc_99, tc_126, kI] at hd0
      try simp only [le_tI, lt_tI, tI_0, tI_1, tc_4, tc_5, tc_7, tc_8, tc_9, tc_23, tc_24, tc_33, tc_99, tc_126, kI] at hd1
      omega
def kL_law12 : List (Nat × (Instr × Nat)) := [(778, (.aload_n 1, 1)), (779, (.aload_n 0, 1)), (780, (.iload 4, 2)), (782, (.iconst 1, 1)), (783, (.iadd, 1)), (784, (.iaload, 1)), (785, (.aload_n 0, 1)), (786, (.iload 4, 2)), (788, (.iconst 2, 1)), (789, (.iadd, 1)), (790, (.iaload, 1)), (791, (.aload_n 3, 1)), (792, (.invokestatic 124, 3)), (795, (.istore 5, 2)), (797, (.aload_n 2, 1)), (798, (.aload_n 0, 1)), (799, (.iload 4, 2)), (801, (.iconst 1, 1)), (802, (.iadd, 1)), (803, (.iaload, 1)), (804, (.aload_n 0, 1)), (805, (.iload 4, 2)), (807, (.iconst 2, 1)), (808, (.iadd, 1)), (809, (.iaload, 1)), (810, (.invokevirtual 126, 3)), (813, (.istore 6, 2)), (815, (.aload_n 2, 1)), (816, (.invokevirtual 83, 3)), (819, (.iload 5, 2)), (821, (.if_icmp .eq 5, 3)), (824, (.iconst 0, 1)), (825, (.ireturn, 1)), (826, (.iload 5, 2)), (828, (.ifCond .ne 15, 3)), (831, (.aload_n 3, 1)), (832, (.iconst 0, 1)), (833, (.laload, 1)), (834, (.iload 6, 2)), (836, (.i2l, 1)), (837, (.lcmp, 1)), (838, (.ifCond .eq 5, 3)), (841, (.iconst 0, 1)), (842, (.ireturn, 1)), (843, (.goto 547, 3))]
set_option maxRecDepth 100000 in
theorem okL_law12 : ∀ a ∈ kL_law12, decode code a.1 = .ok a.2 := by decide +kernel
set_option maxHeartbeats 4000000 in
set_option maxRecDepth 100000 in
theorem law_c12 (hfl : l.stackTraces = false) (hL : xL G < 2 ^ 31) (C : XCx G l "RopeThreadsLaw" code 9 p' s' m' g' t' c') (hk8 : k + 8 ≤ 601024) (hks : ks + 48 ≤ 7293034) (hj : 4 * j + 4 ≤ xL G) (h219 : hb 219 = outC fo) (hI : LI f o kp P len pa F) (kk : ∀ (hb : XH) (f : Nat → Int32) (o kp : Nat) (P : Nat → Nat → Int32) (tx : Nat → Int32) (len : Nat) (p : PT) (ρ pa tr td F : Nat → Int32) (fo : Nat → Int64), hb 219 = outC fo → LI f o kp P len pa F → XV G 9 p' l e' room_1 s' m' g' b' t' c' Q 1390 [some (.ref 0), some (.ref 4), some (.ref 213), some (.ref 219), some (.int (nI (4 * j))), none, none, none, none] [] 216 (setM (setCW hb f o kp P tx len p ρ) f pa tr tx td F) (k + 8) (ks + 48)) : XV G 9 p' l e' room_1 s' m' g' b' t' c' Q 778 [some (.ref 0), some (.ref 4), some (.ref 213), some (.ref 219), some (.int (nI (4 * j))), none, none, none, none] [] 216 (setM (setCW hb f o kp P tx len p ρ) f pa tr tx td F) (k) (ks) := by
  obtain ⟨⟨k9, m9, tt9, hO⟩, ho, hk6, hPR, hl6, hF2, hF5⟩ := hI
  have hm := hO.1
  have hk := hO.2.1
  have hl := hO.live
  obtain ⟨z, hz, z1, z2⟩ := hO.2.2.2.2.2.2.1.1
  have kI : (nI k9).toInt = (k9 : Int) := nI_tI (by omega)
  refine XV.cast lw_0 ?_
  refine XV.run C okL_law12 5 (q := (784, ([some (.ref (0)), some (.ref (4)), some (.ref (213)), some (.ref (219)), some (.int (nI (4 * j))), none, none, none, none], [.int ((nI (4 * j)) + 1), .ref (0), .ref (4)]))) rfl ?_
  refine XV.sald C (a := (4 * j + 1)) (xlk_ok okL_law12 rfl) (nI_add _ 1) (by omega) hL ?_
  refine XV.run C okL_law12 4 (q := (790, ([some (.ref (0)), some (.ref (4)), some (.ref (213)), some (.ref (219)), some (.int (nI (4 * j))), none, none, none, none], [.int ((nI (4 * j)) + 2), .ref (0), .int (xxs G (4 * j + 1)), .ref (4)]))) rfl ?_
  refine XV.sald C (a := (4 * j + 2)) (xlk_ok okL_law12 rfl) (nI_add _ 2) (by omega) hL ?_
  refine XV.run C okL_law12 1 (q := (792, ([some (.ref (0)), some (.ref (4)), some (.ref (213)), some (.ref (219)), some (.int (nI (4 * j))), none, none, none, none], [.ref (219), .int (xxs G (4 * j + 2)), .int (xxs G (4 * j + 1)), .ref (4)]))) rfl ?_
  refine XV.callSX C (As := [.ref (4), .int (xxs G (4 * j + 1)), .int (xxs G (4 * j + 2)), .ref (219)]) (rest := []) (ct_L_rope hfl (by decide) hm hk hl hz z1 z2 (xxs G (4 * j + 1)) (xxs G (4 * j + 2)) (by decide) ((blk_out (Or.inr (by decide))).trans h219)) (xlk_ok okL_law12 rfl) rfl wM_L_124 wS_L_rope wN_L wB_L_rope hy_L_rope (fun q => q.elim) ⟨Nat.le_of_ble_eq_true rfl, Nat.le_of_ble_eq_true rfl⟩ ⟨room_c (by omega), room_s (by omega)⟩ (Nat.le_of_ble_eq_true rfl) (fun r n h hp => ?_) (fun _ _ _ q => q.elim)
  obtain ⟨rfl, hp⟩ := hp
  rcases hp with ⟨i1, w1, hc, rfl, rfl⟩ | ⟨hc, rfl, rfl⟩ | ⟨hc, rfl, rfl⟩
  ·
    refine XV.cast lw_1 ?_
    refine XV.run C okL_law12 6 (q := (803, ([some (.ref (0)), some (.ref (4)), some (.ref (213)), some (.ref (219)), some (.int (nI (4 * j))), some (.int (0)), none, none, none], [.int ((nI (4 * j)) + 1), .ref (0), .ref (213)]))) rfl ?_
    refine XV.sald C (a := (4 * j + 1)) (xlk_ok okL_law12 rfl) (nI_add _ 1) (by omega) hL ?_
    refine XV.run C okL_law12 4 (q := (809, ([some (.ref (0)), some (.ref (4)), some (.ref (213)), some (.ref (219)), some (.int (nI (4 * j))), some (.int (0)), none, none, none], [.int ((nI (4 * j)) + 2), .ref (0), .int (xxs G (4 * j + 1)), .ref (213)]))) rfl ?_
    refine XV.sald C (a := (4 * j + 2)) (xlk_ok okL_law12 rfl) (nI_add _ 2) (by omega) hL ?_
    refine XV.callV C (As := [.int (xxs G (4 * j + 1)), .int (xxs G (4 * j + 2))]) (rest := []) (ci := 5) (ct_M_rope hfl (by decide) hm hk hl hz z1 z2 (xxs G (4 * j + 1)) (xxs G (4 * j + 2))) (xlk_ok okL_law12 rfl) rfl (by decide) (by decide) rfl (mw_o) rfl wM_L_126 wI_M_rope wV_M_rope wN_M wB_M_rope hy_M_rope (fun q => q.elim) ⟨Nat.le_of_ble_eq_true rfl, Nat.le_of_ble_eq_true rfl⟩ ⟨room_c (by omega), room_s (by omega)⟩ (Nat.le_of_ble_eq_true rfl) (fun r n h hp => ?_) (fun _ _ _ q => q.elim)
    obtain ⟨rfl, ⟨v, rfl⟩, hp⟩ := hp
    rcases hp with ⟨hd, rfl⟩ | ⟨hd, rfl⟩ | ⟨i2, w2, hd, hr, rfl⟩
    ·
      obtain ⟨hc0, hc1, hc2, hc3⟩ := hc
      have thc0 := nI_teq hc0 (by omega)
      have thc2 := nI_teq hc2 (by omega)
      exfalso
      try simp only [le_tI, lt_tI, tI_0, tI_1, tc_4, tc_5, tc_7, tc_8, tc_9, tc_23, tc_24, tc_33, tc_99, tc_126, kI] at hc1
      try simp only [le_tI, lt_tI, tI_0, tI_1, tc_4, tc_5, tc_7, tc_8, tc_9, tc_23, tc_24, tc_33, tc_99, tc_126, kI] at hc3
      try simp only [le_tI, lt_tI, tI_0, tI_1, tc_4, tc_5, tc_7, tc_8, tc_9, tc_23, tc_24, tc_33, tc_99, tc_126, kI] at hd
      omega
    ·
      obtain ⟨hc0, hc1, hc2, hc3⟩ := hc
      have thc0 := nI_teq hc0 (by omega)
      have thc2 := nI_teq hc2 (by omega)
      exfalso
      try simp only [le_tI, lt_tI, tI_0, tI_1, tc_4, tc_5, tc_7, tc_8, tc_9, tc_23, tc_24, tc_33, tc_99, tc_126, kI] at hc1
      try simp only [le_tI, lt_tI, tI_0, tI_1, tc_4, tc_5, tc_7, tc_8, tc_9, tc_23, tc_24, tc_33, tc_99, tc_126, kI] at hc3
      try simp only [le_tI, lt_tI, tI_0, tI_1, tc_4, tc_5, tc_7, tc_8, tc_9, tc_23, tc_24, tc_33, tc_99, tc_126, kI] at hd
      omega
    ·
      obtain ⟨hc0, hc1, hc2, hc3⟩ := hc
      obtain ⟨hd0, hd1, hd2, hd3⟩ := hd
      have thc0 := nI_teq hc0 (by omega)
      have thc2 := nI_teq hc2 (by omega)
      have thd0 := nI_teq hd0 (by omega)
      have thd2 := nI_teq hd2 (by omega)
      obtain rfl : i1 = i2 := by omega
      obtain rfl : w1 = w2 := by omega
      cases hr
      -- both answer
      refine XV.run C okL_law12 2 (q := (816, ([some (.ref (0)), some (.ref (4)), some (.ref (213)), some (.ref (219)), some (.int (nI (4 * j))), some (.int (0)), some (.int ((ropeFigM f (rowOf f i1) z w1))), none, none], [.ref (213)]))) rfl ?_
      refine XV.callV C (As := []) (rest := []) (ci := 5) (ct_M_thrown hfl (by decide)) (xlk_ok okL_law12 rfl) rfl (by decide) (by decide) rfl (mw_o) rfl wM_L_83 wI_M_thrown wV_M_thrown wN_M wB_M_thrown hy_M_thrown (fun q => q.elim) ⟨Nat.le_of_ble_eq_true rfl, Nat.le_of_ble_eq_true rfl⟩ ⟨room_c (by omega), room_s (by omega)⟩ (Nat.le_of_ble_eq_true rfl) (fun r n h hp => ?_) (fun _ _ _ q => q.elim)
      obtain ⟨rfl, rfl, rfl⟩ := hp
      refine XV.run C okL_law12 1 (q := (821, ([some (.ref (0)), some (.ref (4)), some (.ref (213)), some (.ref (219)), some (.int (nI (4 * j))), some (.int (0)), some (.int ((ropeFigM f (rowOf f i1) z w1))), none, none], [.int (0), .int ((upd F 6 0) 6)]))) rfl ?_
      refine XV.icmp_eq C (tgt := 826) (xlk_ok okL_law12 rfl) rfl (fun _ => ?_) (fun hc => absurd (upd_eq) hc)
      refine XV.run C okL_law12 1 (q := (828, ([some (.ref (0)), some (.ref (4)), some (.ref (213)), some (.ref (219)), some (.int (nI (4 * j))), some (.int (0)), some (.int ((ropeFigM f (rowOf f i1) z w1))), none, none], [.int (0)]))) rfl ?_
      refine XV.if_ne C (tgt := 843) (xlk_ok okL_law12 rfl) rfl (fun hc => absurd (rfl) hc) (fun _ => ?_)
      refine XV.run C okL_law12 2 (q := (833, ([some (.ref (0)), some (.ref (4)), some (.ref (213)), some (.ref (219)), some (.int (nI (4 * j))), some (.int (0)), some (.int ((ropeFigM f (rowOf f i1) z w1))), none, none], [.int (0), .ref (219)]))) rfl ?_
      refine XV.lald C (N := 1) (a := 0) (f := vp_updL fo 0 (ropeFigK f (rowOf f i1) z w1).toInt64) (xlk_ok okL_law12 rfl) (by decide) (by decide) (lw_219 (xup_at hb 219 _)) rfl (by decide) (by decide) ?_
      rw [upL_0]
      refine XV.run C okL_law12 3 (q := (838, ([some (.ref (0)), some (.ref (4)), some (.ref (213)), some (.ref (219)), some (.int (nI (4 * j))), some (.int (0)), some (.int ((ropeFigM f (rowOf f i1) z w1))), none, none], [.int (lg_cmp ((ropeFigK f (rowOf f i1) z w1).toInt64) (((ropeFigM f (rowOf f i1) z w1)).toInt64))]))) rfl ?_
      refine XV.if_eq C (tgt := 843) (xlk_ok okL_law12 rfl) rfl (fun _ => ?_) (fun hc => absurd (lcmp_eq (congrArg Int32.toInt64 (hO.ropeFig hc1 z2 hc3))) hc)
      refine XV.run C okL_law12 1 (q := (1390, ([some (.ref (0)), some (.ref (4)), some (.ref (213)), some (.ref (219)), some (.int (nI (4 * j))), some (.int (0)), some (.int ((ropeFigM f (rowOf f i1) z w1))), none, none], []))) rfl ?_
      exact XV.widen (by omega) (by omega) (XV.drop (kk _ _ _ _ _ _ _ _ _ _ _ _ _ _ (xup_at hb 219 _) ⟨⟨_, _, _, hO⟩, ho, hk6, hPR, hl6, (upd_ne (by decide)).trans hF2, (upd_ne (by decide)).trans hF5⟩) rfl (by simp [xle]))
  ·
    refine XV.cast lw_0.symm ?_
    refine XV.run C okL_law12 6 (q := (803, ([some (.ref (0)), some (.ref (4)), some (.ref (213)), some (.ref (219)), some (.int (nI (4 * j))), some (.int (1)), none, none, none], [.int ((nI (4 * j)) + 1), .ref (0), .ref (213)]))) rfl ?_
    refine XV.sald C (a := (4 * j + 1)) (xlk_ok okL_law12 rfl) (nI_add _ 1) (by omega) hL ?_
    refine XV.run C okL_law12 4 (q := (809, ([some (.ref (0)), some (.ref (4)), some (.ref (213)), some (.ref (219)), some (.int (nI (4 * j))), some (.int (1)), none, none, none], [.int ((nI (4 * j)) + 2), .ref (0), .int (xxs G (4 * j + 1)), .ref (213)]))) rfl ?_
    refine XV.sald C (a := (4 * j + 2)) (xlk_ok okL_law12 rfl) (nI_add _ 2) (by omega) hL ?_
    refine XV.callV C (As := [.int (xxs G (4 * j + 1)), .int (xxs G (4 * j + 2))]) (rest := []) (ci := 5) (ct_M_rope hfl (by decide) hm hk hl hz z1 z2 (xxs G (4 * j + 1)) (xxs G (4 * j + 2))) (xlk_ok okL_law12 rfl) rfl (by decide) (by decide) rfl (mw_o) rfl wM_L_126 wI_M_rope wV_M_rope wN_M wB_M_rope hy_M_rope (fun q => q.elim) ⟨Nat.le_of_ble_eq_true rfl, Nat.le_of_ble_eq_true rfl⟩ ⟨room_c (by omega), room_s (by omega)⟩ (Nat.le_of_ble_eq_true rfl) (fun r n h hp => ?_) (fun _ _ _ q => q.elim)
    obtain ⟨rfl, ⟨v, rfl⟩, hp⟩ := hp
    rcases hp with ⟨hd, rfl⟩ | ⟨hd, rfl⟩ | ⟨i2, w2, hd, hr, rfl⟩
    ·
      refine XV.run C okL_law12 2 (q := (816, ([some (.ref (0)), some (.ref (4)), some (.ref (213)), some (.ref (219)), some (.int (nI (4 * j))), some (.int (1)), some (.int (v)), none, none], [.ref (213)]))) rfl ?_
      refine XV.callV C (As := []) (rest := []) (ci := 5) (ct_M_thrown hfl (by decide)) (xlk_ok okL_law12 rfl) rfl (by decide) (by decide) rfl (mw_o) rfl wM_L_83 wI_M_thrown wV_M_thrown wN_M wB_M_thrown hy_M_thrown (fun q => q.elim) ⟨Nat.le_of_ble_eq_true rfl, Nat.le_of_ble_eq_true rfl⟩ ⟨room_c (by omega), room_s (by omega)⟩ (Nat.le_of_ble_eq_true rfl) (fun r n h hp => ?_) (fun _ _ _ q => q.elim)
      obtain ⟨rfl, rfl, rfl⟩ := hp
      refine XV.run C okL_law12 1 (q := (821, ([some (.ref (0)), some (.ref (4)), some (.ref (213)), some (.ref (219)), some (.int (nI (4 * j))), some (.int (1)), some (.int (v)), none, none], [.int (1), .int ((upd (upd F 6 0) 6 1) 6)]))) rfl ?_
      refine XV.icmp_eq C (tgt := 826) (xlk_ok okL_law12 rfl) rfl (fun _ => ?_) (fun hc => absurd (upd_eq) hc)
      refine XV.run C okL_law12 1 (q := (828, ([some (.ref (0)), some (.ref (4)), some (.ref (213)), some (.ref (219)), some (.int (nI (4 * j))), some (.int (1)), some (.int (v)), none, none], [.int (1)]))) rfl ?_
      refine XV.if_ne C (tgt := 843) (xlk_ok okL_law12 rfl) rfl (fun _ => ?_) (fun hc => absurd hc (by decide))
      refine XV.run C okL_law12 1 (q := (1390, ([some (.ref (0)), some (.ref (4)), some (.ref (213)), some (.ref (219)), some (.int (nI (4 * j))), some (.int (1)), some (.int (v)), none, none], []))) rfl ?_
      exact XV.widen (by omega) (by omega) (XV.drop (kk _ _ _ _ _ _ _ _ _ _ _ _ _ _ h219 ⟨⟨_, _, _, hO⟩, ho, hk6, hPR, hl6, (upd_ne (by decide)).trans ((upd_ne (by decide)).trans hF2), (upd_ne (by decide)).trans ((upd_ne (by decide)).trans hF5)⟩) rfl (by simp [xle]))
    ·
      exfalso
      try simp only [le_tI, lt_tI, tI_0, tI_1, tc_4, tc_5, tc_7, tc_8, tc_9, tc_23, tc_24, tc_33, tc_99, tc_126, kI] at hc
      try simp only [le_tI, lt_tI, tI_0, tI_1, tc_4, tc_5, tc_7, tc_8, tc_9, tc_23, tc_24, tc_33, tc_99, tc_126, kI] at hd
      omega
    ·
      obtain ⟨hd0, hd1, hd2, hd3⟩ := hd
      have thd0 := nI_teq hd0 (by omega)
      have thd2 := nI_teq hd2 (by omega)
      exfalso
      try simp only [le_tI, lt_tI, tI_0, tI_1, tc_4, tc_5, tc_7, tc_8, tc_9, tc_23, tc_24, tc_33, tc_99, tc_126, kI] at hc
      try simp only [le_tI, lt_tI, tI_0, tI_1, tc_4, tc_5, tc_7, tc_8, tc_9, tc_23, tc_24, tc_33, tc_99, tc_126, kI] at hd1
      try simp only [le_tI, lt_tI, tI_0, tI_1, tc_4, tc_5, tc_7, tc_8, tc_9, tc_23, tc_24, tc_33, tc_99, tc_126, kI] at hd3
      omega
  ·
    refine XV.cast lw_0.symm ?_
    refine XV.run C okL_law12 6 (q := (803, ([some (.ref (0)), some (.ref (4)), some (.ref (213)), some (.ref (219)), some (.int (nI (4 * j))), some (.int (2)), none, none, none], [.int ((nI (4 * j)) + 1), .ref (0), .ref (213)]))) rfl ?_
    refine XV.sald C (a := (4 * j + 1)) (xlk_ok okL_law12 rfl) (nI_add _ 1) (by omega) hL ?_
    refine XV.run C okL_law12 4 (q := (809, ([some (.ref (0)), some (.ref (4)), some (.ref (213)), some (.ref (219)), some (.int (nI (4 * j))), some (.int (2)), none, none, none], [.int ((nI (4 * j)) + 2), .ref (0), .int (xxs G (4 * j + 1)), .ref (213)]))) rfl ?_
    refine XV.sald C (a := (4 * j + 2)) (xlk_ok okL_law12 rfl) (nI_add _ 2) (by omega) hL ?_
    refine XV.callV C (As := [.int (xxs G (4 * j + 1)), .int (xxs G (4 * j + 2))]) (rest := []) (ci := 5) (ct_M_rope hfl (by decide) hm hk hl hz z1 z2 (xxs G (4 * j + 1)) (xxs G (4 * j + 2))) (xlk_ok okL_law12 rfl) rfl (by decide) (by decide) rfl (mw_o) rfl wM_L_126 wI_M_rope wV_M_rope wN_M wB_M_rope hy_M_rope (fun q => q.elim) ⟨Nat.le_of_ble_eq_true rfl, Nat.le_of_ble_eq_true rfl⟩ ⟨room_c (by omega), room_s (by omega)⟩ (Nat.le_of_ble_eq_true rfl) (fun r n h hp => ?_) (fun _ _ _ q => q.elim)
    obtain ⟨rfl, ⟨v, rfl⟩, hp⟩ := hp
    rcases hp with ⟨hd, rfl⟩ | ⟨hd, rfl⟩ | ⟨i2, w2, hd, hr, rfl⟩
    ·
      exfalso
      try simp only [le_tI, lt_tI, tI_0, tI_1, tc_4, tc_5, tc_7, tc_8, tc_9, tc_23, tc_24, tc_33, tc_99, tc_126, kI] at hc
      try simp only [le_tI, lt_tI, tI_0, tI_1, tc_4, tc_5, tc_7, tc_8, tc_9, tc_23, tc_24, tc_33, tc_99, tc_126, kI] at hd
      omega
    ·
      refine XV.run C okL_law12 2 (q := (816, ([some (.ref (0)), some (.ref (4)), some (.ref (213)), some (.ref (219)), some (.int (nI (4 * j))), some (.int (2)), some (.int (v)), none, none], [.ref (213)]))) rfl ?_
      refine XV.callV C (As := []) (rest := []) (ci := 5) (ct_M_thrown hfl (by decide)) (xlk_ok okL_law12 rfl) rfl (by decide) (by decide) rfl (mw_o) rfl wM_L_83 wI_M_thrown wV_M_thrown wN_M wB_M_thrown hy_M_thrown (fun q => q.elim) ⟨Nat.le_of_ble_eq_true rfl, Nat.le_of_ble_eq_true rfl⟩ ⟨room_c (by omega), room_s (by omega)⟩ (Nat.le_of_ble_eq_true rfl) (fun r n h hp => ?_) (fun _ _ _ q => q.elim)
      obtain ⟨rfl, rfl, rfl⟩ := hp
      refine XV.run C okL_law12 1 (q := (821, ([some (.ref (0)), some (.ref (4)), some (.ref (213)), some (.ref (219)), some (.int (nI (4 * j))), some (.int (2)), some (.int (v)), none, none], [.int (2), .int ((upd (upd F 6 0) 6 2) 6)]))) rfl ?_
      refine XV.icmp_eq C (tgt := 826) (xlk_ok okL_law12 rfl) rfl (fun _ => ?_) (fun hc => absurd (upd_eq) hc)
      refine XV.run C okL_law12 1 (q := (828, ([some (.ref (0)), some (.ref (4)), some (.ref (213)), some (.ref (219)), some (.int (nI (4 * j))), some (.int (2)), some (.int (v)), none, none], [.int (2)]))) rfl ?_
      refine XV.if_ne C (tgt := 843) (xlk_ok okL_law12 rfl) rfl (fun _ => ?_) (fun hc => absurd hc (by decide))
      refine XV.run C okL_law12 1 (q := (1390, ([some (.ref (0)), some (.ref (4)), some (.ref (213)), some (.ref (219)), some (.int (nI (4 * j))), some (.int (2)), some (.int (v)), none, none], []))) rfl ?_
      exact XV.widen (by omega) (by omega) (XV.drop (kk _ _ _ _ _ _ _ _ _ _ _ _ _ _ h219 ⟨⟨_, _, _, hO⟩, ho, hk6, hPR, hl6, (upd_ne (by decide)).trans ((upd_ne (by decide)).trans hF2), (upd_ne (by decide)).trans ((upd_ne (by decide)).trans hF5)⟩) rfl (by simp [xle]))
    ·
      obtain ⟨hd0, hd1, hd2, hd3⟩ := hd
      have thd0 := nI_teq hd0 (by omega)
      have thd2 := nI_teq hd2 (by omega)
      exfalso
      try simp only [le_tI, lt_tI, tI_0, tI_1, tc_4, tc_5, tc_7, tc_8, tc_9, tc_23, tc_24, tc_33, tc_99, tc_126, kI] at hc
      try simp only [le_tI, lt_tI, tI_0, tI_1, tc_4, tc_5, tc_7, tc_8, tc_9, tc_23, tc_24, tc_33, tc_99, tc_126, kI] at hd1
      try simp only [le_tI, lt_tI, tI_0, tI_1, tc_4, tc_5, tc_7, tc_8, tc_9, tc_23, tc_24, tc_33, tc_99, tc_126, kI] at hd3
      omega
def kL_law13 : List (Nat × (Instr × Nat)) := [(846, (.aload_n 1, 1)), (847, (.aload_n 0, 1)), (848, (.iload 4, 2)), (850, (.iconst 1, 1)), (851, (.iadd, 1)), (852, (.iaload, 1)), (853, (.aload_n 0, 1)), (854, (.iload 4, 2)), (856, (.iconst 2, 1)), (857, (.iadd, 1)), (858, (.iaload, 1)), (859, (.aload_n 0, 1)), (860, (.iload 4, 2)), (862, (.iconst 3, 1)), (863, (.iadd, 1)), (864, (.iaload, 1)), (865, (.aload_n 3, 1)), (866, (.invokestatic 127, 3)), (869, (.istore 5, 2)), (871, (.aload_n 2, 1)), (872, (.aload_n 0, 1)), (873, (.iload 4, 2)), (875, (.iconst 1, 1)), (876, (.iadd, 1)), (877, (.iaload, 1)), (878, (.aload_n 0, 1)), (879, (.iload 4, 2)), (881, (.iconst 2, 1)), (882, (.iadd, 1)), (883, (.iaload, 1)), (884, (.aload_n 0, 1)), (885, (.iload 4, 2)), (887, (.iconst 3, 1)), (888, (.iadd, 1)), (889, (.iaload, 1)), (890, (.invokevirtual 129, 3)), (893, (.istore 6, 2)), (895, (.aload_n 2, 1)), (896, (.invokevirtual 83, 3)), (899, (.iload 5, 2)), (901, (.if_icmp .eq 5, 3)), (904, (.iconst 0, 1)), (905, (.ireturn, 1)), (906, (.iload 5, 2)), (908, (.ifCond .ne 15, 3)), (911, (.aload_n 3, 1)), (912, (.iconst 0, 1)), (913, (.laload, 1)), (914, (.iload 6, 2)), (916, (.i2l, 1)), (917, (.lcmp, 1)), (918, (.ifCond .eq 5, 3)), (921, (.iconst 0, 1)), (922, (.ireturn, 1)), (923, (.goto 467, 3))]
set_option maxRecDepth 100000 in
theorem okL_law13 : ∀ a ∈ kL_law13, decode code a.1 = .ok a.2 := by decide +kernel
set_option maxHeartbeats 4000000 in
set_option maxRecDepth 100000 in
theorem law_c13 (hfl : l.stackTraces = false) (hL : xL G < 2 ^ 31) (C : XCx G l "RopeThreadsLaw" code 9 p' s' m' g' t' c') (hk8 : k + 8 ≤ 601024) (hks : ks + 48 ≤ 7293034) (hj : 4 * j + 4 ≤ xL G) (h219 : hb 219 = outC fo) (hI : LI f o kp P len pa F) (kk : ∀ (hb : XH) (f : Nat → Int32) (o kp : Nat) (P : Nat → Nat → Int32) (tx : Nat → Int32) (len : Nat) (p : PT) (ρ pa tr td F : Nat → Int32) (fo : Nat → Int64), hb 219 = outC fo → LI f o kp P len pa F → XV G 9 p' l e' room_1 s' m' g' b' t' c' Q 1390 [some (.ref 0), some (.ref 4), some (.ref 213), some (.ref 219), some (.int (nI (4 * j))), none, none, none, none] [] 216 (setM (setCW hb f o kp P tx len p ρ) f pa tr tx td F) (k + 8) (ks + 48)) : XV G 9 p' l e' room_1 s' m' g' b' t' c' Q 846 [some (.ref 0), some (.ref 4), some (.ref 213), some (.ref 219), some (.int (nI (4 * j))), none, none, none, none] [] 216 (setM (setCW hb f o kp P tx len p ρ) f pa tr tx td F) (k) (ks) := by
  obtain ⟨⟨k9, m9, tt9, hO⟩, ho, hk6, hPR, hl6, hF2, hF5⟩ := hI
  have hm := hO.1
  have hk := hO.2.1
  have hl := hO.live
  obtain ⟨z, hz, z1, z2⟩ := hO.2.2.2.2.2.2.1.1
  have kI : (nI k9).toInt = (k9 : Int) := nI_tI (by omega)
  refine XV.cast lw_0 ?_
  refine XV.run C okL_law13 5 (q := (852, ([some (.ref (0)), some (.ref (4)), some (.ref (213)), some (.ref (219)), some (.int (nI (4 * j))), none, none, none, none], [.int ((nI (4 * j)) + 1), .ref (0), .ref (4)]))) rfl ?_
  refine XV.sald C (a := (4 * j + 1)) (xlk_ok okL_law13 rfl) (nI_add _ 1) (by omega) hL ?_
  refine XV.run C okL_law13 4 (q := (858, ([some (.ref (0)), some (.ref (4)), some (.ref (213)), some (.ref (219)), some (.int (nI (4 * j))), none, none, none, none], [.int ((nI (4 * j)) + 2), .ref (0), .int (xxs G (4 * j + 1)), .ref (4)]))) rfl ?_
  refine XV.sald C (a := (4 * j + 2)) (xlk_ok okL_law13 rfl) (nI_add _ 2) (by omega) hL ?_
  refine XV.run C okL_law13 4 (q := (864, ([some (.ref (0)), some (.ref (4)), some (.ref (213)), some (.ref (219)), some (.int (nI (4 * j))), none, none, none, none], [.int ((nI (4 * j)) + 3), .ref (0), .int (xxs G (4 * j + 2)), .int (xxs G (4 * j + 1)), .ref (4)]))) rfl ?_
  refine XV.sald C (a := (4 * j + 3)) (xlk_ok okL_law13 rfl) (nI_add _ 3) (by omega) hL ?_
  refine XV.run C okL_law13 1 (q := (866, ([some (.ref (0)), some (.ref (4)), some (.ref (213)), some (.ref (219)), some (.int (nI (4 * j))), none, none, none, none], [.ref (219), .int (xxs G (4 * j + 3)), .int (xxs G (4 * j + 2)), .int (xxs G (4 * j + 1)), .ref (4)]))) rfl ?_
  refine XV.callSX C (As := [.ref (4), .int (xxs G (4 * j + 1)), .int (xxs G (4 * j + 2)), .int (xxs G (4 * j + 3)), .ref (219)]) (rest := []) (ct_L_section hfl (by decide) hm hk hl (xxs G (4 * j + 1)) (xxs G (4 * j + 2)) (xxs G (4 * j + 3)) (by decide) ((blk_out (Or.inr (by decide))).trans h219)) (xlk_ok okL_law13 rfl) rfl wM_L_127 wS_L_section wN_L wB_L_section hy_L_section (fun q => q.elim) ⟨Nat.le_of_ble_eq_true rfl, Nat.le_of_ble_eq_true rfl⟩ ⟨room_c (by omega), room_s (by omega)⟩ (Nat.le_of_ble_eq_true rfl) (fun r n h hp => ?_) (fun _ _ _ q => q.elim)
  obtain ⟨rfl, hp⟩ := hp
  rcases hp with ⟨i1, s1, w1, hc, rfl, rfl⟩ | ⟨hc, rfl, rfl⟩ | ⟨hc, rfl, rfl⟩ | ⟨hc, rfl, rfl⟩
  ·
    refine XV.cast lw_1 ?_
    refine XV.run C okL_law13 6 (q := (877, ([some (.ref (0)), some (.ref (4)), some (.ref (213)), some (.ref (219)), some (.int (nI (4 * j))), some (.int (0)), none, none, none], [.int ((nI (4 * j)) + 1), .ref (0), .ref (213)]))) rfl ?_
    refine XV.sald C (a := (4 * j + 1)) (xlk_ok okL_law13 rfl) (nI_add _ 1) (by omega) hL ?_
    refine XV.run C okL_law13 4 (q := (883, ([some (.ref (0)), some (.ref (4)), some (.ref (213)), some (.ref (219)), some (.int (nI (4 * j))), some (.int (0)), none, none, none], [.int ((nI (4 * j)) + 2), .ref (0), .int (xxs G (4 * j + 1)), .ref (213)]))) rfl ?_
    refine XV.sald C (a := (4 * j + 2)) (xlk_ok okL_law13 rfl) (nI_add _ 2) (by omega) hL ?_
    refine XV.run C okL_law13 4 (q := (889, ([some (.ref (0)), some (.ref (4)), some (.ref (213)), some (.ref (219)), some (.int (nI (4 * j))), some (.int (0)), none, none, none], [.int ((nI (4 * j)) + 3), .ref (0), .int (xxs G (4 * j + 2)), .int (xxs G (4 * j + 1)), .ref (213)]))) rfl ?_
    refine XV.sald C (a := (4 * j + 3)) (xlk_ok okL_law13 rfl) (nI_add _ 3) (by omega) hL ?_
    refine XV.callV C (As := [.int (xxs G (4 * j + 1)), .int (xxs G (4 * j + 2)), .int (xxs G (4 * j + 3))]) (rest := []) (ci := 5) (ct_M_section hfl (by decide) hm hk hl (xxs G (4 * j + 1)) (xxs G (4 * j + 2)) (xxs G (4 * j + 3))) (xlk_ok okL_law13 rfl) rfl (by decide) (by decide) rfl (mw_o) rfl wM_L_129 wI_M_section wV_M_section wN_M wB_M_section hy_M_section (fun q => q.elim) ⟨Nat.le_of_ble_eq_true rfl, Nat.le_of_ble_eq_true rfl⟩ ⟨room_c (by omega), room_s (by omega)⟩ (Nat.le_of_ble_eq_true rfl) (fun r n h hp => ?_) (fun _ _ _ q => q.elim)
    obtain ⟨rfl, ⟨v, rfl⟩, hp⟩ := hp
    rcases hp with ⟨hd, rfl⟩ | ⟨hd, rfl⟩ | ⟨i2, s2, w2, hd, hr, rfl⟩
    ·
      obtain ⟨hc0, hc1, hc2, hc3, hc4, hc5⟩ := hc
      have thc0 := nI_teq hc0 (by omega)
      have thc2 := nI_teq hc2 (by omega)
      have thc4 := nI_teq hc4 (by omega)
      exfalso
      try simp only [le_tI, lt_tI, tI_0, tI_1, tc_4, tc_5, tc_7, tc_8, tc_9, tc_23, tc_24, tc_33, tc_99, tc_126, kI] at hc1
      try simp only [le_tI, lt_tI, tI_0, tI_1, tc_4, tc_5, tc_7, tc_8, tc_9, tc_23, tc_24, tc_33, tc_99, tc_126, kI] at hc3
      try simp only [le_tI, lt_tI, tI_0, tI_1, tc_4, tc_5, tc_7, tc_8, tc_9, tc_23, tc_24, tc_33, tc_99, tc_126, kI] at hc5
      try simp only [le_tI, lt_tI, tI_0, tI_1, tc_4, tc_5, tc_7, tc_8, tc_9, tc_23, tc_24, tc_33, tc_99, tc_126, kI] at hd
      omega
    ·
      obtain ⟨hc0, hc1, hc2, hc3, hc4, hc5⟩ := hc
      have thc0 := nI_teq hc0 (by omega)
      have thc2 := nI_teq hc2 (by omega)
      have thc4 := nI_teq hc4 (by omega)
      exfalso
      try simp only [le_tI, lt_tI, tI_0, tI_1, tc_4, tc_5, tc_7, tc_8, tc_9, tc_23, tc_24, tc_33, tc_99, tc_126, kI] at hc1
      try simp only [le_tI, lt_tI, tI_0, tI_1, tc_4, tc_5, tc_7, tc_8, tc_9, tc_23, tc_24, tc_33, tc_99, tc_126, kI] at hc3
      try simp only [le_tI, lt_tI, tI_0, tI_1, tc_4, tc_5, tc_7, tc_8, tc_9, tc_23, tc_24, tc_33, tc_99, tc_126, kI] at hc5
      try simp only [le_tI, lt_tI, tI_0, tI_1, tc_4, tc_5, tc_7, tc_8, tc_9, tc_23, tc_24, tc_33, tc_99, tc_126, kI] at hd
      omega
    ·
      obtain ⟨hc0, hc1, hc2, hc3, hc4, hc5⟩ := hc
      obtain ⟨hd0, hd1, hd2, hd3, hd4, hd5⟩ := hd
      have thc0 := nI_teq hc0 (by omega)
      have thc2 := nI_teq hc2 (by omega)
      have thc4 := nI_teq hc4 (by omega)
      have thd0 := nI_teq hd0 (by omega)
      have thd2 := nI_teq hd2 (by omega)
      have thd4 := nI_teq hd4 (by omega)
      obtain rfl : i1 = i2 := by omega
      obtain rfl : s1 = s2 := by omega
      obtain rfl : w1 = w2 := by omega
      cases hr
      -- both answer
      refine XV.run C okL_law13 2 (q := (896, ([some (.ref (0)), some (.ref (4)), some (.ref (213)), some (.ref (219)), some (.int (nI (4 * j))), some (.int (0)), some (.int ((secF (rowOf f i1) s1 w1))), none, none], [.ref (213)]))) rfl ?_
      refine XV.callV C (As := []) (rest := []) (ci := 5) (ct_M_thrown hfl (by decide)) (xlk_ok okL_law13 rfl) rfl (by decide) (by decide) rfl (mw_o) rfl wM_L_83 wI_M_thrown wV_M_thrown wN_M wB_M_thrown hy_M_thrown (fun q => q.elim) ⟨Nat.le_of_ble_eq_true rfl, Nat.le_of_ble_eq_true rfl⟩ ⟨room_c (by omega), room_s (by omega)⟩ (Nat.le_of_ble_eq_true rfl) (fun r n h hp => ?_) (fun _ _ _ q => q.elim)
      obtain ⟨rfl, rfl, rfl⟩ := hp
      refine XV.run C okL_law13 1 (q := (901, ([some (.ref (0)), some (.ref (4)), some (.ref (213)), some (.ref (219)), some (.int (nI (4 * j))), some (.int (0)), some (.int ((secF (rowOf f i1) s1 w1))), none, none], [.int (0), .int ((upd F 6 0) 6)]))) rfl ?_
      refine XV.icmp_eq C (tgt := 906) (xlk_ok okL_law13 rfl) rfl (fun _ => ?_) (fun hc => absurd (upd_eq) hc)
      refine XV.run C okL_law13 1 (q := (908, ([some (.ref (0)), some (.ref (4)), some (.ref (213)), some (.ref (219)), some (.int (nI (4 * j))), some (.int (0)), some (.int ((secF (rowOf f i1) s1 w1))), none, none], [.int (0)]))) rfl ?_
      refine XV.if_ne C (tgt := 923) (xlk_ok okL_law13 rfl) rfl (fun hc => absurd (rfl) hc) (fun _ => ?_)
      refine XV.run C okL_law13 2 (q := (913, ([some (.ref (0)), some (.ref (4)), some (.ref (213)), some (.ref (219)), some (.int (nI (4 * j))), some (.int (0)), some (.int ((secF (rowOf f i1) s1 w1))), none, none], [.int (0), .ref (219)]))) rfl ?_
      refine XV.lald C (N := 1) (a := 0) (f := vp_updL fo 0 (secF (rowOf f i1) s1 w1).toInt64) (xlk_ok okL_law13 rfl) (by decide) (by decide) (lw_219 (xup_at hb 219 _)) rfl (by decide) (by decide) ?_
      rw [upL_0]
      refine XV.run C okL_law13 3 (q := (918, ([some (.ref (0)), some (.ref (4)), some (.ref (213)), some (.ref (219)), some (.int (nI (4 * j))), some (.int (0)), some (.int ((secF (rowOf f i1) s1 w1))), none, none], [.int (lg_cmp ((secF (rowOf f i1) s1 w1).toInt64) (((secF (rowOf f i1) s1 w1)).toInt64))]))) rfl ?_
      refine XV.if_eq C (tgt := 923) (xlk_ok okL_law13 rfl) rfl (fun _ => ?_) (fun hc => absurd (lcmp_eq (congrArg Int32.toInt64 (rfl))) hc)
      refine XV.run C okL_law13 1 (q := (1390, ([some (.ref (0)), some (.ref (4)), some (.ref (213)), some (.ref (219)), some (.int (nI (4 * j))), some (.int (0)), some (.int ((secF (rowOf f i1) s1 w1))), none, none], []))) rfl ?_
      exact XV.widen (by omega) (by omega) (XV.drop (kk _ _ _ _ _ _ _ _ _ _ _ _ _ _ (xup_at hb 219 _) ⟨⟨_, _, _, hO⟩, ho, hk6, hPR, hl6, (upd_ne (by decide)).trans hF2, (upd_ne (by decide)).trans hF5⟩) rfl (by simp [xle]))
  ·
    refine XV.cast lw_0.symm ?_
    refine XV.run C okL_law13 6 (q := (877, ([some (.ref (0)), some (.ref (4)), some (.ref (213)), some (.ref (219)), some (.int (nI (4 * j))), some (.int (1)), none, none, none], [.int ((nI (4 * j)) + 1), .ref (0), .ref (213)]))) rfl ?_
    refine XV.sald C (a := (4 * j + 1)) (xlk_ok okL_law13 rfl) (nI_add _ 1) (by omega) hL ?_
    refine XV.run C okL_law13 4 (q := (883, ([some (.ref (0)), some (.ref (4)), some (.ref (213)), some (.ref (219)), some (.int (nI (4 * j))), some (.int (1)), none, none, none], [.int ((nI (4 * j)) + 2), .ref (0), .int (xxs G (4 * j + 1)), .ref (213)]))) rfl ?_
    refine XV.sald C (a := (4 * j + 2)) (xlk_ok okL_law13 rfl) (nI_add _ 2) (by omega) hL ?_
    refine XV.run C okL_law13 4 (q := (889, ([some (.ref (0)), some (.ref (4)), some (.ref (213)), some (.ref (219)), some (.int (nI (4 * j))), some (.int (1)), none, none, none], [.int ((nI (4 * j)) + 3), .ref (0), .int (xxs G (4 * j + 2)), .int (xxs G (4 * j + 1)), .ref (213)]))) rfl ?_
    refine XV.sald C (a := (4 * j + 3)) (xlk_ok okL_law13 rfl) (nI_add _ 3) (by omega) hL ?_
    refine XV.callV C (As := [.int (xxs G (4 * j + 1)), .int (xxs G (4 * j + 2)), .int (xxs G (4 * j + 3))]) (rest := []) (ci := 5) (ct_M_section hfl (by decide) hm hk hl (xxs G (4 * j + 1)) (xxs G (4 * j + 2)) (xxs G (4 * j + 3))) (xlk_ok okL_law13 rfl) rfl (by decide) (by decide) rfl (mw_o) rfl wM_L_129 wI_M_section wV_M_section wN_M wB_M_section hy_M_section (fun q => q.elim) ⟨Nat.le_of_ble_eq_true rfl, Nat.le_of_ble_eq_true rfl⟩ ⟨room_c (by omega), room_s (by omega)⟩ (Nat.le_of_ble_eq_true rfl) (fun r n h hp => ?_) (fun _ _ _ q => q.elim)
    obtain ⟨rfl, ⟨v, rfl⟩, hp⟩ := hp
    rcases hp with ⟨hd, rfl⟩ | ⟨hd, rfl⟩ | ⟨i2, s2, w2, hd, hr, rfl⟩
    ·
      refine XV.run C okL_law13 2 (q := (896, ([some (.ref (0)), some (.ref (4)), some (.ref (213)), some (.ref (219)), some (.int (nI (4 * j))), some (.int (1)), some (.int (v)), none, none], [.ref (213)]))) rfl ?_
      refine XV.callV C (As := []) (rest := []) (ci := 5) (ct_M_thrown hfl (by decide)) (xlk_ok okL_law13 rfl) rfl (by decide) (by decide) rfl (mw_o) rfl wM_L_83 wI_M_thrown wV_M_thrown wN_M wB_M_thrown hy_M_thrown (fun q => q.elim) ⟨Nat.le_of_ble_eq_true rfl, Nat.le_of_ble_eq_true rfl⟩ ⟨room_c (by omega), room_s (by omega)⟩ (Nat.le_of_ble_eq_true rfl) (fun r n h hp => ?_) (fun _ _ _ q => q.elim)
      obtain ⟨rfl, rfl, rfl⟩ := hp
      refine XV.run C okL_law13 1 (q := (901, ([some (.ref (0)), some (.ref (4)), some (.ref (213)), some (.ref (219)), some (.int (nI (4 * j))), some (.int (1)), some (.int (v)), none, none], [.int (1), .int ((upd (upd F 6 0) 6 1) 6)]))) rfl ?_
      refine XV.icmp_eq C (tgt := 906) (xlk_ok okL_law13 rfl) rfl (fun _ => ?_) (fun hc => absurd (upd_eq) hc)
      refine XV.run C okL_law13 1 (q := (908, ([some (.ref (0)), some (.ref (4)), some (.ref (213)), some (.ref (219)), some (.int (nI (4 * j))), some (.int (1)), some (.int (v)), none, none], [.int (1)]))) rfl ?_
      refine XV.if_ne C (tgt := 923) (xlk_ok okL_law13 rfl) rfl (fun _ => ?_) (fun hc => absurd hc (by decide))
      refine XV.run C okL_law13 1 (q := (1390, ([some (.ref (0)), some (.ref (4)), some (.ref (213)), some (.ref (219)), some (.int (nI (4 * j))), some (.int (1)), some (.int (v)), none, none], []))) rfl ?_
      exact XV.widen (by omega) (by omega) (XV.drop (kk _ _ _ _ _ _ _ _ _ _ _ _ _ _ h219 ⟨⟨_, _, _, hO⟩, ho, hk6, hPR, hl6, (upd_ne (by decide)).trans ((upd_ne (by decide)).trans hF2), (upd_ne (by decide)).trans ((upd_ne (by decide)).trans hF5)⟩) rfl (by simp [xle]))
    ·
      exfalso
      try simp only [le_tI, lt_tI, tI_0, tI_1, tc_4, tc_5, tc_7, tc_8, tc_9, tc_23, tc_24, tc_33, tc_99, tc_126, kI] at hc
      try simp only [le_tI, lt_tI, tI_0, tI_1, tc_4, tc_5, tc_7, tc_8, tc_9, tc_23, tc_24, tc_33, tc_99, tc_126, kI] at hd
      omega
    ·
      obtain ⟨hd0, hd1, hd2, hd3, hd4, hd5⟩ := hd
      have thd0 := nI_teq hd0 (by omega)
      have thd2 := nI_teq hd2 (by omega)
      have thd4 := nI_teq hd4 (by omega)
      exfalso
      try simp only [le_tI, lt_tI, tI_0, tI_1, tc_4, tc_5, tc_7, tc_8, tc_9, tc_23, tc_24, tc_33, tc_99, tc_126, kI] at hc
      try simp only [le_tI, lt_tI, tI_0, tI_1, tc_4, tc_5, tc_7, tc_8, tc_9, tc_23, tc_24, tc_33, tc_99, tc_126, kI] at hd1
      try simp only [le_tI, lt_tI, tI_0, tI_1, tc_4, tc_5, tc_7, tc_8, tc_9, tc_23, tc_24, tc_33, tc_99, tc_126, kI] at hd3
      try simp only [le_tI, lt_tI, tI_0, tI_1, tc_4, tc_5, tc_7, tc_8, tc_9, tc_23, tc_24, tc_33, tc_99, tc_126, kI] at hd5
      omega
  ·
    refine XV.cast lw_0.symm ?_
    refine XV.run C okL_law13 6 (q := (877, ([some (.ref (0)), some (.ref (4)), some (.ref (213)), some (.ref (219)), some (.int (nI (4 * j))), some (.int (1)), none, none, none], [.int ((nI (4 * j)) + 1), .ref (0), .ref (213)]))) rfl ?_
    refine XV.sald C (a := (4 * j + 1)) (xlk_ok okL_law13 rfl) (nI_add _ 1) (by omega) hL ?_
    refine XV.run C okL_law13 4 (q := (883, ([some (.ref (0)), some (.ref (4)), some (.ref (213)), some (.ref (219)), some (.int (nI (4 * j))), some (.int (1)), none, none, none], [.int ((nI (4 * j)) + 2), .ref (0), .int (xxs G (4 * j + 1)), .ref (213)]))) rfl ?_
    refine XV.sald C (a := (4 * j + 2)) (xlk_ok okL_law13 rfl) (nI_add _ 2) (by omega) hL ?_
    refine XV.run C okL_law13 4 (q := (889, ([some (.ref (0)), some (.ref (4)), some (.ref (213)), some (.ref (219)), some (.int (nI (4 * j))), some (.int (1)), none, none, none], [.int ((nI (4 * j)) + 3), .ref (0), .int (xxs G (4 * j + 2)), .int (xxs G (4 * j + 1)), .ref (213)]))) rfl ?_
    refine XV.sald C (a := (4 * j + 3)) (xlk_ok okL_law13 rfl) (nI_add _ 3) (by omega) hL ?_
    refine XV.callV C (As := [.int (xxs G (4 * j + 1)), .int (xxs G (4 * j + 2)), .int (xxs G (4 * j + 3))]) (rest := []) (ci := 5) (ct_M_section hfl (by decide) hm hk hl (xxs G (4 * j + 1)) (xxs G (4 * j + 2)) (xxs G (4 * j + 3))) (xlk_ok okL_law13 rfl) rfl (by decide) (by decide) rfl (mw_o) rfl wM_L_129 wI_M_section wV_M_section wN_M wB_M_section hy_M_section (fun q => q.elim) ⟨Nat.le_of_ble_eq_true rfl, Nat.le_of_ble_eq_true rfl⟩ ⟨room_c (by omega), room_s (by omega)⟩ (Nat.le_of_ble_eq_true rfl) (fun r n h hp => ?_) (fun _ _ _ q => q.elim)
    obtain ⟨rfl, ⟨v, rfl⟩, hp⟩ := hp
    rcases hp with ⟨hd, rfl⟩ | ⟨hd, rfl⟩ | ⟨i2, s2, w2, hd, hr, rfl⟩
    ·
      refine XV.run C okL_law13 2 (q := (896, ([some (.ref (0)), some (.ref (4)), some (.ref (213)), some (.ref (219)), some (.int (nI (4 * j))), some (.int (1)), some (.int (v)), none, none], [.ref (213)]))) rfl ?_
      refine XV.callV C (As := []) (rest := []) (ci := 5) (ct_M_thrown hfl (by decide)) (xlk_ok okL_law13 rfl) rfl (by decide) (by decide) rfl (mw_o) rfl wM_L_83 wI_M_thrown wV_M_thrown wN_M wB_M_thrown hy_M_thrown (fun q => q.elim) ⟨Nat.le_of_ble_eq_true rfl, Nat.le_of_ble_eq_true rfl⟩ ⟨room_c (by omega), room_s (by omega)⟩ (Nat.le_of_ble_eq_true rfl) (fun r n h hp => ?_) (fun _ _ _ q => q.elim)
      obtain ⟨rfl, rfl, rfl⟩ := hp
      refine XV.run C okL_law13 1 (q := (901, ([some (.ref (0)), some (.ref (4)), some (.ref (213)), some (.ref (219)), some (.int (nI (4 * j))), some (.int (1)), some (.int (v)), none, none], [.int (1), .int ((upd (upd F 6 0) 6 1) 6)]))) rfl ?_
      refine XV.icmp_eq C (tgt := 906) (xlk_ok okL_law13 rfl) rfl (fun _ => ?_) (fun hc => absurd (upd_eq) hc)
      refine XV.run C okL_law13 1 (q := (908, ([some (.ref (0)), some (.ref (4)), some (.ref (213)), some (.ref (219)), some (.int (nI (4 * j))), some (.int (1)), some (.int (v)), none, none], [.int (1)]))) rfl ?_
      refine XV.if_ne C (tgt := 923) (xlk_ok okL_law13 rfl) rfl (fun _ => ?_) (fun hc => absurd hc (by decide))
      refine XV.run C okL_law13 1 (q := (1390, ([some (.ref (0)), some (.ref (4)), some (.ref (213)), some (.ref (219)), some (.int (nI (4 * j))), some (.int (1)), some (.int (v)), none, none], []))) rfl ?_
      exact XV.widen (by omega) (by omega) (XV.drop (kk _ _ _ _ _ _ _ _ _ _ _ _ _ _ h219 ⟨⟨_, _, _, hO⟩, ho, hk6, hPR, hl6, (upd_ne (by decide)).trans ((upd_ne (by decide)).trans hF2), (upd_ne (by decide)).trans ((upd_ne (by decide)).trans hF5)⟩) rfl (by simp [xle]))
    ·
      exfalso
      try simp only [le_tI, lt_tI, tI_0, tI_1, tc_4, tc_5, tc_7, tc_8, tc_9, tc_23, tc_24, tc_33, tc_99, tc_126, kI] at hc
      try simp only [le_tI, lt_tI, tI_0, tI_1, tc_4, tc_5, tc_7, tc_8, tc_9, tc_23, tc_24, tc_33, tc_99, tc_126, kI] at hd
      omega
    ·
      obtain ⟨hd0, hd1, hd2, hd3, hd4, hd5⟩ := hd
      have thd0 := nI_teq hd0 (by omega)
      have thd2 := nI_teq hd2 (by omega)
      have thd4 := nI_teq hd4 (by omega)
      exfalso
      try simp only [le_tI, lt_tI, tI_0, tI_1, tc_4, tc_5, tc_7, tc_8, tc_9, tc_23, tc_24, tc_33, tc_99, tc_126, kI] at hc
      try simp only [le_tI, lt_tI, tI_0, tI_1, tc_4, tc_5, tc_7, tc_8, tc_9, tc_23, tc_24, tc_33, tc_99, tc_126, kI] at hd1
      try simp only [le_tI, lt_tI, tI_0, tI_1, tc_4, tc_5, tc_7, tc_8, tc_9, tc_23, tc_24, tc_33, tc_99, tc_126, kI] at hd3
      try simp only [le_tI, lt_tI, tI_0, tI_1, tc_4, tc_5, tc_7, tc_8, tc_9, tc_23, tc_24, tc_33, tc_99, tc_126, kI] at hd5
      omega
  ·
    refine XV.cast lw_0.symm ?_
    refine XV.run C okL_law13 6 (q := (877, ([some (.ref (0)), some (.ref (4)), some (.ref (213)), some (.ref (219)), some (.int (nI (4 * j))), some (.int (2)), none, none, none], [.int ((nI (4 * j)) + 1), .ref (0), .ref (213)]))) rfl ?_
    refine XV.sald C (a := (4 * j + 1)) (xlk_ok okL_law13 rfl) (nI_add _ 1) (by omega) hL ?_
    refine XV.run C okL_law13 4 (q := (883, ([some (.ref (0)), some (.ref (4)), some (.ref (213)), some (.ref (219)), some (.int (nI (4 * j))), some (.int (2)), none, none, none], [.int ((nI (4 * j)) + 2), .ref (0), .int (xxs G (4 * j + 1)), .ref (213)]))) rfl ?_
    refine XV.sald C (a := (4 * j + 2)) (xlk_ok okL_law13 rfl) (nI_add _ 2) (by omega) hL ?_
    refine XV.run C okL_law13 4 (q := (889, ([some (.ref (0)), some (.ref (4)), some (.ref (213)), some (.ref (219)), some (.int (nI (4 * j))), some (.int (2)), none, none, none], [.int ((nI (4 * j)) + 3), .ref (0), .int (xxs G (4 * j + 2)), .int (xxs G (4 * j + 1)), .ref (213)]))) rfl ?_
    refine XV.sald C (a := (4 * j + 3)) (xlk_ok okL_law13 rfl) (nI_add _ 3) (by omega) hL ?_
    refine XV.callV C (As := [.int (xxs G (4 * j + 1)), .int (xxs G (4 * j + 2)), .int (xxs G (4 * j + 3))]) (rest := []) (ci := 5) (ct_M_section hfl (by decide) hm hk hl (xxs G (4 * j + 1)) (xxs G (4 * j + 2)) (xxs G (4 * j + 3))) (xlk_ok okL_law13 rfl) rfl (by decide) (by decide) rfl (mw_o) rfl wM_L_129 wI_M_section wV_M_section wN_M wB_M_section hy_M_section (fun q => q.elim) ⟨Nat.le_of_ble_eq_true rfl, Nat.le_of_ble_eq_true rfl⟩ ⟨room_c (by omega), room_s (by omega)⟩ (Nat.le_of_ble_eq_true rfl) (fun r n h hp => ?_) (fun _ _ _ q => q.elim)
    obtain ⟨rfl, ⟨v, rfl⟩, hp⟩ := hp
    rcases hp with ⟨hd, rfl⟩ | ⟨hd, rfl⟩ | ⟨i2, s2, w2, hd, hr, rfl⟩
    ·
      exfalso
      try simp only [le_tI, lt_tI, tI_0, tI_1, tc_4, tc_5, tc_7, tc_8, tc_9, tc_23, tc_24, tc_33, tc_99, tc_126, kI] at hc
      try simp only [le_tI, lt_tI, tI_0, tI_1, tc_4, tc_5, tc_7, tc_8, tc_9, tc_23, tc_24, tc_33, tc_99, tc_126, kI] at hd
      omega
    ·
      refine XV.run C okL_law13 2 (q := (896, ([some (.ref (0)), some (.ref (4)), some (.ref (213)), some (.ref (219)), some (.int (nI (4 * j))), some (.int (2)), some (.int (v)), none, none], [.ref (213)]))) rfl ?_
      refine XV.callV C (As := []) (rest := []) (ci := 5) (ct_M_thrown hfl (by decide)) (xlk_ok okL_law13 rfl) rfl (by decide) (by decide) rfl (mw_o) rfl wM_L_83 wI_M_thrown wV_M_thrown wN_M wB_M_thrown hy_M_thrown (fun q => q.elim) ⟨Nat.le_of_ble_eq_true rfl, Nat.le_of_ble_eq_true rfl⟩ ⟨room_c (by omega), room_s (by omega)⟩ (Nat.le_of_ble_eq_true rfl) (fun r n h hp => ?_) (fun _ _ _ q => q.elim)
      obtain ⟨rfl, rfl, rfl⟩ := hp
      refine XV.run C okL_law13 1 (q := (901, ([some (.ref (0)), some (.ref (4)), some (.ref (213)), some (.ref (219)), some (.int (nI (4 * j))), some (.int (2)), some (.int (v)), none, none], [.int (2), .int ((upd (upd F 6 0) 6 2) 6)]))) rfl ?_
      refine XV.icmp_eq C (tgt := 906) (xlk_ok okL_law13 rfl) rfl (fun _ => ?_) (fun hc => absurd (upd_eq) hc)
      refine XV.run C okL_law13 1 (q := (908, ([some (.ref (0)), some (.ref (4)), some (.ref (213)), some (.ref (219)), some (.int (nI (4 * j))), some (.int (2)), some (.int (v)), none, none], [.int (2)]))) rfl ?_
      refine XV.if_ne C (tgt := 923) (xlk_ok okL_law13 rfl) rfl (fun _ => ?_) (fun hc => absurd hc (by decide))
      refine XV.run C okL_law13 1 (q := (1390, ([some (.ref (0)), some (.ref (4)), some (.ref (213)), some (.ref (219)), some (.int (nI (4 * j))), some (.int (2)), some (.int (v)), none, none], []))) rfl ?_
      exact XV.widen (by omega) (by omega) (XV.drop (kk _ _ _ _ _ _ _ _ _ _ _ _ _ _ h219 ⟨⟨_, _, _, hO⟩, ho, hk6, hPR, hl6, (upd_ne (by decide)).trans ((upd_ne (by decide)).trans hF2), (upd_ne (by decide)).trans ((upd_ne (by decide)).trans hF5)⟩) rfl (by simp [xle]))
    ·
      obtain ⟨hd0, hd1, hd2, hd3, hd4, hd5⟩ := hd
      have thd0 := nI_teq hd0 (by omega)
      have thd2 := nI_teq hd2 (by omega)
      have thd4 := nI_teq hd4 (by omega)
      exfalso
      try simp only [le_tI, lt_tI, tI_0, tI_1, tc_4, tc_5, tc_7, tc_8, tc_9, tc_23, tc_24, tc_33, tc_99, tc_126, kI] at hc
      try simp only [le_tI, lt_tI, tI_0, tI_1, tc_4, tc_5, tc_7, tc_8, tc_9, tc_23, tc_24, tc_33, tc_99, tc_126, kI] at hd1
      try simp only [le_tI, lt_tI, tI_0, tI_1, tc_4, tc_5, tc_7, tc_8, tc_9, tc_23, tc_24, tc_33, tc_99, tc_126, kI] at hd3
      try simp only [le_tI, lt_tI, tI_0, tI_1, tc_4, tc_5, tc_7, tc_8, tc_9, tc_23, tc_24, tc_33, tc_99, tc_126, kI] at hd5
      omega
def kL_law14 : List (Nat × (Instr × Nat)) := [(926, (.aload_n 1, 1)), (927, (.aload_n 0, 1)), (928, (.iload 4, 2)), (930, (.iconst 1, 1)), (931, (.iadd, 1)), (932, (.iaload, 1)), (933, (.aload_n 0, 1)), (934, (.iload 4, 2)), (936, (.iconst 2, 1)), (937, (.iadd, 1)), (938, (.iaload, 1)), (939, (.aload_n 0, 1)), (940, (.iload 4, 2)), (942, (.iconst 3, 1)), (943, (.iadd, 1)), (944, (.iaload, 1)), (945, (.aload_n 3, 1)), (946, (.invokestatic 130, 3)), (949, (.istore 5, 2)), (951, (.aload_n 2, 1)), (952, (.aload_n 0, 1)), (953, (.iload 4, 2)), (955, (.iconst 1, 1)), (956, (.iadd, 1)), (957, (.iaload, 1)), (958, (.aload_n 0, 1)), (959, (.iload 4, 2)), (961, (.iconst 2, 1)), (962, (.iadd, 1)), (963, (.iaload, 1)), (964, (.aload_n 0, 1)), (965, (.iload 4, 2)), (967, (.iconst 3, 1)), (968, (.iadd, 1)), (969, (.iaload, 1)), (970, (.invokevirtual 132, 3)), (973, (.istore 6, 2)), (975, (.aload_n 2, 1)), (976, (.invokevirtual 83, 3)), (979, (.iload 5, 2)), (981, (.if_icmp .eq 5, 3)), (984, (.iconst 0, 1)), (985, (.ireturn, 1)), (986, (.iload 5, 2)), (988, (.ifCond .ne 15, 3)), (991, (.aload_n 3, 1)), (992, (.iconst 0, 1)), (993, (.laload, 1)), (994, (.iload 6, 2)), (996, (.i2l, 1)), (997, (.lcmp, 1)), (998, (.ifCond .eq 5, 3)), (1001, (.iconst 0, 1)), (1002, (.ireturn, 1)), (1003, (.goto 387, 3))]
set_option maxRecDepth 100000 in
theorem okL_law14 : ∀ a ∈ kL_law14, decode code a.1 = .ok a.2 := by decide +kernel
set_option maxHeartbeats 4000000 in
set_option maxRecDepth 100000 in
theorem law_c14 (hfl : l.stackTraces = false) (hL : xL G < 2 ^ 31) (C : XCx G l "RopeThreadsLaw" code 9 p' s' m' g' t' c') (hk8 : k + 8 ≤ 601024) (hks : ks + 48 ≤ 7293034) (hj : 4 * j + 4 ≤ xL G) (h219 : hb 219 = outC fo) (hI : LI f o kp P len pa F) (kk : ∀ (hb : XH) (f : Nat → Int32) (o kp : Nat) (P : Nat → Nat → Int32) (tx : Nat → Int32) (len : Nat) (p : PT) (ρ pa tr td F : Nat → Int32) (fo : Nat → Int64), hb 219 = outC fo → LI f o kp P len pa F → XV G 9 p' l e' room_1 s' m' g' b' t' c' Q 1390 [some (.ref 0), some (.ref 4), some (.ref 213), some (.ref 219), some (.int (nI (4 * j))), none, none, none, none] [] 216 (setM (setCW hb f o kp P tx len p ρ) f pa tr tx td F) (k + 8) (ks + 48)) : XV G 9 p' l e' room_1 s' m' g' b' t' c' Q 926 [some (.ref 0), some (.ref 4), some (.ref 213), some (.ref 219), some (.int (nI (4 * j))), none, none, none, none] [] 216 (setM (setCW hb f o kp P tx len p ρ) f pa tr tx td F) (k) (ks) := by
  obtain ⟨⟨k9, m9, tt9, hO⟩, ho, hk6, hPR, hl6, hF2, hF5⟩ := hI
  have hm := hO.1
  have hk := hO.2.1
  have hl := hO.live
  obtain ⟨z, hz, z1, z2⟩ := hO.2.2.2.2.2.2.1.1
  have kI : (nI k9).toInt = (k9 : Int) := nI_tI (by omega)
  have wz : nI (25 - z) - 1 = nI (24 - z) := (nI_m1 (by omega)).trans (congrArg nI (by omega))
  have t25 : (nI (25 - z)).toInt = ((25 - z : Nat) : Int) := nI_tI (by omega)
  have t24 : (nI (24 - z)).toInt = ((24 - z : Nat) : Int) := nI_tI (by omega)
  refine XV.cast lw_0 ?_
  refine XV.run C okL_law14 5 (q := (932, ([some (.ref (0)), some (.ref (4)), some (.ref (213)), some (.ref (219)), some (.int (nI (4 * j))), none, none, none, none], [.int ((nI (4 * j)) + 1), .ref (0), .ref (4)]))) rfl ?_
  refine XV.sald C (a := (4 * j + 1)) (xlk_ok okL_law14 rfl) (nI_add _ 1) (by omega) hL ?_
  refine XV.run C okL_law14 4 (q := (938, ([some (.ref (0)), some (.ref (4)), some (.ref (213)), some (.ref (219)), some (.int (nI (4 * j))), none, none, none, none], [.int ((nI (4 * j)) + 2), .ref (0), .int (xxs G (4 * j + 1)), .ref (4)]))) rfl ?_
  refine XV.sald C (a := (4 * j + 2)) (xlk_ok okL_law14 rfl) (nI_add _ 2) (by omega) hL ?_
  refine XV.run C okL_law14 4 (q := (944, ([some (.ref (0)), some (.ref (4)), some (.ref (213)), some (.ref (219)), some (.int (nI (4 * j))), none, none, none, none], [.int ((nI (4 * j)) + 3), .ref (0), .int (xxs G (4 * j + 2)), .int (xxs G (4 * j + 1)), .ref (4)]))) rfl ?_
  refine XV.sald C (a := (4 * j + 3)) (xlk_ok okL_law14 rfl) (nI_add _ 3) (by omega) hL ?_
  refine XV.run C okL_law14 1 (q := (946, ([some (.ref (0)), some (.ref (4)), some (.ref (213)), some (.ref (219)), some (.int (nI (4 * j))), none, none, none, none], [.ref (219), .int (xxs G (4 * j + 3)), .int (xxs G (4 * j + 2)), .int (xxs G (4 * j + 1)), .ref (4)]))) rfl ?_
  refine XV.callSX C (As := [.ref (4), .int (xxs G (4 * j + 1)), .int (xxs G (4 * j + 2)), .int (xxs G (4 * j + 3)), .ref (219)]) (rest := []) (ct_L_window hfl (by decide) hm hk hl hz z1 z2 (xxs G (4 * j + 1)) (xxs G (4 * j + 2)) (xxs G (4 * j + 3)) (by decide) ((blk_out (Or.inr (by decide))).trans h219)) (xlk_ok okL_law14 rfl) rfl wM_L_130 wS_L_window wN_L wB_L_window hy_L_window (fun q => q.elim) ⟨Nat.le_of_ble_eq_true rfl, Nat.le_of_ble_eq_true rfl⟩ ⟨room_c (by omega), room_s (by omega)⟩ (Nat.le_of_ble_eq_true rfl) (fun r n h hp => ?_) (fun _ _ _ q => q.elim)
  obtain ⟨rfl, hp⟩ := hp
  rcases hp with ⟨i1, j1, w1, hc, rfl, rfl⟩ | ⟨hc, rfl, rfl⟩ | ⟨hc, rfl, rfl⟩ | ⟨hc, rfl, rfl⟩
  ·
    refine XV.cast lw_1 ?_
    refine XV.run C okL_law14 6 (q := (957, ([some (.ref (0)), some (.ref (4)), some (.ref (213)), some (.ref (219)), some (.int (nI (4 * j))), some (.int (0)), none, none, none], [.int ((nI (4 * j)) + 1), .ref (0), .ref (213)]))) rfl ?_
    refine XV.sald C (a := (4 * j + 1)) (xlk_ok okL_law14 rfl) (nI_add _ 1) (by omega) hL ?_
    refine XV.run C okL_law14 4 (q := (963, ([some (.ref (0)), some (.ref (4)), some (.ref (213)), some (.ref (219)), some (.int (nI (4 * j))), some (.int (0)), none, none, none], [.int ((nI (4 * j)) + 2), .ref (0), .int (xxs G (4 * j + 1)), .ref (213)]))) rfl ?_
    refine XV.sald C (a := (4 * j + 2)) (xlk_ok okL_law14 rfl) (nI_add _ 2) (by omega) hL ?_
    refine XV.run C okL_law14 4 (q := (969, ([some (.ref (0)), some (.ref (4)), some (.ref (213)), some (.ref (219)), some (.int (nI (4 * j))), some (.int (0)), none, none, none], [.int ((nI (4 * j)) + 3), .ref (0), .int (xxs G (4 * j + 2)), .int (xxs G (4 * j + 1)), .ref (213)]))) rfl ?_
    refine XV.sald C (a := (4 * j + 3)) (xlk_ok okL_law14 rfl) (nI_add _ 3) (by omega) hL ?_
    refine XV.callV C (As := [.int (xxs G (4 * j + 1)), .int (xxs G (4 * j + 2)), .int (xxs G (4 * j + 3))]) (rest := []) (ci := 5) (ct_M_window hfl (by decide) hm hk hl hz z1 z2 (xxs G (4 * j + 1)) (xxs G (4 * j + 2)) (xxs G (4 * j + 3))) (xlk_ok okL_law14 rfl) rfl (by decide) (by decide) rfl (mw_o) rfl wM_L_132 wI_M_window wV_M_window wN_M wB_M_window hy_M_window (fun q => q.elim) ⟨Nat.le_of_ble_eq_true rfl, Nat.le_of_ble_eq_true rfl⟩ ⟨room_c (by omega), room_s (by omega)⟩ (Nat.le_of_ble_eq_true rfl) (fun r n h hp => ?_) (fun _ _ _ q => q.elim)
    obtain ⟨rfl, ⟨v, rfl⟩, hp⟩ := hp
    rcases hp with ⟨hd, rfl⟩ | ⟨hd, rfl⟩ | ⟨i2, j2, w2, hd, hr, rfl⟩
    ·
      obtain ⟨hc0, hc1, hc2, hc3, hc4, hc5⟩ := hc
      have thc0 := nI_teq hc0 (by omega)
      have thc2 := nI_teq hc2 (by omega)
      have thc4 := nI_teq hc4 (by omega)
      exfalso
      try simp only [le_tI, lt_tI, tI_0, tI_1, tc_4, tc_5, tc_7, tc_8, tc_9, tc_23, tc_24, tc_33, tc_99, tc_126, kI, wz, t25, t24] at hc1
      try simp only [le_tI, lt_tI, tI_0, tI_1, tc_4, tc_5, tc_7, tc_8, tc_9, tc_23, tc_24, tc_33, tc_99, tc_126, kI, wz, t25, t24] at hc3
      try simp only [le_tI, lt_tI, tI_0, tI_1, tc_4, tc_5, tc_7, tc_8, tc_9, tc_23, tc_24, tc_33, tc_99, tc_126, kI, wz, t25, t24] at hc5
      try simp only [le_tI, lt_tI, tI_0, tI_1, tc_4, tc_5, tc_7, tc_8, tc_9, tc_23, tc_24, tc_33, tc_99, tc_126, kI, wz, t25, t24] at hd
      omega
    ·
      obtain ⟨hc0, hc1, hc2, hc3, hc4, hc5⟩ := hc
      have thc0 := nI_teq hc0 (by omega)
      have thc2 := nI_teq hc2 (by omega)
      have thc4 := nI_teq hc4 (by omega)
      exfalso
      try simp only [le_tI, lt_tI, tI_0, tI_1, tc_4, tc_5, tc_7, tc_8, tc_9, tc_23, tc_24, tc_33, tc_99, tc_126, kI, wz, t25, t24] at hc1
      try simp only [le_tI, lt_tI, tI_0, tI_1, tc_4, tc_5, tc_7, tc_8, tc_9, tc_23, tc_24, tc_33, tc_99, tc_126, kI, wz, t25, t24] at hc3
      try simp only [le_tI, lt_tI, tI_0, tI_1, tc_4, tc_5, tc_7, tc_8, tc_9, tc_23, tc_24, tc_33, tc_99, tc_126, kI, wz, t25, t24] at hc5
      try simp only [le_tI, lt_tI, tI_0, tI_1, tc_4, tc_5, tc_7, tc_8, tc_9, tc_23, tc_24, tc_33, tc_99, tc_126, kI, wz, t25, t24] at hd
      omega
    ·
      obtain ⟨hc0, hc1, hc2, hc3, hc4, hc5⟩ := hc
      obtain ⟨hd0, hd1, hd2, hd3, hd4, hd5⟩ := hd
      have thc0 := nI_teq hc0 (by omega)
      have thc2 := nI_teq hc2 (by omega)
      have thc4 := nI_teq hc4 (by omega)
      have thd0 := nI_teq hd0 (by omega)
      have thd2 := nI_teq hd2 (by omega)
      have thd4 := nI_teq hd4 (by omega)
      obtain rfl : i1 = i2 := by omega
      obtain rfl : j1 = j2 := by omega
      obtain rfl : w1 = w2 := by omega
      cases hr
      -- both answer
      refine XV.run C okL_law14 2 (q := (976, ([some (.ref (0)), some (.ref (4)), some (.ref (213)), some (.ref (219)), some (.int (nI (4 * j))), some (.int (0)), some (.int ((winS (rowOf f i1) (decide (w1 = 1)) z j1))), none, none], [.ref (213)]))) rfl ?_
      refine XV.callV C (As := []) (rest := []) (ci := 5) (ct_M_thrown hfl (by decide)) (xlk_ok okL_law14 rfl) rfl (by decide) (by decide) rfl (mw_o) rfl wM_L_83 wI_M_thrown wV_M_thrown wN_M wB_M_thrown hy_M_thrown (fun q => q.elim) ⟨Nat.le_of_ble_eq_true rfl, Nat.le_of_ble_eq_true rfl⟩ ⟨room_c (by omega), room_s (by omega)⟩ (Nat.le_of_ble_eq_true rfl) (fun r n h hp => ?_) (fun _ _ _ q => q.elim)
      obtain ⟨rfl, rfl, rfl⟩ := hp
      refine XV.run C okL_law14 1 (q := (981, ([some (.ref (0)), some (.ref (4)), some (.ref (213)), some (.ref (219)), some (.int (nI (4 * j))), some (.int (0)), some (.int ((winS (rowOf f i1) (decide (w1 = 1)) z j1))), none, none], [.int (0), .int ((upd F 6 0) 6)]))) rfl ?_
      refine XV.icmp_eq C (tgt := 986) (xlk_ok okL_law14 rfl) rfl (fun _ => ?_) (fun hc => absurd (upd_eq) hc)
      refine XV.run C okL_law14 1 (q := (988, ([some (.ref (0)), some (.ref (4)), some (.ref (213)), some (.ref (219)), some (.int (nI (4 * j))), some (.int (0)), some (.int ((winS (rowOf f i1) (decide (w1 = 1)) z j1))), none, none], [.int (0)]))) rfl ?_
      refine XV.if_ne C (tgt := 1003) (xlk_ok okL_law14 rfl) rfl (fun hc => absurd (rfl) hc) (fun _ => ?_)
      refine XV.run C okL_law14 2 (q := (993, ([some (.ref (0)), some (.ref (4)), some (.ref (213)), some (.ref (219)), some (.int (nI (4 * j))), some (.int (0)), some (.int ((winS (rowOf f i1) (decide (w1 = 1)) z j1))), none, none], [.int (0), .ref (219)]))) rfl ?_
      refine XV.lald C (N := 1) (a := 0) (f := vp_updL fo 0 (winS (rowOf f i1) (decide (w1 = 1)) z j1).toInt64) (xlk_ok okL_law14 rfl) (by decide) (by decide) (lw_219 (xup_at hb 219 _)) rfl (by decide) (by decide) ?_
      rw [upL_0]
      refine XV.run C okL_law14 3 (q := (998, ([some (.ref (0)), some (.ref (4)), some (.ref (213)), some (.ref (219)), some (.int (nI (4 * j))), some (.int (0)), some (.int ((winS (rowOf f i1) (decide (w1 = 1)) z j1))), none, none], [.int (lg_cmp ((winS (rowOf f i1) (decide (w1 = 1)) z j1).toInt64) (((winS (rowOf f i1) (decide (w1 = 1)) z j1)).toInt64))]))) rfl ?_
      refine XV.if_eq C (tgt := 1003) (xlk_ok okL_law14 rfl) rfl (fun _ => ?_) (fun hc => absurd (lcmp_eq (congrArg Int32.toInt64 (rfl))) hc)
      refine XV.run C okL_law14 1 (q := (1390, ([some (.ref (0)), some (.ref (4)), some (.ref (213)), some (.ref (219)), some (.int (nI (4 * j))), some (.int (0)), some (.int ((winS (rowOf f i1) (decide (w1 = 1)) z j1))), none, none], []))) rfl ?_
      exact XV.widen (by omega) (by omega) (XV.drop (kk _ _ _ _ _ _ _ _ _ _ _ _ _ _ (xup_at hb 219 _) ⟨⟨_, _, _, hO⟩, ho, hk6, hPR, hl6, (upd_ne (by decide)).trans hF2, (upd_ne (by decide)).trans hF5⟩) rfl (by simp [xle]))
  ·
    refine XV.cast lw_0.symm ?_
    refine XV.run C okL_law14 6 (q := (957, ([some (.ref (0)), some (.ref (4)), some (.ref (213)), some (.ref (219)), some (.int (nI (4 * j))), some (.int (1)), none, none, none], [.int ((nI (4 * j)) + 1), .ref (0), .ref (213)]))) rfl ?_
    refine XV.sald C (a := (4 * j + 1)) (xlk_ok okL_law14 rfl) (nI_add _ 1) (by omega) hL ?_
    refine XV.run C okL_law14 4 (q := (963, ([some (.ref (0)), some (.ref (4)), some (.ref (213)), some (.ref (219)), some (.int (nI (4 * j))), some (.int (1)), none, none, none], [.int ((nI (4 * j)) + 2), .ref (0), .int (xxs G (4 * j + 1)), .ref (213)]))) rfl ?_
    refine XV.sald C (a := (4 * j + 2)) (xlk_ok okL_law14 rfl) (nI_add _ 2) (by omega) hL ?_
    refine XV.run C okL_law14 4 (q := (969, ([some (.ref (0)), some (.ref (4)), some (.ref (213)), some (.ref (219)), some (.int (nI (4 * j))), some (.int (1)), none, none, none], [.int ((nI (4 * j)) + 3), .ref (0), .int (xxs G (4 * j + 2)), .int (xxs G (4 * j + 1)), .ref (213)]))) rfl ?_
    refine XV.sald C (a := (4 * j + 3)) (xlk_ok okL_law14 rfl) (nI_add _ 3) (by omega) hL ?_
    refine XV.callV C (As := [.int (xxs G (4 * j + 1)), .int (xxs G (4 * j + 2)), .int (xxs G (4 * j + 3))]) (rest := []) (ci := 5) (ct_M_window hfl (by decide) hm hk hl hz z1 z2 (xxs G (4 * j + 1)) (xxs G (4 * j + 2)) (xxs G (4 * j + 3))) (xlk_ok okL_law14 rfl) rfl (by decide) (by decide) rfl (mw_o) rfl wM_L_132 wI_M_window wV_M_window wN_M wB_M_window hy_M_window (fun q => q.elim) ⟨Nat.le_of_ble_eq_true rfl, Nat.le_of_ble_eq_true rfl⟩ ⟨room_c (by omega), room_s (by omega)⟩ (Nat.le_of_ble_eq_true rfl) (fun r n h hp => ?_) (fun _ _ _ q => q.elim)
    obtain ⟨rfl, ⟨v, rfl⟩, hp⟩ := hp
    rcases hp with ⟨hd, rfl⟩ | ⟨hd, rfl⟩ | ⟨i2, j2, w2, hd, hr, rfl⟩
    ·
      refine XV.run C okL_law14 2 (q := (976, ([some (.ref (0)), some (.ref (4)), some (.ref (213)), some (.ref (219)), some (.int (nI (4 * j))), some (.int (1)), some (.int (v)), none, none], [.ref (213)]))) rfl ?_
      refine XV.callV C (As := []) (rest := []) (ci := 5) (ct_M_thrown hfl (by decide)) (xlk_ok okL_law14 rfl) rfl (by decide) (by decide) rfl (mw_o) rfl wM_L_83 wI_M_thrown wV_M_thrown wN_M wB_M_thrown hy_M_thrown (fun q => q.elim) ⟨Nat.le_of_ble_eq_true rfl, Nat.le_of_ble_eq_true rfl⟩ ⟨room_c (by omega), room_s (by omega)⟩ (Nat.le_of_ble_eq_true rfl) (fun r n h hp => ?_) (fun _ _ _ q => q.elim)
      obtain ⟨rfl, rfl, rfl⟩ := hp
      refine XV.run C okL_law14 1 (q := (981, ([some (.ref (0)), some (.ref (4)), some (.ref (213)), some (.ref (219)), some (.int (nI (4 * j))), some (.int (1)), some (.int (v)), none, none], [.int (1), .int ((upd (upd F 6 0) 6 1) 6)]))) rfl ?_
      refine XV.icmp_eq C (tgt := 986) (xlk_ok okL_law14 rfl) rfl (fun _ => ?_) (fun hc => absurd (upd_eq) hc)
      refine XV.run C okL_law14 1 (q := (988, ([some (.ref (0)), some (.ref (4)), some (.ref (213)), some (.ref (219)), some (.int (nI (4 * j))), some (.int (1)), some (.int (v)), none, none], [.int (1)]))) rfl ?_
      refine XV.if_ne C (tgt := 1003) (xlk_ok okL_law14 rfl) rfl (fun _ => ?_) (fun hc => absurd hc (by decide))
      refine XV.run C okL_law14 1 (q := (1390, ([some (.ref (0)), some (.ref (4)), some (.ref (213)), some (.ref (219)), some (.int (nI (4 * j))), some (.int (1)), some (.int (v)), none, none], []))) rfl ?_
      exact XV.widen (by omega) (by omega) (XV.drop (kk _ _ _ _ _ _ _ _ _ _ _ _ _ _ h219 ⟨⟨_, _, _, hO⟩, ho, hk6, hPR, hl6, (upd_ne (by decide)).trans ((upd_ne (by decide)).trans hF2), (upd_ne (by decide)).trans ((upd_ne (by decide)).trans hF5)⟩) rfl (by simp [xle]))
    ·
      exfalso
      try simp only [le_tI, lt_tI, tI_0, tI_1, tc_4, tc_5, tc_7, tc_8, tc_9, tc_23, tc_24, tc_33, tc_99, tc_126, kI, wz, t25, t24] at hc
      try simp only [le_tI, lt_tI, tI_0, tI_1, tc_4, tc_5, tc_7, tc_8, tc_9, tc_23, tc_24, tc_33, tc_99, tc_126, kI, wz, t25, t24] at hd
      omega
    ·
      obtain ⟨hd0, hd1, hd2, hd3, hd4, hd5⟩ := hd
      have thd0 := nI_teq hd0 (by omega)
      have thd2 := nI_teq hd2 (by omega)
      have thd4 := nI_teq hd4 (by omega)
      exfalso
      try simp only [le_tI, lt_tI, tI_0, tI_1, tc_4, tc_5, tc_7, tc_8, tc_9, tc_23, tc_24, tc_33, tc_99, tc_126, kI, wz, t25, t24] at hc
      try simp only [le_tI, lt_tI, tI_0, tI_1, tc_4, tc_5, tc_7, tc_8, tc_9, tc_23, tc_24, tc_33, tc_99, tc_126, kI, wz, t25, t24] at hd1
      try simp only [le_tI, lt_tI, tI_0, tI_1, tc_4, tc_5, tc_7, tc_8, tc_9, tc_23, tc_24, tc_33, tc_99, tc_126, kI, wz, t25, t24] at hd3
      try simp only [le_tI, lt_tI, tI_0, tI_1, tc_4, tc_5, tc_7, tc_8, tc_9, tc_23, tc_24, tc_33, tc_99, tc_126, kI, wz, t25, t24] at hd5
      omega
  ·
    refine XV.cast lw_0.symm ?_
    refine XV.run C okL_law14 6 (q := (957, ([some (.ref (0)), some (.ref (4)), some (.ref (213)), some (.ref (219)), some (.int (nI (4 * j))), some (.int (1)), none, none, none], [.int ((nI (4 * j)) + 1), .ref (0), .ref (213)]))) rfl ?_
    refine XV.sald C (a := (4 * j + 1)) (xlk_ok okL_law14 rfl) (nI_add _ 1) (by omega) hL ?_
    refine XV.run C okL_law14 4 (q := (963, ([some (.ref (0)), some (.ref (4)), some (.ref (213)), some (.ref (219)), some (.int (nI (4 * j))), some (.int (1)), none, none, none], [.int ((nI (4 * j)) + 2), .ref (0), .int (xxs G (4 * j + 1)), .ref (213)]))) rfl ?_
    refine XV.sald C (a := (4 * j + 2)) (xlk_ok okL_law14 rfl) (nI_add _ 2) (by omega) hL ?_
    refine XV.run C okL_law14 4 (q := (969, ([some (.ref (0)), some (.ref (4)), some (.ref (213)), some (.ref (219)), some (.int (nI (4 * j))), some (.int (1)), none, none, none], [.int ((nI (4 * j)) + 3), .ref (0), .int (xxs G (4 * j + 2)), .int (xxs G (4 * j + 1)), .ref (213)]))) rfl ?_
    refine XV.sald C (a := (4 * j + 3)) (xlk_ok okL_law14 rfl) (nI_add _ 3) (by omega) hL ?_
    refine XV.callV C (As := [.int (xxs G (4 * j + 1)), .int (xxs G (4 * j + 2)), .int (xxs G (4 * j + 3))]) (rest := []) (ci := 5) (ct_M_window hfl (by decide) hm hk hl hz z1 z2 (xxs G (4 * j + 1)) (xxs G (4 * j + 2)) (xxs G (4 * j + 3))) (xlk_ok okL_law14 rfl) rfl (by decide) (by decide) rfl (mw_o) rfl wM_L_132 wI_M_window wV_M_window wN_M wB_M_window hy_M_window (fun q => q.elim) ⟨Nat.le_of_ble_eq_true rfl, Nat.le_of_ble_eq_true rfl⟩ ⟨room_c (by omega), room_s (by omega)⟩ (Nat.le_of_ble_eq_true rfl) (fun r n h hp => ?_) (fun _ _ _ q => q.elim)
    obtain ⟨rfl, ⟨v, rfl⟩, hp⟩ := hp
    rcases hp with ⟨hd, rfl⟩ | ⟨hd, rfl⟩ | ⟨i2, j2, w2, hd, hr, rfl⟩
    ·
      refine XV.run C okL_law14 2 (q := (976, ([some (.ref (0)), some (.ref (4)), some (.ref (213)), some (.ref (219)), some (.int (nI (4 * j))), some (.int (1)), some (.int (v)), none, none], [.ref (213)]))) rfl ?_
      refine XV.callV C (As := []) (rest := []) (ci := 5) (ct_M_thrown hfl (by decide)) (xlk_ok okL_law14 rfl) rfl (by decide) (by decide) rfl (mw_o) rfl wM_L_83 wI_M_thrown wV_M_thrown wN_M wB_M_thrown hy_M_thrown (fun q => q.elim) ⟨Nat.le_of_ble_eq_true rfl, Nat.le_of_ble_eq_true rfl⟩ ⟨room_c (by omega), room_s (by omega)⟩ (Nat.le_of_ble_eq_true rfl) (fun r n h hp => ?_) (fun _ _ _ q => q.elim)
      obtain ⟨rfl, rfl, rfl⟩ := hp
      refine XV.run C okL_law14 1 (q := (981, ([some (.ref (0)), some (.ref (4)), some (.ref (213)), some (.ref (219)), some (.int (nI (4 * j))), some (.int (1)), some (.int (v)), none, none], [.int (1), .int ((upd (upd F 6 0) 6 1) 6)]))) rfl ?_
      refine XV.icmp_eq C (tgt := 986) (xlk_ok okL_law14 rfl) rfl (fun _ => ?_) (fun hc => absurd (upd_eq) hc)
      refine XV.run C okL_law14 1 (q := (988, ([some (.ref (0)), some (.ref (4)), some (.ref (213)), some (.ref (219)), some (.int (nI (4 * j))), some (.int (1)), some (.int (v)), none, none], [.int (1)]))) rfl ?_
      refine XV.if_ne C (tgt := 1003) (xlk_ok okL_law14 rfl) rfl (fun _ => ?_) (fun hc => absurd hc (by decide))
      refine XV.run C okL_law14 1 (q := (1390, ([some (.ref (0)), some (.ref (4)), some (.ref (213)), some (.ref (219)), some (.int (nI (4 * j))), some (.int (1)), some (.int (v)), none, none], []))) rfl ?_
      exact XV.widen (by omega) (by omega) (XV.drop (kk _ _ _ _ _ _ _ _ _ _ _ _ _ _ h219 ⟨⟨_, _, _, hO⟩, ho, hk6, hPR, hl6, (upd_ne (by decide)).trans ((upd_ne (by decide)).trans hF2), (upd_ne (by decide)).trans ((upd_ne (by decide)).trans hF5)⟩) rfl (by simp [xle]))
    ·
      exfalso
      try simp only [le_tI, lt_tI, tI_0, tI_1, tc_4, tc_5, tc_7, tc_8, tc_9, tc_23, tc_24, tc_33, tc_99, tc_126, kI, wz, t25, t24] at hc
      try simp only [le_tI, lt_tI, tI_0, tI_1, tc_4, tc_5, tc_7, tc_8, tc_9, tc_23, tc_24, tc_33, tc_99, tc_126, kI, wz, t25, t24] at hd
      omega
    ·
      obtain ⟨hd0, hd1, hd2, hd3, hd4, hd5⟩ := hd
      have thd0 := nI_teq hd0 (by omega)
      have thd2 := nI_teq hd2 (by omega)
      have thd4 := nI_teq hd4 (by omega)
      exfalso
      try simp only [le_tI, lt_tI, tI_0, tI_1, tc_4, tc_5, tc_7, tc_8, tc_9, tc_23, tc_24, tc_33, tc_99, tc_126, kI, wz, t25, t24] at hc
      try simp only [le_tI, lt_tI, tI_0, tI_1, tc_4, tc_5, tc_7, tc_8, tc_9, tc_23, tc_24, tc_33, tc_99, tc_126, kI, wz, t25, t24] at hd1
      try simp only [le_tI, lt_tI, tI_0, tI_1, tc_4, tc_5, tc_7, tc_8, tc_9, tc_23, tc_24, tc_33, tc_99, tc_126, kI, wz, t25, t24] at hd3
      try simp only [le_tI, lt_tI, tI_0, tI_1, tc_4, tc_5, tc_7, tc_8, tc_9, tc_23, tc_24, tc_33, tc_99, tc_126, kI, wz, t25, t24] at hd5
      omega
  ·
    refine XV.cast lw_0.symm ?_
    refine XV.run C okL_law14 6 (q := (957, ([some (.ref (0)), some (.ref (4)), some (.ref (213)), some (.ref (219)), some (.int (nI (4 * j))), some (.int (2)), none, none, none], [.int ((nI (4 * j)) + 1), .ref (0), .ref (213)]))) rfl ?_
    refine XV.sald C (a := (4 * j + 1)) (xlk_ok okL_law14 rfl) (nI_add _ 1) (by omega) hL ?_
    refine XV.run C okL_law14 4 (q := (963, ([some (.ref (0)), some (.ref (4)), some (.ref (213)), some (.ref (219)), some (.int (nI (4 * j))), some (.int (2)), none, none, none], [.int ((nI (4 * j)) + 2), .ref (0), .int (xxs G (4 * j + 1)), .ref (213)]))) rfl ?_
    refine XV.sald C (a := (4 * j + 2)) (xlk_ok okL_law14 rfl) (nI_add _ 2) (by omega) hL ?_
    refine XV.run C okL_law14 4 (q := (969, ([some (.ref (0)), some (.ref (4)), some (.ref (213)), some (.ref (219)), some (.int (nI (4 * j))), some (.int (2)), none, none, none], [.int ((nI (4 * j)) + 3), .ref (0), .int (xxs G (4 * j + 2)), .int (xxs G (4 * j + 1)), .ref (213)]))) rfl ?_
    refine XV.sald C (a := (4 * j + 3)) (xlk_ok okL_law14 rfl) (nI_add _ 3) (by omega) hL ?_
    refine XV.callV C (As := [.int (xxs G (4 * j + 1)), .int (xxs G (4 * j + 2)), .int (xxs G (4 * j + 3))]) (rest := []) (ci := 5) (ct_M_window hfl (by decide) hm hk hl hz z1 z2 (xxs G (4 * j + 1)) (xxs G (4 * j + 2)) (xxs G (4 * j + 3))) (xlk_ok okL_law14 rfl) rfl (by decide) (by decide) rfl (mw_o) rfl wM_L_132 wI_M_window wV_M_window wN_M wB_M_window hy_M_window (fun q => q.elim) ⟨Nat.le_of_ble_eq_true rfl, Nat.le_of_ble_eq_true rfl⟩ ⟨room_c (by omega), room_s (by omega)⟩ (Nat.le_of_ble_eq_true rfl) (fun r n h hp => ?_) (fun _ _ _ q => q.elim)
    obtain ⟨rfl, ⟨v, rfl⟩, hp⟩ := hp
    rcases hp with ⟨hd, rfl⟩ | ⟨hd, rfl⟩ | ⟨i2, j2, w2, hd, hr, rfl⟩
    ·
      exfalso
      try simp only [le_tI, lt_tI, tI_0, tI_1, tc_4, tc_5, tc_7, tc_8, tc_9, tc_23, tc_24, tc_33, tc_99, tc_126, kI, wz, t25, t24] at hc
      try simp only [le_tI, lt_tI, tI_0, tI_1, tc_4, tc_5, tc_7, tc_8, tc_9, tc_23, tc_24, tc_33, tc_99, tc_126, kI, wz, t25, t24] at hd
      omega
    ·
      refine XV.run C okL_law14 2 (q := (976, ([some (.ref (0)), some (.ref (4)), some (.ref (213)), some (.ref (219)), some (.int (nI (4 * j))), some (.int (2)), some (.int (v)), none, none], [.ref (213)]))) rfl ?_
      refine XV.callV C (As := []) (rest := []) (ci := 5) (ct_M_thrown hfl (by decide)) (xlk_ok okL_law14 rfl) rfl (by decide) (by decide) rfl (mw_o) rfl wM_L_83 wI_M_thrown wV_M_thrown wN_M wB_M_thrown hy_M_thrown (fun q => q.elim) ⟨Nat.le_of_ble_eq_true rfl, Nat.le_of_ble_eq_true rfl⟩ ⟨room_c (by omega), room_s (by omega)⟩ (Nat.le_of_ble_eq_true rfl) (fun r n h hp => ?_) (fun _ _ _ q => q.elim)
      obtain ⟨rfl, rfl, rfl⟩ := hp
      refine XV.run C okL_law14 1 (q := (981, ([some (.ref (0)), some (.ref (4)), some (.ref (213)), some (.ref (219)), some (.int (nI (4 * j))), some (.int (2)), some (.int (v)), none, none], [.int (2), .int ((upd (upd F 6 0) 6 2) 6)]))) rfl ?_
      refine XV.icmp_eq C (tgt := 986) (xlk_ok okL_law14 rfl) rfl (fun _ => ?_) (fun hc => absurd (upd_eq) hc)
      refine XV.run C okL_law14 1 (q := (988, ([some (.ref (0)), some (.ref (4)), some (.ref (213)), some (.ref (219)), some (.int (nI (4 * j))), some (.int (2)), some (.int (v)), none, none], [.int (2)]))) rfl ?_
      refine XV.if_ne C (tgt := 1003) (xlk_ok okL_law14 rfl) rfl (fun _ => ?_) (fun hc => absurd hc (by decide))
      refine XV.run C okL_law14 1 (q := (1390, ([some (.ref (0)), some (.ref (4)), some (.ref (213)), some (.ref (219)), some (.int (nI (4 * j))), some (.int (2)), some (.int (v)), none, none], []))) rfl ?_
      exact XV.widen (by omega) (by omega) (XV.drop (kk _ _ _ _ _ _ _ _ _ _ _ _ _ _ h219 ⟨⟨_, _, _, hO⟩, ho, hk6, hPR, hl6, (upd_ne (by decide)).trans ((upd_ne (by decide)).trans hF2), (upd_ne (by decide)).trans ((upd_ne (by decide)).trans hF5)⟩) rfl (by simp [xle]))
    ·
      obtain ⟨hd0, hd1, hd2, hd3, hd4, hd5⟩ := hd
      have thd0 := nI_teq hd0 (by omega)
      have thd2 := nI_teq hd2 (by omega)
      have thd4 := nI_teq hd4 (by omega)
      exfalso
      try simp only [le_tI, lt_tI, tI_0, tI_1, tc_4, tc_5, tc_7, tc_8, tc_9, tc_23, tc_24, tc_33, tc_99, tc_126, kI, wz, t25, t24] at hc
      try simp only [le_tI, lt_tI, tI_0, tI_1, tc_4, tc_5, tc_7, tc_8, tc_9, tc_23, tc_24, tc_33, tc_99, tc_126, kI, wz, t25, t24] at hd1
      try simp only [le_tI, lt_tI, tI_0, tI_1, tc_4, tc_5, tc_7, tc_8, tc_9, tc_23, tc_24, tc_33, tc_99, tc_126, kI, wz, t25, t24] at hd3
      try simp only [le_tI, lt_tI, tI_0, tI_1, tc_4, tc_5, tc_7, tc_8, tc_9, tc_23, tc_24, tc_33, tc_99, tc_126, kI, wz, t25, t24] at hd5
      omega
end LAWC
