/-! RopeThreadsLaw: the loop -/
section LAWT
variable {l : Launch} {G : XG} {p' : Program} {e' : Env} {s' : State} {m' : MethodId} {g' : Array Value} {b' : List Frame} {t' : Method} {c' : Code} {Q : State → Prop} {κ κs t j : Nat} {h : XH} {tx : Nat → Int32} {len : Nat} {p : PT} {ρ : Nat → Int32} {xa xb xc : Int32}
def kL_tail : List (Nat × (Instr × Nat)) := [(474, (.iload_n 2, 1)), (475, (.ifCond .eq 30, 3)), (478, (.iload 12, 2)), (480, (.ifCond .ge 14, 3)), (483, (.aload_n 1, 1)), (484, (.bipush 8, 2)), (486, (.invokevirtual 29, 3)), (489, (.iload 11, 2)), (491, (.if_icmp .ne 14, 3)), (494, (.aload_n 1, 1)), (495, (.invokestatic 91, 3)), (498, (.ifCond .eq 7, 3)), (501, (.iconst 1, 1)), (502, (.goto 4, 3)), (505, (.iconst 0, 1)), (506, (.istore_n 2, 1)), (507, (.iinc 4 1, 3)), (510, (.goto (-478), 3))]
set_option maxRecDepth 100000 in
theorem okL_tail : ∀ a ∈ kL_tail, decode code a.1 = .ok a.2 := by decide +kernel
set_option maxHeartbeats 4000000 in
set_option maxRecDepth 100000 in
theorem law_tail (hfl : l.stackTraces = false) (C : XCx G l "RopeThreadsLaw" code 16 p' s' m' g' t' c') {f2 : Nat → Int32} {o2 kp2 kp T : Nat} {P2 : Nat → Nat → Int32} {v2 : Int32} {σ : Nat → Int32} (hT : OKT f2 T) (ho2 : o2 < 6) (hkp2 : kp2 ≤ 6) (hv : 0 ≤ v2 ∨ kp2 = kp) (hk8 : κ + 5200 ≤ 600130) (hks : κs + 31200 ≤ 7301080) (kk : ∀ σ2 : Nat → Int32, XV G 16 p' l e' room_1 s' m' g' b' t' c' Q 32 [some (.ref (0)), some (.ref (4)), some (.int (1)), some (.int (nI t)), some (.int (nI j + 1)), none, none, none, none, none, none, none, none, none, none, none] [] 209 (setCW h f2 o2 kp2 P2 tx len p σ2) (κ + 5200) (κs + 31200)) : XV G 16 p' l e' room_1 s' m' g' b' t' c' Q 474 [some (.ref (0)), some (.ref (4)), some (.int (1)), some (.int (nI t)), some (.int (nI j)), none, none, none, none, none, none, some (.int (nI kp)), some (.int (v2)), none, none, none] [] 209 (setCW h f2 o2 kp2 P2 tx len p σ) (κ) (κs) := by
  obtain ⟨k, m, tt, hO, hm4, ht99⟩ := hT
  obtain ⟨z, hz, z1, z2⟩ := hO.z
  refine XV.run C okL_tail 1 (q := (475, ([some (.ref (0)), some (.ref (4)), some (.int (1)), some (.int (nI t)), some (.int (nI j)), none, none, none, none, none, none, some (.int (nI kp)), some (.int (v2)), none, none, none], [.int (1)]))) rfl ?_
  refine XV.if_eq C (tgt := 505) (xlk_ok okL_tail rfl) rfl (fun hc => absurd hc (by decide)) (fun _ => ?_)
  refine XV.run C okL_tail 1 (q := (480, ([some (.ref (0)), some (.ref (4)), some (.int (1)), some (.int (nI t)), some (.int (nI j)), none, none, none, none, none, none, some (.int (nI kp)), some (.int (v2)), none, none, none], [.int (v2)]))) rfl ?_
  refine XV.if_ge C (tgt := 494) (xlk_ok okL_tail rfl) rfl (fun cv => ?_) (fun cv => ?_)
  ·
    refine XV.run C okL_tail 1 (q := (495, ([some (.ref (0)), some (.ref (4)), some (.int (1)), some (.int (nI t)), some (.int (nI j)), none, none, none, none, none, none, some (.int (nI kp)), some (.int (v2)), none, none, none], [.ref (4)]))) rfl ?_
    refine XV.callS C (As := [.ref (4)]) (rest := []) (ct_L_lift hfl (by decide) hO hz z1 z2 ho2 hkp2) (xlk_ok okL_tail rfl) rfl wM_L_91 wS_L_lift wN_L wB_L_lift hy_L_lift (fun q => q.elim) ⟨Nat.le_of_ble_eq_true rfl, Nat.le_of_ble_eq_true rfl⟩ ⟨room_c (by omega), room_s (by omega)⟩ (Nat.le_of_ble_eq_true rfl) (fun r n h hp => ?_) (fun _ _ _ q => q.elim)
    obtain ⟨rfl, rfl, σ2, rfl⟩ := hp
    refine XV.if_eq C (tgt := 505) (xlk_ok okL_tail rfl) rfl (fun hc => absurd hc (by decide)) (fun _ => ?_)
    refine XV.run C okL_tail 5 (q := (32, ([some (.ref (0)), some (.ref (4)), some (.int (1)), some (.int (nI t)), some (.int ((nI j) + 1)), none, none, none, none, none, none, some (.int (nI kp)), some (.int (v2)), none, none, none], []))) rfl ?_
    exact XV.widen (by omega) (by omega) (XV.drop (kk _) rfl (by simp [xle]))
  ·
    refine XV.run C okL_tail 2 (q := (486, ([some (.ref (0)), some (.ref (4)), some (.int (1)), some (.int (nI t)), some (.int (nI j)), none, none, none, none, none, none, some (.int (nI kp)), some (.int (v2)), none, none, none], [.int (8), .ref (4)]))) rfl ?_
    refine XV.callV C (As := [.int (8)]) (rest := []) (ci := 4) (ct_D_count hfl (by decide) hO hz z1 z2 ho2 hkp2 (w := 8) (by decide)) (xlk_ok okL_tail rfl) rfl (by decide) (by decide) rfl (cw_o) rfl wM_L_29 wI_C_count wV_C_count wN_C wB_C_count hy_C_count (fun q => q.elim) ⟨Nat.le_of_ble_eq_true rfl, Nat.le_of_ble_eq_true rfl⟩ ⟨room_c (by omega), room_s (by omega)⟩ (Nat.le_of_ble_eq_true rfl) (fun r n h hp => ?_) (fun _ _ _ q => q.elim)
    obtain ⟨rfl, rfl, rfl⟩ := hp
    refine XV.run C okL_tail 1 (q := (491, ([some (.ref (0)), some (.ref (4)), some (.int (1)), some (.int (nI t)), some (.int (nI j)), none, none, none, none, none, none, some (.int (nI kp)), some (.int (v2)), none, none, none], [.int (nI kp), .int (countFigK f2 z k kp2 8)]))) rfl ?_
    refine XV.icmp_ne C (tgt := 505) (xlk_ok okL_tail rfl) rfl (fun hc => absurd (congrArg nI (hv.resolve_left cv)) hc) (fun _ => ?_)
    refine XV.run C okL_tail 1 (q := (495, ([some (.ref (0)), some (.ref (4)), some (.int (1)), some (.int (nI t)), some (.int (nI j)), none, none, none, none, none, none, some (.int (nI kp)), some (.int (v2)), none, none, none], [.ref (4)]))) rfl ?_
    refine XV.callS C (As := [.ref (4)]) (rest := []) (ct_L_lift hfl (by decide) hO hz z1 z2 ho2 hkp2) (xlk_ok okL_tail rfl) rfl wM_L_91 wS_L_lift wN_L wB_L_lift hy_L_lift (fun q => q.elim) ⟨Nat.le_of_ble_eq_true rfl, Nat.le_of_ble_eq_true rfl⟩ ⟨room_c (by omega), room_s (by omega)⟩ (Nat.le_of_ble_eq_true rfl) (fun r n h hp => ?_) (fun _ _ _ q => q.elim)
    obtain ⟨rfl, rfl, σ2, rfl⟩ := hp
    refine XV.if_eq C (tgt := 505) (xlk_ok okL_tail rfl) rfl (fun hc => absurd hc (by decide)) (fun _ => ?_)
    refine XV.run C okL_tail 5 (q := (32, ([some (.ref (0)), some (.ref (4)), some (.int (1)), some (.int (nI t)), some (.int ((nI j) + 1)), none, none, none, none, none, none, some (.int (nI kp)), some (.int (v2)), none, none, none], []))) rfl ?_
    exact XV.widen (by omega) (by omega) (XV.drop (kk _) rfl (by simp [xle]))
def kL_head : List (Nat × (Instr × Nat)) := [(32, (.iload 4, 2)), (34, (.iload_n 3, 1)), (35, (.if_icmp .ge 478, 3)), (38, (.iload_n 2, 1)), (39, (.ifCond .eq 474, 3)), (42, (.aload_n 0, 1)), (43, (.iconst 4, 1)), (44, (.iload 4, 2)), (46, (.imul, 1)), (47, (.invokestatic 60, 3)), (50, (.bipush 12, 2)), (52, (.invokestatic 64, 3)), (55, (.istore 5, 2)), (57, (.aload_n 0, 1)), (58, (.iconst 4, 1)), (59, (.iload 4, 2)), (61, (.imul, 1)), (62, (.iconst 1, 1)), (63, (.iadd, 1)), (64, (.invokestatic 60, 3)), (67, (.istore 6, 2)), (69, (.aload_n 0, 1)), (70, (.iconst 4, 1)), (71, (.iload 4, 2)), (73, (.imul, 1)), (74, (.iconst 2, 1)), (75, (.iadd, 1)), (76, (.invokestatic 60, 3)), (79, (.istore 7, 2)), (81, (.aload_n 0, 1)), (82, (.iconst 4, 1)), (83, (.iload 4, 2)), (85, (.imul, 1)), (86, (.iconst 3, 1)), (87, (.iadd, 1)), (88, (.invokestatic 60, 3)), (91, (.istore 8, 2)), (93, (.aload_n 1, 1)), (94, (.iconst 1, 1)), (95, (.invokevirtual 29, 3)), (98, (.istore 9, 2)), (100, (.iload 9, 2)), (102, (.ifCond .ne 7, 3)), (105, (.iconst 0, 1)), (106, (.goto 10, 3)), (109, (.iload 6, 2)), (111, (.iload 9, 2)), (113, (.invokestatic 64, 3)), (116, (.istore 10, 2)), (118, (.aload_n 1, 1)), (119, (.bipush 8, 2)), (121, (.invokevirtual 29, 3)), (124, (.istore 11, 2)), (126, (.iconst 0, 1)), (127, (.istore 12, 2)), (129, (.iload 5, 2)), (131, (.iconst 2, 1)), (132, (.if_icmp .lt 8, 3)), (135, (.iload 9, 2)), (137, (.ifCond .ne 21, 3)), (158, (.iload 5, 2)), (160, (.bipush 6, 2)), (162, (.if_icmp .ge 118, 3)), (280, (.iload 5, 2)), (282, (.bipush 8, 2)), (284, (.if_icmp .ge 38, 3)), (322, (.iload 5, 2)), (324, (.bipush 8, 2)), (326, (.if_icmp .ne 36, 3)), (362, (.iload 5, 2)), (364, (.bipush 9, 2)), (366, (.if_icmp .ne 71, 3)), (437, (.iload 5, 2)), (439, (.bipush 10, 2)), (441, (.if_icmp .ne 27, 3))]
set_option maxRecDepth 100000 in
theorem okL_head : ∀ a ∈ kL_head, decode code a.1 = .ok a.2 := by decide +kernel
set_option maxHeartbeats 8000000 in
set_option maxRecDepth 100000 in
theorem law_loop (hfl : l.stackTraces = false) (hL : xL G < 2 ^ 31) (C : XCx G l "RopeThreadsLaw" code 16 p' s' m' g' t' c') (ht : t ≤ 26) (fin : ∀ (h : XH) (k ks : Nat), k ≤ 600130 → ks ≤ 7301080 → XV G 16 p' l e' room_1 s' m' g' b' t' c' Q 513 [some (.ref (0)), some (.ref (4)), some (.int (1)), none, none, none, none, none, none, none, none, none, none, none, none, none] [] 209 (h) (k) (ks)) : ∀ (d j : Nat), j + d = t → ∀ (f : Nat → Int32) (o kp : Nat) (P : Nat → Nat → Int32) (ρ : Nat → Int32), OKT f j → o < 6 → kp ≤ 6 → OKP o kp P j → XV G 16 p' l e' room_1 s' m' g' b' t' c' Q 32 [some (.ref (0)), some (.ref (4)), some (.int (1)), some (.int (nI t)), some (.int (nI j)), none, none, none, none, none, none, none, none, none, none, none] [] 209 (setCW h f o kp P tx len p ρ) (210 + 5400 * j) (4000 + 33000 * j) := by
  intro d
  induction d with
  | zero =>
    intro j hj f o kp P ρ hT ho hkp hP
    refine XV.run C okL_head 2 (q := (35, ([some (.ref (0)), some (.ref (4)), some (.int (1)), some (.int (nI t)), some (.int (nI j)), none, none, none, none, none, none, none, none, none, none, none], [.int (nI t), .int (nI j)]))) rfl ?_
    refine XV.icmp_ge C (tgt := 513) (xlk_ok okL_head rfl) rfl (fun _ => ?_) (fun hc => absurd (nI_le (by omega) (by omega)) hc)
    exact XV.drop (fin _ _ _ (by omega) (by omega)) rfl (by simp [xle])
  | succ d ih =>
    intro j hj f o kp P ρ hT ho hkp hP
    obtain ⟨k, m, tt, hO, hm4, ht99⟩ := hT
    obtain ⟨z, hz, z1, z2⟩ := hO.z
    have hk := hO.2.1
    have next : ∀ (f2 : Nat → Int32) (o2 kp2 : Nat) (P2 : Nat → Nat → Int32) (σ : Nat → Int32) (v2 : Int32), OKT f2 (j + 1) → o2 < 6 → kp2 ≤ 6 → OKP o2 kp2 P2 (j + 1) → (0 ≤ v2 ∨ kp2 = kp) → XV G 16 p' l e' room_1 s' m' g' b' t' c' Q 474 [some (.ref (0)), some (.ref (4)), some (.int (1)), some (.int (nI t)), some (.int (nI j)), none, none, none, none, none, none, some (.int (nI kp)), some (.int (v2)), none, none, none] [] 209 (setCW h f2 o2 kp2 P2 tx len p σ) (210 + 5400 * j + 10 + 100) (4000 + 33000 * j + 20 + 600) := by
      intro f2 o2 kp2 P2 σ v2 g1 g2 g3 g4 g5
      refine law_tail hfl C g1 g2 g3 g5 (by omega) (by omega) (fun σ2 => ?_)
      rw [nI_1]
      exact XV.widen (by omega) (by omega) (ih (j + 1) (by omega) f2 o2 kp2 P2 σ2 g1 g2 g3 g4)
    refine XV.run C okL_head 2 (q := (35, ([some (.ref (0)), some (.ref (4)), some (.int (1)), some (.int (nI t)), some (.int (nI j)), none, none, none, none, none, none, none, none, none, none, none], [.int (nI t), .int (nI j)]))) rfl ?_
    refine XV.icmp_ge C (tgt := 513) (xlk_ok okL_head rfl) rfl (fun hc => absurd hc (nI_ge (by omega) (by omega))) (fun _ => ?_)
    refine XV.run C okL_head 1 (q := (39, ([some (.ref (0)), some (.ref (4)), some (.int (1)), some (.int (nI t)), some (.int (nI j)), none, none, none, none, none, none, none, none, none, none, none], [.int (1)]))) rfl ?_
    refine XV.if_eq C (tgt := 513) (xlk_ok okL_head rfl) rfl (fun hc => absurd hc (by decide)) (fun _ => ?_)
    refine XV.run C okL_head 4 (q := (47, ([some (.ref (0)), some (.ref (4)), some (.int (1)), some (.int (nI t)), some (.int (nI j)), none, none, none, none, none, none, none, none, none, none, none], [.int (4 * (nI j)), .ref (0)]))) rfl ?_
    rw [show (4 * (nI j) : Int32) = nI (4 * j) from four_n _]
    refine XV.callS C (As := [.ref (0), .int (nI (4 * j))]) (rest := []) (ct_L_cell hfl (j := (4 * j)) rfl (by omega) hL) (xlk_ok okL_head rfl) rfl wM_L_60 wS_L_cell wN_L wB_L_cell hy_L_cell (fun q => q.elim) ⟨Nat.le_of_ble_eq_true rfl, Nat.le_of_ble_eq_true rfl⟩ ⟨room_c (by omega), room_s (by omega)⟩ (Nat.le_of_ble_eq_true rfl) (fun r n h hp => ?_) (fun _ _ _ q => q.elim)
    obtain ⟨⟨c0, rfl⟩, rfl, rfl⟩ := hp
    refine XV.run C okL_head 1 (q := (52, ([some (.ref (0)), some (.ref (4)), some (.int (1)), some (.int (nI t)), some (.int (nI j)), none, none, none, none, none, none, none, none, none, none, none], [.int (12), .int (c0)]))) rfl ?_
    refine XV.callS C (As := [.int (c0), .int (12)]) (rest := []) (ct_L_low hfl c0 (d := 12) rfl (by decide) (by decide)) (xlk_ok okL_head rfl) rfl wM_L_64 wS_L_low wN_L wB_L_low hy_L_low (fun q => q.elim) ⟨Nat.le_of_ble_eq_true rfl, Nat.le_of_ble_eq_true rfl⟩ ⟨room_c (by omega), room_s (by omega)⟩ (Nat.le_of_ble_eq_true rfl) (fun r n h hp => ?_) (fun _ _ _ q => q.elim)
    obtain ⟨rfl, rfl, rfl⟩ := hp
    refine XV.run C okL_head 5 (q := (62, ([some (.ref (0)), some (.ref (4)), some (.int (1)), some (.int (nI t)), some (.int (nI j)), some (.int (nI (lowN c0 12))), none, none, none, none, none, none, none, none, none, none], [.int (4 * (nI j)), .ref (0)]))) rfl ?_
    rw [show (4 * (nI j) : Int32) = nI (4 * j) from four_n _]
    refine XV.run C okL_head 2 (q := (64, ([some (.ref (0)), some (.ref (4)), some (.int (1)), some (.int (nI t)), some (.int (nI j)), some (.int (nI (lowN c0 12))), none, none, none, none, none, none, none, none, none, none], [.int ((nI (4 * j)) + 1), .ref (0)]))) rfl ?_
    rw [show ((nI (4 * j)) + 1 : Int32) = nI (4 * j + 1) from nI_add _ 1]
    refine XV.callS C (As := [.ref (0), .int (nI (4 * j + 1))]) (rest := []) (ct_L_cell hfl (j := (4 * j + 1)) rfl (by omega) hL) (xlk_ok okL_head rfl) rfl wM_L_60 wS_L_cell wN_L wB_L_cell hy_L_cell (fun q => q.elim) ⟨Nat.le_of_ble_eq_true rfl, Nat.le_of_ble_eq_true rfl⟩ ⟨room_c (by omega), room_s (by omega)⟩ (Nat.le_of_ble_eq_true rfl) (fun r n h hp => ?_) (fun _ _ _ q => q.elim)
    obtain ⟨⟨ca, rfl⟩, rfl, rfl⟩ := hp
    refine XV.run C okL_head 5 (q := (74, ([some (.ref (0)), some (.ref (4)), some (.int (1)), some (.int (nI t)), some (.int (nI j)), some (.int (nI (lowN c0 12))), some (.int (ca)), none, none, none, none, none, none, none, none, none], [.int (4 * (nI j)), .ref (0)]))) rfl ?_
    rw [show (4 * (nI j) : Int32) = nI (4 * j) from four_n _]
    refine XV.run C okL_head 2 (q := (76, ([some (.ref (0)), some (.ref (4)), some (.int (1)), some (.int (nI t)), some (.int (nI j)), some (.int (nI (lowN c0 12))), some (.int (ca)), none, none, none, none, none, none, none, none, none], [.int ((nI (4 * j)) + 2), .ref (0)]))) rfl ?_
    rw [show ((nI (4 * j)) + 2 : Int32) = nI (4 * j + 2) from nI_add _ 2]
    refine XV.callS C (As := [.ref (0), .int (nI (4 * j + 2))]) (rest := []) (ct_L_cell hfl (j := (4 * j + 2)) rfl (by omega) hL) (xlk_ok okL_head rfl) rfl wM_L_60 wS_L_cell wN_L wB_L_cell hy_L_cell (fun q => q.elim) ⟨Nat.le_of_ble_eq_true rfl, Nat.le_of_ble_eq_true rfl⟩ ⟨room_c (by omega), room_s (by omega)⟩ (Nat.le_of_ble_eq_true rfl) (fun r n h hp => ?_) (fun _ _ _ q => q.elim)
    obtain ⟨⟨cb, rfl⟩, rfl, rfl⟩ := hp
    refine XV.run C okL_head 5 (q := (86, ([some (.ref (0)), some (.ref (4)), some (.int (1)), some (.int (nI t)), some (.int (nI j)), some (.int (nI (lowN c0 12))), some (.int (ca)), some (.int (cb)), none, none, none, none, none, none, none, none], [.int (4 * (nI j)), .ref (0)]))) rfl ?_
    rw [show (4 * (nI j) : Int32) = nI (4 * j) from four_n _]
    refine XV.run C okL_head 2 (q := (88, ([some (.ref (0)), some (.ref (4)), some (.int (1)), some (.int (nI t)), some (.int (nI j)), some (.int (nI (lowN c0 12))), some (.int (ca)), some (.int (cb)), none, none, none, none, none, none, none, none], [.int ((nI (4 * j)) + 3), .ref (0)]))) rfl ?_
    rw [show ((nI (4 * j)) + 3 : Int32) = nI (4 * j + 3) from nI_add _ 3]
    refine XV.callS C (As := [.ref (0), .int (nI (4 * j + 3))]) (rest := []) (ct_L_cell hfl (j := (4 * j + 3)) rfl (by omega) hL) (xlk_ok okL_head rfl) rfl wM_L_60 wS_L_cell wN_L wB_L_cell hy_L_cell (fun q => q.elim) ⟨Nat.le_of_ble_eq_true rfl, Nat.le_of_ble_eq_true rfl⟩ ⟨room_c (by omega), room_s (by omega)⟩ (Nat.le_of_ble_eq_true rfl) (fun r n h hp => ?_) (fun _ _ _ q => q.elim)
    obtain ⟨⟨cc, rfl⟩, rfl, rfl⟩ := hp
    refine XV.run C okL_head 3 (q := (95, ([some (.ref (0)), some (.ref (4)), some (.int (1)), some (.int (nI t)), some (.int (nI j)), some (.int (nI (lowN c0 12))), some (.int (ca)), some (.int (cb)), some (.int (cc)), none, none, none, none, none, none, none], [.int (1), .ref (4)]))) rfl ?_
    refine XV.callV C (As := [.int (1)]) (rest := []) (ci := 4) (ct_D_count hfl (by decide) hO hz z1 z2 ho hkp (w := 1) (by decide)) (xlk_ok okL_head rfl) rfl (by decide) (by decide) rfl (cw_o) rfl wM_L_29 wI_C_count wV_C_count wN_C wB_C_count hy_C_count (fun q => q.elim) ⟨Nat.le_of_ble_eq_true rfl, Nat.le_of_ble_eq_true rfl⟩ ⟨room_c (by omega), room_s (by omega)⟩ (Nat.le_of_ble_eq_true rfl) (fun r n h hp => ?_) (fun _ _ _ q => q.elim)
    obtain ⟨rfl, rfl, rfl⟩ := hp
    rw [show (countFigK f z k kp 1 : Int32) = nI k from hO.1]
    refine XV.run C okL_head 2 (q := (102, ([some (.ref (0)), some (.ref (4)), some (.int (1)), some (.int (nI t)), some (.int (nI j)), some (.int (nI (lowN c0 12))), some (.int (ca)), some (.int (cb)), some (.int (cc)), some (.int (nI k)), none, none, none, none, none, none], [.int (nI k)]))) rfl ?_
    rcases Nat.eq_zero_or_pos k with hk0 | hk0
    ·
      refine XV.if_ne C (tgt := 109) (xlk_ok okL_head rfl) rfl (fun hc => absurd (by rw [hk0, nI_0]) hc) (fun _ => ?_)
      refine XV.run C okL_head 5 (q := (121, ([some (.ref (0)), some (.ref (4)), some (.int (1)), some (.int (nI t)), some (.int (nI j)), some (.int (nI (lowN c0 12))), some (.int (ca)), some (.int (cb)), some (.int (cc)), some (.int (nI k)), some (.int (0)), none, none, none, none, none], [.int (8), .ref (4)]))) rfl ?_
      refine XV.callV C (As := [.int (8)]) (rest := []) (ci := 4) (ct_D_count hfl (by decide) hO hz z1 z2 ho hkp (w := 8) (by decide)) (xlk_ok okL_head rfl) rfl (by decide) (by decide) rfl (cw_o) rfl wM_L_29 wI_C_count wV_C_count wN_C wB_C_count hy_C_count (fun q => q.elim) ⟨Nat.le_of_ble_eq_true rfl, Nat.le_of_ble_eq_true rfl⟩ ⟨room_c (by omega), room_s (by omega)⟩ (Nat.le_of_ble_eq_true rfl) (fun r n h hp => ?_) (fun _ _ _ q => q.elim)
      obtain ⟨rfl, rfl, rfl⟩ := hp
      rw [show (countFigK f z k kp 8 : Int32) = nI kp from rfl]
      refine XV.run C okL_head 5 (q := (132, ([some (.ref (0)), some (.ref (4)), some (.int (1)), some (.int (nI t)), some (.int (nI j)), some (.int (nI (lowN c0 12))), some (.int (ca)), some (.int (cb)), some (.int (cc)), some (.int (nI k)), some (.int (0)), some (.int (nI kp)), some (.int (0)), none, none, none], [.int (2), .int (nI (lowN c0 12))]))) rfl ?_
      refine XV.icmp_lt C (tgt := 140) (xlk_ok okL_head rfl) rfl (fun d2 => ?_) (fun d2 => ?_)
      ·
        exact XV.widen (k' := 210 + 5400 * j + 10) (ks' := 4000 + 33000 * j + 20) (by omega) (by omega) (XV.drop (law_hang (κ := 210 + 5400 * j + 10) (κs := 4000 + 33000 * j + 20) (i := 0) (xa := ca) (xb := cb) (xc := cc) hfl C hO hm4 ht99 (by omega) hz z1 z2 ho hkp hP (by omega) (by omega) next) rfl (by simp [xle, nI_0]))
      ·
        refine XV.run C okL_head 1 (q := (137, ([some (.ref (0)), some (.ref (4)), some (.int (1)), some (.int (nI t)), some (.int (nI j)), some (.int (nI (lowN c0 12))), some (.int (ca)), some (.int (cb)), some (.int (cc)), some (.int (nI k)), some (.int (0)), some (.int (nI kp)), some (.int (0)), none, none, none], [.int (nI k)]))) rfl ?_
        refine XV.if_ne C (tgt := 158) (xlk_ok okL_head rfl) rfl (fun hc => absurd (by rw [hk0, nI_0]) hc) (fun _ => ?_)
        exact XV.widen (k' := 210 + 5400 * j + 10) (ks' := 4000 + 33000 * j + 20) (by omega) (by omega) (XV.drop (law_hang (κ := 210 + 5400 * j + 10) (κs := 4000 + 33000 * j + 20) (i := 0) (xa := ca) (xb := cb) (xc := cc) hfl C hO hm4 ht99 (by omega) hz z1 z2 ho hkp hP (by omega) (by omega) next) rfl (by simp [xle, nI_0]))
    ·
      refine XV.if_ne C (tgt := 109) (xlk_ok okL_head rfl) rfl (fun _ => ?_) (fun hc => absurd hc (nI_ne0 hk0 (by omega)))
      refine XV.run C okL_head 2 (q := (113, ([some (.ref (0)), some (.ref (4)), some (.int (1)), some (.int (nI t)), some (.int (nI j)), some (.int (nI (lowN c0 12))), some (.int (ca)), some (.int (cb)), some (.int (cc)), some (.int (nI k)), none, none, none, none, none, none], [.int (nI k), .int (ca)]))) rfl ?_
      refine XV.callS C (As := [.int (ca), .int (nI k)]) (rest := []) (ct_L_low hfl ca (d := k) rfl (by omega) (by omega)) (xlk_ok okL_head rfl) rfl wM_L_64 wS_L_low wN_L wB_L_low hy_L_low (fun q => q.elim) ⟨Nat.le_of_ble_eq_true rfl, Nat.le_of_ble_eq_true rfl⟩ ⟨room_c (by omega), room_s (by omega)⟩ (Nat.le_of_ble_eq_true rfl) (fun r n h hp => ?_) (fun _ _ _ q => q.elim)
      obtain ⟨rfl, rfl, rfl⟩ := hp
      refine XV.run C okL_head 3 (q := (121, ([some (.ref (0)), some (.ref (4)), some (.int (1)), some (.int (nI t)), some (.int (nI j)), some (.int (nI (lowN c0 12))), some (.int (ca)), some (.int (cb)), some (.int (cc)), some (.int (nI k)), some (.int (nI (lowN ca k))), none, none, none, none, none], [.int (8), .ref (4)]))) rfl ?_
      refine XV.callV C (As := [.int (8)]) (rest := []) (ci := 4) (ct_D_count hfl (by decide) hO hz z1 z2 ho hkp (w := 8) (by decide)) (xlk_ok okL_head rfl) rfl (by decide) (by decide) rfl (cw_o) rfl wM_L_29 wI_C_count wV_C_count wN_C wB_C_count hy_C_count (fun q => q.elim) ⟨Nat.le_of_ble_eq_true rfl, Nat.le_of_ble_eq_true rfl⟩ ⟨room_c (by omega), room_s (by omega)⟩ (Nat.le_of_ble_eq_true rfl) (fun r n h hp => ?_) (fun _ _ _ q => q.elim)
      obtain ⟨rfl, rfl, rfl⟩ := hp
      rw [show (countFigK f z k kp 8 : Int32) = nI kp from rfl]
      refine XV.run C okL_head 5 (q := (132, ([some (.ref (0)), some (.ref (4)), some (.int (1)), some (.int (nI t)), some (.int (nI j)), some (.int (nI (lowN c0 12))), some (.int (ca)), some (.int (cb)), some (.int (cc)), some (.int (nI k)), some (.int (nI (lowN ca k))), some (.int (nI kp)), some (.int (0)), none, none, none], [.int (2), .int (nI (lowN c0 12))]))) rfl ?_
      refine XV.icmp_lt C (tgt := 140) (xlk_ok okL_head rfl) rfl (fun d2 => ?_) (fun d2 => ?_)
      ·
        exact XV.widen (k' := 210 + 5400 * j + 10) (ks' := 4000 + 33000 * j + 20) (by omega) (by omega) (XV.drop (law_hang (κ := 210 + 5400 * j + 10) (κs := 4000 + 33000 * j + 20) (i := (lowN ca k)) (xa := ca) (xb := cb) (xc := cc) hfl C hO hm4 ht99 (by omega) hz z1 z2 ho hkp hP (by omega) (by omega) next) rfl (by simp [xle, nI_0]))
      ·
        refine XV.run C okL_head 1 (q := (137, ([some (.ref (0)), some (.ref (4)), some (.int (1)), some (.int (nI t)), some (.int (nI j)), some (.int (nI (lowN c0 12))), some (.int (ca)), some (.int (cb)), some (.int (cc)), some (.int (nI k)), some (.int (nI (lowN ca k))), some (.int (nI kp)), some (.int (0)), none, none, none], [.int (nI k)]))) rfl ?_
        refine XV.if_ne C (tgt := 158) (xlk_ok okL_head rfl) rfl (fun _ => ?_) (fun hc => absurd hc (nI_ne0 hk0 (by omega)))
        refine XV.run C okL_head 2 (q := (162, ([some (.ref (0)), some (.ref (4)), some (.int (1)), some (.int (nI t)), some (.int (nI j)), some (.int (nI (lowN c0 12))), some (.int (ca)), some (.int (cb)), some (.int (cc)), some (.int (nI k)), some (.int (nI (lowN ca k))), some (.int (nI kp)), some (.int (0)), none, none, none], [.int (6), .int (nI (lowN c0 12))]))) rfl ?_
        refine XV.icmp_ge C (tgt := 280) (xlk_ok okL_head rfl) rfl (fun d6 => ?_) (fun d6 => ?_)
        ·
          refine XV.run C okL_head 2 (q := (284, ([some (.ref (0)), some (.ref (4)), some (.int (1)), some (.int (nI t)), some (.int (nI j)), some (.int (nI (lowN c0 12))), some (.int (ca)), some (.int (cb)), some (.int (cc)), some (.int (nI k)), some (.int (nI (lowN ca k))), some (.int (nI kp)), some (.int (0)), none, none, none], [.int (8), .int (nI (lowN c0 12))]))) rfl ?_
          refine XV.icmp_ge C (tgt := 322) (xlk_ok okL_head rfl) rfl (fun d8 => ?_) (fun d8 => ?_)
          ·
            refine XV.run C okL_head 2 (q := (326, ([some (.ref (0)), some (.ref (4)), some (.int (1)), some (.int (nI t)), some (.int (nI j)), some (.int (nI (lowN c0 12))), some (.int (ca)), some (.int (cb)), some (.int (cc)), some (.int (nI k)), some (.int (nI (lowN ca k))), some (.int (nI kp)), some (.int (0)), none, none, none], [.int (8), .int (nI (lowN c0 12))]))) rfl ?_
            refine XV.icmp_ne C (tgt := 362) (xlk_ok okL_head rfl) rfl (fun d9 => ?_) (fun d9 => ?_)
            ·
              refine XV.run C okL_head 2 (q := (366, ([some (.ref (0)), some (.ref (4)), some (.int (1)), some (.int (nI t)), some (.int (nI j)), some (.int (nI (lowN c0 12))), some (.int (ca)), some (.int (cb)), some (.int (cc)), some (.int (nI k)), some (.int (nI (lowN ca k))), some (.int (nI kp)), some (.int (0)), none, none, none], [.int (9), .int (nI (lowN c0 12))]))) rfl ?_
              refine XV.icmp_ne C (tgt := 437) (xlk_ok okL_head rfl) rfl (fun d10 => ?_) (fun d10 => ?_)
              ·
                refine XV.run C okL_head 2 (q := (441, ([some (.ref (0)), some (.ref (4)), some (.int (1)), some (.int (nI t)), some (.int (nI j)), some (.int (nI (lowN c0 12))), some (.int (ca)), some (.int (cb)), some (.int (cc)), some (.int (nI k)), some (.int (nI (lowN ca k))), some (.int (nI kp)), some (.int (0)), none, none, none], [.int (10), .int (nI (lowN c0 12))]))) rfl ?_
                refine XV.icmp_ne C (tgt := 468) (xlk_ok okL_head rfl) rfl (fun d11 => ?_) (fun d11 => ?_)
                ·
                  exact XV.widen (k' := 210 + 5400 * j + 10) (ks' := 4000 + 33000 * j + 20) (by omega) (by omega) (XV.drop (law_undo (κ := 210 + 5400 * j + 10) (κs := 4000 + 33000 * j + 20) (i := (lowN ca k)) (xa := ca) (xb := cb) (xc := cc) hfl C hO hm4 ht99 (by omega) hz z1 z2 ho hkp hP (by omega) (by omega) next) rfl (by simp [xle, nI_0]))
                ·
                  exact XV.widen (k' := 210 + 5400 * j + 10) (ks' := 4000 + 33000 * j + 20) (by omega) (by omega) (XV.drop (law_set (κ := 210 + 5400 * j + 10) (κs := 4000 + 33000 * j + 20) (i := (lowN ca k)) (xa := ca) (xb := cb) (xc := cc) hfl C hO hm4 ht99 (by omega) hz z1 z2 ho hkp hP (by omega) (by omega) next) rfl (by simp [xle, nI_0]))
              ·
                exact XV.widen (k' := 210 + 5400 * j + 10) (ks' := 4000 + 33000 * j + 20) (by omega) (by omega) (XV.drop (law_swap (κ := 210 + 5400 * j + 10) (κs := 4000 + 33000 * j + 20) (i := (lowN ca k)) (xa := ca) (xb := cb) (xc := cc) hfl C hO hm4 ht99 (by omega) hz z1 z2 ho hkp hP (by omega) (by omega) (lowN_lt ca hk0) next) rfl (by simp [xle, nI_0]))
            ·
              exact XV.widen (k' := 210 + 5400 * j + 10) (ks' := 4000 + 33000 * j + 20) (by omega) (by omega) (XV.drop (law_pass (κ := 210 + 5400 * j + 10) (κs := 4000 + 33000 * j + 20) (i := (lowN ca k)) (xa := ca) (xb := cb) (xc := cc) hfl C hO hm4 ht99 (by omega) hz z1 z2 ho hkp hP (by omega) (by omega) next) rfl (by simp [xle, nI_0]))
          ·
            exact XV.widen (k' := 210 + 5400 * j + 10) (ks' := 4000 + 33000 * j + 20) (by omega) (by omega) (XV.drop (law_inspect (κ := 210 + 5400 * j + 10) (κs := 4000 + 33000 * j + 20) (i := (lowN ca k)) (xa := ca) (xb := cb) (xc := cc) hfl C hO hm4 ht99 (by omega) hz z1 z2 ho hkp hP (by omega) (by omega) (lowN_lt ca hk0) next) rfl (by simp [xle, nI_0]))
        ·
          exact XV.widen (k' := 210 + 5400 * j + 10) (ks' := 4000 + 33000 * j + 20) (by omega) (by omega) (XV.drop (law_trip (κ := 210 + 5400 * j + 10) (κs := 4000 + 33000 * j + 20) (i := (lowN ca k)) (xa := ca) (xb := cb) (xc := cc) hfl C hO hm4 ht99 (by omega) hz z1 z2 ho hkp hP (by omega) (by omega) next) rfl (by simp [xle, nI_0]))
end LAWT
