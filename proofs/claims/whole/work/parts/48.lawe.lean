/-! The law: its loop -/
def kL_head : List (Nat × (Instr × Nat)) := [(23, (.iload 4, 2)), (25, (.aload_n 0, 1)), (26, (.arraylength, 1)), (27, (.iconst 4, 1)), (28, (.isub, 1)), (29, (.if_icmp .gt 1367, 3)), (32, (.aload_n 0, 1)), (33, (.iload 4, 2)), (35, (.iaload, 1)), (36, (.bipush 31, 2)), (38, (.iand, 1)), (39, (.tableswitch 1351 0 22 #[105, 161, 217, 285, 365, 433, 513, 569, 625, 638, 651, 695, 739, 807, 887, 967, 1023, 1079, 1159, 1227, 1283, 1296, 1337], 105)), (1390, (.iinc 4 4, 3)), (1393, (.goto (-1370), 3)), (1396, (.iconst 1, 1)), (1397, (.ireturn, 1))]
set_option maxRecDepth 100000 in
theorem okL_head : ∀ a ∈ kL_head, decode code a.1 = .ok a.2 := by decide +kernel
def kL_start : List (Nat × (Instr × Nat)) := [(0, (.new 8, 3)), (3, (.dup, 1)), (4, (.invokespecial 73, 3)), (7, (.astore_n 1, 1)), (8, (.new 74, 3)), (11, (.dup, 1)), (12, (.invokespecial 76, 3)), (15, (.astore_n 2, 1)), (16, (.iconst 1, 1)), (17, (.newarray .long, 2)), (19, (.astore_n 3, 1)), (20, (.iconst 0, 1)), (21, (.istore 4, 2))]
set_option maxRecDepth 100000 in
theorem okL_start : ∀ a ∈ kL_start, decode code a.1 = .ok a.2 := by decide +kernel
section LAWC
variable {l : Launch} {G : XG} {p' : Program} {e' : Env} {s' : State} {m' : MethodId} {g' : Array Value} {b' : List Frame} {t' : Method} {c' : Code} {Q : State → Prop} {k ks j : Nat} {hb : XH} {f : Nat → Int32} {o kp : Nat} {P : Nat → Nat → Int32} {tx : Nat → Int32} {len : Nat} {p : PT} {ρ pa tr td F : Nat → Int32} {fo : Nat → Int64}
theorem len_gt {L j : Nat} (hL : L ≤ 2048) (hj : j ≤ 513) : nI L - 4 < nI (4 * j) ↔ ¬ 4 * j + 4 ≤ L := by
  rw [lt_tI, tI_sub, nI_tI (by omega), nI_tI (by omega), tc_4]
  · omega
  · rw [nI_tI (by omega), tc_4]; omega
  · rw [nI_tI (by omega), tc_4]; omega
theorem and31 (x : Int32) : ∃ v, v < 32 ∧ x &&& 31 = nI v := ⟨_, Nat.mod_lt _ (by decide), pk_and x 5 (by decide)⟩
set_option maxHeartbeats 8000000 in
set_option maxRecDepth 100000 in
theorem law_loop (hfl : l.stackTraces = false) (hL2 : xL G ≤ 2048) (C : XCx G l "RopeThreadsLaw" code 9 p' s' m' g' t' c') (fin : ∀ (j : Nat) (h : XH) (k ks : Nat), k ≤ 601024 → ks ≤ 7293034 → XV G 9 p' l e' room_1 s' m' g' b' t' c' Q 1396 [some (.ref 0), some (.ref 4), some (.ref 213), some (.ref 219), some (.int (nI (4 * j))), none, none, none, none] [] 216 (h) (k) (ks)) : ∀ (d j : Nat), j + d = 513 → ∀ (k ks : Nat), k = 220 + 8 * j → ks = 8000 + 48 * j → ∀ (hb : XH) (f : Nat → Int32) (o kp : Nat) (P : Nat → Nat → Int32) (tx : Nat → Int32) (len : Nat) (p : PT) (ρ pa tr td F : Nat → Int32) (fo : Nat → Int64), hb 219 = outC fo → LI f o kp P len pa F → XV G 9 p' l e' room_1 s' m' g' b' t' c' Q 23 [some (.ref 0), some (.ref 4), some (.ref 213), some (.ref 219), some (.int (nI (4 * j))), none, none, none, none] [] 216 (setM (setCW hb f o kp P tx len p ρ) f pa tr tx td F) (k) (ks) := by
  have hL : xL G < 2 ^ 31 := by omega
  intro d
  induction d with
  | zero =>
    intro j hj k ks hk hks hb f o kp P tx len p ρ pa tr td F fo h219 hI
    refine XV.run C okL_head 2 (q := (26, ([some (.ref 0), some (.ref 4), some (.ref 213), some (.ref 219), some (.int (nI (4 * j))), none, none, none, none], [.ref 0, .int (nI (4 * j))]))) rfl ?_
    refine XV.salen C (xlk_ok okL_head rfl) ?_
    refine XV.run C okL_head 2 (q := (29, ([some (.ref 0), some (.ref 4), some (.ref 213), some (.ref 219), some (.int (nI (4 * j))), none, none, none, none], [.int (nI (xL G) - 4), .int (nI (4 * j))]))) rfl ?_
    refine XV.icmp_gt C (tgt := 1396) (xlk_ok okL_head rfl) rfl (fun _ => fin j _ k ks (by omega) (by omega)) (fun hc => absurd ((len_gt hL2 (by omega)).mpr (by omega)) hc)
  | succ d ih =>
    intro j hj k ks hk hks hb f o kp P tx len p ρ pa tr td F fo h219 hI
    refine XV.run C okL_head 2 (q := (26, ([some (.ref 0), some (.ref 4), some (.ref 213), some (.ref 219), some (.int (nI (4 * j))), none, none, none, none], [.ref 0, .int (nI (4 * j))]))) rfl ?_
    refine XV.salen C (xlk_ok okL_head rfl) ?_
    refine XV.run C okL_head 2 (q := (29, ([some (.ref 0), some (.ref 4), some (.ref 213), some (.ref 219), some (.int (nI (4 * j))), none, none, none, none], [.int (nI (xL G) - 4), .int (nI (4 * j))]))) rfl ?_
    refine XV.icmp_gt C (tgt := 1396) (xlk_ok okL_head rfl) rfl (fun _ => fin j _ k ks (by omega) (by omega)) (fun hc => ?_)
    have hj4 : 4 * j + 4 ≤ xL G := by
      rcases Nat.lt_or_ge (xL G) (4 * j + 4) with q | q
      · exact absurd ((len_gt hL2 (by omega)).mpr (by omega)) hc
      · exact q
    have next : ∀ (hb : XH) (f : Nat → Int32) (o kp : Nat) (P : Nat → Nat → Int32) (tx : Nat → Int32) (len : Nat) (p : PT) (ρ pa tr td F : Nat → Int32) (fo : Nat → Int64), hb 219 = outC fo → LI f o kp P len pa F → XV G 9 p' l e' room_1 s' m' g' b' t' c' Q 1390 [some (.ref 0), some (.ref 4), some (.ref 213), some (.ref 219), some (.int (nI (4 * j))), none, none, none, none] [] 216 (setM (setCW hb f o kp P tx len p ρ) f pa tr tx td F) (k + 8) (ks + 48) := by
      intro hb f o kp P tx len p ρ pa tr td F fo h219 hI
      refine XV.run C okL_head 2 (q := (23, ([some (.ref 0), some (.ref 4), some (.ref 213), some (.ref 219), some (.int (nI (4 * j) + 4)), none, none, none, none], []))) rfl ?_
      rw [show nI (4 * j) + 4 = nI (4 * (j + 1)) from nI_add _ 4]
      exact ih (j + 1) (by omega) (k + 8) (ks + 48) (by omega) (by omega) _ _ _ _ _ _ _ _ _ _ _ _ _ _ h219 hI
    refine XV.run C okL_head 2 (q := (35, ([some (.ref 0), some (.ref 4), some (.ref 213), some (.ref 219), some (.int (nI (4 * j))), none, none, none, none], [.int (nI (4 * j)), .ref 0]))) rfl ?_
    refine XV.sald C (a := 4 * j) (xlk_ok okL_head rfl) rfl (by omega) hL ?_
    refine XV.run C okL_head 2 (q := (39, ([some (.ref 0), some (.ref 4), some (.ref 213), some (.ref 219), some (.int (nI (4 * j))), none, none, none, none], [.int (xxs G (4 * j) &&& 31)]))) rfl ?_
    obtain ⟨v, hv, ev⟩ := and31 (xxs G (4 * j))
    rw [ev]
    by_cases h23 : v < 23
    · rcases (show v = 0 ∨ v = 1 ∨ v = 2 ∨ v = 3 ∨ v = 4 ∨ v = 5 ∨ v = 6 ∨ v = 7 ∨ v = 8 ∨ v = 9 ∨ v = 10 ∨ v = 11 ∨ v = 12 ∨ v = 13 ∨ v = 14 ∨ v = 15 ∨ v = 16 ∨ v = 17 ∨ v = 18 ∨ v = 19 ∨ v = 20 ∨ v = 21 ∨ v = 22 by omega) with rfl | rfl | rfl | rfl | rfl | rfl | rfl | rfl | rfl | rfl | rfl | rfl | rfl | rfl | rfl | rfl | rfl | rfl | rfl | rfl | rfl | rfl | rfl
      · refine XV.tabIn C (off := 105) (tgt := 144) (xlk_ok okL_head rfl) (by decide) (by decide) rfl rfl ?_
        exact law_c0 hfl hL C (by omega) (by omega) hj4 h219 hI next
      · refine XV.tabIn C (off := 161) (tgt := 200) (xlk_ok okL_head rfl) (by decide) (by decide) rfl rfl ?_
        exact law_c1 hfl hL C (by omega) (by omega) hj4 h219 hI next
      · refine XV.tabIn C (off := 217) (tgt := 256) (xlk_ok okL_head rfl) (by decide) (by decide) rfl rfl ?_
        exact law_c2 hfl hL C (by omega) (by omega) hj4 h219 hI next
      · refine XV.tabIn C (off := 285) (tgt := 324) (xlk_ok okL_head rfl) (by decide) (by decide) rfl rfl ?_
        exact law_c3 hfl hL C (by omega) (by omega) hj4 h219 hI next
      · refine XV.tabIn C (off := 365) (tgt := 404) (xlk_ok okL_head rfl) (by decide) (by decide) rfl rfl ?_
        exact law_c4 hfl hL C (by omega) (by omega) hj4 h219 hI next
      · refine XV.tabIn C (off := 433) (tgt := 472) (xlk_ok okL_head rfl) (by decide) (by decide) rfl rfl ?_
        exact law_c5 hfl hL C (by omega) (by omega) hj4 h219 hI next
      · refine XV.tabIn C (off := 513) (tgt := 552) (xlk_ok okL_head rfl) (by decide) (by decide) rfl rfl ?_
        exact law_c6 hfl hL C (by omega) (by omega) hj4 h219 hI next
      · refine XV.tabIn C (off := 569) (tgt := 608) (xlk_ok okL_head rfl) (by decide) (by decide) rfl rfl ?_
        exact law_c7 hfl hL C (by omega) (by omega) hj4 h219 hI next
      · refine XV.tabIn C (off := 625) (tgt := 664) (xlk_ok okL_head rfl) (by decide) (by decide) rfl rfl ?_
        exact law_c8 hfl hL C (by omega) (by omega) hj4 h219 hI next
      · refine XV.tabIn C (off := 638) (tgt := 677) (xlk_ok okL_head rfl) (by decide) (by decide) rfl rfl ?_
        exact law_c9 hfl hL C (by omega) (by omega) hj4 h219 hI next
      · refine XV.tabIn C (off := 651) (tgt := 690) (xlk_ok okL_head rfl) (by decide) (by decide) rfl rfl ?_
        exact law_c10 hfl hL C (by omega) (by omega) hj4 h219 hI next
      · refine XV.tabIn C (off := 695) (tgt := 734) (xlk_ok okL_head rfl) (by decide) (by decide) rfl rfl ?_
        exact law_c11 hfl hL C (by omega) (by omega) hj4 h219 hI next
      · refine XV.tabIn C (off := 739) (tgt := 778) (xlk_ok okL_head rfl) (by decide) (by decide) rfl rfl ?_
        exact law_c12 hfl hL C (by omega) (by omega) hj4 h219 hI next
      · refine XV.tabIn C (off := 807) (tgt := 846) (xlk_ok okL_head rfl) (by decide) (by decide) rfl rfl ?_
        exact law_c13 hfl hL C (by omega) (by omega) hj4 h219 hI next
      · refine XV.tabIn C (off := 887) (tgt := 926) (xlk_ok okL_head rfl) (by decide) (by decide) rfl rfl ?_
        exact law_c14 hfl hL C (by omega) (by omega) hj4 h219 hI next
      · refine XV.tabIn C (off := 967) (tgt := 1006) (xlk_ok okL_head rfl) (by decide) (by decide) rfl rfl ?_
        exact law_c15 hfl hL C (by omega) (by omega) hj4 h219 hI next
      · refine XV.tabIn C (off := 1023) (tgt := 1062) (xlk_ok okL_head rfl) (by decide) (by decide) rfl rfl ?_
        exact law_c16 hfl hL C (by omega) (by omega) hj4 h219 hI next
      · refine XV.tabIn C (off := 1079) (tgt := 1118) (xlk_ok okL_head rfl) (by decide) (by decide) rfl rfl ?_
        exact law_c17 hfl hL C (by omega) (by omega) hj4 h219 hI next
      · refine XV.tabIn C (off := 1159) (tgt := 1198) (xlk_ok okL_head rfl) (by decide) (by decide) rfl rfl ?_
        exact law_c18 hfl hL C (by omega) (by omega) hj4 h219 hI next
      · refine XV.tabIn C (off := 1227) (tgt := 1266) (xlk_ok okL_head rfl) (by decide) (by decide) rfl rfl ?_
        exact law_c19 hfl hL C (by omega) (by omega) hj4 h219 hI next
      · refine XV.tabIn C (off := 1283) (tgt := 1322) (xlk_ok okL_head rfl) (by decide) (by decide) rfl rfl ?_
        exact law_c20 hfl hL C (by omega) (by omega) hj4 h219 hI next
      · refine XV.tabIn C (off := 1296) (tgt := 1335) (xlk_ok okL_head rfl) (by decide) (by decide) rfl rfl ?_
        exact law_c21 hfl hL C (by omega) (by omega) hj4 h219 hI next
      · refine XV.tabIn C (off := 1337) (tgt := 1376) (xlk_ok okL_head rfl) (by decide) (by decide) rfl rfl ?_
        exact law_c22 hfl hL C (by omega) (by omega) hj4 h219 hI next
    · refine XV.tabOut C (tgt := 1390) (xlk_ok okL_head rfl) (Or.inr (by rw [nI_tI (by omega)]; omega)) rfl ?_
      exact XV.widen (by omega) (by omega) (next _ _ _ _ _ _ _ _ _ _ _ _ _ _ h219 hI)
end LAWC
