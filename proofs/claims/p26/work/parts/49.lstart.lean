/-! RopeThreadsLaw: the start -/
def kL_start : List (Nat × (Instr × Nat)) := [(0, (.new 10, 3)), (3, (.dup, 1)), (4, (.invokespecial 59, 3)), (7, (.astore_n 1, 1)), (8, (.iconst 1, 1)), (9, (.istore_n 2, 1)), (10, (.aload_n 0, 1)), (11, (.arraylength, 1)), (12, (.iconst 4, 1)), (13, (.idiv, 1)), (14, (.bipush 26, 2)), (16, (.if_icmp .le 8, 3)), (19, (.bipush 26, 2)), (21, (.goto 7, 3)), (24, (.aload_n 0, 1)), (25, (.arraylength, 1)), (26, (.iconst 4, 1)), (27, (.idiv, 1)), (28, (.istore_n 3, 1)), (29, (.iconst 0, 1)), (30, (.istore 4, 2))]
set_option maxRecDepth 100000 in
theorem okL_start : ∀ a ∈ kL_start, decode code a.1 = .ok a.2 := by decide +kernel
def kL_end : List (Nat × (Instr × Nat)) := [(513, (.iload_n 2, 1)), (514, (.ireturn, 1))]
set_option maxRecDepth 100000 in
theorem okL_end : ∀ a ∈ kL_end, decode code a.1 = .ok a.2 := by decide +kernel
section LAWS
variable {l : Launch} {G : XG} {p' : Program} {e' : Env} {s' : State} {m' : MethodId} {g' : Array Value} {b' : List Frame} {t' : Method} {c' : Code} {Q : State → Prop}
theorem OKT_0 : OKT f0K 0 := by
  refine ⟨0, 0, 0, ⟨nI_0.symm, by omega, nI_0.symm, by omega, nI_0.symm, by omega, ⟨⟨4, rfl, by omega, by omega⟩, ⟨8, rfl, by omega, by omega⟩, ⟨20, rfl, by omega, by omega⟩, ⟨5, rfl, by omega, by omega⟩, ⟨3, rfl, by omega, by omega⟩⟩, fun i hi => absurd hi (Nat.not_lt_zero i)⟩, by omega, by omega⟩
theorem len4 {L : Nat} (h : L ≤ 260) : nI L / 4 = nI (L / 4) := pk_div (d := 4) (by omega) (by decide) (by decide)
set_option maxHeartbeats 8000000 in
set_option maxRecDepth 100000 in
theorem law_begin (hfl : l.stackTraces = false) (hL2 : xL G ≤ 260) (C : XCx G l "RopeThreadsLaw" code 16 p' s' m' g' t' c') (hs : s'.heap.size = xbase G) (fin : ∀ (h : XH) (k ks : Nat), k ≤ 600130 → ks ≤ 7301080 → XV G 16 p' l e' room_1 s' m' g' b' t' c' Q 513 [some (.ref 0), some (.ref 4), some (.int 1), none, none, none, none, none, none, none, none, none, none, none, none, none] [] 209 h k ks) (h0 : XH) : XV G 16 p' l e' room_1 s' m' g' b' t' c' Q 0 [some (.ref 0), none, none, none, none, none, none, none, none, none, none, none, none, none, none, none] [] 0 h0 0 0 := by
  have hL : xL G < 2 ^ 31 := by omega
  refine XV.new C (ci := 4) (fs := [.null, .null, .null, .null]) (xlk_ok okL_start rfl) rfl wC_L_10 wA_C wN_C (by intro j ty hj hp; rcases (show j = 0 ∨ j = 1 ∨ j = 2 ∨ j = 3 by have : j < 4 := hj; omega) with rfl | rfl | rfl | rfl <;> (cases hp; rfl)) (by omega) (room_c (by omega)) (room_s (by show 0 + 4 ≤ 7301080; omega)) ?_
  refine XV.cast (blkL_1 _ _ _) ?_
  show XV G 16 p' l e' room_1 s' m' g' b' t' c' Q 3 [some (.ref 0), none, none, none, none, none, none, none, none, none, none, none, none, none, none, none] [.ref 4] 1 (blkL h0 4 [.inr (4, [.null, .null, .null, .null])]) 1 4
  refine XV.run C okL_start 1 (q := (4, ([some (.ref 0), none, none, none, none, none, none, none, none, none, none, none, none, none, none, none], [.ref 4, .ref 4]))) rfl ?_
  refine XV.callI C (As := []) (rest := [.ref 4]) (ct_C_init hfl (h := h0)) (xlk_ok okL_start rfl) rfl wM_L_59 wI_C_init wN_C wB_C_init rfl hy_C_init (fun _ => by omega) ⟨Nat.le_of_ble_eq_true rfl, Nat.le_of_ble_eq_true rfl⟩ ⟨room_c (by omega), room_s (by omega)⟩ (Nat.le_of_ble_eq_true rfl) (fun r n h hp => ?_) (fun _ _ _ q => q.elim)
  obtain ⟨rfl, rfl, rfl⟩ := hp
  have main : ∀ t : Nat, t ≤ 26 → XV G 16 p' l e' room_1 s' m' g' b' t' c' Q 32 [some (.ref 0), some (.ref 4), some (.int 1), some (.int (nI t)), some (.int 0), none, none, none, none, none, none, none, none, none, none, none] [] 209 (setCW h0 f0K 0 0 (fun _ => f0K) (fun _ => 0) 0 (fun _ => 0, (fun _ => 0, (fun _ => 0, 0))) rI) 210 4000 := by
    intro t ht
    rw [← nI_0]
    exact law_loop hfl hL C ht fin t 0 (by omega) _ _ _ _ _ OKT_0 (by omega) (by omega) (fun j hj => absurd hj (Nat.not_lt_zero j))
  refine XV.run C okL_start 4 (q := (11, ([some (.ref 0), some (.ref 4), some (.int 1), none, none, none, none, none, none, none, none, none, none, none, none, none], [.ref 0]))) rfl ?_
  refine XV.salen C (xlk_ok okL_start rfl) ?_
  refine XV.run C okL_start 1 (q := (13, ([some (.ref 0), some (.ref 4), some (.int 1), none, none, none, none, none, none, none, none, none, none, none, none, none], [.int 4, .int (nI (xL G))]))) rfl ?_
  refine XV.idiv C (xlk_ok okL_start rfl) (by decide) ?_
  rw [len4 hL2]
  refine XV.run C okL_start 1 (q := (16, ([some (.ref 0), some (.ref 4), some (.int 1), none, none, none, none, none, none, none, none, none, none, none, none, none], [.int 26, .int (nI (xL G / 4))]))) rfl ?_
  refine XV.icmp_le C (tgt := 24) (xlk_ok okL_start rfl) rfl (fun c => ?_) (fun c => ?_)
  · have ht : xL G / 4 ≤ 26 := (nI_leI (b := 26) (by omega) (by omega)).mp c
    refine XV.run C okL_start 1 (q := (25, ([some (.ref 0), some (.ref 4), some (.int 1), none, none, none, none, none, none, none, none, none, none, none, none, none], [.ref 0]))) rfl ?_
    refine XV.salen C (xlk_ok okL_start rfl) ?_
    refine XV.run C okL_start 1 (q := (27, ([some (.ref 0), some (.ref 4), some (.int 1), none, none, none, none, none, none, none, none, none, none, none, none, none], [.int 4, .int (nI (xL G))]))) rfl ?_
    refine XV.idiv C (xlk_ok okL_start rfl) (by decide) ?_
    rw [len4 hL2]
    refine XV.run C okL_start 3 (q := (32, ([some (.ref 0), some (.ref 4), some (.int 1), some (.int (nI (xL G / 4))), some (.int 0), none, none, none, none, none, none, none, none, none, none, none], []))) rfl ?_
    exact XV.widen (by omega) (by omega) (main _ ht)
  · refine XV.run C okL_start 5 (q := (32, ([some (.ref 0), some (.ref 4), some (.int 1), some (.int (nI 26)), some (.int 0), none, none, none, none, none, none, none, none, none, none, none], []))) rfl ?_
    exact XV.widen (by omega) (by omega) (main 26 (by omega))
end LAWS
