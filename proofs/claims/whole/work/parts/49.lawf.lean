/-! The law: its start -/
section LAWC
variable {l : Launch} {G : XG} {p' : Program} {e' : Env} {s' : State} {m' : MethodId} {g' : Array Value} {b' : List Frame} {t' : Method} {c' : Code} {Q : State → Prop}
theorem OKs_0 : OKs f0K := by
  refine ⟨0, 0, 0, nI_0.symm, by omega, nI_0.symm, by omega, nI_0.symm, by omega, ⟨⟨4, rfl, by omega, by omega⟩, ⟨8, rfl, by omega, by omega⟩, ⟨20, rfl, by omega, by omega⟩, ⟨5, rfl, by omega, by omega⟩, ⟨3, rfl, by omega, by omega⟩⟩, fun i hi => absurd hi (Nat.not_lt_zero i)⟩
set_option maxHeartbeats 8000000 in
set_option maxRecDepth 100000 in
theorem law_begin (hfl : l.stackTraces = false) (hL2 : xL G ≤ 2048) (C : XCx G l "RopeThreadsLaw" code 9 p' s' m' g' t' c') (hs : s'.heap.size = xbase G) (fin : ∀ (j : Nat) (h : XH) (k ks : Nat), k ≤ 601024 → ks ≤ 7293034 → XV G 9 p' l e' room_1 s' m' g' b' t' c' Q 1396 [some (.ref 0), some (.ref 4), some (.ref 213), some (.ref 219), some (.int (nI (4 * j))), none, none, none, none] [] 216 h k ks) (h0 : XH) : XV G 9 p' l e' room_1 s' m' g' b' t' c' Q 0 [some (.ref 0), none, none, none, none, none, none, none, none] [] 0 h0 0 0 := by
  refine XV.new C (ci := 4) (fs := [.null, .null, .null, .null]) (xlk_ok okL_start rfl) rfl wC_L_8 wA_C wN_C (by intro j ty hj hp; rcases (show j = 0 ∨ j = 1 ∨ j = 2 ∨ j = 3 by have : j < 4 := hj; omega) with rfl | rfl | rfl | rfl <;> (cases hp; rfl)) (by omega) (room_c (by omega)) (room_s (by show 0 + 4 ≤ 7293034; omega)) ?_
  refine XV.cast (blkL_1 _ _ _) ?_
  show XV G 9 p' l e' room_1 s' m' g' b' t' c' Q 3 [some (.ref 0), none, none, none, none, none, none, none, none] [.ref 4] 1 (blkL h0 4 [.inr (4, [.null, .null, .null, .null])]) 1 4
  refine XV.run C okL_start 1 (q := (4, ([some (.ref 0), none, none, none, none, none, none, none, none], [.ref 4, .ref 4]))) rfl ?_
  refine XV.callI C (As := []) (rest := [.ref 4]) (ct_C_init hfl (h := h0)) (xlk_ok okL_start rfl) rfl wM_L_73 wI_C_init wN_C wB_C_init rfl hy_C_init (fun _ => by omega) ⟨Nat.le_of_ble_eq_true rfl, Nat.le_of_ble_eq_true rfl⟩ ⟨room_c (by omega), room_s (by omega)⟩ (Nat.le_of_ble_eq_true rfl) (fun r n h hp => ?_) (fun _ _ _ q => q.elim)
  obtain ⟨rfl, rfl, rfl⟩ := hp
  refine XV.run C okL_start 1 (q := (8, ([some (.ref 0), some (.ref 4), none, none, none, none, none, none, none], []))) rfl ?_
  refine XV.new C (ci := 5) (fs := [.null, .null, .int 0, .null, .null, .int 0, .int 0, .int 0, .int 0, .null, .int 0]) (xlk_ok okL_start rfl) rfl wC_L_74 wA_M wN_M (by intro j ty hj hp; rcases (show j = 0 ∨ j = 1 ∨ j = 2 ∨ j = 3 ∨ j = 4 ∨ j = 5 ∨ j = 6 ∨ j = 7 ∨ j = 8 ∨ j = 9 ∨ j = 10 by have : j < 11 := hj; omega) with rfl | rfl | rfl | rfl | rfl | rfl | rfl | rfl | rfl | rfl | rfl <;> (cases hp; rfl)) (by omega) (room_c (by omega)) (room_s (by show 4 + 3947 + 11 ≤ 7293034; omega)) ?_
  refine XV.cast (blkL_1 _ _ _) ?_
  refine XV.run C okL_start 1 (q := (12, ([some (.ref 0), some (.ref 4), none, none, none, none, none, none, none], [.ref 213, .ref 213]))) rfl ?_
  refine XV.callI C (As := []) (rest := [.ref 213]) (ct_M_init hfl) (xlk_ok okL_start rfl) rfl wM_L_76 wI_M_init wN_M wB_M_init rfl hy_M_init (fun _ => by omega) ⟨Nat.le_of_ble_eq_true rfl, Nat.le_of_ble_eq_true rfl⟩ ⟨room_c (by omega), room_s (by show 4 + 3947 + 11 + 3760 ≤ 7293034; omega)⟩ (Nat.le_of_ble_eq_true rfl) (fun r n h hp => ?_) (fun _ _ _ q => q.elim)
  obtain ⟨rfl, rfl, rfl⟩ := hp
  refine XV.run C okL_start 2 (q := (17, ([some (.ref 0), some (.ref 4), some (.ref 213), none, none, none, none, none, none], [.int 1]))) rfl ?_
  refine XV.newL C (N := 1) (xlk_ok okL_start rfl) wR_1019 rfl (by decide) (by omega) (room_c (by omega)) (room_s (by show 4 + 3947 + 11 + 3760 + 1 ≤ 7293034; omega)) ?_
  refine XV.run C okL_start 3 (q := (23, ([some (.ref 0), some (.ref 4), some (.ref 213), some (.ref 219), some (.int 0), none, none, none, none], []))) rfl ?_
  refine XV.cast (h' := setM (setCW (xup h0 219 (outC (fun _ => 0))) f0K 0 0 (fun _ => f0K) (fun _ => 0) 0 (fun _ => 0, (fun _ => 0, (fun _ => 0, 0))) rI) f0K (fun _ => 0) (fun _ => 0) (fun _ => 0) (fun _ => 0) (fun _ => 0)) ?_ ?_
  · unfold setM setCW
    rw [xup_blk _ _ _ (Or.inr (by decide)), xup_blk _ _ _ (Or.inr (by decide))]
  rw [← nI_0]
  exact XV.widen (by omega) (by show 4 + 3947 + 11 + 3760 + 1 ≤ 8000 + 48 * 0; omega) (law_loop hfl hL2 C fin 513 0 rfl 220 8000 rfl rfl _ _ _ _ _ _ _ _ _ _ _ _ _ _ (xup_at h0 219 _) ⟨OKs_0, by omega, by omega, fun j hj => absurd hj (Nat.not_lt_zero j), by omega, nI_0.symm, nI_0.symm⟩)
end LAWC
