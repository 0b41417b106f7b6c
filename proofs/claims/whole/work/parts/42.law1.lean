/-! RopeThreadsLaw: the wrappers of the calls that throw -/
abbrev outC (fo : Nat → Int64) : XC := .inl (1, (1, .inr (.inl fo)))
def oN (v : Int32) : Nat → Int64 := fun _ => v.toInt64
set_option maxHeartbeats 4000000 in
set_option maxRecDepth 100000 in
theorem ct_L_hang {l : Launch} (hfl : l.stackTraces = false) {G : XG}  {n : Nat} {h : XH} {f : Nat → Int32} {o kp : Nat} {P : Nat → Nat → Int32} {tx : Nat → Int32} {len : Nat} {p : PT} {ρ : Nat → Int32} (hn : 209 ≤ n) {k : Nat} (hm : f 1 = nI k) (hk : k ≤ 5) (hl : ∀ i, i < k → 0 < rowOf f i 0) (ho : o < 6) (hkp : kp ≤ 6) (x : Int32) (hn6 : 216 ≤ n) {fo : Nat → Int64} (h219 : h 219 = outC fo) : XCt l G False (Cond.codeWith yL_hang bL_hang 4 (some .int) [(0, 9, 12, 13), (0, 9, 15, 15)]) yL_hang 8 133 2 12 [.ref (4), .int (x), .ref (219)] n (setCW h f o kp P tx len p ρ) (fun r' n' h' => n' = n ∧ ((((¬ x < 1 ∧ x ≤ 99) ∧ k < 5) ∧ r' = some (.int 0) ∧ h' = xup (setCW h (putRow (upd f 1 (f 1 + 1)) k (rNew x (f 0))) (kO o kp) (kK kp) (kP o kp P f) tx len p ρ) 219 (outC (vp_updL fo 0 (nI k).toInt64))) ∨ ((x < 1 ∨ ¬ x ≤ 99) ∧ r' = some (.int 1) ∧ h' = setCW h f o kp P tx len p ρ) ∨ (((¬ x < 1 ∧ x ≤ 99) ∧ ¬ k < 5) ∧ r' = some (.int 2) ∧ h' = setCW h f o kp P tx len p ρ))) (fun _ _ _ => False) := by
  refine XCt.ofH hfl (by decide +kernel) (Nat.le_of_ble_eq_true rfl) ?_
  intro p' e' s' m' g' b' t' c' C hret htab hmd
  refine XV.run C okL_hang 4 (q := (4, ([some (.ref (4)), some (.int (x)), some (.ref (219)), none], [.int (x), .ref (4), .int (0), .ref (219)]))) rfl ?_
  refine XV.callV C (As := [.int (x)]) (rest := [.int (0), .ref (219)]) (ci := 4) (ct_C_hang hfl hn hm hk hl ho hkp x) (xlk_ok okL_hang rfl) rfl (by omega) (by omega) rfl (cw_o) rfl wM_L_7 wI_C_hang wV_C_hang wN_C wB_C_hang hy_C_hang (fun q => q.elim) ⟨Nat.le_of_ble_eq_true rfl, Nat.le_of_ble_eq_true rfl⟩ ⟨Nat.le_of_ble_eq_true rfl, Nat.le_of_ble_eq_true rfl⟩ (Nat.le_of_ble_eq_true rfl) (fun r n h hp => ?_) (fun E n1 h1 hx => ?_)
  ·
    obtain ⟨hc, rfl, rfl, rfl⟩ := hp
    refine XV.run C okL_hang 1 (q := (8, ([some (.ref (4)), some (.int (x)), some (.ref (219)), none], [.long (nI k).toInt64, .int 0, .ref 219]))) rfl ?_
    refine XV.last C (N := 1) (a := 0) (f := fo) (xlk_ok okL_hang (pc := 8) rfl) (by decide) (by omega) ((blk_out (Or.inr (by decide))).trans h219) rfl (by decide) (by decide) ?_
    refine XV.run C okL_hang 2 (q := (19, ([some (.ref (4)), some (.int (x)), some (.ref (219)), none], [.int (0)]))) rfl ?_
    exact XV.iret C (xlk_ok okL_hang rfl) hret rfl (Nat.le_of_ble_eq_true rfl) (Nat.le_of_ble_eq_true rfl) (⟨rfl, Or.inl (⟨hc, rfl, rfl⟩)⟩)
  ·
    obtain ⟨hx, rfl, rfl⟩ := hx
    rcases hx with ⟨rfl, hc⟩ | ⟨rfl, hc⟩
    ·
      refine XT.catch C (pre := []) (z := (0, 9, 12, 13)) (suf := [(0, 9, 15, 15)]) (a := 3) htab rfl (fun w hw => absurd hw List.not_mem_nil) ⟨Nat.le_of_ble_eq_true rfl, Nat.le_of_ble_eq_true rfl⟩ (by decide) wC_L_13 (List.mem_of_getElem? (i := 6) rfl) (xlk_ok okL_hang (pc := 12) rfl) (Or.inr ⟨3, rfl, rfl, rfl⟩) (by decide) ?_
      refine XV.run C okL_hang 1 (q := (14, ([some (.ref (4)), some (.int (x)), some (.ref (219)), none], [.int (1)]))) rfl ?_
      exact XV.iret C (xlk_ok okL_hang rfl) hret rfl (Nat.le_of_ble_eq_true rfl) (Nat.le_of_ble_eq_true rfl) (⟨rfl, Or.inr (Or.inl (⟨hc, rfl, rfl⟩))⟩)
    ·
      refine XT.catch C (pre := [(0, 9, 12, 13)]) (z := (0, 9, 15, 15)) (suf := []) (a := 3) htab rfl (List.forall_mem_cons.mpr ⟨⟨by decide, _, wC_L_13, Or.inr (Or.inr ⟨rfl, rfl⟩)⟩, fun w hw => absurd hw List.not_mem_nil⟩) ⟨Nat.le_of_ble_eq_true rfl, Nat.le_of_ble_eq_true rfl⟩ (by decide) wC_L_15 (List.mem_of_getElem? (i := 7) rfl) (xlk_ok okL_hang (pc := 15) rfl) (Or.inr ⟨3, rfl, rfl, rfl⟩) (by decide) ?_
      refine XV.run C okL_hang 1 (q := (17, ([some (.ref (4)), some (.int (x)), some (.ref (219)), none], [.int (2)]))) rfl ?_
      exact XV.iret C (xlk_ok okL_hang rfl) hret rfl (Nat.le_of_ble_eq_true rfl) (Nat.le_of_ble_eq_true rfl) (⟨rfl, Or.inr (Or.inr (⟨hc, rfl, rfl⟩))⟩)
set_option maxHeartbeats 4000000 in
set_option maxRecDepth 100000 in
theorem ct_L_cut {l : Launch} (hfl : l.stackTraces = false) {G : XG}  {n : Nat} {h : XH} {f : Nat → Int32} {o kp : Nat} {P : Nat → Nat → Int32} {tx : Nat → Int32} {len : Nat} {p : PT} {ρ : Nat → Int32} (hn : 209 ≤ n) {k : Nat} (hm : f 1 = nI k) (hk : k ≤ 5) (hl : ∀ i, i < k → 0 < rowOf f i 0) (ho : o < 6) (hkp : kp ≤ 6) (x : Int32) (hn6 : 216 ≤ n) {fo : Nat → Int64} (h219 : h 219 = outC fo) : XCt l G False (Cond.codeWith yL_cut bL_cut 4 (some .int) [(0, 9, 12, 20)]) yL_cut 8 133 1 6 [.ref (4), .int (x), .ref (219)] n (setCW h f o kp P tx len p ρ) (fun r' n' h' => n' = n ∧ ((∃ i, (x = nI i ∧ i < k) ∧ r' = some (.int 0) ∧ h' = xup (setCW h (upd (shiftK f i (k - 1 - i)) 1 (f 1 - 1)) (kO o kp) (kK kp) (kP o kp P f) tx len p ρ) 219 (outC (vp_updL fo 0 (nI (k - 1)).toInt64))) ∨ ((x < 0 ∨ nI k ≤ x) ∧ r' = some (.int 1) ∧ h' = setCW h f o kp P tx len p ρ))) (fun _ _ _ => False) := by
  refine XCt.ofH hfl (by decide +kernel) (Nat.le_of_ble_eq_true rfl) ?_
  intro p' e' s' m' g' b' t' c' C hret htab hmd
  refine XV.run C okL_cut 4 (q := (4, ([some (.ref (4)), some (.int (x)), some (.ref (219)), none], [.int (x), .ref (4), .int (0), .ref (219)]))) rfl ?_
  refine XV.callV C (As := [.int (x)]) (rest := [.int (0), .ref (219)]) (ci := 4) (ct_C_cut hfl hn hm hk hl ho hkp x) (xlk_ok okL_cut rfl) rfl (by omega) (by omega) rfl (cw_o) rfl wM_L_17 wI_C_cut wV_C_cut wN_C wB_C_cut hy_C_cut (fun q => q.elim) ⟨Nat.le_of_ble_eq_true rfl, Nat.le_of_ble_eq_true rfl⟩ ⟨Nat.le_of_ble_eq_true rfl, Nat.le_of_ble_eq_true rfl⟩ (Nat.le_of_ble_eq_true rfl) (fun r n h hp => ?_) (fun E n1 h1 hx => ?_)
  ·
    obtain ⟨i, hc, rfl, rfl, rfl⟩ := hp
    refine XV.run C okL_cut 1 (q := (8, ([some (.ref (4)), some (.int (x)), some (.ref (219)), none], [.long (nI (k - 1)).toInt64, .int 0, .ref 219]))) rfl ?_
    refine XV.last C (N := 1) (a := 0) (f := fo) (xlk_ok okL_cut (pc := 8) rfl) (by decide) (by omega) ((blk_out (Or.inr (by decide))).trans h219) rfl (by decide) (by decide) ?_
    refine XV.run C okL_cut 2 (q := (16, ([some (.ref (4)), some (.int (x)), some (.ref (219)), none], [.int (0)]))) rfl ?_
    exact XV.iret C (xlk_ok okL_cut rfl) hret rfl (Nat.le_of_ble_eq_true rfl) (Nat.le_of_ble_eq_true rfl) (⟨rfl, Or.inl (⟨i, hc, rfl, rfl⟩)⟩)
  ·
    obtain ⟨hx, rfl, rfl⟩ := hx
    obtain ⟨rfl, hc⟩ := hx
    refine XT.catch C (pre := []) (z := (0, 9, 12, 20)) (suf := []) (a := 3) htab rfl (fun w hw => absurd hw List.not_mem_nil) ⟨Nat.le_of_ble_eq_true rfl, Nat.le_of_ble_eq_true rfl⟩ (by decide) wC_L_20 (List.mem_of_getElem? (i := 8) rfl) (xlk_ok okL_cut (pc := 12) rfl) (Or.inr ⟨3, rfl, rfl, rfl⟩) (by decide) ?_
    refine XV.run C okL_cut 1 (q := (14, ([some (.ref (4)), some (.int (x)), some (.ref (219)), none], [.int (1)]))) rfl ?_
    exact XV.iret C (xlk_ok okL_cut rfl) hret rfl (Nat.le_of_ble_eq_true rfl) (Nat.le_of_ble_eq_true rfl) (⟨rfl, Or.inr (⟨hc, rfl, rfl⟩)⟩)
set_option maxHeartbeats 4000000 in
set_option maxRecDepth 100000 in
theorem ct_L_swap {l : Launch} (hfl : l.stackTraces = false) {G : XG}  {n : Nat} {h : XH} {f : Nat → Int32} {o kp : Nat} {P : Nat → Nat → Int32} {tx : Nat → Int32} {len : Nat} {p : PT} {ρ : Nat → Int32} (hn : 209 ≤ n) {k : Nat} (hm : f 1 = nI k) (hk : k ≤ 5) (hl : ∀ i, i < k → 0 < rowOf f i 0) (ho : o < 6) (hkp : kp ≤ 6) (x y : Int32) (hn6 : 216 ≤ n) {fo : Nat → Int64} (h219 : h 219 = outC fo) : XCt l G False (Cond.codeWith yL_swap bL_swap 5 (some .int) [(0, 10, 13, 20), (0, 10, 17, 13)]) yL_swap 8 136 2 12 [.ref (4), .int (x), .int (y), .ref (219)] n (setCW h f o kp P tx len p ρ) (fun r' n' h' => n' = n ∧ ((∃ i, (x = nI i ∧ i < k ∧ (¬ y < 1 ∧ y ≤ 99)) ∧ r' = some (.int 0) ∧ h' = xup (setCW h (upd (putRow f i (rNew y (f 0))) 9 (putRow f i (rNew y (f 0)) 9 + 1)) (kO o kp) (kK kp) (kP o kp P f) tx len p ρ) 219 (outC (vp_updL fo 0 (sumN (colR (rowOf f i) true) 0 24).toInt64))) ∨ ((x < 0 ∨ nI k ≤ x) ∧ r' = some (.int 1) ∧ h' = setCW h f o kp P tx len p ρ) ∨ ((¬ (x < 0 ∨ nI k ≤ x) ∧ (y < 1 ∨ ¬ y ≤ 99)) ∧ r' = some (.int 2) ∧ h' = setCW h f o kp P tx len p ρ))) (fun _ _ _ => False) := by
  refine XCt.ofH hfl (by decide +kernel) (Nat.le_of_ble_eq_true rfl) ?_
  intro p' e' s' m' g' b' t' c' C hret htab hmd
  refine XV.run C okL_swap 5 (q := (5, ([some (.ref (4)), some (.int (x)), some (.int (y)), some (.ref (219)), none], [.int (y), .int (x), .ref (4), .int (0), .ref (219)]))) rfl ?_
  refine XV.callV C (As := [.int (x), .int (y)]) (rest := [.int (0), .ref (219)]) (ci := 4) (ct_C_swap hfl hn hm hk hl ho hkp x y) (xlk_ok okL_swap rfl) rfl (by omega) (by omega) rfl (cw_o) rfl wM_L_22 wI_C_swap wV_C_swap wN_C wB_C_swap hy_C_swap (fun q => q.elim) ⟨Nat.le_of_ble_eq_true rfl, Nat.le_of_ble_eq_true rfl⟩ ⟨Nat.le_of_ble_eq_true rfl, Nat.le_of_ble_eq_true rfl⟩ (Nat.le_of_ble_eq_true rfl) (fun r n h hp => ?_) (fun E n1 h1 hx => ?_)
  ·
    obtain ⟨i, hc, rfl, rfl, rfl⟩ := hp
    refine XV.run C okL_swap 1 (q := (9, ([some (.ref (4)), some (.int (x)), some (.int (y)), some (.ref (219)), none], [.long (sumN (colR (rowOf f i) true) 0 24).toInt64, .int 0, .ref 219]))) rfl ?_
    refine XV.last C (N := 1) (a := 0) (f := fo) (xlk_ok okL_swap (pc := 9) rfl) (by decide) (by omega) ((blk_out (Or.inr (by decide))).trans h219) rfl (by decide) (by decide) ?_
    refine XV.run C okL_swap 2 (q := (22, ([some (.ref (4)), some (.int (x)), some (.int (y)), some (.ref (219)), none], [.int (0)]))) rfl ?_
    exact XV.iret C (xlk_ok okL_swap rfl) hret rfl (Nat.le_of_ble_eq_true rfl) (Nat.le_of_ble_eq_true rfl) (⟨rfl, Or.inl (⟨i, hc, rfl, rfl⟩)⟩)
  ·
    obtain ⟨hx, rfl, rfl⟩ := hx
    rcases hx with ⟨rfl, hc⟩ | ⟨rfl, hc⟩
    ·
      refine XT.catch C (pre := []) (z := (0, 10, 13, 20)) (suf := [(0, 10, 17, 13)]) (a := 4) htab rfl (fun w hw => absurd hw List.not_mem_nil) ⟨Nat.le_of_ble_eq_true rfl, Nat.le_of_ble_eq_true rfl⟩ (by decide) wC_L_20 (List.mem_of_getElem? (i := 8) rfl) (xlk_ok okL_swap (pc := 13) rfl) (Or.inl ⟨rfl, rfl⟩) (by decide) ?_
      refine XV.run C okL_swap 1 (q := (16, ([some (.ref (4)), some (.int (x)), some (.int (y)), some (.ref (219)), none], [.int (1)]))) rfl ?_
      exact XV.iret C (xlk_ok okL_swap rfl) hret rfl (Nat.le_of_ble_eq_true rfl) (Nat.le_of_ble_eq_true rfl) (⟨rfl, Or.inr (Or.inl (⟨hc, rfl, rfl⟩))⟩)
    ·
      refine XT.catch C (pre := [(0, 10, 13, 20)]) (z := (0, 10, 17, 13)) (suf := []) (a := 4) htab rfl (List.forall_mem_cons.mpr ⟨⟨by decide, _, wC_L_20, Or.inl ⟨rfl, rfl⟩⟩, fun w hw => absurd hw List.not_mem_nil⟩) ⟨Nat.le_of_ble_eq_true rfl, Nat.le_of_ble_eq_true rfl⟩ (by decide) wC_L_13 (List.mem_of_getElem? (i := 6) rfl) (xlk_ok okL_swap (pc := 17) rfl) (Or.inl ⟨rfl, rfl⟩) (by decide) ?_
      refine XV.run C okL_swap 1 (q := (20, ([some (.ref (4)), some (.int (x)), some (.int (y)), some (.ref (219)), none], [.int (2)]))) rfl ?_
      exact XV.iret C (xlk_ok okL_swap rfl) hret rfl (Nat.le_of_ble_eq_true rfl) (Nat.le_of_ble_eq_true rfl) (⟨rfl, Or.inr (Or.inr (⟨hc, rfl, rfl⟩))⟩)
set_option maxHeartbeats 4000000 in
set_option maxRecDepth 100000 in
theorem ct_L_inspect {l : Launch} (hfl : l.stackTraces = false) {G : XG}  {n : Nat} {h : XH} {f : Nat → Int32} {o kp : Nat} {P : Nat → Nat → Int32} {tx : Nat → Int32} {len : Nat} {p : PT} {ρ : Nat → Int32} (hn : 209 ≤ n) {k : Nat} (hm : f 1 = nI k) (hk : k ≤ 5) (hl : ∀ i, i < k → 0 < rowOf f i 0) (ho : o < 6) (hkp : kp ≤ 6) (x y u : Int32) (hn6 : 216 ≤ n) {fo : Nat → Int64} (h219 : h 219 = outC fo) : XCt l G False (Cond.codeWith yL_inspect bL_inspect 6 (some .int) [(0, 12, 15, 20), (0, 12, 19, 13)]) yL_inspect 9 157 4 24 [.ref (4), .int (x), .int (y), .int (u), .ref (219)] n (setCW h f o kp P tx len p ρ) (fun r' n' h' => n' = n ∧ ((∃ i a b, (x = nI i ∧ i < k ∧ y = nI a ∧ u = nI b ∧ a ≤ b ∧ b < 24) ∧ r' = some (.int 0) ∧ h' = xup (setCW h (upd (putRow f i (rLook (rowOf f i) a (b + 1 - a) (f 0))) 8 (putRow f i (rLook (rowOf f i) a (b + 1 - a) (f 0)) 8 + (u - y + 1))) (kO o kp) (kK kp) (kP o kp P f) tx len p ρ) 219 (outC (vp_updL fo 0 (sumN (colR (rowOf (upd (putRow f i (rLook (rowOf f i) a (b + 1 - a) (f 0))) 8 (putRow f i (rLook (rowOf f i) a (b + 1 - a) (f 0)) 8 + (u - y + 1))) i) false) 0 24 - sumN (colR (rowOf f i) false) 0 24).toInt64))) ∨ ((x < 0 ∨ nI k ≤ x) ∧ r' = some (.int 1) ∧ h' = setCW h f o kp P tx len p ρ) ∨ ((¬ (x < 0 ∨ nI k ≤ x) ∧ ((y < 0 ∨ ¬ y < 24) ∨ (u < 0 ∨ ¬ u < 24))) ∧ r' = some (.int 1) ∧ h' = setCW h f o kp P tx len p ρ) ∨ ((¬ (x < 0 ∨ nI k ≤ x) ∧ ((¬ y < 0 ∧ y < 24) ∧ (¬ u < 0 ∧ u < 24) ∧ ¬ y ≤ u)) ∧ r' = some (.int 2) ∧ h' = setCW h f o kp P tx len p ρ))) (fun _ _ _ => False) := by
  refine XCt.ofH hfl (by decide +kernel) (Nat.le_of_ble_eq_true rfl) ?_
  intro p' e' s' m' g' b' t' c' C hret htab hmd
  refine XV.run C okL_inspect 6 (q := (7, ([some (.ref (4)), some (.int (x)), some (.int (y)), some (.int (u)), some (.ref (219)), none], [.int (u), .int (y), .int (x), .ref (4), .int (0), .ref (219)]))) rfl ?_
  refine XV.callV C (As := [.int (x), .int (y), .int (u)]) (rest := [.int (0), .ref (219)]) (ci := 4) (ct_C_inspect hfl hn hm hk hl ho hkp x y u) (xlk_ok okL_inspect rfl) rfl (by omega) (by omega) rfl (cw_o) rfl wM_L_26 wI_C_inspect wV_C_inspect wN_C wB_C_inspect hy_C_inspect (fun q => q.elim) ⟨Nat.le_of_ble_eq_true rfl, Nat.le_of_ble_eq_true rfl⟩ ⟨Nat.le_of_ble_eq_true rfl, Nat.le_of_ble_eq_true rfl⟩ (Nat.le_of_ble_eq_true rfl) (fun r n h hp => ?_) (fun E n1 h1 hx => ?_)
  ·
    obtain ⟨i, a, b, hc, rfl, rfl, rfl⟩ := hp
    refine XV.run C okL_inspect 1 (q := (11, ([some (.ref (4)), some (.int (x)), some (.int (y)), some (.int (u)), some (.ref (219)), none], [.long (sumN (colR (rowOf (upd (putRow f i (rLook (rowOf f i) a (b + 1 - a) (f 0))) 8 (putRow f i (rLook (rowOf f i) a (b + 1 - a) (f 0)) 8 + (u - y + 1))) i) false) 0 24 - sumN (colR (rowOf f i) false) 0 24).toInt64, .int 0, .ref 219]))) rfl ?_
    refine XV.last C (N := 1) (a := 0) (f := fo) (xlk_ok okL_inspect (pc := 11) rfl) (by decide) (by omega) ((blk_out (Or.inr (by decide))).trans h219) rfl (by decide) (by decide) ?_
    refine XV.run C okL_inspect 2 (q := (24, ([some (.ref (4)), some (.int (x)), some (.int (y)), some (.int (u)), some (.ref (219)), none], [.int (0)]))) rfl ?_
    exact XV.iret C (xlk_ok okL_inspect rfl) hret rfl (Nat.le_of_ble_eq_true rfl) (Nat.le_of_ble_eq_true rfl) (⟨rfl, Or.inl (⟨i, a, b, hc, rfl, rfl⟩)⟩)
  ·
    obtain ⟨hx, rfl, rfl⟩ := hx
    rcases hx with ⟨rfl, hc⟩ | ⟨rfl, hc⟩ | ⟨rfl, hc⟩
    ·
      refine XT.catch C (pre := []) (z := (0, 12, 15, 20)) (suf := [(0, 12, 19, 13)]) (a := 5) htab rfl (fun w hw => absurd hw List.not_mem_nil) ⟨Nat.le_of_ble_eq_true rfl, Nat.le_of_ble_eq_true rfl⟩ (by decide) wC_L_20 (List.mem_of_getElem? (i := 8) rfl) (xlk_ok okL_inspect (pc := 15) rfl) (Or.inl ⟨rfl, rfl⟩) (by decide) ?_
      refine XV.run C okL_inspect 1 (q := (18, ([some (.ref (4)), some (.int (x)), some (.int (y)), some (.int (u)), some (.ref (219)), none], [.int (1)]))) rfl ?_
      exact XV.iret C (xlk_ok okL_inspect rfl) hret rfl (Nat.le_of_ble_eq_true rfl) (Nat.le_of_ble_eq_true rfl) (⟨rfl, Or.inr (Or.inl (⟨hc, rfl, rfl⟩))⟩)
    ·
      refine XT.catch C (pre := []) (z := (0, 12, 15, 20)) (suf := [(0, 12, 19, 13)]) (a := 5) htab rfl (fun w hw => absurd hw List.not_mem_nil) ⟨Nat.le_of_ble_eq_true rfl, Nat.le_of_ble_eq_true rfl⟩ (by decide) wC_L_20 (List.mem_of_getElem? (i := 8) rfl) (xlk_ok okL_inspect (pc := 15) rfl) (Or.inl ⟨rfl, rfl⟩) (by decide) ?_
      refine XV.run C okL_inspect 1 (q := (18, ([some (.ref (4)), some (.int (x)), some (.int (y)), some (.int (u)), some (.ref (219)), none], [.int (1)]))) rfl ?_
      exact XV.iret C (xlk_ok okL_inspect rfl) hret rfl (Nat.le_of_ble_eq_true rfl) (Nat.le_of_ble_eq_true rfl) (⟨rfl, Or.inr (Or.inr (Or.inl (⟨hc, rfl, rfl⟩)))⟩)
    ·
      refine XT.catch C (pre := [(0, 12, 15, 20)]) (z := (0, 12, 19, 13)) (suf := []) (a := 5) htab rfl (List.forall_mem_cons.mpr ⟨⟨by decide, _, wC_L_20, Or.inl ⟨rfl, rfl⟩⟩, fun w hw => absurd hw List.not_mem_nil⟩) ⟨Nat.le_of_ble_eq_true rfl, Nat.le_of_ble_eq_true rfl⟩ (by decide) wC_L_13 (List.mem_of_getElem? (i := 6) rfl) (xlk_ok okL_inspect (pc := 19) rfl) (Or.inl ⟨rfl, rfl⟩) (by decide) ?_
      refine XV.run C okL_inspect 1 (q := (22, ([some (.ref (4)), some (.int (x)), some (.int (y)), some (.int (u)), some (.ref (219)), none], [.int (2)]))) rfl ?_
      exact XV.iret C (xlk_ok okL_inspect rfl) hret rfl (Nat.le_of_ble_eq_true rfl) (Nat.le_of_ble_eq_true rfl) (⟨rfl, Or.inr (Or.inr (Or.inr (⟨hc, rfl, rfl⟩)))⟩)
set_option maxHeartbeats 4000000 in
set_option maxRecDepth 100000 in
theorem ct_L_set {l : Launch} (hfl : l.stackTraces = false) {G : XG}  {n : Nat} {h : XH} {f : Nat → Int32} {o kp : Nat} {P : Nat → Nat → Int32} {tx : Nat → Int32} {len : Nat} {p : PT} {ρ : Nat → Int32} (hn : 209 ≤ n) (ho : o < 6) (hkp : kp ≤ 6) (x y : Int32) (hn6 : 216 ≤ n) {fo : Nat → Int64} (h219 : h 219 = outC fo) : XCt l G False (Cond.codeWith yL_set bL_set 5 (some .int) [(0, 10, 13, 20), (0, 10, 17, 13)]) yL_set 8 135 2 12 [.ref (4), .int (x), .int (y), .ref (219)] n (setCW h f o kp P tx len p ρ) (fun r' n' h' => n' = n ∧ ((∃ i, (x = nI i ∧ i < 5 ∧ (¬ y < 1 ∧ y ≤ (XSA 2).2 i)) ∧ r' = some (.int 0) ∧ h' = xup (setCW h (upd f (2 + i) y) (kO o kp) (kK kp) (kP o kp P f) tx len p ρ) 219 (outC (vp_updL fo 0 (f (2 + i)).toInt64))) ∨ ((x < 0 ∨ ¬ x < 5) ∧ r' = some (.int 1) ∧ h' = setCW h f o kp P tx len p ρ) ∨ ((∃ i, x = nI i ∧ i < 5 ∧ (y < 1 ∨ ¬ y ≤ (XSA 2).2 i)) ∧ r' = some (.int 2) ∧ h' = setCW h f o kp P tx len p ρ))) (fun _ _ _ => False) := by
  refine XCt.ofH hfl (by decide +kernel) (Nat.le_of_ble_eq_true rfl) ?_
  intro p' e' s' m' g' b' t' c' C hret htab hmd
  refine XV.run C okL_set 5 (q := (5, ([some (.ref (4)), some (.int (x)), some (.int (y)), some (.ref (219)), none], [.int (y), .int (x), .ref (4), .int (0), .ref (219)]))) rfl ?_
  refine XV.callV C (As := [.int (x), .int (y)]) (rest := [.int (0), .ref (219)]) (ci := 4) (ct_C_set hfl hn ho hkp x y) (xlk_ok okL_set rfl) rfl (by omega) (by omega) rfl (cw_o) rfl wM_L_30 wI_C_set wV_C_set wN_C wB_C_set hy_C_set (fun q => q.elim) ⟨Nat.le_of_ble_eq_true rfl, Nat.le_of_ble_eq_true rfl⟩ ⟨Nat.le_of_ble_eq_true rfl, Nat.le_of_ble_eq_true rfl⟩ (Nat.le_of_ble_eq_true rfl) (fun r n h hp => ?_) (fun E n1 h1 hx => ?_)
  ·
    obtain ⟨i, hc, rfl, rfl, rfl⟩ := hp
    refine XV.run C okL_set 1 (q := (9, ([some (.ref (4)), some (.int (x)), some (.int (y)), some (.ref (219)), none], [.long (f (2 + i)).toInt64, .int 0, .ref 219]))) rfl ?_
    refine XV.last C (N := 1) (a := 0) (f := fo) (xlk_ok okL_set (pc := 9) rfl) (by decide) (by omega) ((blk_out (Or.inr (by decide))).trans h219) rfl (by decide) (by decide) ?_
    refine XV.run C okL_set 2 (q := (22, ([some (.ref (4)), some (.int (x)), some (.int (y)), some (.ref (219)), none], [.int (0)]))) rfl ?_
    exact XV.iret C (xlk_ok okL_set rfl) hret rfl (Nat.le_of_ble_eq_true rfl) (Nat.le_of_ble_eq_true rfl) (⟨rfl, Or.inl (⟨i, hc, rfl, rfl⟩)⟩)
  ·
    obtain ⟨hx, rfl, rfl⟩ := hx
    rcases hx with ⟨rfl, hc⟩ | ⟨rfl, hc⟩
    ·
      refine XT.catch C (pre := []) (z := (0, 10, 13, 20)) (suf := [(0, 10, 17, 13)]) (a := 4) htab rfl (fun w hw => absurd hw List.not_mem_nil) ⟨Nat.le_of_ble_eq_true rfl, Nat.le_of_ble_eq_true rfl⟩ (by decide) wC_L_20 (List.mem_of_getElem? (i := 8) rfl) (xlk_ok okL_set (pc := 13) rfl) (Or.inl ⟨rfl, rfl⟩) (by decide) ?_
      refine XV.run C okL_set 1 (q := (16, ([some (.ref (4)), some (.int (x)), some (.int (y)), some (.ref (219)), none], [.int (1)]))) rfl ?_
      exact XV.iret C (xlk_ok okL_set rfl) hret rfl (Nat.le_of_ble_eq_true rfl) (Nat.le_of_ble_eq_true rfl) (⟨rfl, Or.inr (Or.inl (⟨hc, rfl, rfl⟩))⟩)
    ·
      refine XT.catch C (pre := [(0, 10, 13, 20)]) (z := (0, 10, 17, 13)) (suf := []) (a := 4) htab rfl (List.forall_mem_cons.mpr ⟨⟨by decide, _, wC_L_20, Or.inl ⟨rfl, rfl⟩⟩, fun w hw => absurd hw List.not_mem_nil⟩) ⟨Nat.le_of_ble_eq_true rfl, Nat.le_of_ble_eq_true rfl⟩ (by decide) wC_L_13 (List.mem_of_getElem? (i := 6) rfl) (xlk_ok okL_set (pc := 17) rfl) (Or.inl ⟨rfl, rfl⟩) (by decide) ?_
      refine XV.run C okL_set 1 (q := (20, ([some (.ref (4)), some (.int (x)), some (.int (y)), some (.ref (219)), none], [.int (2)]))) rfl ?_
      exact XV.iret C (xlk_ok okL_set rfl) hret rfl (Nat.le_of_ble_eq_true rfl) (Nat.le_of_ble_eq_true rfl) (⟨rfl, Or.inr (Or.inr (⟨hc, rfl, rfl⟩))⟩)
set_option maxHeartbeats 4000000 in
set_option maxRecDepth 100000 in
theorem ct_L_trip {l : Launch} (hfl : l.stackTraces = false) {G : XG}  {n : Nat} {h : XH} {f : Nat → Int32} {o kp : Nat} {P : Nat → Nat → Int32} {tx : Nat → Int32} {len : Nat} {p : PT} {ρ : Nat → Int32} (hn : 209 ≤ n) {k : Nat} (hm : f 1 = nI k) (hk : k ≤ 5) (hl : ∀ i, i < k → 0 < rowOf f i 0) {z : Nat} (hz : f 2 = nI z) (z1 : 1 ≤ z) (z2 : z ≤ 12) (ho : o < 6) (hkp : kp ≤ 6) (x y u : Int32) (hn6 : 216 ≤ n) {fo : Nat → Int64} (h219 : h 219 = outC fo) : XCt l G False (Cond.codeWith yL_trip bL_trip 6 (some .int) [(0, 12, 15, 20), (0, 12, 19, 13), (0, 12, 23, 15)]) yL_trip 8 172 4 24 [.ref (4), .int (x), .int (y), .int (u), .ref (219)] n (setCW h f o kp P tx len p ρ) (fun r' n' h' => n' = n ∧ ((∃ a b, (x = nI a ∧ a < 8 ∧ y = nI b ∧ b < 8 ∧ (¬ u < 1 ∧ u ≤ 99) ∧ (¬ canK f z k = 0 ∧ f 7 + u ≤ 99999)) ∧ r' = some (.int 0) ∧ h' = xup (setCW h (travK f (min a b) (max a b) k u) (kO o kp) (kK kp) (kP o kp P f) tx len p ρ) 219 (outC (vp_updL fo 0 (f 7 + u).toInt64))) ∨ ((x < 0 ∨ ¬ x < 8) ∧ r' = some (.int 1) ∧ h' = setCW h f o kp P tx len p ρ) ∨ (((¬ x < 0 ∧ x < 8) ∧ (y < 0 ∨ ¬ y < 8)) ∧ r' = some (.int 1) ∧ h' = setCW h f o kp P tx len p ρ) ∨ (((¬ x < 0 ∧ x < 8) ∧ (¬ y < 0 ∧ y < 8) ∧ (u < 1 ∨ ¬ u ≤ 99)) ∧ r' = some (.int 2) ∧ h' = setCW h f o kp P tx len p ρ) ∨ (((¬ x < 0 ∧ x < 8) ∧ (¬ y < 0 ∧ y < 8) ∧ (¬ u < 1 ∧ u ≤ 99) ∧ ¬ (¬ canK f z k = 0 ∧ f 7 + u ≤ 99999)) ∧ r' = some (.int 3) ∧ h' = setCW h f o kp P tx len p ρ))) (fun _ _ _ => False) := by
  refine XCt.ofH hfl (by decide +kernel) (Nat.le_of_ble_eq_true rfl) ?_
  intro p' e' s' m' g' b' t' c' C hret htab hmd
  refine XV.run C okL_trip 6 (q := (7, ([some (.ref (4)), some (.int (x)), some (.int (y)), some (.int (u)), some (.ref (219)), none], [.int (u), .int (y), .int (x), .ref (4), .int (0), .ref (219)]))) rfl ?_
  refine XV.callV C (As := [.int (x), .int (y), .int (u)]) (rest := [.int (0), .ref (219)]) (ci := 4) (ct_C_trip hfl hn hm hk hl hz z1 z2 ho hkp x y u) (xlk_ok okL_trip rfl) rfl (by omega) (by omega) rfl (cw_o) rfl wM_L_33 wI_C_trip wV_C_trip wN_C wB_C_trip hy_C_trip (fun q => q.elim) ⟨Nat.le_of_ble_eq_true rfl, Nat.le_of_ble_eq_true rfl⟩ ⟨Nat.le_of_ble_eq_true rfl, Nat.le_of_ble_eq_true rfl⟩ (Nat.le_of_ble_eq_true rfl) (fun r n h hp => ?_) (fun E n1 h1 hx => ?_)
  ·
    obtain ⟨a, b, hc, rfl, rfl, rfl⟩ := hp
    refine XV.run C okL_trip 1 (q := (11, ([some (.ref (4)), some (.int (x)), some (.int (y)), some (.int (u)), some (.ref (219)), none], [.long (f 7 + u).toInt64, .int 0, .ref 219]))) rfl ?_
    refine XV.last C (N := 1) (a := 0) (f := fo) (xlk_ok okL_trip (pc := 11) rfl) (by decide) (by omega) ((blk_out (Or.inr (by decide))).trans h219) rfl (by decide) (by decide) ?_
    refine XV.run C okL_trip 2 (q := (28, ([some (.ref (4)), some (.int (x)), some (.int (y)), some (.int (u)), some (.ref (219)), none], [.int (0)]))) rfl ?_
    exact XV.iret C (xlk_ok okL_trip rfl) hret rfl (Nat.le_of_ble_eq_true rfl) (Nat.le_of_ble_eq_true rfl) (⟨rfl, Or.inl (⟨a, b, hc, rfl, rfl⟩)⟩)
  ·
    obtain ⟨hx, rfl, rfl⟩ := hx
    rcases hx with ⟨rfl, hc⟩ | ⟨rfl, hc⟩ | ⟨rfl, hc⟩ | ⟨rfl, hc⟩
    ·
      refine XT.catch C (pre := []) (z := (0, 12, 15, 20)) (suf := [(0, 12, 19, 13), (0, 12, 23, 15)]) (a := 5) htab rfl (fun w hw => absurd hw List.not_mem_nil) ⟨Nat.le_of_ble_eq_true rfl, Nat.le_of_ble_eq_true rfl⟩ (by decide) wC_L_20 (List.mem_of_getElem? (i := 8) rfl) (xlk_ok okL_trip (pc := 15) rfl) (Or.inl ⟨rfl, rfl⟩) (by decide) ?_
      refine XV.run C okL_trip 1 (q := (18, ([some (.ref (4)), some (.int (x)), some (.int (y)), some (.int (u)), some (.ref (219)), none], [.int (1)]))) rfl ?_
      exact XV.iret C (xlk_ok okL_trip rfl) hret rfl (Nat.le_of_ble_eq_true rfl) (Nat.le_of_ble_eq_true rfl) (⟨rfl, Or.inr (Or.inl (⟨hc, rfl, rfl⟩))⟩)
    ·
      refine XT.catch C (pre := []) (z := (0, 12, 15, 20)) (suf := [(0, 12, 19, 13), (0, 12, 23, 15)]) (a := 5) htab rfl (fun w hw => absurd hw List.not_mem_nil) ⟨Nat.le_of_ble_eq_true rfl, Nat.le_of_ble_eq_true rfl⟩ (by decide) wC_L_20 (List.mem_of_getElem? (i := 8) rfl) (xlk_ok okL_trip (pc := 15) rfl) (Or.inl ⟨rfl, rfl⟩) (by decide) ?_
      refine XV.run C okL_trip 1 (q := (18, ([some (.ref (4)), some (.int (x)), some (.int (y)), some (.int (u)), some (.ref (219)), none], [.int (1)]))) rfl ?_
      exact XV.iret C (xlk_ok okL_trip rfl) hret rfl (Nat.le_of_ble_eq_true rfl) (Nat.le_of_ble_eq_true rfl) (⟨rfl, Or.inr (Or.inr (Or.inl (⟨hc, rfl, rfl⟩)))⟩)
    ·
      refine XT.catch C (pre := [(0, 12, 15, 20)]) (z := (0, 12, 19, 13)) (suf := [(0, 12, 23, 15)]) (a := 5) htab rfl (List.forall_mem_cons.mpr ⟨⟨by decide, _, wC_L_20, Or.inl ⟨rfl, rfl⟩⟩, fun w hw => absurd hw List.not_mem_nil⟩) ⟨Nat.le_of_ble_eq_true rfl, Nat.le_of_ble_eq_true rfl⟩ (by decide) wC_L_13 (List.mem_of_getElem? (i := 6) rfl) (xlk_ok okL_trip (pc := 19) rfl) (Or.inl ⟨rfl, rfl⟩) (by decide) ?_
      refine XV.run C okL_trip 1 (q := (22, ([some (.ref (4)), some (.int (x)), some (.int (y)), some (.int (u)), some (.ref (219)), none], [.int (2)]))) rfl ?_
      exact XV.iret C (xlk_ok okL_trip rfl) hret rfl (Nat.le_of_ble_eq_true rfl) (Nat.le_of_ble_eq_true rfl) (⟨rfl, Or.inr (Or.inr (Or.inr (Or.inl (⟨hc, rfl, rfl⟩))))⟩)
    ·
      refine XT.catch C (pre := [(0, 12, 15, 20), (0, 12, 19, 13)]) (z := (0, 12, 23, 15)) (suf := []) (a := 5) htab rfl (List.forall_mem_cons.mpr ⟨⟨by decide, _, wC_L_20, Or.inr (Or.inl ⟨rfl, rfl⟩)⟩, List.forall_mem_cons.mpr ⟨⟨by decide, _, wC_L_13, Or.inr (Or.inr ⟨rfl, rfl⟩)⟩, fun w hw => absurd hw List.not_mem_nil⟩⟩) ⟨Nat.le_of_ble_eq_true rfl, Nat.le_of_ble_eq_true rfl⟩ (by decide) wC_L_15 (List.mem_of_getElem? (i := 7) rfl) (xlk_ok okL_trip (pc := 23) rfl) (Or.inl ⟨rfl, rfl⟩) (by decide) ?_
      refine XV.run C okL_trip 1 (q := (26, ([some (.ref (4)), some (.int (x)), some (.int (y)), some (.int (u)), some (.ref (219)), none], [.int (3)]))) rfl ?_
      exact XV.iret C (xlk_ok okL_trip rfl) hret rfl (Nat.le_of_ble_eq_true rfl) (Nat.le_of_ble_eq_true rfl) (⟨rfl, Or.inr (Or.inr (Or.inr (Or.inr (⟨hc, rfl, rfl⟩))))⟩)
set_option maxHeartbeats 4000000 in
set_option maxRecDepth 100000 in
theorem ct_L_pass {l : Launch} (hfl : l.stackTraces = false) {G : XG}  {n : Nat} {h : XH} {f : Nat → Int32} {o kp : Nat} {P : Nat → Nat → Int32} {tx : Nat → Int32} {len : Nat} {p : PT} {ρ : Nat → Int32} (hn : 209 ≤ n) {k : Nat} (hm : f 1 = nI k) (hk : k ≤ 5) (hl : ∀ i, i < k → 0 < rowOf f i 0) {z : Nat} (hz : f 2 = nI z) (z1 : 1 ≤ z) (z2 : z ≤ 12) (ho : o < 6) (hkp : kp ≤ 6) (x : Int32) (hn6 : 216 ≤ n) {fo : Nat → Int64} (h219 : h 219 = outC fo) : XCt l G False (Cond.codeWith yL_pass bL_pass 4 (some .int) [(0, 9, 12, 13), (0, 9, 15, 15)]) yL_pass 8 133 2 12 [.ref (4), .int (x), .ref (219)] n (setCW h f o kp P tx len p ρ) (fun r' n' h' => n' = n ∧ ((((¬ x < 1 ∧ x ≤ 24) ∧ f 0 + x ≤ 2000) ∧ r' = some (.int 0) ∧ h' = xup (setCW h (upd f 0 (f 0 + x)) (kO o kp) (kK kp) (kP o kp P f) tx len p ρ) 219 (outC (vp_updL fo 0 (nI (retK (upd f 0 (f 0 + x)) z k)).toInt64))) ∨ ((x < 1 ∨ ¬ x ≤ 24) ∧ r' = some (.int 1) ∧ h' = setCW h f o kp P tx len p ρ) ∨ (((¬ x < 1 ∧ x ≤ 24) ∧ ¬ f 0 + x ≤ 2000) ∧ r' = some (.int 2) ∧ h' = setCW h f o kp P tx len p ρ))) (fun _ _ _ => False) := by
  refine XCt.ofH hfl (by decide +kernel) (Nat.le_of_ble_eq_true rfl) ?_
  intro p' e' s' m' g' b' t' c' C hret htab hmd
  refine XV.run C okL_pass 4 (q := (4, ([some (.ref (4)), some (.int (x)), some (.ref (219)), none], [.int (x), .ref (4), .int (0), .ref (219)]))) rfl ?_
  refine XV.callV C (As := [.int (x)]) (rest := [.int (0), .ref (219)]) (ci := 4) (ct_C_pass hfl hn hm hk hl hz z1 z2 ho hkp x) (xlk_ok okL_pass rfl) rfl (by omega) (by omega) rfl (cw_o) rfl wM_L_36 wI_C_pass wV_C_pass wN_C wB_C_pass hy_C_pass (fun q => q.elim) ⟨Nat.le_of_ble_eq_true rfl, Nat.le_of_ble_eq_true rfl⟩ ⟨Nat.le_of_ble_eq_true rfl, Nat.le_of_ble_eq_true rfl⟩ (Nat.le_of_ble_eq_true rfl) (fun r n h hp => ?_) (fun E n1 h1 hx => ?_)
  ·
    obtain ⟨hc, rfl, rfl, rfl⟩ := hp
    refine XV.run C okL_pass 1 (q := (8, ([some (.ref (4)), some (.int (x)), some (.ref (219)), none], [.long (nI (retK (upd f 0 (f 0 + x)) z k)).toInt64, .int 0, .ref 219]))) rfl ?_
    refine XV.last C (N := 1) (a := 0) (f := fo) (xlk_ok okL_pass (pc := 8) rfl) (by decide) (by omega) ((blk_out (Or.inr (by decide))).trans h219) rfl (by decide) (by decide) ?_
    refine XV.run C okL_pass 2 (q := (19, ([some (.ref (4)), some (.int (x)), some (.ref (219)), none], [.int (0)]))) rfl ?_
    exact XV.iret C (xlk_ok okL_pass rfl) hret rfl (Nat.le_of_ble_eq_true rfl) (Nat.le_of_ble_eq_true rfl) (⟨rfl, Or.inl (⟨hc, rfl, rfl⟩)⟩)
  ·
    obtain ⟨hx, rfl, rfl⟩ := hx
    rcases hx with ⟨rfl, hc⟩ | ⟨rfl, hc⟩
    ·
      refine XT.catch C (pre := []) (z := (0, 9, 12, 13)) (suf := [(0, 9, 15, 15)]) (a := 3) htab rfl (fun w hw => absurd hw List.not_mem_nil) ⟨Nat.le_of_ble_eq_true rfl, Nat.le_of_ble_eq_true rfl⟩ (by decide) wC_L_13 (List.mem_of_getElem? (i := 6) rfl) (xlk_ok okL_pass (pc := 12) rfl) (Or.inr ⟨3, rfl, rfl, rfl⟩) (by decide) ?_
      refine XV.run C okL_pass 1 (q := (14, ([some (.ref (4)), some (.int (x)), some (.ref (219)), none], [.int (1)]))) rfl ?_
      exact XV.iret C (xlk_ok okL_pass rfl) hret rfl (Nat.le_of_ble_eq_true rfl) (Nat.le_of_ble_eq_true rfl) (⟨rfl, Or.inr (Or.inl (⟨hc, rfl, rfl⟩))⟩)
    ·
      refine XT.catch C (pre := [(0, 9, 12, 13)]) (z := (0, 9, 15, 15)) (suf := []) (a := 3) htab rfl (List.forall_mem_cons.mpr ⟨⟨by decide, _, wC_L_13, Or.inr (Or.inr ⟨rfl, rfl⟩)⟩, fun w hw => absurd hw List.not_mem_nil⟩) ⟨Nat.le_of_ble_eq_true rfl, Nat.le_of_ble_eq_true rfl⟩ (by decide) wC_L_15 (List.mem_of_getElem? (i := 7) rfl) (xlk_ok okL_pass (pc := 15) rfl) (Or.inr ⟨3, rfl, rfl, rfl⟩) (by decide) ?_
      refine XV.run C okL_pass 1 (q := (17, ([some (.ref (4)), some (.int (x)), some (.ref (219)), none], [.int (2)]))) rfl ?_
      exact XV.iret C (xlk_ok okL_pass rfl) hret rfl (Nat.le_of_ble_eq_true rfl) (Nat.le_of_ble_eq_true rfl) (⟨rfl, Or.inr (Or.inr (⟨hc, rfl, rfl⟩))⟩)
set_option maxHeartbeats 4000000 in
set_option maxRecDepth 100000 in
theorem ct_L_append {l : Launch} (hfl : l.stackTraces = false) {G : XG}  {n : Nat} {h : XH} {f : Nat → Int32} {o kp : Nat} {P : Nat → Nat → Int32} {tx : Nat → Int32} {len : Nat} {p : PT} {ρ : Nat → Int32} (hn : 209 ≤ n) (hlen : len ≤ 60) (x : Int32) (hn6 : 216 ≤ n) {fo : Nat → Int64} (h219 : h 219 = outC fo) : XCt l G False (Cond.codeWith yL_append bL_append 4 (some .int) [(0, 9, 12, 13), (0, 9, 15, 15)]) yL_append 8 133 2 12 [.ref (4), .int (x), .ref (219)] n (setCW h f o kp P tx len p ρ) (fun r' n' h' => n' = n ∧ ((((¬ x < 33 ∧ x ≤ 126) ∧ len < 60) ∧ r' = some (.int 0) ∧ h' = xup (setCW h f o kp P (upd tx len x) (len + 1) p ρ) 219 (outC (vp_updL fo 0 (nI (len + 1)).toInt64))) ∨ ((x < 33 ∨ ¬ x ≤ 126) ∧ r' = some (.int 1) ∧ h' = setCW h f o kp P tx len p ρ) ∨ (((¬ x < 33 ∧ x ≤ 126) ∧ ¬ len < 60) ∧ r' = some (.int 2) ∧ h' = setCW h f o kp P tx len p ρ))) (fun _ _ _ => False) := by
  refine XCt.ofH hfl (by decide +kernel) (Nat.le_of_ble_eq_true rfl) ?_
  intro p' e' s' m' g' b' t' c' C hret htab hmd
  refine XV.run C okL_append 4 (q := (4, ([some (.ref (4)), some (.int (x)), some (.ref (219)), none], [.int (x), .ref (4), .int (0), .ref (219)]))) rfl ?_
  refine XV.callV C (As := [.int (x)]) (rest := [.int (0), .ref (219)]) (ci := 4) (ct_C_append hfl hn hlen x) (xlk_ok okL_append rfl) rfl (by omega) (by omega) rfl (cw_o) rfl wM_L_39 wI_C_append wV_C_append wN_C wB_C_append hy_C_append (fun q => q.elim) ⟨Nat.le_of_ble_eq_true rfl, Nat.le_of_ble_eq_true rfl⟩ ⟨Nat.le_of_ble_eq_true rfl, Nat.le_of_ble_eq_true rfl⟩ (Nat.le_of_ble_eq_true rfl) (fun r n h hp => ?_) (fun E n1 h1 hx => ?_)
  ·
    obtain ⟨hc, rfl, rfl, rfl⟩ := hp
    refine XV.run C okL_append 1 (q := (8, ([some (.ref (4)), some (.int (x)), some (.ref (219)), none], [.long (nI (len + 1)).toInt64, .int 0, .ref 219]))) rfl ?_
    refine XV.last C (N := 1) (a := 0) (f := fo) (xlk_ok okL_append (pc := 8) rfl) (by decide) (by omega) ((blk_out (Or.inr (by decide))).trans h219) rfl (by decide) (by decide) ?_
    refine XV.run C okL_append 2 (q := (19, ([some (.ref (4)), some (.int (x)), some (.ref (219)), none], [.int (0)]))) rfl ?_
    exact XV.iret C (xlk_ok okL_append rfl) hret rfl (Nat.le_of_ble_eq_true rfl) (Nat.le_of_ble_eq_true rfl) (⟨rfl, Or.inl (⟨hc, rfl, rfl⟩)⟩)
  ·
    obtain ⟨hx, rfl, rfl⟩ := hx
    rcases hx with ⟨rfl, hc⟩ | ⟨rfl, hc⟩
    ·
      refine XT.catch C (pre := []) (z := (0, 9, 12, 13)) (suf := [(0, 9, 15, 15)]) (a := 3) htab rfl (fun w hw => absurd hw List.not_mem_nil) ⟨Nat.le_of_ble_eq_true rfl, Nat.le_of_ble_eq_true rfl⟩ (by decide) wC_L_13 (List.mem_of_getElem? (i := 6) rfl) (xlk_ok okL_append (pc := 12) rfl) (Or.inr ⟨3, rfl, rfl, rfl⟩) (by decide) ?_
      refine XV.run C okL_append 1 (q := (14, ([some (.ref (4)), some (.int (x)), some (.ref (219)), none], [.int (1)]))) rfl ?_
      exact XV.iret C (xlk_ok okL_append rfl) hret rfl (Nat.le_of_ble_eq_true rfl) (Nat.le_of_ble_eq_true rfl) (⟨rfl, Or.inr (Or.inl (⟨hc, rfl, rfl⟩))⟩)
    ·
      refine XT.catch C (pre := [(0, 9, 12, 13)]) (z := (0, 9, 15, 15)) (suf := []) (a := 3) htab rfl (List.forall_mem_cons.mpr ⟨⟨by decide, _, wC_L_13, Or.inr (Or.inr ⟨rfl, rfl⟩)⟩, fun w hw => absurd hw List.not_mem_nil⟩) ⟨Nat.le_of_ble_eq_true rfl, Nat.le_of_ble_eq_true rfl⟩ (by decide) wC_L_15 (List.mem_of_getElem? (i := 7) rfl) (xlk_ok okL_append (pc := 15) rfl) (Or.inr ⟨3, rfl, rfl, rfl⟩) (by decide) ?_
      refine XV.run C okL_append 1 (q := (17, ([some (.ref (4)), some (.int (x)), some (.ref (219)), none], [.int (2)]))) rfl ?_
      exact XV.iret C (xlk_ok okL_append rfl) hret rfl (Nat.le_of_ble_eq_true rfl) (Nat.le_of_ble_eq_true rfl) (⟨rfl, Or.inr (Or.inr (⟨hc, rfl, rfl⟩))⟩)
set_option maxHeartbeats 4000000 in
set_option maxRecDepth 100000 in
theorem ct_L_run {l : Launch} (hfl : l.stackTraces = false) {G : XG}  {n : Nat} {h : XH} {f : Nat → Int32} {o kp : Nat} {P : Nat → Nat → Int32} {tx : Nat → Int32} {len : Nat} {p : PT} {ρ : Nat → Int32} (hn : 209 ≤ n) {k : Nat} (hm : f 1 = nI k) (hk : k ≤ 5) (hl : ∀ i, i < k → 0 < rowOf f i 0) {z : Nat} (hz : f 2 = nI z) (z1 : 1 ≤ z) (z2 : z ≤ 12) (ho : o < 6) (hkp : kp ≤ 6) (hlen : len ≤ 60) (hn6 : 216 ≤ n) {fo : Nat → Int64} (h219 : h 219 = outC fo) : XCt l G False (Cond.codeWith yL_run bL_run 3 (some .int) [(0, 8, 11, 13), (0, 8, 14, 15)]) yL_run 8 170 2 12 [.ref (4), .ref (219)] n (setCW h f o kp P tx len p ρ) (fun r' n' h' => n' = n ∧ ((((rdK tx len p).1 = true ∧ (¬ canK f z k = 0 ∧ f 7 + sumN (rdK tx len p).2.2.2.1 0 (rdK tx len p).2.2.2.2 ≤ 99999)) ∧ r' = some (.int 0) ∧ h' = xup (setCW h (runK f k (rdK tx len p).2 (rdK tx len p).2.2.2.2) (kO o kp) (kK kp) (kP o kp P f) tx 0 ((rdK tx len p).2) ρ) 219 (outC (vp_updL fo 0 ((runK f k (rdK tx len p).2 (rdK tx len p).2.2.2.2) 7).toInt64))) ∨ (((rdK tx len p).1 = false) ∧ r' = some (.int 1) ∧ h' = setCW h f o kp P tx len ((rdK tx len p).2) ρ) ∨ (((rdK tx len p).1 = true ∧ ¬ (¬ canK f z k = 0 ∧ f 7 + sumN (rdK tx len p).2.2.2.1 0 (rdK tx len p).2.2.2.2 ≤ 99999)) ∧ r' = some (.int 2) ∧ h' = setCW h f o kp P tx len ((rdK tx len p).2) ρ))) (fun _ _ _ => False) := by
  refine XCt.ofH hfl (by decide +kernel) (Nat.le_of_ble_eq_true rfl) ?_
  intro p' e' s' m' g' b' t' c' C hret htab hmd
  refine XV.run C okL_run 3 (q := (3, ([some (.ref (4)), some (.ref (219)), none], [.ref (4), .int (0), .ref (219)]))) rfl ?_
  refine XV.callV C (As := []) (rest := [.int (0), .ref (219)]) (ci := 4) (ct_C_run hfl hn hm hk hl hz z1 z2 ho hkp hlen) (xlk_ok okL_run rfl) rfl (by omega) (by omega) rfl (cw_o) rfl wM_L_42 wI_C_run wV_C_run wN_C wB_C_run hy_C_run (fun q => q.elim) ⟨Nat.le_of_ble_eq_true rfl, Nat.le_of_ble_eq_true rfl⟩ ⟨Nat.le_of_ble_eq_true rfl, Nat.le_of_ble_eq_true rfl⟩ (Nat.le_of_ble_eq_true rfl) (fun r n h hp => ?_) (fun E n1 h1 hx => ?_)
  ·
    obtain ⟨hc, rfl, rfl, rfl⟩ := hp
    refine XV.run C okL_run 1 (q := (7, ([some (.ref (4)), some (.ref (219)), none], [.long ((runK f k (rdK tx len p).2 (rdK tx len p).2.2.2.2) 7).toInt64, .int 0, .ref 219]))) rfl ?_
    refine XV.last C (N := 1) (a := 0) (f := fo) (xlk_ok okL_run (pc := 7) rfl) (by decide) (by omega) ((blk_out (Or.inr (by decide))).trans h219) rfl (by decide) (by decide) ?_
    refine XV.run C okL_run 2 (q := (18, ([some (.ref (4)), some (.ref (219)), none], [.int (0)]))) rfl ?_
    exact XV.iret C (xlk_ok okL_run rfl) hret rfl (Nat.le_of_ble_eq_true rfl) (Nat.le_of_ble_eq_true rfl) (⟨rfl, Or.inl (⟨hc, rfl, rfl⟩)⟩)
  ·
    obtain ⟨hx, rfl, rfl⟩ := hx
    rcases hx with ⟨rfl, hc⟩ | ⟨rfl, hc⟩
    ·
      refine XT.catch C (pre := []) (z := (0, 8, 11, 13)) (suf := [(0, 8, 14, 15)]) (a := 2) htab rfl (fun w hw => absurd hw List.not_mem_nil) ⟨Nat.le_of_ble_eq_true rfl, Nat.le_of_ble_eq_true rfl⟩ (by decide) wC_L_13 (List.mem_of_getElem? (i := 6) rfl) (xlk_ok okL_run (pc := 11) rfl) (Or.inr ⟨2, rfl, rfl, rfl⟩) (by decide) ?_
      refine XV.run C okL_run 1 (q := (13, ([some (.ref (4)), some (.ref (219)), none], [.int (1)]))) rfl ?_
      exact XV.iret C (xlk_ok okL_run rfl) hret rfl (Nat.le_of_ble_eq_true rfl) (Nat.le_of_ble_eq_true rfl) (⟨rfl, Or.inr (Or.inl (⟨hc, rfl, rfl⟩))⟩)
    ·
      refine XT.catch C (pre := [(0, 8, 11, 13)]) (z := (0, 8, 14, 15)) (suf := []) (a := 2) htab rfl (List.forall_mem_cons.mpr ⟨⟨by decide, _, wC_L_13, Or.inr (Or.inr ⟨rfl, rfl⟩)⟩, fun w hw => absurd hw List.not_mem_nil⟩) ⟨Nat.le_of_ble_eq_true rfl, Nat.le_of_ble_eq_true rfl⟩ (by decide) wC_L_15 (List.mem_of_getElem? (i := 7) rfl) (xlk_ok okL_run (pc := 14) rfl) (Or.inr ⟨2, rfl, rfl, rfl⟩) (by decide) ?_
      refine XV.run C okL_run 1 (q := (16, ([some (.ref (4)), some (.ref (219)), none], [.int (2)]))) rfl ?_
      exact XV.iret C (xlk_ok okL_run rfl) hret rfl (Nat.le_of_ble_eq_true rfl) (Nat.le_of_ble_eq_true rfl) (⟨rfl, Or.inr (Or.inr (⟨hc, rfl, rfl⟩))⟩)
set_option maxHeartbeats 4000000 in
set_option maxRecDepth 100000 in
theorem ct_L_undo {l : Launch} (hfl : l.stackTraces = false) {G : XG}  {n : Nat} {h : XH} {f : Nat → Int32} {o kp : Nat} {P : Nat → Nat → Int32} {tx : Nat → Int32} {len : Nat} {p : PT} {ρ : Nat → Int32} (hn : 209 ≤ n) (ho : o < 6) (hkp : kp ≤ 6) (hn6 : 216 ≤ n) {fo : Nat → Int64} (h219 : h 219 = outC fo) : XCt l G False (Cond.codeWith yL_undo bL_undo 3 (some .int) [(0, 8, 11, 15)]) yL_undo 7 113 1 6 [.ref (4), .ref (219)] n (setCW h f o kp P tx len p ρ) (fun r' n' h' => n' = n ∧ ((∃ j, (kp = j + 1) ∧ r' = some (.int 0) ∧ h' = xup (setCW h (P ((o + j) % 6)) o j P tx len p ρ) 219 (outC (vp_updL fo 0 (nI j).toInt64))) ∨ ((kp = 0) ∧ r' = some (.int 1) ∧ h' = setCW h f o kp P tx len p ρ))) (fun _ _ _ => False) := by
  refine XCt.ofH hfl (by decide +kernel) (Nat.le_of_ble_eq_true rfl) ?_
  intro p' e' s' m' g' b' t' c' C hret htab hmd
  refine XV.run C okL_undo 3 (q := (3, ([some (.ref (4)), some (.ref (219)), none], [.ref (4), .int (0), .ref (219)]))) rfl ?_
  refine XV.callV C (As := []) (rest := [.int (0), .ref (219)]) (ci := 4) (ct_C_undo hfl hn ho hkp) (xlk_ok okL_undo rfl) rfl (by omega) (by omega) rfl (cw_o) rfl wM_L_46 wI_C_undo wV_C_undo wN_C wB_C_undo hy_C_undo (fun q => q.elim) ⟨Nat.le_of_ble_eq_true rfl, Nat.le_of_ble_eq_true rfl⟩ ⟨Nat.le_of_ble_eq_true rfl, Nat.le_of_ble_eq_true rfl⟩ (Nat.le_of_ble_eq_true rfl) (fun r n h hp => ?_) (fun E n1 h1 hx => ?_)
  ·
    obtain ⟨j, hc, rfl, rfl, rfl⟩ := hp
    refine XV.run C okL_undo 1 (q := (7, ([some (.ref (4)), some (.ref (219)), none], [.long (nI j).toInt64, .int 0, .ref 219]))) rfl ?_
    refine XV.last C (N := 1) (a := 0) (f := fo) (xlk_ok okL_undo (pc := 7) rfl) (by decide) (by omega) ((blk_out (Or.inr (by decide))).trans h219) rfl (by decide) (by decide) ?_
    refine XV.run C okL_undo 2 (q := (15, ([some (.ref (4)), some (.ref (219)), none], [.int (0)]))) rfl ?_
    exact XV.iret C (xlk_ok okL_undo rfl) hret rfl (Nat.le_of_ble_eq_true rfl) (Nat.le_of_ble_eq_true rfl) (⟨rfl, Or.inl (⟨j, hc, rfl, rfl⟩)⟩)
  ·
    obtain ⟨hx, rfl, rfl⟩ := hx
    obtain ⟨rfl, hc⟩ := hx
    refine XT.catch C (pre := []) (z := (0, 8, 11, 15)) (suf := []) (a := 2) htab rfl (fun w hw => absurd hw List.not_mem_nil) ⟨Nat.le_of_ble_eq_true rfl, Nat.le_of_ble_eq_true rfl⟩ (by decide) wC_L_15 (List.mem_of_getElem? (i := 7) rfl) (xlk_ok okL_undo (pc := 11) rfl) (Or.inr ⟨2, rfl, rfl, rfl⟩) (by decide) ?_
    refine XV.run C okL_undo 1 (q := (13, ([some (.ref (4)), some (.ref (219)), none], [.int (1)]))) rfl ?_
    exact XV.iret C (xlk_ok okL_undo rfl) hret rfl (Nat.le_of_ble_eq_true rfl) (Nat.le_of_ble_eq_true rfl) (⟨rfl, Or.inr (⟨hc, rfl, rfl⟩)⟩)
set_option maxHeartbeats 4000000 in
set_option maxRecDepth 100000 in
theorem ct_L_rope {l : Launch} (hfl : l.stackTraces = false) {G : XG}  {n : Nat} {h : XH} {f : Nat → Int32} {o kp : Nat} {P : Nat → Nat → Int32} {tx : Nat → Int32} {len : Nat} {p : PT} {ρ : Nat → Int32} (hn : 209 ≤ n) {k : Nat} (hm : f 1 = nI k) (hk : k ≤ 5) (hl : ∀ i, i < k → 0 < rowOf f i 0) {z : Nat} (hz : f 2 = nI z) (z1 : 1 ≤ z) (z2 : z ≤ 12) (x y : Int32) (hn6 : 216 ≤ n) {fo : Nat → Int64} (h219 : h 219 = outC fo) : XCt l G False (Cond.codeWith yL_rope bL_rope 5 (some .int) [(0, 10, 13, 20), (0, 10, 17, 13)]) yL_rope 8 135 2 12 [.ref (4), .int (x), .int (y), .ref (219)] n (setCW h f o kp P tx len p ρ) (fun r' n' h' => n' = n ∧ ((∃ i w, (x = nI i ∧ i < k ∧ y = nI w ∧ w ≤ 9) ∧ r' = some (.int 0) ∧ h' = xup (setCW h f o kp P tx len p ρ) 219 (outC (vp_updL fo 0 (ropeFigK f (rowOf f i) z w).toInt64))) ∨ ((x < 0 ∨ nI k ≤ x) ∧ r' = some (.int 1) ∧ h' = setCW h f o kp P tx len p ρ) ∨ ((¬ (x < 0 ∨ nI k ≤ x) ∧ (y < 0 ∨ ¬ y ≤ 9)) ∧ r' = some (.int 2) ∧ h' = setCW h f o kp P tx len p ρ))) (fun _ _ _ => False) := by
  refine XCt.ofH hfl (by decide +kernel) (Nat.le_of_ble_eq_true rfl) ?_
  intro p' e' s' m' g' b' t' c' C hret htab hmd
  refine XV.run C okL_rope 5 (q := (5, ([some (.ref (4)), some (.int (x)), some (.int (y)), some (.ref (219)), none], [.int (y), .int (x), .ref (4), .int (0), .ref (219)]))) rfl ?_
  refine XV.callV C (As := [.int (x), .int (y)]) (rest := [.int (0), .ref (219)]) (ci := 4) (ct_C_rope hfl hn hm hk hl hz z1 z2 x y) (xlk_ok okL_rope rfl) rfl (by omega) (by omega) rfl (cw_o) rfl wM_L_49 wI_C_rope wV_C_rope wN_C wB_C_rope hy_C_rope (fun q => q.elim) ⟨Nat.le_of_ble_eq_true rfl, Nat.le_of_ble_eq_true rfl⟩ ⟨Nat.le_of_ble_eq_true rfl, Nat.le_of_ble_eq_true rfl⟩ (Nat.le_of_ble_eq_true rfl) (fun r n h hp => ?_) (fun E n1 h1 hx => ?_)
  ·
    obtain ⟨i, w, hc, rfl, rfl, rfl⟩ := hp
    refine XV.run C okL_rope 1 (q := (9, ([some (.ref (4)), some (.int (x)), some (.int (y)), some (.ref (219)), none], [.long (ropeFigK f (rowOf f i) z w).toInt64, .int 0, .ref 219]))) rfl ?_
    refine XV.last C (N := 1) (a := 0) (f := fo) (xlk_ok okL_rope (pc := 9) rfl) (by decide) (by omega) ((blk_out (Or.inr (by decide))).trans h219) rfl (by decide) (by decide) ?_
    refine XV.run C okL_rope 2 (q := (22, ([some (.ref (4)), some (.int (x)), some (.int (y)), some (.ref (219)), none], [.int (0)]))) rfl ?_
    exact XV.iret C (xlk_ok okL_rope rfl) hret rfl (Nat.le_of_ble_eq_true rfl) (Nat.le_of_ble_eq_true rfl) (⟨rfl, Or.inl (⟨i, w, hc, rfl, rfl⟩)⟩)
  ·
    obtain ⟨hx, rfl, rfl⟩ := hx
    rcases hx with ⟨rfl, hc⟩ | ⟨rfl, hc⟩
    ·
      refine XT.catch C (pre := []) (z := (0, 10, 13, 20)) (suf := [(0, 10, 17, 13)]) (a := 4) htab rfl (fun w hw => absurd hw List.not_mem_nil) ⟨Nat.le_of_ble_eq_true rfl, Nat.le_of_ble_eq_true rfl⟩ (by decide) wC_L_20 (List.mem_of_getElem? (i := 8) rfl) (xlk_ok okL_rope (pc := 13) rfl) (Or.inl ⟨rfl, rfl⟩) (by decide) ?_
      refine XV.run C okL_rope 1 (q := (16, ([some (.ref (4)), some (.int (x)), some (.int (y)), some (.ref (219)), none], [.int (1)]))) rfl ?_
      exact XV.iret C (xlk_ok okL_rope rfl) hret rfl (Nat.le_of_ble_eq_true rfl) (Nat.le_of_ble_eq_true rfl) (⟨rfl, Or.inr (Or.inl (⟨hc, rfl, rfl⟩))⟩)
    ·
      refine XT.catch C (pre := [(0, 10, 13, 20)]) (z := (0, 10, 17, 13)) (suf := []) (a := 4) htab rfl (List.forall_mem_cons.mpr ⟨⟨by decide, _, wC_L_20, Or.inl ⟨rfl, rfl⟩⟩, fun w hw => absurd hw List.not_mem_nil⟩) ⟨Nat.le_of_ble_eq_true rfl, Nat.le_of_ble_eq_true rfl⟩ (by decide) wC_L_13 (List.mem_of_getElem? (i := 6) rfl) (xlk_ok okL_rope (pc := 17) rfl) (Or.inl ⟨rfl, rfl⟩) (by decide) ?_
      refine XV.run C okL_rope 1 (q := (20, ([some (.ref (4)), some (.int (x)), some (.int (y)), some (.ref (219)), none], [.int (2)]))) rfl ?_
      exact XV.iret C (xlk_ok okL_rope rfl) hret rfl (Nat.le_of_ble_eq_true rfl) (Nat.le_of_ble_eq_true rfl) (⟨rfl, Or.inr (Or.inr (⟨hc, rfl, rfl⟩))⟩)
set_option maxHeartbeats 4000000 in
set_option maxRecDepth 100000 in
theorem ct_L_section {l : Launch} (hfl : l.stackTraces = false) {G : XG}  {n : Nat} {h : XH} {f : Nat → Int32} {o kp : Nat} {P : Nat → Nat → Int32} {tx : Nat → Int32} {len : Nat} {p : PT} {ρ : Nat → Int32} (hn : 209 ≤ n) {k : Nat} (hm : f 1 = nI k) (hk : k ≤ 5) (hl : ∀ i, i < k → 0 < rowOf f i 0) (x y u : Int32) (hn6 : 216 ≤ n) {fo : Nat → Int64} (h219 : h 219 = outC fo) : XCt l G False (Cond.codeWith yL_section bL_section 6 (some .int) [(0, 12, 15, 20), (0, 12, 19, 13)]) yL_section 8 136 3 18 [.ref (4), .int (x), .int (y), .int (u), .ref (219)] n (setCW h f o kp P tx len p ρ) (fun r' n' h' => n' = n ∧ ((∃ i s w, (x = nI i ∧ i < k ∧ y = nI s ∧ s < 24 ∧ u = nI w ∧ w ≤ 4) ∧ r' = some (.int 0) ∧ h' = xup (setCW h f o kp P tx len p ρ) 219 (outC (vp_updL fo 0 (secF (rowOf f i) s w).toInt64))) ∨ ((x < 0 ∨ nI k ≤ x) ∧ r' = some (.int 1) ∧ h' = setCW h f o kp P tx len p ρ) ∨ ((¬ (x < 0 ∨ nI k ≤ x) ∧ (y < 0 ∨ ¬ y < 24)) ∧ r' = some (.int 1) ∧ h' = setCW h f o kp P tx len p ρ) ∨ ((¬ (x < 0 ∨ nI k ≤ x) ∧ (¬ y < 0 ∧ y < 24) ∧ (u < 0 ∨ ¬ u ≤ 4)) ∧ r' = some (.int 2) ∧ h' = setCW h f o kp P tx len p ρ))) (fun _ _ _ => False) := by
  refine XCt.ofH hfl (by decide +kernel) (Nat.le_of_ble_eq_true rfl) ?_
  intro p' e' s' m' g' b' t' c' C hret htab hmd
  refine XV.run C okL_section 6 (q := (7, ([some (.ref (4)), some (.int (x)), some (.int (y)), some (.int (u)), some (.ref (219)), none], [.int (u), .int (y), .int (x), .ref (4), .int (0), .ref (219)]))) rfl ?_
  refine XV.callV C (As := [.int (x), .int (y), .int (u)]) (rest := [.int (0), .ref (219)]) (ci := 4) (ct_C_section hfl hn hm hk hl x y u) (xlk_ok okL_section rfl) rfl (by omega) (by omega) rfl (cw_o) rfl wM_L_52 wI_C_section wV_C_section wN_C wB_C_section hy_C_section (fun q => q.elim) ⟨Nat.le_of_ble_eq_true rfl, Nat.le_of_ble_eq_true rfl⟩ ⟨Nat.le_of_ble_eq_true rfl, Nat.le_of_ble_eq_true rfl⟩ (Nat.le_of_ble_eq_true rfl) (fun r n h hp => ?_) (fun E n1 h1 hx => ?_)
  ·
    obtain ⟨i, s, w, hc, rfl, rfl, rfl⟩ := hp
    refine XV.run C okL_section 1 (q := (11, ([some (.ref (4)), some (.int (x)), some (.int (y)), some (.int (u)), some (.ref (219)), none], [.long (secF (rowOf f i) s w).toInt64, .int 0, .ref 219]))) rfl ?_
    refine XV.last C (N := 1) (a := 0) (f := fo) (xlk_ok okL_section (pc := 11) rfl) (by decide) (by omega) ((blk_out (Or.inr (by decide))).trans h219) rfl (by decide) (by decide) ?_
    refine XV.run C okL_section 2 (q := (24, ([some (.ref (4)), some (.int (x)), some (.int (y)), some (.int (u)), some (.ref (219)), none], [.int (0)]))) rfl ?_
    exact XV.iret C (xlk_ok okL_section rfl) hret rfl (Nat.le_of_ble_eq_true rfl) (Nat.le_of_ble_eq_true rfl) (⟨rfl, Or.inl (⟨i, s, w, hc, rfl, rfl⟩)⟩)
  ·
    obtain ⟨hx, rfl, rfl⟩ := hx
    rcases hx with ⟨rfl, hc⟩ | ⟨rfl, hc⟩ | ⟨rfl, hc⟩
    ·
      refine XT.catch C (pre := []) (z := (0, 12, 15, 20)) (suf := [(0, 12, 19, 13)]) (a := 5) htab rfl (fun w hw => absurd hw List.not_mem_nil) ⟨Nat.le_of_ble_eq_true rfl, Nat.le_of_ble_eq_true rfl⟩ (by decide) wC_L_20 (List.mem_of_getElem? (i := 8) rfl) (xlk_ok okL_section (pc := 15) rfl) (Or.inl ⟨rfl, rfl⟩) (by decide) ?_
      refine XV.run C okL_section 1 (q := (18, ([some (.ref (4)), some (.int (x)), some (.int (y)), some (.int (u)), some (.ref (219)), none], [.int (1)]))) rfl ?_
      exact XV.iret C (xlk_ok okL_section rfl) hret rfl (Nat.le_of_ble_eq_true rfl) (Nat.le_of_ble_eq_true rfl) (⟨rfl, Or.inr (Or.inl (⟨hc, rfl, rfl⟩))⟩)
    ·
      refine XT.catch C (pre := []) (z := (0, 12, 15, 20)) (suf := [(0, 12, 19, 13)]) (a := 5) htab rfl (fun w hw => absurd hw List.not_mem_nil) ⟨Nat.le_of_ble_eq_true rfl, Nat.le_of_ble_eq_true rfl⟩ (by decide) wC_L_20 (List.mem_of_getElem? (i := 8) rfl) (xlk_ok okL_section (pc := 15) rfl) (Or.inl ⟨rfl, rfl⟩) (by decide) ?_
      refine XV.run C okL_section 1 (q := (18, ([some (.ref (4)), some (.int (x)), some (.int (y)), some (.int (u)), some (.ref (219)), none], [.int (1)]))) rfl ?_
      exact XV.iret C (xlk_ok okL_section rfl) hret rfl (Nat.le_of_ble_eq_true rfl) (Nat.le_of_ble_eq_true rfl) (⟨rfl, Or.inr (Or.inr (Or.inl (⟨hc, rfl, rfl⟩)))⟩)
    ·
      refine XT.catch C (pre := [(0, 12, 15, 20)]) (z := (0, 12, 19, 13)) (suf := []) (a := 5) htab rfl (List.forall_mem_cons.mpr ⟨⟨by decide, _, wC_L_20, Or.inl ⟨rfl, rfl⟩⟩, fun w hw => absurd hw List.not_mem_nil⟩) ⟨Nat.le_of_ble_eq_true rfl, Nat.le_of_ble_eq_true rfl⟩ (by decide) wC_L_13 (List.mem_of_getElem? (i := 6) rfl) (xlk_ok okL_section (pc := 19) rfl) (Or.inl ⟨rfl, rfl⟩) (by decide) ?_
      refine XV.run C okL_section 1 (q := (22, ([some (.ref (4)), some (.int (x)), some (.int (y)), some (.int (u)), some (.ref (219)), none], [.int (2)]))) rfl ?_
      exact XV.iret C (xlk_ok okL_section rfl) hret rfl (Nat.le_of_ble_eq_true rfl) (Nat.le_of_ble_eq_true rfl) (⟨rfl, Or.inr (Or.inr (Or.inr (⟨hc, rfl, rfl⟩)))⟩)
set_option maxHeartbeats 4000000 in
set_option maxRecDepth 100000 in
theorem ct_L_window {l : Launch} (hfl : l.stackTraces = false) {G : XG}  {n : Nat} {h : XH} {f : Nat → Int32} {o kp : Nat} {P : Nat → Nat → Int32} {tx : Nat → Int32} {len : Nat} {p : PT} {ρ : Nat → Int32} (hn : 209 ≤ n) {k : Nat} (hm : f 1 = nI k) (hk : k ≤ 5) (hl : ∀ i, i < k → 0 < rowOf f i 0) {z : Nat} (hz : f 2 = nI z) (z1 : 1 ≤ z) (z2 : z ≤ 12) (x y u : Int32) (hn6 : 216 ≤ n) {fo : Nat → Int64} (h219 : h 219 = outC fo) : XCt l G False (Cond.codeWith yL_window bL_window 6 (some .int) [(0, 12, 15, 20), (0, 12, 19, 13)]) yL_window 8 136 3 18 [.ref (4), .int (x), .int (y), .int (u), .ref (219)] n (setCW h f o kp P tx len p ρ) (fun r' n' h' => n' = n ∧ ((∃ i j w, (x = nI i ∧ i < k ∧ y = nI j ∧ j < 25 - z ∧ u = nI w ∧ w ≤ 1) ∧ r' = some (.int 0) ∧ h' = xup (setCW h f o kp P tx len p ρ) 219 (outC (vp_updL fo 0 (winS (rowOf f i) (decide (w = 1)) z j).toInt64))) ∨ ((x < 0 ∨ nI k ≤ x) ∧ r' = some (.int 1) ∧ h' = setCW h f o kp P tx len p ρ) ∨ ((¬ (x < 0 ∨ nI k ≤ x) ∧ (y < 0 ∨ ¬ y < nI (25 - z))) ∧ r' = some (.int 1) ∧ h' = setCW h f o kp P tx len p ρ) ∨ ((¬ (x < 0 ∨ nI k ≤ x) ∧ (¬ y < 0 ∧ y < nI (25 - z)) ∧ (u < 0 ∨ ¬ u ≤ 1)) ∧ r' = some (.int 2) ∧ h' = setCW h f o kp P tx len p ρ))) (fun _ _ _ => False) := by
  refine XCt.ofH hfl (by decide +kernel) (Nat.le_of_ble_eq_true rfl) ?_
  intro p' e' s' m' g' b' t' c' C hret htab hmd
  refine XV.run C okL_window 6 (q := (7, ([some (.ref (4)), some (.int (x)), some (.int (y)), some (.int (u)), some (.ref (219)), none], [.int (u), .int (y), .int (x), .ref (4), .int (0), .ref (219)]))) rfl ?_
  refine XV.callV C (As := [.int (x), .int (y), .int (u)]) (rest := [.int (0), .ref (219)]) (ci := 4) (ct_C_window hfl hn hm hk hl hz z1 z2 x y u) (xlk_ok okL_window rfl) rfl (by omega) (by omega) rfl (cw_o) rfl wM_L_55 wI_C_window wV_C_window wN_C wB_C_window hy_C_window (fun q => q.elim) ⟨Nat.le_of_ble_eq_true rfl, Nat.le_of_ble_eq_true rfl⟩ ⟨Nat.le_of_ble_eq_true rfl, Nat.le_of_ble_eq_true rfl⟩ (Nat.le_of_ble_eq_true rfl) (fun r n h hp => ?_) (fun E n1 h1 hx => ?_)
  ·
    obtain ⟨i, j, w, hc, rfl, rfl, rfl⟩ := hp
    refine XV.run C okL_window 1 (q := (11, ([some (.ref (4)), some (.int (x)), some (.int (y)), some (.int (u)), some (.ref (219)), none], [.long (winS (rowOf f i) (decide (w = 1)) z j).toInt64, .int 0, .ref 219]))) rfl ?_
    refine XV.last C (N := 1) (a := 0) (f := fo) (xlk_ok okL_window (pc := 11) rfl) (by decide) (by omega) ((blk_out (Or.inr (by decide))).trans h219) rfl (by decide) (by decide) ?_
    refine XV.run C okL_window 2 (q := (24, ([some (.ref (4)), some (.int (x)), some (.int (y)), some (.int (u)), some (.ref (219)), none], [.int (0)]))) rfl ?_
    exact XV.iret C (xlk_ok okL_window rfl) hret rfl (Nat.le_of_ble_eq_true rfl) (Nat.le_of_ble_eq_true rfl) (⟨rfl, Or.inl (⟨i, j, w, hc, rfl, rfl⟩)⟩)
  ·
    obtain ⟨hx, rfl, rfl⟩ := hx
    rcases hx with ⟨rfl, hc⟩ | ⟨rfl, hc⟩ | ⟨rfl, hc⟩
    ·
      refine XT.catch C (pre := []) (z := (0, 12, 15, 20)) (suf := [(0, 12, 19, 13)]) (a := 5) htab rfl (fun w hw => absurd hw List.not_mem_nil) ⟨Nat.le_of_ble_eq_true rfl, Nat.le_of_ble_eq_true rfl⟩ (by decide) wC_L_20 (List.mem_of_getElem? (i := 8) rfl) (xlk_ok okL_window (pc := 15) rfl) (Or.inl ⟨rfl, rfl⟩) (by decide) ?_
      refine XV.run C okL_window 1 (q := (18, ([some (.ref (4)), some (.int (x)), some (.int (y)), some (.int (u)), some (.ref (219)), none], [.int (1)]))) rfl ?_
      exact XV.iret C (xlk_ok okL_window rfl) hret rfl (Nat.le_of_ble_eq_true rfl) (Nat.le_of_ble_eq_true rfl) (⟨rfl, Or.inr (Or.inl (⟨hc, rfl, rfl⟩))⟩)
    ·
      refine XT.catch C (pre := []) (z := (0, 12, 15, 20)) (suf := [(0, 12, 19, 13)]) (a := 5) htab rfl (fun w hw => absurd hw List.not_mem_nil) ⟨Nat.le_of_ble_eq_true rfl, Nat.le_of_ble_eq_true rfl⟩ (by decide) wC_L_20 (List.mem_of_getElem? (i := 8) rfl) (xlk_ok okL_window (pc := 15) rfl) (Or.inl ⟨rfl, rfl⟩) (by decide) ?_
      refine XV.run C okL_window 1 (q := (18, ([some (.ref (4)), some (.int (x)), some (.int (y)), some (.int (u)), some (.ref (219)), none], [.int (1)]))) rfl ?_
      exact XV.iret C (xlk_ok okL_window rfl) hret rfl (Nat.le_of_ble_eq_true rfl) (Nat.le_of_ble_eq_true rfl) (⟨rfl, Or.inr (Or.inr (Or.inl (⟨hc, rfl, rfl⟩)))⟩)
    ·
      refine XT.catch C (pre := [(0, 12, 15, 20)]) (z := (0, 12, 19, 13)) (suf := []) (a := 5) htab rfl (List.forall_mem_cons.mpr ⟨⟨by decide, _, wC_L_20, Or.inl ⟨rfl, rfl⟩⟩, fun w hw => absurd hw List.not_mem_nil⟩) ⟨Nat.le_of_ble_eq_true rfl, Nat.le_of_ble_eq_true rfl⟩ (by decide) wC_L_13 (List.mem_of_getElem? (i := 6) rfl) (xlk_ok okL_window (pc := 19) rfl) (Or.inl ⟨rfl, rfl⟩) (by decide) ?_
      refine XV.run C okL_window 1 (q := (22, ([some (.ref (4)), some (.int (x)), some (.int (y)), some (.int (u)), some (.ref (219)), none], [.int (2)]))) rfl ?_
      exact XV.iret C (xlk_ok okL_window rfl) hret rfl (Nat.le_of_ble_eq_true rfl) (Nat.le_of_ble_eq_true rfl) (⟨rfl, Or.inr (Or.inr (Or.inr (⟨hc, rfl, rfl⟩)))⟩)
set_option maxHeartbeats 4000000 in
set_option maxRecDepth 100000 in
theorem ct_L_count {l : Launch} (hfl : l.stackTraces = false) {G : XG}  {n : Nat} {h : XH} {f : Nat → Int32} {o kp : Nat} {P : Nat → Nat → Int32} {tx : Nat → Int32} {len : Nat} {p : PT} {ρ : Nat → Int32} (hn : 209 ≤ n) {k : Nat} (hm : f 1 = nI k) (hk : k ≤ 5) (hl : ∀ i, i < k → 0 < rowOf f i 0) {z : Nat} (hz : f 2 = nI z) (z1 : 1 ≤ z) (z2 : z ≤ 12) (ho : o < 6) (hkp : kp ≤ 6) (x : Int32) (hn6 : 216 ≤ n) {fo : Nat → Int64} (h219 : h 219 = outC fo) : XCt l G False (Cond.codeWith yL_count bL_count 4 (some .int) [(0, 9, 12, 13)]) yL_count 8 170 1 6 [.ref (4), .int (x), .ref (219)] n (setCW h f o kp P tx len p ρ) (fun r' n' h' => n' = n ∧ ((∃ w, (x = nI w ∧ w ≤ 8) ∧ r' = some (.int 0) ∧ h' = xup (setCW h f o kp P tx len p ρ) 219 (outC (vp_updL fo 0 (countFigK f z k kp w).toInt64))) ∨ ((x < 0 ∨ ¬ x ≤ 8) ∧ r' = some (.int 1) ∧ h' = setCW h f o kp P tx len p ρ))) (fun _ _ _ => False) := by
  refine XCt.ofH hfl (by decide +kernel) (Nat.le_of_ble_eq_true rfl) ?_
  intro p' e' s' m' g' b' t' c' C hret htab hmd
  refine XV.run C okL_count 4 (q := (4, ([some (.ref (4)), some (.int (x)), some (.ref (219)), none], [.int (x), .ref (4), .int (0), .ref (219)]))) rfl ?_
  refine XV.callV C (As := [.int (x)]) (rest := [.int (0), .ref (219)]) (ci := 4) (ct_C_count hfl hn hm hk hl hz z1 z2 ho hkp x) (xlk_ok okL_count rfl) rfl (by omega) (by omega) rfl (cw_o) rfl wM_L_58 wI_C_count wV_C_count wN_C wB_C_count hy_C_count (fun q => q.elim) ⟨Nat.le_of_ble_eq_true rfl, Nat.le_of_ble_eq_true rfl⟩ ⟨Nat.le_of_ble_eq_true rfl, Nat.le_of_ble_eq_true rfl⟩ (Nat.le_of_ble_eq_true rfl) (fun r n h hp => ?_) (fun E n1 h1 hx => ?_)
  ·
    obtain ⟨w, hc, rfl, rfl, rfl⟩ := hp
    refine XV.run C okL_count 1 (q := (8, ([some (.ref (4)), some (.int (x)), some (.ref (219)), none], [.long (countFigK f z k kp w).toInt64, .int 0, .ref 219]))) rfl ?_
    refine XV.last C (N := 1) (a := 0) (f := fo) (xlk_ok okL_count (pc := 8) rfl) (by decide) (by omega) ((blk_out (Or.inr (by decide))).trans h219) rfl (by decide) (by decide) ?_
    refine XV.run C okL_count 2 (q := (16, ([some (.ref (4)), some (.int (x)), some (.ref (219)), none], [.int (0)]))) rfl ?_
    exact XV.iret C (xlk_ok okL_count rfl) hret rfl (Nat.le_of_ble_eq_true rfl) (Nat.le_of_ble_eq_true rfl) (⟨rfl, Or.inl (⟨w, hc, rfl, rfl⟩)⟩)
  ·
    obtain ⟨hx, rfl, rfl⟩ := hx
    obtain ⟨rfl, hc⟩ := hx
    refine XT.catch C (pre := []) (z := (0, 9, 12, 13)) (suf := []) (a := 3) htab rfl (fun w hw => absurd hw List.not_mem_nil) ⟨Nat.le_of_ble_eq_true rfl, Nat.le_of_ble_eq_true rfl⟩ (by decide) wC_L_13 (List.mem_of_getElem? (i := 6) rfl) (xlk_ok okL_count (pc := 12) rfl) (Or.inr ⟨3, rfl, rfl, rfl⟩) (by decide) ?_
    refine XV.run C okL_count 1 (q := (14, ([some (.ref (4)), some (.int (x)), some (.ref (219)), none], [.int (1)]))) rfl ?_
    exact XV.iret C (xlk_ok okL_count rfl) hret rfl (Nat.le_of_ble_eq_true rfl) (Nat.le_of_ble_eq_true rfl) (⟨rfl, Or.inr (⟨hc, rfl, rfl⟩)⟩)
set_option maxHeartbeats 4000000 in
set_option maxRecDepth 100000 in
theorem ct_L_setting {l : Launch} (hfl : l.stackTraces = false) {G : XG}  {n : Nat} {h : XH} {f : Nat → Int32} {o kp : Nat} {P : Nat → Nat → Int32} {tx : Nat → Int32} {len : Nat} {p : PT} {ρ : Nat → Int32} (hn : 209 ≤ n) (x : Int32) (hn6 : 216 ≤ n) {fo : Nat → Int64} (h219 : h 219 = outC fo) : XCt l G False (Cond.codeWith yL_setting bL_setting 4 (some .int) [(0, 9, 12, 20)]) yL_setting 8 132 1 6 [.ref (4), .int (x), .ref (219)] n (setCW h f o kp P tx len p ρ) (fun r' n' h' => n' = n ∧ ((∃ i, (x = nI i ∧ i < 5) ∧ r' = some (.int 0) ∧ h' = xup (setCW h f o kp P tx len p ρ) 219 (outC (vp_updL fo 0 (f (2 + i)).toInt64))) ∨ ((x < 0 ∨ ¬ x < 5) ∧ r' = some (.int 1) ∧ h' = setCW h f o kp P tx len p ρ))) (fun _ _ _ => False) := by
  refine XCt.ofH hfl (by decide +kernel) (Nat.le_of_ble_eq_true rfl) ?_
  intro p' e' s' m' g' b' t' c' C hret htab hmd
  refine XV.run C okL_setting 4 (q := (4, ([some (.ref (4)), some (.int (x)), some (.ref (219)), none], [.int (x), .ref (4), .int (0), .ref (219)]))) rfl ?_
  refine XV.callV C (As := [.int (x)]) (rest := [.int (0), .ref (219)]) (ci := 4) (ct_C_setting hfl hn x) (xlk_ok okL_setting rfl) rfl (by omega) (by omega) rfl (cw_o) rfl wM_L_61 wI_C_setting wV_C_setting wN_C wB_C_setting hy_C_setting (fun q => q.elim) ⟨Nat.le_of_ble_eq_true rfl, Nat.le_of_ble_eq_true rfl⟩ ⟨Nat.le_of_ble_eq_true rfl, Nat.le_of_ble_eq_true rfl⟩ (Nat.le_of_ble_eq_true rfl) (fun r n h hp => ?_) (fun E n1 h1 hx => ?_)
  ·
    obtain ⟨i, hc, rfl, rfl, rfl⟩ := hp
    refine XV.run C okL_setting 1 (q := (8, ([some (.ref (4)), some (.int (x)), some (.ref (219)), none], [.long (f (2 + i)).toInt64, .int 0, .ref 219]))) rfl ?_
    refine XV.last C (N := 1) (a := 0) (f := fo) (xlk_ok okL_setting (pc := 8) rfl) (by decide) (by omega) ((blk_out (Or.inr (by decide))).trans h219) rfl (by decide) (by decide) ?_
    refine XV.run C okL_setting 2 (q := (16, ([some (.ref (4)), some (.int (x)), some (.ref (219)), none], [.int (0)]))) rfl ?_
    exact XV.iret C (xlk_ok okL_setting rfl) hret rfl (Nat.le_of_ble_eq_true rfl) (Nat.le_of_ble_eq_true rfl) (⟨rfl, Or.inl (⟨i, hc, rfl, rfl⟩)⟩)
  ·
    obtain ⟨hx, rfl, rfl⟩ := hx
    obtain ⟨rfl, hc⟩ := hx
    refine XT.catch C (pre := []) (z := (0, 9, 12, 20)) (suf := []) (a := 3) htab rfl (fun w hw => absurd hw List.not_mem_nil) ⟨Nat.le_of_ble_eq_true rfl, Nat.le_of_ble_eq_true rfl⟩ (by decide) wC_L_20 (List.mem_of_getElem? (i := 8) rfl) (xlk_ok okL_setting (pc := 12) rfl) (Or.inr ⟨3, rfl, rfl, rfl⟩) (by decide) ?_
    refine XV.run C okL_setting 1 (q := (14, ([some (.ref (4)), some (.int (x)), some (.ref (219)), none], [.int (1)]))) rfl ?_
    exact XV.iret C (xlk_ok okL_setting rfl) hret rfl (Nat.le_of_ble_eq_true rfl) (Nat.le_of_ble_eq_true rfl) (⟨rfl, Or.inr (⟨hc, rfl, rfl⟩)⟩)
set_option maxHeartbeats 4000000 in
set_option maxRecDepth 100000 in
theorem ct_L_ifInspected {l : Launch} (hfl : l.stackTraces = false) {G : XG}  {n : Nat} {h : XH} {f : Nat → Int32} {o kp : Nat} {P : Nat → Nat → Int32} {tx : Nat → Int32} {len : Nat} {p : PT} {ρ : Nat → Int32} (hn : 209 ≤ n) {k : Nat} (hm : f 1 = nI k) (hk : k ≤ 5) (hl : ∀ i, i < k → 0 < rowOf f i 0) {z : Nat} (hz : f 2 = nI z) (z1 : 1 ≤ z) (z2 : z ≤ 12) (x y u : Int32) (hn6 : 216 ≤ n) {fo : Nat → Int64} (h219 : h 219 = outC fo) : XCt l G False (Cond.codeWith yL_ifInspected bL_ifInspected 6 (some .int) [(0, 12, 15, 20), (0, 12, 19, 13)]) yL_ifInspected 9 156 4 24 [.ref (4), .int (x), .int (y), .int (u), .ref (219)] n (setCW h f o kp P tx len p ρ) (fun r' n' h' => n' = n ∧ ((∃ i a b, (x = nI i ∧ i < k ∧ y = nI a ∧ u = nI b ∧ a ≤ b ∧ b < 24) ∧ r' = some (.int 0) ∧ h' = xup (setCW h f o kp P tx len p (rLook (rowOf f i) a (b + 1 - a) (f 0))) 219 (outC (vp_updL fo 0 (reasonK f (rLook (rowOf f i) a (b + 1 - a) (f 0)) z).toInt64))) ∨ ((x < 0 ∨ nI k ≤ x) ∧ r' = some (.int 1) ∧ h' = setCW h f o kp P tx len p ρ) ∨ ((¬ (x < 0 ∨ nI k ≤ x) ∧ ((y < 0 ∨ ¬ y < 24) ∨ (u < 0 ∨ ¬ u < 24))) ∧ r' = some (.int 1) ∧ h' = setCW h f o kp P tx len p ρ) ∨ ((¬ (x < 0 ∨ nI k ≤ x) ∧ ((¬ y < 0 ∧ y < 24) ∧ (¬ u < 0 ∧ u < 24) ∧ ¬ y ≤ u)) ∧ r' = some (.int 2) ∧ h' = setCW h f o kp P tx len p ρ))) (fun _ _ _ => False) := by
  refine XCt.ofH hfl (by decide +kernel) (Nat.le_of_ble_eq_true rfl) ?_
  intro p' e' s' m' g' b' t' c' C hret htab hmd
  refine XV.run C okL_ifInspected 6 (q := (7, ([some (.ref (4)), some (.int (x)), some (.int (y)), some (.int (u)), some (.ref (219)), none], [.int (u), .int (y), .int (x), .ref (4), .int (0), .ref (219)]))) rfl ?_
  refine XV.callV C (As := [.int (x), .int (y), .int (u)]) (rest := [.int (0), .ref (219)]) (ci := 4) (ct_C_ifInspected hfl hn hm hk hl hz z1 z2 x y u) (xlk_ok okL_ifInspected rfl) rfl (by omega) (by omega) rfl (cw_o) rfl wM_L_64 wI_C_ifInspected wV_C_ifInspected wN_C wB_C_ifInspected hy_C_ifInspected (fun q => q.elim) ⟨Nat.le_of_ble_eq_true rfl, Nat.le_of_ble_eq_true rfl⟩ ⟨Nat.le_of_ble_eq_true rfl, Nat.le_of_ble_eq_true rfl⟩ (Nat.le_of_ble_eq_true rfl) (fun r n h hp => ?_) (fun E n1 h1 hx => ?_)
  ·
    obtain ⟨i, a, b, hc, rfl, rfl, rfl⟩ := hp
    refine XV.run C okL_ifInspected 1 (q := (11, ([some (.ref (4)), some (.int (x)), some (.int (y)), some (.int (u)), some (.ref (219)), none], [.long (reasonK f (rLook (rowOf f i) a (b + 1 - a) (f 0)) z).toInt64, .int 0, .ref 219]))) rfl ?_
    refine XV.last C (N := 1) (a := 0) (f := fo) (xlk_ok okL_ifInspected (pc := 11) rfl) (by decide) (by omega) ((blk_out (Or.inr (by decide))).trans h219) rfl (by decide) (by decide) ?_
    refine XV.run C okL_ifInspected 2 (q := (24, ([some (.ref (4)), some (.int (x)), some (.int (y)), some (.int (u)), some (.ref (219)), none], [.int (0)]))) rfl ?_
    exact XV.iret C (xlk_ok okL_ifInspected rfl) hret rfl (Nat.le_of_ble_eq_true rfl) (Nat.le_of_ble_eq_true rfl) (⟨rfl, Or.inl (⟨i, a, b, hc, rfl, rfl⟩)⟩)
  ·
    obtain ⟨hx, rfl, rfl⟩ := hx
    rcases hx with ⟨rfl, hc⟩ | ⟨rfl, hc⟩ | ⟨rfl, hc⟩
    ·
      refine XT.catch C (pre := []) (z := (0, 12, 15, 20)) (suf := [(0, 12, 19, 13)]) (a := 5) htab rfl (fun w hw => absurd hw List.not_mem_nil) ⟨Nat.le_of_ble_eq_true rfl, Nat.le_of_ble_eq_true rfl⟩ (by decide) wC_L_20 (List.mem_of_getElem? (i := 8) rfl) (xlk_ok okL_ifInspected (pc := 15) rfl) (Or.inl ⟨rfl, rfl⟩) (by decide) ?_
      refine XV.run C okL_ifInspected 1 (q := (18, ([some (.ref (4)), some (.int (x)), some (.int (y)), some (.int (u)), some (.ref (219)), none], [.int (1)]))) rfl ?_
      exact XV.iret C (xlk_ok okL_ifInspected rfl) hret rfl (Nat.le_of_ble_eq_true rfl) (Nat.le_of_ble_eq_true rfl) (⟨rfl, Or.inr (Or.inl (⟨hc, rfl, rfl⟩))⟩)
    ·
      refine XT.catch C (pre := []) (z := (0, 12, 15, 20)) (suf := [(0, 12, 19, 13)]) (a := 5) htab rfl (fun w hw => absurd hw List.not_mem_nil) ⟨Nat.le_of_ble_eq_true rfl, Nat.le_of_ble_eq_true rfl⟩ (by decide) wC_L_20 (List.mem_of_getElem? (i := 8) rfl) (xlk_ok okL_ifInspected (pc := 15) rfl) (Or.inl ⟨rfl, rfl⟩) (by decide) ?_
      refine XV.run C okL_ifInspected 1 (q := (18, ([some (.ref (4)), some (.int (x)), some (.int (y)), some (.int (u)), some (.ref (219)), none], [.int (1)]))) rfl ?_
      exact XV.iret C (xlk_ok okL_ifInspected rfl) hret rfl (Nat.le_of_ble_eq_true rfl) (Nat.le_of_ble_eq_true rfl) (⟨rfl, Or.inr (Or.inr (Or.inl (⟨hc, rfl, rfl⟩)))⟩)
    ·
      refine XT.catch C (pre := [(0, 12, 15, 20)]) (z := (0, 12, 19, 13)) (suf := []) (a := 5) htab rfl (List.forall_mem_cons.mpr ⟨⟨by decide, _, wC_L_20, Or.inl ⟨rfl, rfl⟩⟩, fun w hw => absurd hw List.not_mem_nil⟩) ⟨Nat.le_of_ble_eq_true rfl, Nat.le_of_ble_eq_true rfl⟩ (by decide) wC_L_13 (List.mem_of_getElem? (i := 6) rfl) (xlk_ok okL_ifInspected (pc := 19) rfl) (Or.inl ⟨rfl, rfl⟩) (by decide) ?_
      refine XV.run C okL_ifInspected 1 (q := (22, ([some (.ref (4)), some (.int (x)), some (.int (y)), some (.int (u)), some (.ref (219)), none], [.int (2)]))) rfl ?_
      exact XV.iret C (xlk_ok okL_ifInspected rfl) hret rfl (Nat.le_of_ble_eq_true rfl) (Nat.le_of_ble_eq_true rfl) (⟨rfl, Or.inr (Or.inr (Or.inr (⟨hc, rfl, rfl⟩)))⟩)
set_option maxHeartbeats 4000000 in
set_option maxRecDepth 100000 in
theorem ct_L_bestInspection {l : Launch} (hfl : l.stackTraces = false) {G : XG}  {n : Nat} {h : XH} {f : Nat → Int32} {o kp : Nat} {P : Nat → Nat → Int32} {tx : Nat → Int32} {len : Nat} {p : PT} {ρ : Nat → Int32} (hn : 209 ≤ n) {k : Nat} (hm : f 1 = nI k) (hk : k ≤ 5) (hl : ∀ i, i < k → 0 < rowOf f i 0) (x y : Int32) (hn6 : 216 ≤ n) {fo : Nat → Int64} (h219 : h 219 = outC fo) : XCt l G False (Cond.codeWith yL_bestInspection bL_bestInspection 5 (some .int) [(0, 10, 13, 20), (0, 10, 17, 13)]) yL_bestInspection 8 135 2 12 [.ref (4), .int (x), .int (y), .ref (219)] n (setCW h f o kp P tx len p ρ) (fun r' n' h' => n' = n ∧ ((∃ i w, (x = nI i ∧ i < k ∧ y = nI w ∧ 1 ≤ w ∧ w ≤ 24) ∧ r' = some (.int 0) ∧ h' = xup (setCW h f o kp P tx len p ρ) 219 (outC (vp_updL fo 0 (nI (bestI (rowOf f i) w)).toInt64))) ∨ ((x < 0 ∨ nI k ≤ x) ∧ r' = some (.int 1) ∧ h' = setCW h f o kp P tx len p ρ) ∨ ((¬ (x < 0 ∨ nI k ≤ x) ∧ (y < 1 ∨ ¬ y ≤ 24)) ∧ r' = some (.int 2) ∧ h' = setCW h f o kp P tx len p ρ))) (fun _ _ _ => False) := by
  refine XCt.ofH hfl (by decide +kernel) (Nat.le_of_ble_eq_true rfl) ?_
  intro p' e' s' m' g' b' t' c' C hret htab hmd
  refine XV.run C okL_bestInspection 5 (q := (5, ([some (.ref (4)), some (.int (x)), some (.int (y)), some (.ref (219)), none], [.int (y), .int (x), .ref (4), .int (0), .ref (219)]))) rfl ?_
  refine XV.callV C (As := [.int (x), .int (y)]) (rest := [.int (0), .ref (219)]) (ci := 4) (ct_C_bestInspection hfl hn hm hk hl x y) (xlk_ok okL_bestInspection rfl) rfl (by omega) (by omega) rfl (cw_o) rfl wM_L_67 wI_C_bestInspection wV_C_bestInspection wN_C wB_C_bestInspection hy_C_bestInspection (fun q => q.elim) ⟨Nat.le_of_ble_eq_true rfl, Nat.le_of_ble_eq_true rfl⟩ ⟨Nat.le_of_ble_eq_true rfl, Nat.le_of_ble_eq_true rfl⟩ (Nat.le_of_ble_eq_true rfl) (fun r n h hp => ?_) (fun E n1 h1 hx => ?_)
  ·
    obtain ⟨i, w, hc, rfl, rfl, rfl⟩ := hp
    refine XV.run C okL_bestInspection 1 (q := (9, ([some (.ref (4)), some (.int (x)), some (.int (y)), some (.ref (219)), none], [.long (nI (bestI (rowOf f i) w)).toInt64, .int 0, .ref 219]))) rfl ?_
    refine XV.last C (N := 1) (a := 0) (f := fo) (xlk_ok okL_bestInspection (pc := 9) rfl) (by decide) (by omega) ((blk_out (Or.inr (by decide))).trans h219) rfl (by decide) (by decide) ?_
    refine XV.run C okL_bestInspection 2 (q := (22, ([some (.ref (4)), some (.int (x)), some (.int (y)), some (.ref (219)), none], [.int (0)]))) rfl ?_
    exact XV.iret C (xlk_ok okL_bestInspection rfl) hret rfl (Nat.le_of_ble_eq_true rfl) (Nat.le_of_ble_eq_true rfl) (⟨rfl, Or.inl (⟨i, w, hc, rfl, rfl⟩)⟩)
  ·
    obtain ⟨hx, rfl, rfl⟩ := hx
    rcases hx with ⟨rfl, hc⟩ | ⟨rfl, hc⟩
    ·
      refine XT.catch C (pre := []) (z := (0, 10, 13, 20)) (suf := [(0, 10, 17, 13)]) (a := 4) htab rfl (fun w hw => absurd hw List.not_mem_nil) ⟨Nat.le_of_ble_eq_true rfl, Nat.le_of_ble_eq_true rfl⟩ (by decide) wC_L_20 (List.mem_of_getElem? (i := 8) rfl) (xlk_ok okL_bestInspection (pc := 13) rfl) (Or.inl ⟨rfl, rfl⟩) (by decide) ?_
      refine XV.run C okL_bestInspection 1 (q := (16, ([some (.ref (4)), some (.int (x)), some (.int (y)), some (.ref (219)), none], [.int (1)]))) rfl ?_
      exact XV.iret C (xlk_ok okL_bestInspection rfl) hret rfl (Nat.le_of_ble_eq_true rfl) (Nat.le_of_ble_eq_true rfl) (⟨rfl, Or.inr (Or.inl (⟨hc, rfl, rfl⟩))⟩)
    ·
      refine XT.catch C (pre := [(0, 10, 13, 20)]) (z := (0, 10, 17, 13)) (suf := []) (a := 4) htab rfl (List.forall_mem_cons.mpr ⟨⟨by decide, _, wC_L_20, Or.inl ⟨rfl, rfl⟩⟩, fun w hw => absurd hw List.not_mem_nil⟩) ⟨Nat.le_of_ble_eq_true rfl, Nat.le_of_ble_eq_true rfl⟩ (by decide) wC_L_13 (List.mem_of_getElem? (i := 6) rfl) (xlk_ok okL_bestInspection (pc := 17) rfl) (Or.inl ⟨rfl, rfl⟩) (by decide) ?_
      refine XV.run C okL_bestInspection 1 (q := (20, ([some (.ref (4)), some (.int (x)), some (.int (y)), some (.ref (219)), none], [.int (2)]))) rfl ?_
      exact XV.iret C (xlk_ok okL_bestInspection rfl) hret rfl (Nat.le_of_ble_eq_true rfl) (Nat.le_of_ble_eq_true rfl) (⟨rfl, Or.inr (Or.inr (⟨hc, rfl, rfl⟩))⟩)
set_option maxHeartbeats 4000000 in
set_option maxRecDepth 100000 in
theorem ct_L_tripsLeft {l : Launch} (hfl : l.stackTraces = false) {G : XG}  {n : Nat} {h : XH} {f : Nat → Int32} {o kp : Nat} {P : Nat → Nat → Int32} {tx : Nat → Int32} {len : Nat} {p : PT} {ρ : Nat → Int32} (hn : 209 ≤ n) {k : Nat} (hm : f 1 = nI k) (hk : k ≤ 5) (hl : ∀ i, i < k → 0 < rowOf f i 0) {z : Nat} (hz : f 2 = nI z) (z1 : 1 ≤ z) (z2 : z ≤ 12) (x : Int32) (hn6 : 216 ≤ n) {fo : Nat → Int64} (h219 : h 219 = outC fo) : XCt l G False (Cond.codeWith yL_tripsLeft bL_tripsLeft 4 (some .int) [(0, 9, 12, 20)]) yL_tripsLeft 8 136 1 6 [.ref (4), .int (x), .ref (219)] n (setCW h f o kp P tx len p ρ) (fun r' n' h' => n' = n ∧ ((∃ i, (x = nI i ∧ i < k) ∧ r' = some (.int 0) ∧ ∃ ρ', h' = xup (setCW h f o kp P tx len p ρ') 219 (outC (vp_updL fo 0 (tlK f (rowOf f i) z 32 0 (f 3 * rowOf f i 0)).toInt64))) ∨ ((x < 0 ∨ nI k ≤ x) ∧ r' = some (.int 1) ∧ h' = setCW h f o kp P tx len p ρ))) (fun _ _ _ => False) := by
  refine XCt.ofH hfl (by decide +kernel) (Nat.le_of_ble_eq_true rfl) ?_
  intro p' e' s' m' g' b' t' c' C hret htab hmd
  refine XV.run C okL_tripsLeft 4 (q := (4, ([some (.ref (4)), some (.int (x)), some (.ref (219)), none], [.int (x), .ref (4), .int (0), .ref (219)]))) rfl ?_
  refine XV.callV C (As := [.int (x)]) (rest := [.int (0), .ref (219)]) (ci := 4) (ct_C_tripsLeft hfl hn hm hk hl hz z1 z2 x) (xlk_ok okL_tripsLeft rfl) rfl (by omega) (by omega) rfl (cw_o) rfl wM_L_70 wI_C_tripsLeft wV_C_tripsLeft wN_C wB_C_tripsLeft hy_C_tripsLeft (fun q => q.elim) ⟨Nat.le_of_ble_eq_true rfl, Nat.le_of_ble_eq_true rfl⟩ ⟨Nat.le_of_ble_eq_true rfl, Nat.le_of_ble_eq_true rfl⟩ (Nat.le_of_ble_eq_true rfl) (fun r n h hp => ?_) (fun E n1 h1 hx => ?_)
  ·
    obtain ⟨i, hc, rfl, rfl, ρ1, rfl⟩ := hp
    refine XV.run C okL_tripsLeft 1 (q := (8, ([some (.ref (4)), some (.int (x)), some (.ref (219)), none], [.long (tlK f (rowOf f i) z 32 0 (f 3 * rowOf f i 0)).toInt64, .int 0, .ref 219]))) rfl ?_
    refine XV.last C (N := 1) (a := 0) (f := fo) (xlk_ok okL_tripsLeft (pc := 8) rfl) (by decide) (by omega) ((blk_out (Or.inr (by decide))).trans h219) rfl (by decide) (by decide) ?_
    refine XV.run C okL_tripsLeft 2 (q := (16, ([some (.ref (4)), some (.int (x)), some (.ref (219)), none], [.int (0)]))) rfl ?_
    exact XV.iret C (xlk_ok okL_tripsLeft rfl) hret rfl (Nat.le_of_ble_eq_true rfl) (Nat.le_of_ble_eq_true rfl) (⟨rfl, Or.inl (⟨i, hc, rfl, ρ1, rfl⟩)⟩)
  ·
    obtain ⟨hx, rfl, rfl⟩ := hx
    obtain ⟨rfl, hc⟩ := hx
    refine XT.catch C (pre := []) (z := (0, 9, 12, 20)) (suf := []) (a := 3) htab rfl (fun w hw => absurd hw List.not_mem_nil) ⟨Nat.le_of_ble_eq_true rfl, Nat.le_of_ble_eq_true rfl⟩ (by decide) wC_L_20 (List.mem_of_getElem? (i := 8) rfl) (xlk_ok okL_tripsLeft (pc := 12) rfl) (Or.inr ⟨3, rfl, rfl, rfl⟩) (by decide) ?_
    refine XV.run C okL_tripsLeft 1 (q := (14, ([some (.ref (4)), some (.int (x)), some (.ref (219)), none], [.int (1)]))) rfl ?_
    exact XV.iret C (xlk_ok okL_tripsLeft rfl) hret rfl (Nat.le_of_ble_eq_true rfl) (Nat.le_of_ble_eq_true rfl) (⟨rfl, Or.inr (⟨hc, rfl, rfl⟩)⟩)
