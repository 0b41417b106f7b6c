/-! RopeThreadsLaw: low, cell; hang, trip, undo with their catches -/
def lowN (x : Int32) (d : Nat) : Nat := x.toBitVec.toNat % 2 ^ 31 % d
theorem lowN_lt (x : Int32) {d : Nat} (h : 0 < d) : lowN x d < d := Nat.mod_lt _ h
set_option maxHeartbeats 4000000 in
set_option maxRecDepth 100000 in
theorem ct_L_low {l : Launch} (hfl : l.stackTraces = false) {G : XG} {n : Nat} {h : XH} (x : Int32) {y : Int32} {d : Nat} (hy : y = nI d) (d0 : 0 < d) (d1 : d < 2 ^ 31) : XCt l G False (Cond.code yL_low bL_low 2 (some .int)) yL_low 0 0 0 0 [.int (x), .int (y)] n h (fun r' n' h' => r' = some (.int (nI (lowN x d))) ∧ n' = n ∧ h' = h) (fun _ _ _ => False) := by
  subst hy
  refine XCt.of hfl (by decide +kernel) (Nat.le_of_ble_eq_true rfl) ?_
  intro p' e' s' m' g' b' t' c' C hret hname hnt hmd
  refine XV.run C okL_low 1 (q := (1, ([some (.int (x)), some (.int (nI d))], [.int (x)]))) rfl ?_
  refine XV.ldc C (xlk_ok okL_low rfl) wK_L_7 ?_
  refine XV.run C okL_low 1 (q := (4, ([some (.int (x)), some (.int (nI d))], [.int (x &&& (2147483647))]))) rfl ?_
  rw [show (x &&& (2147483647) : Int32) = nI (x.toBitVec.toNat % 2 ^ 31) from pk_and x 31 (by decide)]
  refine XV.run C okL_low 1 (q := (5, ([some (.int (x)), some (.int (nI d))], [.int (nI d), .int (nI (x.toBitVec.toNat % 2 ^ 31))]))) rfl ?_
  refine XV.irem C (xlk_ok okL_low rfl) (nI_ne0 d0 d1) ?_
  rw [pk_rem (Nat.mod_lt _ (by decide)) d0 d1]
  exact XV.iret C (xlk_ok okL_low rfl) hret rfl (Nat.le_of_ble_eq_true rfl) (Nat.le_of_ble_eq_true rfl) (⟨rfl, rfl, rfl⟩)
set_option maxHeartbeats 4000000 in
set_option maxRecDepth 100000 in
theorem ct_L_cell {l : Launch} (hfl : l.stackTraces = false) {G : XG} {n : Nat} {h : XH} {y : Int32} {j : Nat} (hy : y = nI j) (hj : j < 1000) (hL : xL G < 2 ^ 31) : XCt l G False (Cond.code yL_cell bL_cell 2 (some .int)) yL_cell 0 0 0 0 [.ref (0), .int (y)] n h (fun r' n' h' => (∃ v, r' = some (.int v)) ∧ n' = n ∧ h' = h) (fun _ _ _ => False) := by
  subst hy
  refine XCt.of hfl (by decide +kernel) (Nat.le_of_ble_eq_true rfl) ?_
  intro p' e' s' m' g' b' t' c' C hret hname hnt hmd
  refine XV.run C okL_cell 2 (q := (2, ([some (.ref (0)), some (.int (nI j))], [.ref (0), .int (nI j)]))) rfl ?_
  refine XV.salen C (xlk_ok okL_cell rfl) ?_
  refine XV.icmp_ge C (tgt := 12) (xlk_ok okL_cell rfl) rfl (fun c1 => ?_) (fun c1 => ?_)
  ·
    refine XV.ldc C (xlk_ok okL_cell rfl) wK_L_8 ?_
    refine XV.run C okL_cell 4 (q := (20, ([some (.ref (0)), some (.int (nI j))], [.int (((40503) * (nI j)) + 977)]))) rfl ?_
    exact XV.iret C (xlk_ok okL_cell rfl) hret rfl (Nat.le_of_ble_eq_true rfl) (Nat.le_of_ble_eq_true rfl) (⟨⟨_, rfl⟩, rfl, rfl⟩)
  ·
    have hlt : j < xL G := Nat.lt_of_not_le fun q => c1 (nI_le q (by omega))
    refine XV.run C okL_cell 2 (q := (8, ([some (.ref (0)), some (.int (nI j))], [.int (nI j), .ref (0)]))) rfl ?_
    refine XV.sald C (a := j) (xlk_ok okL_cell rfl) (rfl) (hlt) hL ?_
    refine XV.run C okL_cell 1 (q := (20, ([some (.ref (0)), some (.int (nI j))], [.int (xxs G j)]))) rfl ?_
    exact XV.iret C (xlk_ok okL_cell rfl) hret rfl (Nat.le_of_ble_eq_true rfl) (Nat.le_of_ble_eq_true rfl) (⟨⟨_, rfl⟩, rfl, rfl⟩)
set_option maxHeartbeats 4000000 in
set_option maxRecDepth 100000 in
theorem ct_L_hang {l : Launch} (hfl : l.stackTraces = false) {G : XG} {n : Nat} {h : XH} {f : Nat → Int32} {o kp : Nat} {P : Nat → Nat → Int32} {tx : Nat → Int32} {len : Nat} {p : PT} {ρ : Nat → Int32} {k m tt z : Nat} (hn : 209 ≤ n) (hO : OKf f k m tt) (hz : f 2 = nI z) (z1 : 1 ≤ z) (z2 : z ≤ 12) (ho : o < 6) (hkp : kp ≤ 6) {q : Nat} (q1 : 1 ≤ q) (q2 : q ≤ 99) : XCt l G False (Cond.codeWith yL_hang bL_hang 3 (some .int) [(0, 5, 6, 15)]) yL_hang 8 133 2 12 [.ref (4), .int (nI q)] n (setCW h f o kp P tx len p ρ) (fun r' n' h' => (k < 5 ∧ r' = some (.int (nI k)) ∧ n' = n ∧ h' = setCW h (putRow (upd f 1 (f 1 + 1)) k (rNew (nI q) (f 0))) (kO o kp) (kK kp) (kP o kp P f) tx len p ρ) ∨ (k = 5 ∧ r' = some (.int (-3)) ∧ n' = n ∧ h' = setCW h f o kp P tx len p ρ)) (fun _ _ _ => False) := by
  have hk := hO.2.1
  have kI : (nI k).toInt = (k : Int) := nI_tI (by omega)
  refine XCt.ofH hfl (by decide +kernel) (Nat.le_of_ble_eq_true rfl) ?_
  intro p' e' s' m' g' b' t' c' C hret htab hmd
  refine XV.run C okL_hang 2 (q := (2, ([some (.ref (4)), some (.int (nI q)), none], [.int (nI q), .ref (4)]))) rfl ?_
  refine XV.callV C (As := [.int (nI q)]) (rest := []) (ci := 4) (ct_C_hang hfl hn hO.1 hO.2.1 hO.live ho hkp (nI q)) (xlk_ok okL_hang rfl) rfl (by omega) (by omega) rfl (cw_o) rfl wM_L_17 wI_C_hang wV_C_hang wN_C wB_C_hang hy_C_hang (fun q => q.elim) ⟨Nat.le_of_ble_eq_true rfl, Nat.le_of_ble_eq_true rfl⟩ ⟨Nat.le_of_ble_eq_true rfl, Nat.le_of_ble_eq_true rfl⟩ (Nat.le_of_ble_eq_true rfl) (fun r n h hp => ?_) (fun E n1 h1 hx => ?_)
  ·
    obtain ⟨⟨-, h5⟩, rfl, rfl, rfl⟩ := hp
    exact XV.iret C (xlk_ok okL_hang rfl) hret rfl (Nat.le_of_ble_eq_true rfl) (Nat.le_of_ble_eq_true rfl) (Or.inl ⟨h5, rfl, rfl, rfl⟩)
  ·
    obtain ⟨hx, rfl, rfl⟩ := hx
    have tq : (nI q).toInt = (q : Int) := nI_tI (by omega)
    obtain ⟨rfl, h5⟩ : E = XISE ∧ ¬ k < 5 := by
      rcases hx with ⟨-, hb⟩ | ⟨rfl, -, h5⟩
      · exfalso
        simp only [le_tI, lt_tI, tI_1, tc_99, tq] at hb
        omega
      · exact ⟨rfl, h5⟩
    refine XT.catch C (pre := []) (z := (0, 5, 6, 15)) (suf := []) (a := 2) htab rfl (fun w hw => absurd hw List.not_mem_nil) ⟨Nat.le_of_ble_eq_true rfl, Nat.le_of_ble_eq_true rfl⟩ (by decide) wC_L_15 (List.mem_of_getElem? (i := 7) rfl) (xlk_ok okL_hang (pc := 6) rfl) (Or.inr ⟨2, rfl, rfl, rfl⟩) (by decide) ?_
    refine XV.run C okL_hang 1 (q := (9, ([some (.ref (4)), some (.int (nI q)), none], [.int ((-3))]))) rfl ?_
    exact XV.iret C (xlk_ok okL_hang rfl) hret rfl (Nat.le_of_ble_eq_true rfl) (Nat.le_of_ble_eq_true rfl) (Or.inr ⟨by omega, rfl, rfl, rfl⟩)
set_option maxHeartbeats 4000000 in
set_option maxRecDepth 100000 in
theorem ct_L_trip {l : Launch} (hfl : l.stackTraces = false) {G : XG} {n : Nat} {h : XH} {f : Nat → Int32} {o kp : Nat} {P : Nat → Nat → Int32} {tx : Nat → Int32} {len : Nat} {p : PT} {ρ : Nat → Int32} {k m tt z : Nat} (hn : 209 ≤ n) (hO : OKf f k m tt) (hz : f 2 = nI z) (z1 : 1 ≤ z) (z2 : z ≤ 12) (ho : o < 6) (hkp : kp ≤ 6) {a b u : Nat} (ha : a < 8) (hb : b < 8) (u1 : 1 ≤ u) (u2 : u ≤ 99) (hT : tt + u ≤ 99999) : XCt l G False (Cond.codeWith yL_trip bL_trip 5 (some .int) [(0, 7, 8, 15)]) yL_trip 8 172 4 24 [.ref (4), .int (nI a), .int (nI b), .int (nI u)] n (setCW h f o kp P tx len p ρ) (fun r' n' h' => (¬ canK f z k = 0 ∧ r' = some (.int (f 7 + nI u)) ∧ n' = n ∧ h' = setCW h (travK f (min a b) (max a b) k (nI u)) (kO o kp) (kK kp) (kP o kp P f) tx len p ρ) ∨ (canK f z k = 0 ∧ r' = some (.int (-3)) ∧ n' = n ∧ h' = setCW h f o kp P tx len p ρ)) (fun _ _ _ => False) := by
  have hk := hO.2.1
  have kI : (nI k).toInt = (k : Int) := nI_tI (by omega)
  refine XCt.ofH hfl (by decide +kernel) (Nat.le_of_ble_eq_true rfl) ?_
  intro p' e' s' m' g' b' t' c' C hret htab hmd
  refine XV.run C okL_trip 4 (q := (4, ([some (.ref (4)), some (.int (nI a)), some (.int (nI b)), some (.int (nI u)), none], [.int (nI u), .int (nI b), .int (nI a), .ref (4)]))) rfl ?_
  refine XV.callV C (As := [.int (nI a), .int (nI b), .int (nI u)]) (rest := []) (ci := 4) (ct_C_trip hfl hn hO.1 hO.2.1 hO.live hz z1 z2 ho hkp (nI a) (nI b) (nI u)) (xlk_ok okL_trip rfl) rfl (by omega) (by omega) rfl (cw_o) rfl wM_L_9 wI_C_trip wV_C_trip wN_C wB_C_trip hy_C_trip (fun q => q.elim) ⟨Nat.le_of_ble_eq_true rfl, Nat.le_of_ble_eq_true rfl⟩ ⟨Nat.le_of_ble_eq_true rfl, Nat.le_of_ble_eq_true rfl⟩ (Nat.le_of_ble_eq_true rfl) (fun r n h hp => ?_) (fun E n1 h1 hx => ?_)
  ·
    obtain ⟨a1, b1, ⟨e1, ga, e2, gb, -, hc, -⟩, rfl, rfl, rfl⟩ := hp
    obtain rfl : a = a1 := (nI_eq (by omega) (by omega)).mp e1
    obtain rfl : b = b1 := (nI_eq (by omega) (by omega)).mp e2
    exact XV.iret C (xlk_ok okL_trip rfl) hret rfl (Nat.le_of_ble_eq_true rfl) (Nat.le_of_ble_eq_true rfl) (Or.inl ⟨hc, rfl, rfl, rfl⟩)
  ·
    obtain ⟨hx, rfl, rfl⟩ := hx
    have ta : (nI a).toInt = (a : Int) := nI_tI (by omega)
    have tb : (nI b).toInt = (b : Int) := nI_tI (by omega)
    have tu : (nI u).toInt = (u : Int) := nI_tI (by omega)
    have t7 : (f 7 + nI u).toInt = ((tt + u : Nat) : Int) := by rw [hO.2.2.2.2.1, nI_add]; exact nI_tI (by omega)
    have hle : f 7 + nI u ≤ 99999 := by rw [le_tI, t7, tc_99999]; omega
    obtain ⟨rfl, hc⟩ : E = XISE ∧ canK f z k = 0 := by
      rcases hx with ⟨-, hq⟩ | ⟨-, hq⟩ | ⟨-, hq⟩ | ⟨rfl, -, -, -, hq⟩
      · exfalso; simp only [le_tI, lt_tI, tI_0, tI_1, tc_8, tc_99, ta, tb, tu] at hq; omega
      · exfalso; simp only [le_tI, lt_tI, tI_0, tI_1, tc_8, tc_99, ta, tb, tu] at hq; omega
      · exfalso; simp only [le_tI, lt_tI, tI_0, tI_1, tc_8, tc_99, ta, tb, tu] at hq; omega
      · exact ⟨rfl, Classical.byContradiction fun q => hq ⟨q, hle⟩⟩
    refine XT.catch C (pre := []) (z := (0, 7, 8, 15)) (suf := []) (a := 4) htab rfl (fun w hw => absurd hw List.not_mem_nil) ⟨Nat.le_of_ble_eq_true rfl, Nat.le_of_ble_eq_true rfl⟩ (by decide) wC_L_15 (List.mem_of_getElem? (i := 7) rfl) (xlk_ok okL_trip (pc := 8) rfl) (Or.inl ⟨rfl, rfl⟩) (by decide) ?_
    refine XV.run C okL_trip 1 (q := (12, ([some (.ref (4)), some (.int (nI a)), some (.int (nI b)), some (.int (nI u)), none], [.int ((-3))]))) rfl ?_
    exact XV.iret C (xlk_ok okL_trip rfl) hret rfl (Nat.le_of_ble_eq_true rfl) (Nat.le_of_ble_eq_true rfl) (Or.inr ⟨hc, rfl, rfl, rfl⟩)
set_option maxHeartbeats 4000000 in
set_option maxRecDepth 100000 in
theorem ct_L_undo {l : Launch} (hfl : l.stackTraces = false) {G : XG} {n : Nat} {h : XH} {f : Nat → Int32} {o kp : Nat} {P : Nat → Nat → Int32} {tx : Nat → Int32} {len : Nat} {p : PT} {ρ : Nat → Int32} {k m tt z : Nat} (hn : 209 ≤ n) (hO : OKf f k m tt) (hz : f 2 = nI z) (z1 : 1 ≤ z) (z2 : z ≤ 12) (ho : o < 6) (hkp : kp ≤ 6) : XCt l G False (Cond.codeWith yL_undo bL_undo 2 (some .int) [(0, 4, 5, 15)]) yL_undo 7 113 1 6 [.ref (4)] n (setCW h f o kp P tx len p ρ) (fun r' n' h' => (∃ j, kp = j + 1 ∧ r' = some (.int (nI j)) ∧ n' = n ∧ h' = setCW h (P ((o + j) % 6)) o j P tx len p ρ) ∨ (kp = 0 ∧ r' = some (.int (-3)) ∧ n' = n ∧ h' = setCW h f o kp P tx len p ρ)) (fun _ _ _ => False) := by
  have hk := hO.2.1
  have kI : (nI k).toInt = (k : Int) := nI_tI (by omega)
  refine XCt.ofH hfl (by decide +kernel) (Nat.le_of_ble_eq_true rfl) ?_
  intro p' e' s' m' g' b' t' c' C hret htab hmd
  refine XV.run C okL_undo 1 (q := (1, ([some (.ref (4)), none], [.ref (4)]))) rfl ?_
  refine XV.callV C (As := []) (rest := []) (ci := 4) (ct_C_undo hfl hn ho hkp) (xlk_ok okL_undo rfl) rfl (by omega) (by omega) rfl (cw_o) rfl wM_L_21 wI_C_undo wV_C_undo wN_C wB_C_undo hy_C_undo (fun q => q.elim) ⟨Nat.le_of_ble_eq_true rfl, Nat.le_of_ble_eq_true rfl⟩ ⟨Nat.le_of_ble_eq_true rfl, Nat.le_of_ble_eq_true rfl⟩ (Nat.le_of_ble_eq_true rfl) (fun r n h hp => ?_) (fun E n1 h1 hx => ?_)
  ·
    obtain ⟨j, rfl, rfl, rfl, rfl⟩ := hp
    exact XV.iret C (xlk_ok okL_undo rfl) hret rfl (Nat.le_of_ble_eq_true rfl) (Nat.le_of_ble_eq_true rfl) (Or.inl ⟨j, rfl, rfl, rfl, rfl⟩)
  ·
    obtain ⟨⟨rfl, hc⟩, rfl, rfl⟩ := hx
    refine XT.catch C (pre := []) (z := (0, 4, 5, 15)) (suf := []) (a := 1) htab rfl (fun w hw => absurd hw List.not_mem_nil) ⟨Nat.le_of_ble_eq_true rfl, Nat.le_of_ble_eq_true rfl⟩ (by decide) wC_L_15 (List.mem_of_getElem? (i := 7) rfl) (xlk_ok okL_undo (pc := 5) rfl) (Or.inr ⟨1, rfl, rfl, rfl⟩) (by decide) ?_
    refine XV.run C okL_undo 1 (q := (8, ([some (.ref (4)), none], [.int ((-3))]))) rfl ?_
    exact XV.iret C (xlk_ok okL_undo rfl) hret rfl (Nat.le_of_ble_eq_true rfl) (Nat.le_of_ble_eq_true rfl) (Or.inr ⟨hc, rfl, rfl, rfl⟩)
