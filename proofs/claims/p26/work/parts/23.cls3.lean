/-! RopeThreads: the public calls -/
theorem pos_of {x : Int32} (h : ¬ x < 1) : 0 < x := by
  have h2 := Int32.not_lt.mp h
  rw [Int32.le_iff_toInt_le] at h2
  rw [Int32.lt_iff_toInt_lt]
  have h3 : (1 : Int32).toInt = 1 := by decide
  have h4 : (0 : Int32).toInt = 0 := by decide
  omega
theorem rng_ge0 {x : Int32} (h : ¬ x < 0) : 0 ≤ x := Int32.not_lt.mp h
theorem ix_nat {x y : Int32} {d : Nat} (h : ¬ x < 0 ∧ x < y) (hy : y = nI d) (hd : d < 2 ^ 31) : ∃ j, x = nI j ∧ j < d := by
  subst hy
  rcases pk_ix x (n := d) hd with q | q | ⟨i, hi, hx⟩
  · exact absurd q h.1
  · exact absurd h.2 (Int32.not_lt.mpr q)
  · exact ⟨i, hx, hi⟩
theorem rg_nat {x y : Int32} {d : Nat} (h : ¬ x < 0 ∧ x ≤ y) (hy : y = nI d) (hd : d + 1 < 2 ^ 31) : ∃ j, x = nI j ∧ j ≤ d := by
  subst hy
  rcases pk_ix x (n := d + 1) hd with q | q | ⟨i, hi, hx⟩
  · exact absurd q h.1
  · exact absurd (Int32.le_trans q h.2) (Int32.not_le.mpr (nI_lt (by omega) (by omega)))
  · exact ⟨i, hx, by omega⟩
set_option maxHeartbeats 4000000 in
set_option maxRecDepth 100000 in
theorem ct_C_hang {l : Launch} (hfl : l.stackTraces = false) {G : XG} {n : Nat} {h : XH} {f : Nat → Int32} {o kp : Nat} {P : Nat → Nat → Int32} {tx : Nat → Int32} {len : Nat} {p : PT} {ρ : Nat → Int32} (hn : 209 ≤ n) {k : Nat} (hm : f 1 = nI k) (hk : k ≤ 5) (hl : ∀ i, i < k → 0 < rowOf f i 0) (ho : o < 6) (hkp : kp ≤ 6) (x : Int32) : XCt l G False (Cond.code yC_hang bC_hang 2 (some .int)) yC_hang 7 112 2 12 [.ref (4), .int (x)] n (setCW h f o kp P tx len p ρ) (fun r' n' h' => ((¬ x < 1 ∧ x ≤ 99) ∧ k < 5) ∧ r' = some (.int (nI k)) ∧ n' = n ∧ h' = setCW h (putRow (upd f 1 (f 1 + 1)) k (rNew x (f 0))) (kO o kp) (kK kp) (kP o kp P f) tx len p ρ) (fun E n' h' => ((E = XIAE ∧ ((x < 1 ∨ ¬ x ≤ 99))) ∨ (E = XISE ∧ ((¬ x < 1 ∧ x ≤ 99) ∧ ¬ k < 5))) ∧ n' = n ∧ h' = setCW h f o kp P tx len p ρ) := by
  refine XCt.of hfl (by decide +kernel) (Nat.le_of_ble_eq_true rfl) ?_
  intro p' e' s' m' g' b' t' c' C hret hname hnt hmd
  refine XV.run C okC_hang 3 (q := (4, ([some (.ref (4)), some (.int (x))], [.int (99), .int (1), .int (x)]))) rfl ?_
  refine XV.callS C (As := [.int (x), .int (1), .int (99)]) (rest := []) (ct_C_requireRange hfl x 1 99) (xlk_ok okC_hang rfl) rfl wM_C_37 wS_C_requireRange wN_C wB_C_requireRange hy_C_requireRange (fun q => q.elim) ⟨Nat.le_of_ble_eq_true rfl, Nat.le_of_ble_eq_true rfl⟩ ⟨Nat.le_of_ble_eq_true rfl, Nat.le_of_ble_eq_true rfl⟩ (Nat.le_of_ble_eq_true rfl) (fun r n h hp => ?_) (fun E n1 h1 q => by obtain ⟨⟨rfl, hbad⟩, rfl, rfl⟩ := q; exact XT.out C hnt (Nat.le_of_ble_eq_true rfl) (Nat.le_of_ble_eq_true rfl) (⟨Or.inl (⟨rfl, hbad⟩), rfl, rfl⟩))
  obtain ⟨rfl, h1, rfl, rfl⟩ := hp
  refine XV.run C okC_hang 1 (q := (8, ([some (.ref (4)), some (.int (x))], [.ref (4)]))) rfl ?_
  refine XV.getf C (ci := 4) (kf := 0) (v := .ref (5)) (xlk_ok okC_hang rfl) rfl (by decide) wF_C_10 (by omega) (by omega) (cw_o) rfl ?_
  refine XV.getfN C (ci := 0) (kf := 2) (v := .int (f 1)) (xlk_ok okC_hang rfl) rfl (by decide) (List.mem_of_getElem? (i := 14) rfl) (by omega) (by omega) (cw_e 0 (by decide)) rfl ?_
  refine XV.run C okC_hang 1 (q := (15, ([some (.ref (4)), some (.int (x))], [.int (5), .int (f 1)]))) rfl ?_
  refine XV.icmp_lt C (tgt := 28) (xlk_ok okC_hang rfl) rfl (fun c1 => ?_) (fun c1 => ?_)
  ·
    have hk5 : k < 5 := by rw [hm] at c1; exact (nI_ltI (b := 5) (by omega) (by omega)).mp c1
    refine XV.run C okC_hang 1 (q := (29, ([some (.ref (4)), some (.int (x))], [.ref (4)]))) rfl ?_
    refine XV.getf C (ci := 4) (kf := 1) (v := .ref (33)) (xlk_ok okC_hang rfl) rfl (by decide) wF_C_19 (by omega) (by omega) (cw_o) rfl ?_
    refine XV.run C okC_hang 1 (q := (33, ([some (.ref (4)), some (.int (x))], [.ref (4), .ref (33)]))) rfl ?_
    refine XV.getf C (ci := 4) (kf := 0) (v := .ref (5)) (xlk_ok okC_hang rfl) rfl (by decide) wF_C_10 (by omega) (by omega) (cw_o) rfl ?_
    refine XV.callV C (As := [.ref (5)]) (rest := []) (ci := 1) (ct_H_keep hfl cw_h (by omega) (by omega) ho cw_e (by omega) (by omega) (by omega) hkp) (xlk_ok okC_hang rfl) rfl (by omega) (by omega) rfl (cw_h 0 (by decide)) rfl wM_C_52 wI_H_keep wV_H_keep wN_H wB_H_keep hy_H_keep (fun q => q.elim) ⟨Nat.le_of_ble_eq_true rfl, Nat.le_of_ble_eq_true rfl⟩ ⟨Nat.le_of_ble_eq_true rfl, Nat.le_of_ble_eq_true rfl⟩ (Nat.le_of_ble_eq_true rfl) (fun r n h hp => ?_) (fun _ _ _ q => q.elim)
    obtain ⟨rfl, rfl, rfl⟩ := hp
    refine XV.cast (cw_setH _ _ _) ?_
    refine XV.run C okC_hang 1 (q := (40, ([some (.ref (4)), some (.int (x))], [.ref (4)]))) rfl ?_
    refine XV.getf C (ci := 4) (kf := 0) (v := .ref (5)) (xlk_ok okC_hang rfl) rfl (by decide) wF_C_10 (by omega) (by omega) (cw_o) rfl ?_
    refine XV.run C okC_hang 1 (q := (44, ([some (.ref (4)), some (.int (x))], [.int (x), .ref (5)]))) rfl ?_
    refine XV.callV C (As := [.int (x)]) (rest := []) (ci := 0) (ct_E_addRope hfl cw_e (by omega) (by omega) hm (by omega) (x) (pos_of h1.1)) (xlk_ok okC_hang rfl) rfl (by omega) (by omega) rfl (cw_e 0 (by decide)) rfl wM_C_56 wI_E_addRope wV_E_addRope wN_E wB_E_addRope hy_E_addRope (fun q => q.elim) ⟨Nat.le_of_ble_eq_true rfl, Nat.le_of_ble_eq_true rfl⟩ ⟨Nat.le_of_ble_eq_true rfl, Nat.le_of_ble_eq_true rfl⟩ (Nat.le_of_ble_eq_true rfl) (fun r n h hp => ?_) (fun _ _ _ q => q.elim)
    obtain ⟨rfl, rfl, rfl⟩ := hp
    refine XV.cast (cw_setE _) ?_
    refine XV.run C okC_hang 1 (q := (48, ([some (.ref (4)), some (.int (x))], [.ref (4)]))) rfl ?_
    refine XV.getf C (ci := 4) (kf := 0) (v := .ref (5)) (xlk_ok okC_hang rfl) rfl (by decide) wF_C_10 (by omega) (by omega) (cw_o) rfl ?_
    refine XV.getfN C (ci := 0) (kf := 2) (v := .int ((putRow (upd f 1 (f 1 + 1)) k (rNew x (f 0))) 1)) (xlk_ok okC_hang rfl) rfl (by decide) (List.mem_of_getElem? (i := 14) rfl) (by omega) (by omega) (cw_e 0 (by decide)) rfl ?_
    refine XV.run C okC_hang 1 (q := (55, ([some (.ref (4)), some (.int (x))], [.int (1), .int ((putRow (upd f 1 (f 1 + 1)) k (rNew x (f 0))) 1)]))) rfl ?_
    refine XV.run C okC_hang 1 (q := (56, ([some (.ref (4)), some (.int (x))], [.int ((putRow (upd f 1 (f 1 + 1)) k (rNew x (f 0))) 1 - 1)]))) rfl ?_
    rw [show ((putRow (upd f 1 (f 1 + 1)) k (rNew x (f 0))) 1 - 1 : Int32) = nI k from by rw [show putRow (upd f 1 (f 1 + 1)) k (rNew x (f 0)) 1 = f 1 + 1 from (if_neg (by omega)).trans upd_eq, hm, nI_1]; exact nI_m1 (by omega)]
    exact XV.iret C (xlk_ok okC_hang rfl) hret rfl (Nat.le_of_ble_eq_true rfl) (Nat.le_of_ble_eq_true rfl) (⟨⟨h1, hk5⟩, rfl, rfl, rfl⟩)
  ·
    have hk5 : ¬ k < 5 := fun q => c1 (by rw [hm]; exact nI_lt (b := 5) q (by omega))
    refine XV.throwS C hnt (E := XISE) (Or.inl ⟨rfl, rfl, rfl⟩) (List.mem_of_getElem? (i := 1) rfl) (xlk_ok okC_hang (pc := 18) rfl) (xlk_ok okC_hang (pc := 21) rfl) (xlk_ok okC_hang (pc := 22) rfl) (xlk_ok okC_hang (pc := 24) rfl) (xlk_ok okC_hang (pc := 27) rfl) (Nat.le_of_ble_eq_true rfl) (Nat.le_of_ble_eq_true rfl) (Nat.le_of_ble_eq_true rfl) (Nat.le_of_ble_eq_true rfl) (Nat.le_of_ble_eq_true rfl) (Nat.le_of_ble_eq_true rfl) ?_
    exact ⟨Or.inr (⟨rfl, h1, hk5⟩), rfl, rfl⟩
set_option maxHeartbeats 4000000 in
set_option maxRecDepth 100000 in
theorem ct_C_cut {l : Launch} (hfl : l.stackTraces = false) {G : XG} {n : Nat} {h : XH} {f : Nat → Int32} {o kp : Nat} {P : Nat → Nat → Int32} {tx : Nat → Int32} {len : Nat} {p : PT} {ρ : Nat → Int32} (hn : 209 ≤ n) {k : Nat} (hm : f 1 = nI k) (hk : k ≤ 5) (hl : ∀ i, i < k → 0 < rowOf f i 0) (ho : o < 6) (hkp : kp ≤ 6) (x : Int32) : XCt l G False (Cond.code yC_cut bC_cut 2 (some .int)) yC_cut 7 112 1 6 [.ref (4), .int (x)] n (setCW h f o kp P tx len p ρ) (fun r' n' h' => ∃ i, (x = nI i ∧ i < k) ∧ r' = some (.int (nI (k - 1))) ∧ n' = n ∧ h' = setCW h (upd (shiftK f i (k - 1 - i)) 1 (f 1 - 1)) (kO o kp) (kK kp) (kP o kp P f) tx len p ρ) (fun E n' h' => ((E = XIOB ∧ ((x < 0 ∨ nI k ≤ x)))) ∧ n' = n ∧ h' = setCW h f o kp P tx len p ρ) := by
  refine XCt.of hfl (by decide +kernel) (Nat.le_of_ble_eq_true rfl) ?_
  intro p' e' s' m' g' b' t' c' C hret hname hnt hmd
  refine XV.run C okC_cut 2 (q := (2, ([some (.ref (4)), some (.int (x))], [.int (x), .ref (4)]))) rfl ?_
  refine XV.callV C (As := [.int (x)]) (rest := []) (ci := 4) (ct_C_existingRope hfl hn hm hk hl (x)) (xlk_ok okC_cut rfl) rfl (by omega) (by omega) rfl (cw_o) rfl wM_C_60 wI_C_existingRope wV_C_existingRope wN_C wB_C_existingRope hy_C_existingRope (fun q => q.elim) ⟨Nat.le_of_ble_eq_true rfl, Nat.le_of_ble_eq_true rfl⟩ ⟨Nat.le_of_ble_eq_true rfl, Nat.le_of_ble_eq_true rfl⟩ (Nat.le_of_ble_eq_true rfl) (fun r n h hp => ?_) (fun E n1 h1 q => by obtain ⟨⟨rfl, hbad⟩, rfl, rfl⟩ := q; exact XT.out C hnt (Nat.le_of_ble_eq_true rfl) (Nat.le_of_ble_eq_true rfl) (⟨⟨rfl, hbad⟩, rfl, rfl⟩))
  obtain ⟨i, hx, hi, rfl, rfl, rfl⟩ := hp
  refine XV.run C okC_cut 2 (q := (7, ([some (.ref (4)), some (.int (x))], [.ref (4)]))) rfl ?_
  refine XV.getf C (ci := 4) (kf := 1) (v := .ref (33)) (xlk_ok okC_cut rfl) rfl (by decide) wF_C_19 (by omega) (by omega) (cw_o) rfl ?_
  refine XV.run C okC_cut 1 (q := (11, ([some (.ref (4)), some (.int (x))], [.ref (4), .ref (33)]))) rfl ?_
  refine XV.getf C (ci := 4) (kf := 0) (v := .ref (5)) (xlk_ok okC_cut rfl) rfl (by decide) wF_C_10 (by omega) (by omega) (cw_o) rfl ?_
  refine XV.callV C (As := [.ref (5)]) (rest := []) (ci := 1) (ct_H_keep hfl cw_h (by omega) (by omega) ho cw_e (by omega) (by omega) (by omega) hkp) (xlk_ok okC_cut rfl) rfl (by omega) (by omega) rfl (cw_h 0 (by decide)) rfl wM_C_52 wI_H_keep wV_H_keep wN_H wB_H_keep hy_H_keep (fun q => q.elim) ⟨Nat.le_of_ble_eq_true rfl, Nat.le_of_ble_eq_true rfl⟩ ⟨Nat.le_of_ble_eq_true rfl, Nat.le_of_ble_eq_true rfl⟩ (Nat.le_of_ble_eq_true rfl) (fun r n h hp => ?_) (fun _ _ _ q => q.elim)
  obtain ⟨rfl, rfl, rfl⟩ := hp
  refine XV.cast (cw_setH _ _ _) ?_
  refine XV.run C okC_cut 1 (q := (18, ([some (.ref (4)), some (.int (x))], [.ref (4)]))) rfl ?_
  refine XV.getf C (ci := 4) (kf := 0) (v := .ref (5)) (xlk_ok okC_cut rfl) rfl (by decide) wF_C_10 (by omega) (by omega) (cw_o) rfl ?_
  refine XV.run C okC_cut 1 (q := (22, ([some (.ref (4)), some (.int (x))], [.int (x), .ref (5)]))) rfl ?_
  refine XV.callV C (As := [.int (x)]) (rest := []) (ci := 0) (ct_E_removeRope hfl cw_e (by omega) (by omega) (i := i) (hx) hm hk hi) (xlk_ok okC_cut rfl) rfl (by omega) (by omega) rfl (cw_e 0 (by decide)) rfl wM_C_64 wI_E_removeRope wV_E_removeRope wN_E wB_E_removeRope hy_E_removeRope (fun q => q.elim) ⟨Nat.le_of_ble_eq_true rfl, Nat.le_of_ble_eq_true rfl⟩ ⟨Nat.le_of_ble_eq_true rfl, Nat.le_of_ble_eq_true rfl⟩ (Nat.le_of_ble_eq_true rfl) (fun r n h hp => ?_) (fun _ _ _ q => q.elim)
  obtain ⟨rfl, rfl, rfl⟩ := hp
  refine XV.cast (cw_setE _) ?_
  refine XV.run C okC_cut 1 (q := (26, ([some (.ref (4)), some (.int (x))], [.ref (4)]))) rfl ?_
  refine XV.getf C (ci := 4) (kf := 0) (v := .ref (5)) (xlk_ok okC_cut rfl) rfl (by decide) wF_C_10 (by omega) (by omega) (cw_o) rfl ?_
  refine XV.getfN C (ci := 0) (kf := 2) (v := .int ((upd (shiftK f i (k - 1 - i)) 1 (f 1 - 1)) 1)) (xlk_ok okC_cut rfl) rfl (by decide) (List.mem_of_getElem? (i := 14) rfl) (by omega) (by omega) (cw_e 0 (by decide)) rfl ?_
  rw [show ((upd (shiftK f i (k - 1 - i)) 1 (f 1 - 1)) 1 : Int32) = nI (k - 1) from by rw [upd_eq, hm]; exact nI_m1 (by omega)]
  exact XV.iret C (xlk_ok okC_cut rfl) hret rfl (Nat.le_of_ble_eq_true rfl) (Nat.le_of_ble_eq_true rfl) (⟨i, ⟨hx, hi⟩, rfl, rfl, rfl⟩)
theorem nbad {x : Int32} {i k : Nat} (hx : x = nI i) (hi : i < k) (hk : k ≤ 5) : ¬ (x < 0 ∨ nI k ≤ x) := by
  subst hx
  rintro (q | q)
  · exact nI_pos (by omega) q
  · exact Int32.not_le.mpr (nI_lt hi (by omega)) q
set_option maxHeartbeats 4000000 in
set_option maxRecDepth 100000 in
theorem ct_C_swap {l : Launch} (hfl : l.stackTraces = false) {G : XG} {n : Nat} {h : XH} {f : Nat → Int32} {o kp : Nat} {P : Nat → Nat → Int32} {tx : Nat → Int32} {len : Nat} {p : PT} {ρ : Nat → Int32} (hn : 209 ≤ n) {k : Nat} (hm : f 1 = nI k) (hk : k ≤ 5) (hl : ∀ i, i < k → 0 < rowOf f i 0) (ho : o < 6) (hkp : kp ≤ 6) (x y : Int32) : XCt l G False (Cond.code yC_swap bC_swap 5 (some .int)) yC_swap 7 112 2 12 [.ref (4), .int (x), .int (y)] n (setCW h f o kp P tx len p ρ) (fun r' n' h' => ∃ i, (x = nI i ∧ i < k ∧ (¬ y < 1 ∧ y ≤ 99)) ∧ r' = some (.int (sumN (colR (rowOf f i) true) 0 24)) ∧ n' = n ∧ h' = setCW h (upd (putRow f i (rNew y (f 0))) 9 (putRow f i (rNew y (f 0)) 9 + 1)) (kO o kp) (kK kp) (kP o kp P f) tx len p ρ) (fun E n' h' => ((E = XIOB ∧ ((x < 0 ∨ nI k ≤ x))) ∨ (E = XIAE ∧ (¬ (x < 0 ∨ nI k ≤ x) ∧ (y < 1 ∨ ¬ y ≤ 99)))) ∧ n' = n ∧ h' = setCW h f o kp P tx len p ρ) := by
  refine XCt.of hfl (by decide +kernel) (Nat.le_of_ble_eq_true rfl) ?_
  intro p' e' s' m' g' b' t' c' C hret hname hnt hmd
  refine XV.run C okC_swap 2 (q := (2, ([some (.ref (4)), some (.int (x)), some (.int (y)), none, none], [.int (x), .ref (4)]))) rfl ?_
  refine XV.callV C (As := [.int (x)]) (rest := []) (ci := 4) (ct_C_existingRope hfl hn hm hk hl (x)) (xlk_ok okC_swap rfl) rfl (by omega) (by omega) rfl (cw_o) rfl wM_C_60 wI_C_existingRope wV_C_existingRope wN_C wB_C_existingRope hy_C_existingRope (fun q => q.elim) ⟨Nat.le_of_ble_eq_true rfl, Nat.le_of_ble_eq_true rfl⟩ ⟨Nat.le_of_ble_eq_true rfl, Nat.le_of_ble_eq_true rfl⟩ (Nat.le_of_ble_eq_true rfl) (fun r n h hp => ?_) (fun E n1 h1 q => by obtain ⟨⟨rfl, hbad⟩, rfl, rfl⟩ := q; exact XT.out C hnt (Nat.le_of_ble_eq_true rfl) (Nat.le_of_ble_eq_true rfl) (⟨Or.inl (⟨rfl, hbad⟩), rfl, rfl⟩))
  obtain ⟨i, hx, hi, rfl, rfl, rfl⟩ := hp
  refine XV.run C okC_swap 4 (q := (10, ([some (.ref (4)), some (.int (x)), some (.int (y)), some (.ref (5 + 3 + 5 * i)), none], [.int (99), .int (1), .int (y)]))) rfl ?_
  refine XV.callS C (As := [.int (y), .int (1), .int (99)]) (rest := []) (ct_C_requireRange hfl y 1 99) (xlk_ok okC_swap rfl) rfl wM_C_37 wS_C_requireRange wN_C wB_C_requireRange hy_C_requireRange (fun q => q.elim) ⟨Nat.le_of_ble_eq_true rfl, Nat.le_of_ble_eq_true rfl⟩ ⟨Nat.le_of_ble_eq_true rfl, Nat.le_of_ble_eq_true rfl⟩ (Nat.le_of_ble_eq_true rfl) (fun r n h hp => ?_) (fun E n1 h1 q => by obtain ⟨⟨rfl, hbad⟩, rfl, rfl⟩ := q; exact XT.out C hnt (Nat.le_of_ble_eq_true rfl) (Nat.le_of_ble_eq_true rfl) (⟨Or.inr (⟨rfl, nbad hx hi hk, hbad⟩), rfl, rfl⟩))
  obtain ⟨rfl, h1, rfl, rfl⟩ := hp
  refine XV.run C okC_swap 1 (q := (14, ([some (.ref (4)), some (.int (x)), some (.int (y)), some (.ref (5 + 3 + 5 * i)), none], [.ref (5 + 3 + 5 * i)]))) rfl ?_
  refine XV.callV C (As := []) (rest := []) (ci := 2) (ct_R_allBroken hfl (elev_ropeL cw_e (by omega) (hl i hi)) (by omega) (by omega)  (hl i hi)) (xlk_ok okC_swap rfl) rfl (by omega) (by omega) rfl ((elev_ropeL cw_e (by omega) (hl i hi)) 0 (by decide)) rfl wM_C_67 wI_R_allBroken wV_R_allBroken wN_R wB_R_allBroken hy_R_allBroken (fun q => q.elim) ⟨Nat.le_of_ble_eq_true rfl, Nat.le_of_ble_eq_true rfl⟩ ⟨Nat.le_of_ble_eq_true rfl, Nat.le_of_ble_eq_true rfl⟩ (Nat.le_of_ble_eq_true rfl) (fun r n h hp => ?_) (fun _ _ _ q => q.elim)
  obtain ⟨rfl, rfl, rfl⟩ := hp
  refine XV.run C okC_swap 2 (q := (20, ([some (.ref (4)), some (.int (x)), some (.int (y)), some (.ref (5 + 3 + 5 * i)), some (.int (sumN (colR (rowOf f i) true) 0 24))], [.ref (4)]))) rfl ?_
  refine XV.getf C (ci := 4) (kf := 1) (v := .ref (33)) (xlk_ok okC_swap rfl) rfl (by decide) wF_C_19 (by omega) (by omega) (cw_o) rfl ?_
  refine XV.run C okC_swap 1 (q := (24, ([some (.ref (4)), some (.int (x)), some (.int (y)), some (.ref (5 + 3 + 5 * i)), some (.int (sumN (colR (rowOf f i) true) 0 24))], [.ref (4), .ref (33)]))) rfl ?_
  refine XV.getf C (ci := 4) (kf := 0) (v := .ref (5)) (xlk_ok okC_swap rfl) rfl (by decide) wF_C_10 (by omega) (by omega) (cw_o) rfl ?_
  refine XV.callV C (As := [.ref (5)]) (rest := []) (ci := 1) (ct_H_keep hfl cw_h (by omega) (by omega) ho cw_e (by omega) (by omega) (by omega) hkp) (xlk_ok okC_swap rfl) rfl (by omega) (by omega) rfl (cw_h 0 (by decide)) rfl wM_C_52 wI_H_keep wV_H_keep wN_H wB_H_keep hy_H_keep (fun q => q.elim) ⟨Nat.le_of_ble_eq_true rfl, Nat.le_of_ble_eq_true rfl⟩ ⟨Nat.le_of_ble_eq_true rfl, Nat.le_of_ble_eq_true rfl⟩ (Nat.le_of_ble_eq_true rfl) (fun r n h hp => ?_) (fun _ _ _ q => q.elim)
  obtain ⟨rfl, rfl, rfl⟩ := hp
  refine XV.cast (cw_setH _ _ _) ?_
  refine XV.run C okC_swap 3 (q := (33, ([some (.ref (4)), some (.int (x)), some (.int (y)), some (.ref (5 + 3 + 5 * i)), some (.int (sumN (colR (rowOf f i) true) 0 24))], [.ref (4), .int (y), .ref (5 + 3 + 5 * i)]))) rfl ?_
  refine XV.getf C (ci := 4) (kf := 0) (v := .ref (5)) (xlk_ok okC_swap rfl) rfl (by decide) wF_C_10 (by omega) (by omega) (cw_o) rfl ?_
  refine XV.getfN C (ci := 0) (kf := 3) (v := .int (f 0)) (xlk_ok okC_swap rfl) rfl (by decide) (List.mem_of_getElem? (i := 15) rfl) (by omega) (by omega) (cw_e 0 (by decide)) rfl ?_
  refine XV.callV C (As := [.int (y), .int (f 0)]) (rest := []) (ci := 2) (ct_R_renew hfl (elev_ropeL cw_e (by omega) (hl i hi)) (by omega) (by omega) (y) (f 0)) (xlk_ok okC_swap rfl) rfl (by omega) (by omega) rfl ((elev_ropeL cw_e (by omega) (hl i hi)) 0 (by decide)) rfl wM_C_74 wI_R_renew wV_R_renew wN_R wB_R_renew hy_R_renew (fun q => q.elim) ⟨Nat.le_of_ble_eq_true rfl, Nat.le_of_ble_eq_true rfl⟩ ⟨Nat.le_of_ble_eq_true rfl, Nat.le_of_ble_eq_true rfl⟩ (Nat.le_of_ble_eq_true rfl) (fun r n h hp => ?_) (fun _ _ _ q => q.elim)
  obtain ⟨rfl, rfl, rfl⟩ := hp
  refine XV.cast (cw_putR (by omega) (ne_of_gt (pos_of h1.1))) ?_
  refine XV.run C okC_swap 1 (q := (43, ([some (.ref (4)), some (.int (x)), some (.int (y)), some (.ref (5 + 3 + 5 * i)), some (.int (sumN (colR (rowOf f i) true) 0 24))], [.ref (4)]))) rfl ?_
  refine XV.getf C (ci := 4) (kf := 0) (v := .ref (5)) (xlk_ok okC_swap rfl) rfl (by decide) wF_C_10 (by omega) (by omega) (cw_o) rfl ?_
  refine XV.run C okC_swap 1 (q := (47, ([some (.ref (4)), some (.int (x)), some (.int (y)), some (.ref (5 + 3 + 5 * i)), some (.int (sumN (colR (rowOf f i) true) 0 24))], [.ref (5), .ref (5)]))) rfl ?_
  refine XV.getfN C (ci := 0) (kf := 6) (v := .int ((putRow f i (rNew y (f 0))) 9)) (xlk_ok okC_swap rfl) rfl (by decide) (List.mem_of_getElem? (i := 18) rfl) (by omega) (by omega) (cw_e 0 (by decide)) rfl ?_
  refine XV.run C okC_swap 2 (q := (52, ([some (.ref (4)), some (.int (x)), some (.int (y)), some (.ref (5 + 3 + 5 * i)), some (.int (sumN (colR (rowOf f i) true) 0 24))], [.int (((putRow f i (rNew y (f 0))) 9) + 1), .ref (5)]))) rfl ?_
  refine XV.putfN C (ci := 0) (kf := 6) (ty := .int) (xlk_ok okC_swap rfl) rfl (by decide) (List.mem_of_getElem? (i := 18) rfl) (by omega) (by omega) (cw_e 0 (by decide)) rfl rfl rfl rfl (Nat.le_of_ble_eq_true rfl) ?_
  refine XV.cast (cw_xupE (setElev_f6 _ 5 _ (((putRow f i (rNew y (f 0))) 9) + 1))) ?_
  refine XV.run C okC_swap 1 (q := (57, ([some (.ref (4)), some (.int (x)), some (.int (y)), some (.ref (5 + 3 + 5 * i)), some (.int (sumN (colR (rowOf f i) true) 0 24))], [.int (sumN (colR (rowOf f i) true) 0 24)]))) rfl ?_
  exact XV.iret C (xlk_ok okC_swap rfl) hret rfl (Nat.le_of_ble_eq_true rfl) (Nat.le_of_ble_eq_true rfl) (⟨i, ⟨hx, hi, h1⟩, rfl, rfl, rfl⟩)
theorem secs_nat {y u : Int32} (h : (¬ y < 0 ∧ y < 24) ∧ (¬ u < 0 ∧ u < 24) ∧ y ≤ u) : ∃ a b, y = nI a ∧ u = nI b ∧ a ≤ b ∧ b < 24 := by
  obtain ⟨a, ha, ha2⟩ := ix_nat (d := 24) h.1 rfl (by omega)
  obtain ⟨b, hb, hb2⟩ := ix_nat (d := 24) h.2.1 rfl (by omega)
  refine ⟨a, b, ha, hb, ?_, hb2⟩
  have h3 := h.2.2
  rw [ha, hb] at h3
  rcases Nat.lt_or_ge b a with q | q
  · exact absurd h3 (Int32.not_le.mpr (nI_lt q (by omega)))
  · exact q
theorem rowUpd_lo {f : Nat → Int32} {i j : Nat} {v : Int32} (hj : j < 10) : rowOf (upd f j v) i = rowOf f i := by
  funext k
  exact upd_ne (by omega)
theorem look0 (r : Nat → Int32) (a w : Nat) (t : Int32) : rLook r a w t 0 = r 0 := by
  unfold rLook
  simp
theorem lookLive {f : Nat → Int32} {i a w : Nat} {t : Int32} (h : 0 < rowOf f i 0) : 0 < rowOf (putRow f i (rLook (rowOf f i) a w t)) i 0 := by
  rw [putRow_row (by omega), look0]
  exact h
theorem lookLive2 {f : Nat → Int32} {i a w j : Nat} {t v : Int32} (hj : j < 10) (h : 0 < rowOf f i 0) : 0 < rowOf (upd (putRow f i (rLook (rowOf f i) a w t)) j v) i 0 := by
  rw [rowUpd_lo hj]
  exact lookLive h
set_option maxHeartbeats 4000000 in
set_option maxRecDepth 100000 in
theorem ct_C_inspect {l : Launch} (hfl : l.stackTraces = false) {G : XG} {n : Nat} {h : XH} {f : Nat → Int32} {o kp : Nat} {P : Nat → Nat → Int32} {tx : Nat → Int32} {len : Nat} {p : PT} {ρ : Nat → Int32} (hn : 209 ≤ n) {k : Nat} (hm : f 1 = nI k) (hk : k ≤ 5) (hl : ∀ i, i < k → 0 < rowOf f i 0) (ho : o < 6) (hkp : kp ≤ 6) (x y u : Int32) : XCt l G False (Cond.code yC_inspect bC_inspect 6 (some .int)) yC_inspect 8 132 4 24 [.ref (4), .int (x), .int (y), .int (u)] n (setCW h f o kp P tx len p ρ) (fun r' n' h' => ∃ i a b, (x = nI i ∧ i < k ∧ y = nI a ∧ u = nI b ∧ a ≤ b ∧ b < 24) ∧ r' = some (.int (sumN (colR (rowOf (upd (putRow f i (rLook (rowOf f i) a (b + 1 - a) (f 0))) 8 (putRow f i (rLook (rowOf f i) a (b + 1 - a) (f 0)) 8 + (u - y + 1))) i) false) 0 24 - sumN (colR (rowOf f i) false) 0 24)) ∧ n' = n ∧ h' = setCW h (upd (putRow f i (rLook (rowOf f i) a (b + 1 - a) (f 0))) 8 (putRow f i (rLook (rowOf f i) a (b + 1 - a) (f 0)) 8 + (u - y + 1))) (kO o kp) (kK kp) (kP o kp P f) tx len p ρ) (fun E n' h' => ((E = XIOB ∧ ((x < 0 ∨ nI k ≤ x))) ∨ (E = XIOB ∧ (¬ (x < 0 ∨ nI k ≤ x) ∧ ((y < 0 ∨ ¬ y < 24) ∨ (u < 0 ∨ ¬ u < 24)))) ∨ (E = XIAE ∧ (¬ (x < 0 ∨ nI k ≤ x) ∧ ((¬ y < 0 ∧ y < 24) ∧ (¬ u < 0 ∧ u < 24) ∧ ¬ y ≤ u)))) ∧ n' = n ∧ h' = setCW h f o kp P tx len p ρ) := by
  refine XCt.of hfl (by decide +kernel) (Nat.le_of_ble_eq_true rfl) ?_
  intro p' e' s' m' g' b' t' c' C hret hname hnt hmd
  refine XV.run C okC_inspect 2 (q := (2, ([some (.ref (4)), some (.int (x)), some (.int (y)), some (.int (u)), none, none], [.int (x), .ref (4)]))) rfl ?_
  refine XV.callV C (As := [.int (x)]) (rest := []) (ci := 4) (ct_C_existingRope hfl hn hm hk hl (x)) (xlk_ok okC_inspect rfl) rfl (by omega) (by omega) rfl (cw_o) rfl wM_C_60 wI_C_existingRope wV_C_existingRope wN_C wB_C_existingRope hy_C_existingRope (fun q => q.elim) ⟨Nat.le_of_ble_eq_true rfl, Nat.le_of_ble_eq_true rfl⟩ ⟨Nat.le_of_ble_eq_true rfl, Nat.le_of_ble_eq_true rfl⟩ (Nat.le_of_ble_eq_true rfl) (fun r n h hp => ?_) (fun E n1 h1 q => by obtain ⟨⟨rfl, hbad⟩, rfl, rfl⟩ := q; exact XT.out C hnt (Nat.le_of_ble_eq_true rfl) (Nat.le_of_ble_eq_true rfl) (⟨Or.inl (⟨rfl, hbad⟩), rfl, rfl⟩))
  obtain ⟨i, hx, hi, rfl, rfl, rfl⟩ := hp
  refine XV.run C okC_inspect 3 (q := (9, ([some (.ref (4)), some (.int (x)), some (.int (y)), some (.int (u)), some (.ref (5 + 3 + 5 * i)), none], [.int (u), .int (y)]))) rfl ?_
  refine XV.callS C (As := [.int (y), .int (u)]) (rest := []) (ct_C_requireSections hfl (y) (u)) (xlk_ok okC_inspect rfl) rfl wM_C_81 wS_C_requireSections wN_C wB_C_requireSections hy_C_requireSections (fun q => q.elim) ⟨Nat.le_of_ble_eq_true rfl, Nat.le_of_ble_eq_true rfl⟩ ⟨Nat.le_of_ble_eq_true rfl, Nat.le_of_ble_eq_true rfl⟩ (Nat.le_of_ble_eq_true rfl) (fun r n h hp => ?_) (fun E n1 h1 q => by obtain ⟨⟨rfl, hbad⟩ | ⟨rfl, hbad⟩, rfl, rfl⟩ := q <;> first | exact XT.out C hnt (Nat.le_of_ble_eq_true rfl) (Nat.le_of_ble_eq_true rfl) (⟨Or.inr (Or.inl (⟨rfl, nbad hx hi hk, hbad⟩)), rfl, rfl⟩) | exact XT.out C hnt (Nat.le_of_ble_eq_true rfl) (Nat.le_of_ble_eq_true rfl) (⟨Or.inr (Or.inr (⟨rfl, nbad hx hi hk, hbad⟩)), rfl, rfl⟩))
  obtain ⟨rfl, h1, rfl, rfl⟩ := hp
  obtain ⟨a, b, hy, hu, hab, hb⟩ := secs_nat h1
  refine XV.run C okC_inspect 1 (q := (14, ([some (.ref (4)), some (.int (x)), some (.int (y)), some (.int (u)), some (.ref (5 + 3 + 5 * i)), none], [.ref (5 + 3 + 5 * i)]))) rfl ?_
  refine XV.callV C (As := []) (rest := []) (ci := 2) (ct_R_allCounts hfl (elev_ropeL cw_e (by omega) (hl i hi)) (by omega) (by omega) ) (xlk_ok okC_inspect rfl) rfl (by omega) (by omega) rfl ((elev_ropeL cw_e (by omega) (hl i hi)) 0 (by decide)) rfl wM_C_84 wI_R_allCounts wV_R_allCounts wN_R wB_R_allCounts hy_R_allCounts (fun q => q.elim) ⟨Nat.le_of_ble_eq_true rfl, Nat.le_of_ble_eq_true rfl⟩ ⟨Nat.le_of_ble_eq_true rfl, Nat.le_of_ble_eq_true rfl⟩ (Nat.le_of_ble_eq_true rfl) (fun r n h hp => ?_) (fun _ _ _ q => q.elim)
  obtain ⟨rfl, rfl, rfl⟩ := hp
  refine XV.run C okC_inspect 2 (q := (20, ([some (.ref (4)), some (.int (x)), some (.int (y)), some (.int (u)), some (.ref (5 + 3 + 5 * i)), some (.int (sumN (colR (rowOf f i) false) 0 24))], [.ref (4)]))) rfl ?_
  refine XV.getf C (ci := 4) (kf := 1) (v := .ref (33)) (xlk_ok okC_inspect rfl) rfl (by decide) wF_C_19 (by omega) (by omega) (cw_o) rfl ?_
  refine XV.run C okC_inspect 1 (q := (24, ([some (.ref (4)), some (.int (x)), some (.int (y)), some (.int (u)), some (.ref (5 + 3 + 5 * i)), some (.int (sumN (colR (rowOf f i) false) 0 24))], [.ref (4), .ref (33)]))) rfl ?_
  refine XV.getf C (ci := 4) (kf := 0) (v := .ref (5)) (xlk_ok okC_inspect rfl) rfl (by decide) wF_C_10 (by omega) (by omega) (cw_o) rfl ?_
  refine XV.callV C (As := [.ref (5)]) (rest := []) (ci := 1) (ct_H_keep hfl cw_h (by omega) (by omega) ho cw_e (by omega) (by omega) (by omega) hkp) (xlk_ok okC_inspect rfl) rfl (by omega) (by omega) rfl (cw_h 0 (by decide)) rfl wM_C_52 wI_H_keep wV_H_keep wN_H wB_H_keep hy_H_keep (fun q => q.elim) ⟨Nat.le_of_ble_eq_true rfl, Nat.le_of_ble_eq_true rfl⟩ ⟨Nat.le_of_ble_eq_true rfl, Nat.le_of_ble_eq_true rfl⟩ (Nat.le_of_ble_eq_true rfl) (fun r n h hp => ?_) (fun _ _ _ q => q.elim)
  obtain ⟨rfl, rfl, rfl⟩ := hp
  refine XV.cast (cw_setH _ _ _) ?_
  refine XV.run C okC_inspect 4 (q := (35, ([some (.ref (4)), some (.int (x)), some (.int (y)), some (.int (u)), some (.ref (5 + 3 + 5 * i)), some (.int (sumN (colR (rowOf f i) false) 0 24))], [.ref (4), .int (u), .int (y), .ref (5 + 3 + 5 * i)]))) rfl ?_
  refine XV.getf C (ci := 4) (kf := 0) (v := .ref (5)) (xlk_ok okC_inspect rfl) rfl (by decide) wF_C_10 (by omega) (by omega) (cw_o) rfl ?_
  refine XV.getfN C (ci := 0) (kf := 3) (v := .int (f 0)) (xlk_ok okC_inspect rfl) rfl (by decide) (List.mem_of_getElem? (i := 15) rfl) (by omega) (by omega) (cw_e 0 (by decide)) rfl ?_
  refine XV.callV C (As := [.int (y), .int (u), .int (f 0)]) (rest := []) (ci := 2) (ct_R_lookAt hfl (elev_ropeL cw_e (by omega) (hl i hi)) (by omega) (by omega) (i := a) (w := (b + 1 - a)) (b := b) (hy) (hu) (by omega) (by omega) (f 0) (hl i hi)) (xlk_ok okC_inspect rfl) rfl (by omega) (by omega) rfl ((elev_ropeL cw_e (by omega) (hl i hi)) 0 (by decide)) rfl wM_C_87 wI_R_lookAt wV_R_lookAt wN_R wB_R_lookAt hy_R_lookAt (fun q => q.elim) ⟨Nat.le_of_ble_eq_true rfl, Nat.le_of_ble_eq_true rfl⟩ ⟨Nat.le_of_ble_eq_true rfl, Nat.le_of_ble_eq_true rfl⟩ (Nat.le_of_ble_eq_true rfl) (fun r n h hp => ?_) (fun _ _ _ q => q.elim)
  obtain ⟨rfl, rfl, rfl⟩ := hp
  refine XV.cast (cw_putR (by omega) (by rw [look0]; exact ne_of_gt (hl i hi))) ?_
  refine XV.run C okC_inspect 1 (q := (45, ([some (.ref (4)), some (.int (x)), some (.int (y)), some (.int (u)), some (.ref (5 + 3 + 5 * i)), some (.int (sumN (colR (rowOf f i) false) 0 24))], [.ref (4)]))) rfl ?_
  refine XV.getf C (ci := 4) (kf := 0) (v := .ref (5)) (xlk_ok okC_inspect rfl) rfl (by decide) wF_C_10 (by omega) (by omega) (cw_o) rfl ?_
  refine XV.run C okC_inspect 1 (q := (49, ([some (.ref (4)), some (.int (x)), some (.int (y)), some (.int (u)), some (.ref (5 + 3 + 5 * i)), some (.int (sumN (colR (rowOf f i) false) 0 24))], [.ref (5), .ref (5)]))) rfl ?_
  refine XV.getfN C (ci := 0) (kf := 5) (v := .int ((putRow f i (rLook (rowOf f i) a (b + 1 - a) (f 0))) 8)) (xlk_ok okC_inspect rfl) rfl (by decide) (List.mem_of_getElem? (i := 17) rfl) (by omega) (by omega) (cw_e 0 (by decide)) rfl ?_
  refine XV.run C okC_inspect 6 (q := (58, ([some (.ref (4)), some (.int (x)), some (.int (y)), some (.int (u)), some (.ref (5 + 3 + 5 * i)), some (.int (sumN (colR (rowOf f i) false) 0 24))], [.int (((putRow f i (rLook (rowOf f i) a (b + 1 - a) (f 0))) 8) + ((u - y) + 1)), .ref (5)]))) rfl ?_
  refine XV.putfN C (ci := 0) (kf := 5) (ty := .int) (xlk_ok okC_inspect rfl) rfl (by decide) (List.mem_of_getElem? (i := 17) rfl) (by omega) (by omega) (cw_e 0 (by decide)) rfl rfl rfl rfl (Nat.le_of_ble_eq_true rfl) ?_
  refine XV.cast (cw_xupE (setElev_f5 _ 5 _ (((putRow f i (rLook (rowOf f i) a (b + 1 - a) (f 0))) 8) + ((u - y) + 1)))) ?_
  refine XV.run C okC_inspect 1 (q := (63, ([some (.ref (4)), some (.int (x)), some (.int (y)), some (.int (u)), some (.ref (5 + 3 + 5 * i)), some (.int (sumN (colR (rowOf f i) false) 0 24))], [.ref (5 + 3 + 5 * i)]))) rfl ?_
  refine XV.callV C (As := []) (rest := []) (ci := 2) (ct_R_allCounts hfl (elev_ropeL cw_e (by omega) (lookLive2 (by decide) (hl i hi))) (by omega) (by omega) ) (xlk_ok okC_inspect rfl) rfl (by omega) (by omega) rfl ((elev_ropeL cw_e (by omega) (lookLive2 (by decide) (hl i hi))) 0 (by decide)) rfl wM_C_84 wI_R_allCounts wV_R_allCounts wN_R wB_R_allCounts hy_R_allCounts (fun q => q.elim) ⟨Nat.le_of_ble_eq_true rfl, Nat.le_of_ble_eq_true rfl⟩ ⟨Nat.le_of_ble_eq_true rfl, Nat.le_of_ble_eq_true rfl⟩ (Nat.le_of_ble_eq_true rfl) (fun r n h hp => ?_) (fun _ _ _ q => q.elim)
  obtain ⟨rfl, rfl, rfl⟩ := hp
  refine XV.run C okC_inspect 2 (q := (69, ([some (.ref (4)), some (.int (x)), some (.int (y)), some (.int (u)), some (.ref (5 + 3 + 5 * i)), some (.int (sumN (colR (rowOf f i) false) 0 24))], [.int ((sumN (colR (rowOf (upd (putRow f i (rLook (rowOf f i) a (b + 1 - a) (f 0))) 8 (((putRow f i (rLook (rowOf f i) a (b + 1 - a) (f 0))) 8) + ((u - y) + 1))) i) false) 0 24) - (sumN (colR (rowOf f i) false) 0 24))]))) rfl ?_
  exact XV.iret C (xlk_ok okC_inspect rfl) hret rfl (Nat.le_of_ble_eq_true rfl) (Nat.le_of_ble_eq_true rfl) (⟨i, a, b, ⟨hx, hi, hy, hu, hab, hb⟩, rfl, rfl, rfl⟩)
set_option maxHeartbeats 4000000 in
set_option maxRecDepth 100000 in
theorem ct_C_ifInspected {l : Launch} (hfl : l.stackTraces = false) {G : XG} {n : Nat} {h : XH} {f : Nat → Int32} {o kp : Nat} {P : Nat → Nat → Int32} {tx : Nat → Int32} {len : Nat} {p : PT} {ρ : Nat → Int32} (hn : 209 ≤ n) {k : Nat} (hm : f 1 = nI k) (hk : k ≤ 5) (hl : ∀ i, i < k → 0 < rowOf f i 0) {z : Nat} (hz : f 2 = nI z) (z1 : 1 ≤ z) (z2 : z ≤ 12) (x y u : Int32) : XCt l G False (Cond.code yC_ifInspected bC_ifInspected 5 (some .int)) yC_ifInspected 8 132 4 24 [.ref (4), .int (x), .int (y), .int (u)] n (setCW h f o kp P tx len p ρ) (fun r' n' h' => ∃ i a b, (x = nI i ∧ i < k ∧ y = nI a ∧ u = nI b ∧ a ≤ b ∧ b < 24) ∧ r' = some (.int (reasonK f (rLook (rowOf f i) a (b + 1 - a) (f 0)) z)) ∧ n' = n ∧ h' = setCW h f o kp P tx len p (rLook (rowOf f i) a (b + 1 - a) (f 0))) (fun E n' h' => ((E = XIOB ∧ ((x < 0 ∨ nI k ≤ x))) ∨ (E = XIOB ∧ (¬ (x < 0 ∨ nI k ≤ x) ∧ ((y < 0 ∨ ¬ y < 24) ∨ (u < 0 ∨ ¬ u < 24)))) ∨ (E = XIAE ∧ (¬ (x < 0 ∨ nI k ≤ x) ∧ ((¬ y < 0 ∧ y < 24) ∧ (¬ u < 0 ∧ u < 24) ∧ ¬ y ≤ u)))) ∧ n' = n ∧ h' = setCW h f o kp P tx len p ρ) := by
  refine XCt.of hfl (by decide +kernel) (Nat.le_of_ble_eq_true rfl) ?_
  intro p' e' s' m' g' b' t' c' C hret hname hnt hmd
  refine XV.run C okC_ifInspected 2 (q := (2, ([some (.ref (4)), some (.int (x)), some (.int (y)), some (.int (u)), none], [.int (x), .ref (4)]))) rfl ?_
  refine XV.callV C (As := [.int (x)]) (rest := []) (ci := 4) (ct_C_existingRope hfl hn hm hk hl (x)) (xlk_ok okC_ifInspected rfl) rfl (by omega) (by omega) rfl (cw_o) rfl wM_C_60 wI_C_existingRope wV_C_existingRope wN_C wB_C_existingRope hy_C_existingRope (fun q => q.elim) ⟨Nat.le_of_ble_eq_true rfl, Nat.le_of_ble_eq_true rfl⟩ ⟨Nat.le_of_ble_eq_true rfl, Nat.le_of_ble_eq_true rfl⟩ (Nat.le_of_ble_eq_true rfl) (fun r n h hp => ?_) (fun E n1 h1 q => by obtain ⟨⟨rfl, hbad⟩, rfl, rfl⟩ := q; exact XT.out C hnt (Nat.le_of_ble_eq_true rfl) (Nat.le_of_ble_eq_true rfl) (⟨Or.inl (⟨rfl, hbad⟩), rfl, rfl⟩))
  obtain ⟨i, hx, hi, rfl, rfl, rfl⟩ := hp
  refine XV.run C okC_ifInspected 3 (q := (9, ([some (.ref (4)), some (.int (x)), some (.int (y)), some (.int (u)), some (.ref (5 + 3 + 5 * i))], [.int (u), .int (y)]))) rfl ?_
  refine XV.callS C (As := [.int (y), .int (u)]) (rest := []) (ct_C_requireSections hfl (y) (u)) (xlk_ok okC_ifInspected rfl) rfl wM_C_81 wS_C_requireSections wN_C wB_C_requireSections hy_C_requireSections (fun q => q.elim) ⟨Nat.le_of_ble_eq_true rfl, Nat.le_of_ble_eq_true rfl⟩ ⟨Nat.le_of_ble_eq_true rfl, Nat.le_of_ble_eq_true rfl⟩ (Nat.le_of_ble_eq_true rfl) (fun r n h hp => ?_) (fun E n1 h1 q => by obtain ⟨⟨rfl, hbad⟩ | ⟨rfl, hbad⟩, rfl, rfl⟩ := q <;> first | exact XT.out C hnt (Nat.le_of_ble_eq_true rfl) (Nat.le_of_ble_eq_true rfl) (⟨Or.inr (Or.inl (⟨rfl, nbad hx hi hk, hbad⟩)), rfl, rfl⟩) | exact XT.out C hnt (Nat.le_of_ble_eq_true rfl) (Nat.le_of_ble_eq_true rfl) (⟨Or.inr (Or.inr (⟨rfl, nbad hx hi hk, hbad⟩)), rfl, rfl⟩))
  obtain ⟨rfl, h1, rfl, rfl⟩ := hp
  obtain ⟨a, b, hy, hu, hab, hb⟩ := secs_nat h1
  refine XV.run C okC_ifInspected 4 (q := (17, ([some (.ref (4)), some (.int (x)), some (.int (y)), some (.int (u)), some (.ref (5 + 3 + 5 * i))], [.int (u), .int (y), .ref (5 + 3 + 5 * i), .ref (4)]))) rfl ?_
  refine XV.callV C (As := [.ref (5 + 3 + 5 * i), .int (y), .int (u)]) (rest := []) (ci := 4) (ct_C_reasonIfInspected hfl hn hm hk hl (i := i) hi hz z1 z2 (j := a) (w := (b + 1 - a)) (b := b) (hy) (hu) (by omega) (by omega)) (xlk_ok okC_ifInspected rfl) rfl (by omega) (by omega) rfl (cw_o) rfl wM_C_182 wI_C_reasonIfInspected wV_C_reasonIfInspected wN_C wB_C_reasonIfInspected hy_C_reasonIfInspected (fun q => q.elim) ⟨Nat.le_of_ble_eq_true rfl, Nat.le_of_ble_eq_true rfl⟩ ⟨Nat.le_of_ble_eq_true rfl, Nat.le_of_ble_eq_true rfl⟩ (Nat.le_of_ble_eq_true rfl) (fun r n h hp => ?_) (fun _ _ _ q => q.elim)
  obtain ⟨rfl, rfl, rfl⟩ := hp
  exact XV.iret C (xlk_ok okC_ifInspected rfl) hret rfl (Nat.le_of_ble_eq_true rfl) (Nat.le_of_ble_eq_true rfl) (⟨i, a, b, ⟨hx, hi, hy, hu, hab, hb⟩, rfl, rfl, rfl⟩)
set_option maxHeartbeats 4000000 in
set_option maxRecDepth 100000 in
theorem ct_C_set {l : Launch} (hfl : l.stackTraces = false) {G : XG} {n : Nat} {h : XH} {f : Nat → Int32} {o kp : Nat} {P : Nat → Nat → Int32} {tx : Nat → Int32} {len : Nat} {p : PT} {ρ : Nat → Int32} (hn : 209 ≤ n) (ho : o < 6) (hkp : kp ≤ 6) (x y : Int32) : XCt l G False (Cond.code yC_set bC_set 4 (some .int)) yC_set 7 112 2 12 [.ref (4), .int (x), .int (y)] n (setCW h f o kp P tx len p ρ) (fun r' n' h' => ∃ i, (x = nI i ∧ i < 5 ∧ (¬ y < 1 ∧ y ≤ (XSA 2).2 i)) ∧ r' = some (.int (f (2 + i))) ∧ n' = n ∧ h' = setCW h (upd f (2 + i) y) (kO o kp) (kK kp) (kP o kp P f) tx len p ρ) (fun E n' h' => ((E = XIOB ∧ ((x < 0 ∨ ¬ x < 5))) ∨ (E = XIAE ∧ (∃ i, x = nI i ∧ i < 5 ∧ (y < 1 ∨ ¬ y ≤ (XSA 2).2 i)))) ∧ n' = n ∧ h' = setCW h f o kp P tx len p ρ) := by
  refine XCt.of hfl (by decide +kernel) (Nat.le_of_ble_eq_true rfl) ?_
  intro p' e' s' m' g' b' t' c' C hret hname hnt hmd
  refine XV.run C okC_set 2 (q := (2, ([some (.ref (4)), some (.int (x)), some (.int (y)), none], [.int (5), .int (x)]))) rfl ?_
  refine XV.callS C (As := [.int (x), .int (5)]) (rest := []) (ct_C_requireIndex hfl x 5) (xlk_ok okC_set rfl) rfl wM_C_93 wS_C_requireIndex wN_C wB_C_requireIndex hy_C_requireIndex (fun q => q.elim) ⟨Nat.le_of_ble_eq_true rfl, Nat.le_of_ble_eq_true rfl⟩ ⟨Nat.le_of_ble_eq_true rfl, Nat.le_of_ble_eq_true rfl⟩ (Nat.le_of_ble_eq_true rfl) (fun r n h hp => ?_) (fun E n1 h1 q => by obtain ⟨⟨rfl, hbad⟩, rfl, rfl⟩ := q; exact XT.out C hnt (Nat.le_of_ble_eq_true rfl) (Nat.le_of_ble_eq_true rfl) (⟨Or.inl (⟨rfl, hbad⟩), rfl, rfl⟩))
  obtain ⟨rfl, h0, rfl, rfl⟩ := hp
  obtain ⟨i, hx, hi⟩ := ix_nat (d := 5) h0 rfl (by omega)
  refine XV.run C okC_set 1 (q := (6, ([some (.ref (4)), some (.int (x)), some (.int (y)), none], [.int (y)]))) rfl ?_
  refine XV.gets C (i := 1) (xlk_ok okC_set rfl) (by decide) (by decide) wF_C_96 ?_
  refine XV.run C okC_set 1 (q := (10, ([some (.ref (4)), some (.int (x)), some (.int (y)), none], [.int (x), .ref (1), .int (y)]))) rfl ?_
  refine XV.tald C (i := 1) (a := i) (xlk_ok okC_set rfl) (by decide) (by decide) (hx) (hi) ?_
  refine XV.gets C (i := 2) (xlk_ok okC_set rfl) (by decide) (by decide) wF_C_100 ?_
  refine XV.run C okC_set 1 (q := (15, ([some (.ref (4)), some (.int (x)), some (.int (y)), none], [.int (x), .ref (2), .int ((XSA 1).2 i), .int (y)]))) rfl ?_
  refine XV.tald C (i := 2) (a := i) (xlk_ok okC_set rfl) (by decide) (by decide) (hx) (hi) ?_
  refine XV.callS C (As := [.int (y), .int ((XSA 1).2 i), .int ((XSA 2).2 i)]) (rest := []) (ct_C_requireRange hfl y ((XSA 1).2 i) ((XSA 2).2 i)) (xlk_ok okC_set rfl) rfl wM_C_37 wS_C_requireRange wN_C wB_C_requireRange hy_C_requireRange (fun q => q.elim) ⟨Nat.le_of_ble_eq_true rfl, Nat.le_of_ble_eq_true rfl⟩ ⟨Nat.le_of_ble_eq_true rfl, Nat.le_of_ble_eq_true rfl⟩ (Nat.le_of_ble_eq_true rfl) (fun r n h hp => ?_) (fun E n1 h1 q => by obtain ⟨⟨rfl, hbad⟩, rfl, rfl⟩ := q; exact XT.out C hnt (Nat.le_of_ble_eq_true rfl) (Nat.le_of_ble_eq_true rfl) (⟨Or.inr (⟨rfl, i, hx, hi, hbad⟩), rfl, rfl⟩))
  obtain ⟨rfl, h1, rfl, rfl⟩ := hp
  refine XV.run C okC_set 1 (q := (20, ([some (.ref (4)), some (.int (x)), some (.int (y)), none], [.ref (4)]))) rfl ?_
  refine XV.getf C (ci := 4) (kf := 0) (v := .ref (5)) (xlk_ok okC_set rfl) rfl (by decide) wF_C_10 (by omega) (by omega) (cw_o) rfl ?_
  refine XV.getfN C (ci := 0) (kf := 0) (v := .ref (5 + 1)) (xlk_ok okC_set rfl) rfl (by decide) (List.mem_of_getElem? (i := 13) rfl) (by omega) (by omega) (cw_e 0 (by decide)) rfl ?_
  refine XV.run C okC_set 1 (q := (27, ([some (.ref (4)), some (.int (x)), some (.int (y)), none], [.int (x), .ref (5 + 1)]))) rfl ?_
  refine XV.ialdC C (N := 5) (f := (fun i => f (2 + i))) (a := i) (xlk_ok okC_set rfl) (by omega) (by omega) (cw_e 1 (by decide)) (hx) (hi) (by decide) ?_
  refine XV.run C okC_set 2 (q := (30, ([some (.ref (4)), some (.int (x)), some (.int (y)), some (.int (f (2 + i)))], [.ref (4)]))) rfl ?_
  refine XV.getf C (ci := 4) (kf := 1) (v := .ref (33)) (xlk_ok okC_set rfl) rfl (by decide) wF_C_19 (by omega) (by omega) (cw_o) rfl ?_
  refine XV.run C okC_set 1 (q := (34, ([some (.ref (4)), some (.int (x)), some (.int (y)), some (.int (f (2 + i)))], [.ref (4), .ref (33)]))) rfl ?_
  refine XV.getf C (ci := 4) (kf := 0) (v := .ref (5)) (xlk_ok okC_set rfl) rfl (by decide) wF_C_10 (by omega) (by omega) (cw_o) rfl ?_
  refine XV.callV C (As := [.ref (5)]) (rest := []) (ci := 1) (ct_H_keep hfl cw_h (by omega) (by omega) ho cw_e (by omega) (by omega) (by omega) hkp) (xlk_ok okC_set rfl) rfl (by omega) (by omega) rfl (cw_h 0 (by decide)) rfl wM_C_52 wI_H_keep wV_H_keep wN_H wB_H_keep hy_H_keep (fun q => q.elim) ⟨Nat.le_of_ble_eq_true rfl, Nat.le_of_ble_eq_true rfl⟩ ⟨Nat.le_of_ble_eq_true rfl, Nat.le_of_ble_eq_true rfl⟩ (Nat.le_of_ble_eq_true rfl) (fun r n h hp => ?_) (fun _ _ _ q => q.elim)
  obtain ⟨rfl, rfl, rfl⟩ := hp
  refine XV.cast (cw_setH _ _ _) ?_
  refine XV.run C okC_set 1 (q := (41, ([some (.ref (4)), some (.int (x)), some (.int (y)), some (.int (f (2 + i)))], [.ref (4)]))) rfl ?_
  refine XV.getf C (ci := 4) (kf := 0) (v := .ref (5)) (xlk_ok okC_set rfl) rfl (by decide) wF_C_10 (by omega) (by omega) (cw_o) rfl ?_
  refine XV.getfN C (ci := 0) (kf := 0) (v := .ref (5 + 1)) (xlk_ok okC_set rfl) rfl (by decide) (List.mem_of_getElem? (i := 13) rfl) (by omega) (by omega) (cw_e 0 (by decide)) rfl ?_
  refine XV.run C okC_set 2 (q := (49, ([some (.ref (4)), some (.int (x)), some (.int (y)), some (.int (f (2 + i)))], [.int (y), .int (x), .ref (5 + 1)]))) rfl ?_
  refine XV.iastC C (N := 5) (f := (fun i => f (2 + i))) (a := i) (xlk_ok okC_set rfl) (by omega) (by omega) (cw_e 1 (by decide)) (hx) (hi) (by decide) ?_
  refine XV.cast (cw_xupE (setElev_s1 _ 5 _ (i) (y) (hi))) ?_
  refine XV.run C okC_set 1 (q := (51, ([some (.ref (4)), some (.int (x)), some (.int (y)), some (.int (f (2 + i)))], [.int (f (2 + i))]))) rfl ?_
  exact XV.iret C (xlk_ok okC_set rfl) hret rfl (Nat.le_of_ble_eq_true rfl) (Nat.le_of_ble_eq_true rfl) (⟨i, ⟨hx, hi, h1⟩, rfl, rfl, rfl⟩)
set_option maxHeartbeats 4000000 in
set_option maxRecDepth 100000 in
theorem ct_C_setting {l : Launch} (hfl : l.stackTraces = false) {G : XG} {n : Nat} {h : XH} {f : Nat → Int32} {o kp : Nat} {P : Nat → Nat → Int32} {tx : Nat → Int32} {len : Nat} {p : PT} {ρ : Nat → Int32} (hn : 209 ≤ n) (x : Int32) : XCt l G False (Cond.code yC_setting bC_setting 2 (some .int)) yC_setting 7 111 1 6 [.ref (4), .int (x)] n (setCW h f o kp P tx len p ρ) (fun r' n' h' => ∃ i, (x = nI i ∧ i < 5) ∧ r' = some (.int (f (2 + i))) ∧ n' = n ∧ h' = setCW h f o kp P tx len p ρ) (fun E n' h' => ((E = XIOB ∧ ((x < 0 ∨ ¬ x < 5)))) ∧ n' = n ∧ h' = setCW h f o kp P tx len p ρ) := by
  refine XCt.of hfl (by decide +kernel) (Nat.le_of_ble_eq_true rfl) ?_
  intro p' e' s' m' g' b' t' c' C hret hname hnt hmd
  refine XV.run C okC_setting 2 (q := (2, ([some (.ref (4)), some (.int (x))], [.int (5), .int (x)]))) rfl ?_
  refine XV.callS C (As := [.int (x), .int (5)]) (rest := []) (ct_C_requireIndex hfl x 5) (xlk_ok okC_setting rfl) rfl wM_C_93 wS_C_requireIndex wN_C wB_C_requireIndex hy_C_requireIndex (fun q => q.elim) ⟨Nat.le_of_ble_eq_true rfl, Nat.le_of_ble_eq_true rfl⟩ ⟨Nat.le_of_ble_eq_true rfl, Nat.le_of_ble_eq_true rfl⟩ (Nat.le_of_ble_eq_true rfl) (fun r n h hp => ?_) (fun E n1 h1 q => by obtain ⟨⟨rfl, hbad⟩, rfl, rfl⟩ := q; exact XT.out C hnt (Nat.le_of_ble_eq_true rfl) (Nat.le_of_ble_eq_true rfl) (⟨⟨rfl, hbad⟩, rfl, rfl⟩))
  obtain ⟨rfl, h0, rfl, rfl⟩ := hp
  obtain ⟨i, hx, hi⟩ := ix_nat (d := 5) h0 rfl (by omega)
  refine XV.run C okC_setting 1 (q := (6, ([some (.ref (4)), some (.int (x))], [.ref (4)]))) rfl ?_
  refine XV.getf C (ci := 4) (kf := 0) (v := .ref (5)) (xlk_ok okC_setting rfl) rfl (by decide) wF_C_10 (by omega) (by omega) (cw_o) rfl ?_
  refine XV.getfN C (ci := 0) (kf := 0) (v := .ref (5 + 1)) (xlk_ok okC_setting rfl) rfl (by decide) (List.mem_of_getElem? (i := 13) rfl) (by omega) (by omega) (cw_e 0 (by decide)) rfl ?_
  refine XV.run C okC_setting 1 (q := (13, ([some (.ref (4)), some (.int (x))], [.int (x), .ref (5 + 1)]))) rfl ?_
  refine XV.ialdC C (N := 5) (f := (fun i => f (2 + i))) (a := i) (xlk_ok okC_setting rfl) (by omega) (by omega) (cw_e 1 (by decide)) (hx) (hi) (by decide) ?_
  exact XV.iret C (xlk_ok okC_setting rfl) hret rfl (Nat.le_of_ble_eq_true rfl) (Nat.le_of_ble_eq_true rfl) (⟨i, ⟨hx, hi⟩, rfl, rfl, rfl⟩)
set_option maxHeartbeats 4000000 in
set_option maxRecDepth 100000 in
theorem ct_C_trip {l : Launch} (hfl : l.stackTraces = false) {G : XG} {n : Nat} {h : XH} {f : Nat → Int32} {o kp : Nat} {P : Nat → Nat → Int32} {tx : Nat → Int32} {len : Nat} {p : PT} {ρ : Nat → Int32} (hn : 209 ≤ n) {k : Nat} (hm : f 1 = nI k) (hk : k ≤ 5) (hl : ∀ i, i < k → 0 < rowOf f i 0) {z : Nat} (hz : f 2 = nI z) (z1 : 1 ≤ z) (z2 : z ≤ 12) (ho : o < 6) (hkp : kp ≤ 6) (x y u : Int32) : XCt l G False (Cond.code yC_trip bC_trip 4 (some .int)) yC_trip 7 149 4 24 [.ref (4), .int (x), .int (y), .int (u)] n (setCW h f o kp P tx len p ρ) (fun r' n' h' => ∃ a b, (x = nI a ∧ a < 8 ∧ y = nI b ∧ b < 8 ∧ (¬ u < 1 ∧ u ≤ 99) ∧ (¬ canK f z k = 0 ∧ f 7 + u ≤ 99999)) ∧ r' = some (.int (f 7 + u)) ∧ n' = n ∧ h' = setCW h (travK f (min a b) (max a b) k u) (kO o kp) (kK kp) (kP o kp P f) tx len p ρ) (fun E n' h' => ((E = XIOB ∧ ((x < 0 ∨ ¬ x < 8))) ∨ (E = XIOB ∧ ((¬ x < 0 ∧ x < 8) ∧ (y < 0 ∨ ¬ y < 8))) ∨ (E = XIAE ∧ ((¬ x < 0 ∧ x < 8) ∧ (¬ y < 0 ∧ y < 8) ∧ (u < 1 ∨ ¬ u ≤ 99))) ∨ (E = XISE ∧ ((¬ x < 0 ∧ x < 8) ∧ (¬ y < 0 ∧ y < 8) ∧ (¬ u < 1 ∧ u ≤ 99) ∧ ¬ (¬ canK f z k = 0 ∧ f 7 + u ≤ 99999)))) ∧ n' = n ∧ h' = setCW h f o kp P tx len p ρ) := by
  refine XCt.of hfl (by decide +kernel) (Nat.le_of_ble_eq_true rfl) ?_
  intro p' e' s' m' g' b' t' c' C hret hname hnt hmd
  refine XV.run C okC_trip 2 (q := (3, ([some (.ref (4)), some (.int (x)), some (.int (y)), some (.int (u))], [.int (8), .int (x)]))) rfl ?_
  refine XV.callS C (As := [.int (x), .int (8)]) (rest := []) (ct_C_requireIndex hfl x 8) (xlk_ok okC_trip rfl) rfl wM_C_93 wS_C_requireIndex wN_C wB_C_requireIndex hy_C_requireIndex (fun q => q.elim) ⟨Nat.le_of_ble_eq_true rfl, Nat.le_of_ble_eq_true rfl⟩ ⟨Nat.le_of_ble_eq_true rfl, Nat.le_of_ble_eq_true rfl⟩ (Nat.le_of_ble_eq_true rfl) (fun r n h hp => ?_) (fun E n1 h1 q => by obtain ⟨⟨rfl, hbad⟩, rfl, rfl⟩ := q; exact XT.out C hnt (Nat.le_of_ble_eq_true rfl) (Nat.le_of_ble_eq_true rfl) (⟨Or.inl (⟨rfl, hbad⟩), rfl, rfl⟩))
  obtain ⟨rfl, h0, rfl, rfl⟩ := hp
  refine XV.run C okC_trip 2 (q := (9, ([some (.ref (4)), some (.int (x)), some (.int (y)), some (.int (u))], [.int (8), .int (y)]))) rfl ?_
  refine XV.callS C (As := [.int (y), .int (8)]) (rest := []) (ct_C_requireIndex hfl y 8) (xlk_ok okC_trip rfl) rfl wM_C_93 wS_C_requireIndex wN_C wB_C_requireIndex hy_C_requireIndex (fun q => q.elim) ⟨Nat.le_of_ble_eq_true rfl, Nat.le_of_ble_eq_true rfl⟩ ⟨Nat.le_of_ble_eq_true rfl, Nat.le_of_ble_eq_true rfl⟩ (Nat.le_of_ble_eq_true rfl) (fun r n h hp => ?_) (fun E n1 h1 q => by obtain ⟨⟨rfl, hbad⟩, rfl, rfl⟩ := q; exact XT.out C hnt (Nat.le_of_ble_eq_true rfl) (Nat.le_of_ble_eq_true rfl) (⟨Or.inr (Or.inl (⟨rfl, h0, hbad⟩)), rfl, rfl⟩))
  obtain ⟨rfl, h1, rfl, rfl⟩ := hp
  refine XV.run C okC_trip 3 (q := (16, ([some (.ref (4)), some (.int (x)), some (.int (y)), some (.int (u))], [.int (99), .int (1), .int (u)]))) rfl ?_
  refine XV.callS C (As := [.int (u), .int (1), .int (99)]) (rest := []) (ct_C_requireRange hfl u 1 99) (xlk_ok okC_trip rfl) rfl wM_C_37 wS_C_requireRange wN_C wB_C_requireRange hy_C_requireRange (fun q => q.elim) ⟨Nat.le_of_ble_eq_true rfl, Nat.le_of_ble_eq_true rfl⟩ ⟨Nat.le_of_ble_eq_true rfl, Nat.le_of_ble_eq_true rfl⟩ (Nat.le_of_ble_eq_true rfl) (fun r n h hp => ?_) (fun E n1 h1 q => by obtain ⟨⟨rfl, hbad⟩, rfl, rfl⟩ := q; exact XT.out C hnt (Nat.le_of_ble_eq_true rfl) (Nat.le_of_ble_eq_true rfl) (⟨Or.inr (Or.inr (Or.inl (⟨rfl, h0, h1, hbad⟩))), rfl, rfl⟩))
  obtain ⟨rfl, h2, rfl, rfl⟩ := hp
  refine XV.run C okC_trip 2 (q := (21, ([some (.ref (4)), some (.int (x)), some (.int (y)), some (.int (u))], [.int (u), .ref (4)]))) rfl ?_
  refine XV.callV C (As := [.int (u)]) (rest := []) (ci := 4) (ct_C_requireTripsAllowed hfl hn hm hk hl hz z1 z2 (u)) (xlk_ok okC_trip rfl) rfl (by omega) (by omega) rfl (cw_o) rfl wM_C_106 wI_C_requireTripsAllowed wV_C_requireTripsAllowed wN_C wB_C_requireTripsAllowed hy_C_requireTripsAllowed (fun q => q.elim) ⟨Nat.le_of_ble_eq_true rfl, Nat.le_of_ble_eq_true rfl⟩ ⟨Nat.le_of_ble_eq_true rfl, Nat.le_of_ble_eq_true rfl⟩ (Nat.le_of_ble_eq_true rfl) (fun r n h hp => ?_) (fun E n1 h1 q => by obtain ⟨⟨rfl, hbad⟩, rfl, rfl⟩ := q; exact XT.out C hnt (Nat.le_of_ble_eq_true rfl) (Nat.le_of_ble_eq_true rfl) (⟨Or.inr (Or.inr (Or.inr (⟨rfl, h0, h1, h2, hbad⟩))), rfl, rfl⟩))
  obtain ⟨rfl, h3, rfl, rfl⟩ := hp
  obtain ⟨a, hxa, ha⟩ := ix_nat (d := 8) h0 rfl (by omega)
  obtain ⟨b, hyb, hb⟩ := ix_nat (d := 8) h1 rfl (by omega)
  refine XV.run C okC_trip 1 (q := (25, ([some (.ref (4)), some (.int (x)), some (.int (y)), some (.int (u))], [.ref (4)]))) rfl ?_
  refine XV.getf C (ci := 4) (kf := 1) (v := .ref (33)) (xlk_ok okC_trip rfl) rfl (by decide) wF_C_19 (by omega) (by omega) (cw_o) rfl ?_
  refine XV.run C okC_trip 1 (q := (29, ([some (.ref (4)), some (.int (x)), some (.int (y)), some (.int (u))], [.ref (4), .ref (33)]))) rfl ?_
  refine XV.getf C (ci := 4) (kf := 0) (v := .ref (5)) (xlk_ok okC_trip rfl) rfl (by decide) wF_C_10 (by omega) (by omega) (cw_o) rfl ?_
  refine XV.callV C (As := [.ref (5)]) (rest := []) (ci := 1) (ct_H_keep hfl cw_h (by omega) (by omega) ho cw_e (by omega) (by omega) (by omega) hkp) (xlk_ok okC_trip rfl) rfl (by omega) (by omega) rfl (cw_h 0 (by decide)) rfl wM_C_52 wI_H_keep wV_H_keep wN_H wB_H_keep hy_H_keep (fun q => q.elim) ⟨Nat.le_of_ble_eq_true rfl, Nat.le_of_ble_eq_true rfl⟩ ⟨Nat.le_of_ble_eq_true rfl, Nat.le_of_ble_eq_true rfl⟩ (Nat.le_of_ble_eq_true rfl) (fun r n h hp => ?_) (fun _ _ _ q => q.elim)
  obtain ⟨rfl, rfl, rfl⟩ := hp
  refine XV.cast (cw_setH _ _ _) ?_
  refine XV.run C okC_trip 1 (q := (36, ([some (.ref (4)), some (.int (x)), some (.int (y)), some (.int (u))], [.ref (4)]))) rfl ?_
  refine XV.getf C (ci := 4) (kf := 0) (v := .ref (5)) (xlk_ok okC_trip rfl) rfl (by decide) wF_C_10 (by omega) (by omega) (cw_o) rfl ?_
  refine XV.run C okC_trip 3 (q := (42, ([some (.ref (4)), some (.int (x)), some (.int (y)), some (.int (u))], [.int (u), .int (y), .int (x), .ref (5)]))) rfl ?_
  refine XV.callV C (As := [.int (x), .int (y), .int (u)]) (rest := []) (ci := 0) (ct_E_travel hfl cw_e (by omega) (by omega) hm hk hl (a := a) (b := b) (lo := min a b) (hi := max a b) (u) hxa hyb (by omega) (by omega) (by omega)) (xlk_ok okC_trip rfl) rfl (by omega) (by omega) rfl (cw_e 0 (by decide)) rfl wM_C_109 wI_E_travel wV_E_travel wN_E wB_E_travel hy_E_travel (fun q => q.elim) ⟨Nat.le_of_ble_eq_true rfl, Nat.le_of_ble_eq_true rfl⟩ ⟨Nat.le_of_ble_eq_true rfl, Nat.le_of_ble_eq_true rfl⟩ (Nat.le_of_ble_eq_true rfl) (fun r n h hp => ?_) (fun _ _ _ q => q.elim)
  obtain ⟨rfl, rfl, rfl⟩ := hp
  refine XV.cast (cw_setE _) ?_
  refine XV.run C okC_trip 1 (q := (46, ([some (.ref (4)), some (.int (x)), some (.int (y)), some (.int (u))], [.ref (4)]))) rfl ?_
  refine XV.getf C (ci := 4) (kf := 0) (v := .ref (5)) (xlk_ok okC_trip rfl) rfl (by decide) wF_C_10 (by omega) (by omega) (cw_o) rfl ?_
  refine XV.getfN C (ci := 0) (kf := 4) (v := .int ((travK f (min a b) (max a b) k u) 7)) (xlk_ok okC_trip rfl) rfl (by decide) (List.mem_of_getElem? (i := 16) rfl) (by omega) (by omega) (cw_e 0 (by decide)) rfl ?_
  exact XV.iret C (xlk_ok okC_trip rfl) hret (rfl) (Nat.le_of_ble_eq_true rfl) (Nat.le_of_ble_eq_true rfl) (⟨a, b, ⟨hxa, ha, hyb, hb, h2, h3⟩, by rw [show travK f (min a b) (max a b) k u 7 = f 7 + u from upd_eq], rfl, rfl⟩)
set_option maxHeartbeats 4000000 in
set_option maxRecDepth 100000 in
theorem ct_C_pass {l : Launch} (hfl : l.stackTraces = false) {G : XG} {n : Nat} {h : XH} {f : Nat → Int32} {o kp : Nat} {P : Nat → Nat → Int32} {tx : Nat → Int32} {len : Nat} {p : PT} {ρ : Nat → Int32} (hn : 209 ≤ n) {k : Nat} (hm : f 1 = nI k) (hk : k ≤ 5) (hl : ∀ i, i < k → 0 < rowOf f i 0) {z : Nat} (hz : f 2 = nI z) (z1 : 1 ≤ z) (z2 : z ≤ 12) (ho : o < 6) (hkp : kp ≤ 6) (x : Int32) : XCt l G False (Cond.code yC_pass bC_pass 2 (some .int)) yC_pass 7 112 2 12 [.ref (4), .int (x)] n (setCW h f o kp P tx len p ρ) (fun r' n' h' => ((¬ x < 1 ∧ x ≤ 24) ∧ f 0 + x ≤ 2000) ∧ r' = some (.int (nI (retK (upd f 0 (f 0 + x)) z k))) ∧ n' = n ∧ h' = setCW h (upd f 0 (f 0 + x)) (kO o kp) (kK kp) (kP o kp P f) tx len p ρ) (fun E n' h' => ((E = XIAE ∧ ((x < 1 ∨ ¬ x ≤ 24))) ∨ (E = XISE ∧ ((¬ x < 1 ∧ x ≤ 24) ∧ ¬ f 0 + x ≤ 2000))) ∧ n' = n ∧ h' = setCW h f o kp P tx len p ρ) := by
  refine XCt.of hfl (by decide +kernel) (Nat.le_of_ble_eq_true rfl) ?_
  intro p' e' s' m' g' b' t' c' C hret hname hnt hmd
  refine XV.run C okC_pass 3 (q := (4, ([some (.ref (4)), some (.int (x))], [.int (24), .int (1), .int (x)]))) rfl ?_
  refine XV.callS C (As := [.int (x), .int (1), .int (24)]) (rest := []) (ct_C_requireRange hfl x 1 24) (xlk_ok okC_pass rfl) rfl wM_C_37 wS_C_requireRange wN_C wB_C_requireRange hy_C_requireRange (fun q => q.elim) ⟨Nat.le_of_ble_eq_true rfl, Nat.le_of_ble_eq_true rfl⟩ ⟨Nat.le_of_ble_eq_true rfl, Nat.le_of_ble_eq_true rfl⟩ (Nat.le_of_ble_eq_true rfl) (fun r n h hp => ?_) (fun E n1 h1 q => by obtain ⟨⟨rfl, hbad⟩, rfl, rfl⟩ := q; exact XT.out C hnt (Nat.le_of_ble_eq_true rfl) (Nat.le_of_ble_eq_true rfl) (⟨Or.inl (⟨rfl, hbad⟩), rfl, rfl⟩))
  obtain ⟨rfl, h1, rfl, rfl⟩ := hp
  refine XV.run C okC_pass 1 (q := (8, ([some (.ref (4)), some (.int (x))], [.ref (4)]))) rfl ?_
  refine XV.getf C (ci := 4) (kf := 0) (v := .ref (5)) (xlk_ok okC_pass rfl) rfl (by decide) wF_C_10 (by omega) (by omega) (cw_o) rfl ?_
  refine XV.getfN C (ci := 0) (kf := 3) (v := .int (f 0)) (xlk_ok okC_pass rfl) rfl (by decide) (List.mem_of_getElem? (i := 15) rfl) (by omega) (by omega) (cw_e 0 (by decide)) rfl ?_
  refine XV.run C okC_pass 3 (q := (19, ([some (.ref (4)), some (.int (x))], [.int (2000), .int ((f 0) + x)]))) rfl ?_
  refine XV.icmp_le C (tgt := 32) (xlk_ok okC_pass rfl) rfl (fun c1 => ?_) (fun c1 => ?_)
  ·
    refine XV.run C okC_pass 1 (q := (33, ([some (.ref (4)), some (.int (x))], [.ref (4)]))) rfl ?_
    refine XV.getf C (ci := 4) (kf := 1) (v := .ref (33)) (xlk_ok okC_pass rfl) rfl (by decide) wF_C_19 (by omega) (by omega) (cw_o) rfl ?_
    refine XV.run C okC_pass 1 (q := (37, ([some (.ref (4)), some (.int (x))], [.ref (4), .ref (33)]))) rfl ?_
    refine XV.getf C (ci := 4) (kf := 0) (v := .ref (5)) (xlk_ok okC_pass rfl) rfl (by decide) wF_C_10 (by omega) (by omega) (cw_o) rfl ?_
    refine XV.callV C (As := [.ref (5)]) (rest := []) (ci := 1) (ct_H_keep hfl cw_h (by omega) (by omega) ho cw_e (by omega) (by omega) (by omega) hkp) (xlk_ok okC_pass rfl) rfl (by omega) (by omega) rfl (cw_h 0 (by decide)) rfl wM_C_52 wI_H_keep wV_H_keep wN_H wB_H_keep hy_H_keep (fun q => q.elim) ⟨Nat.le_of_ble_eq_true rfl, Nat.le_of_ble_eq_true rfl⟩ ⟨Nat.le_of_ble_eq_true rfl, Nat.le_of_ble_eq_true rfl⟩ (Nat.le_of_ble_eq_true rfl) (fun r n h hp => ?_) (fun _ _ _ q => q.elim)
    obtain ⟨rfl, rfl, rfl⟩ := hp
    refine XV.cast (cw_setH _ _ _) ?_
    refine XV.run C okC_pass 1 (q := (44, ([some (.ref (4)), some (.int (x))], [.ref (4)]))) rfl ?_
    refine XV.getf C (ci := 4) (kf := 0) (v := .ref (5)) (xlk_ok okC_pass rfl) rfl (by decide) wF_C_10 (by omega) (by omega) (cw_o) rfl ?_
    refine XV.run C okC_pass 1 (q := (48, ([some (.ref (4)), some (.int (x))], [.ref (5), .ref (5)]))) rfl ?_
    refine XV.getfN C (ci := 0) (kf := 3) (v := .int (f 0)) (xlk_ok okC_pass rfl) rfl (by decide) (List.mem_of_getElem? (i := 15) rfl) (by omega) (by omega) (cw_e 0 (by decide)) rfl ?_
    refine XV.run C okC_pass 2 (q := (53, ([some (.ref (4)), some (.int (x))], [.int ((f 0) + x), .ref (5)]))) rfl ?_
    refine XV.putfN C (ci := 0) (kf := 3) (ty := .int) (xlk_ok okC_pass rfl) rfl (by decide) (List.mem_of_getElem? (i := 15) rfl) (by omega) (by omega) (cw_e 0 (by decide)) rfl rfl rfl rfl (Nat.le_of_ble_eq_true rfl) ?_
    refine XV.cast (cw_xupE (setElev_f3 _ 5 _ ((f 0) + x))) ?_
    refine XV.run C okC_pass 1 (q := (57, ([some (.ref (4)), some (.int (x))], [.ref (4)]))) rfl ?_
    refine XV.getf C (ci := 4) (kf := 0) (v := .ref (5)) (xlk_ok okC_pass rfl) rfl (by decide) wF_C_10 (by omega) (by omega) (cw_o) rfl ?_
    refine XV.callV C (As := []) (rest := []) (ci := 0) (ct_E_ropesToRetire hfl cw_e (by omega) (by omega) (k := k) (show upd f 0 (f 0 + x) 1 = nI k from (upd_ne (by decide)).trans hm) (by omega) (fun i hi => by rw [rowUpd_lo (by decide)]; exact hl i hi) (z := z) (show upd f 0 (f 0 + x) 2 = nI z from (upd_ne (by decide)).trans hz) (by omega) (by omega)) (xlk_ok okC_pass rfl) rfl (by omega) (by omega) rfl (cw_e 0 (by decide)) rfl wM_C_117 wI_E_ropesToRetire wV_E_ropesToRetire wN_E wB_E_ropesToRetire hy_E_ropesToRetire (fun q => q.elim) ⟨Nat.le_of_ble_eq_true rfl, Nat.le_of_ble_eq_true rfl⟩ ⟨Nat.le_of_ble_eq_true rfl, Nat.le_of_ble_eq_true rfl⟩ (Nat.le_of_ble_eq_true rfl) (fun r n h hp => ?_) (fun _ _ _ q => q.elim)
    obtain ⟨rfl, rfl, rfl⟩ := hp
    exact XV.iret C (xlk_ok okC_pass rfl) hret rfl (Nat.le_of_ble_eq_true rfl) (Nat.le_of_ble_eq_true rfl) (⟨⟨h1, c1⟩, rfl, rfl, rfl⟩)
  ·
    refine XV.throwS C hnt (E := XISE) (Or.inl ⟨rfl, rfl, rfl⟩) (List.mem_of_getElem? (i := 6) rfl) (xlk_ok okC_pass (pc := 22) rfl) (xlk_ok okC_pass (pc := 25) rfl) (xlk_ok okC_pass (pc := 26) rfl) (xlk_ok okC_pass (pc := 28) rfl) (xlk_ok okC_pass (pc := 31) rfl) (Nat.le_of_ble_eq_true rfl) (Nat.le_of_ble_eq_true rfl) (Nat.le_of_ble_eq_true rfl) (Nat.le_of_ble_eq_true rfl) (Nat.le_of_ble_eq_true rfl) (Nat.le_of_ble_eq_true rfl) ?_
    exact ⟨Or.inr (⟨rfl, h1, c1⟩), rfl, rfl⟩
theorem pred_ex {n : Nat} (h : n ≠ 0) : ∃ j, n = j + 1 := ⟨n - 1, by omega⟩
set_option maxHeartbeats 4000000 in
set_option maxRecDepth 100000 in
theorem ct_C_undo {l : Launch} (hfl : l.stackTraces = false) {G : XG} {n : Nat} {h : XH} {f : Nat → Int32} {o kp : Nat} {P : Nat → Nat → Int32} {tx : Nat → Int32} {len : Nat} {p : PT} {ρ : Nat → Int32} (hn : 209 ≤ n) (ho : o < 6) (hkp : kp ≤ 6) : XCt l G False (Cond.code yC_undo bC_undo 1 (some .int)) yC_undo 6 93 1 6 [.ref (4)] n (setCW h f o kp P tx len p ρ) (fun r' n' h' => ∃ j, kp = j + 1 ∧ r' = some (.int (nI j)) ∧ n' = n ∧ h' = setCW h (P ((o + j) % 6)) o j P tx len p ρ) (fun E n' h' => ((E = XISE ∧ (kp = 0))) ∧ n' = n ∧ h' = setCW h f o kp P tx len p ρ) := by
  refine XCt.of hfl (by decide +kernel) (Nat.le_of_ble_eq_true rfl) ?_
  intro p' e' s' m' g' b' t' c' C hret hname hnt hmd
  refine XV.run C okC_undo 1 (q := (1, ([some (.ref (4))], [.ref (4)]))) rfl ?_
  refine XV.getf C (ci := 4) (kf := 1) (v := .ref (33)) (xlk_ok okC_undo rfl) rfl (by decide) wF_C_19 (by omega) (by omega) (cw_o) rfl ?_
  refine XV.getfN C (ci := 1) (kf := 2) (v := .int (nI kp)) (xlk_ok okC_undo rfl) rfl (by decide) (List.mem_of_getElem? (i := 19) rfl) (by omega) (by omega) (cw_h 0 (by decide)) rfl ?_
  refine XV.if_ne C (tgt := 20) (xlk_ok okC_undo rfl) rfl (fun c1 => ?_) (fun c1 => ?_)
  ·
    obtain ⟨j, rfl⟩ := pred_ex (show kp ≠ 0 from fun q => c1 (by rw [q]; rfl))
    refine XV.run C okC_undo 1 (q := (21, ([some (.ref (4))], [.ref (4)]))) rfl ?_
    refine XV.getf C (ci := 4) (kf := 1) (v := .ref (33)) (xlk_ok okC_undo rfl) rfl (by decide) wF_C_19 (by omega) (by omega) (cw_o) rfl ?_
    refine XV.run C okC_undo 1 (q := (25, ([some (.ref (4))], [.ref (4), .ref (33)]))) rfl ?_
    refine XV.getf C (ci := 4) (kf := 0) (v := .ref (5)) (xlk_ok okC_undo rfl) rfl (by decide) wF_C_10 (by omega) (by omega) (cw_o) rfl ?_
    refine XV.callV C (As := [.ref (5)]) (rest := []) (ci := 1) (ct_H_giveBack hfl (kp := j) cw_h (by omega) (by omega) ho cw_e (by omega) (by omega) (by omega) (by omega)) (xlk_ok okC_undo rfl) rfl (by omega) (by omega) rfl (cw_h 0 (by decide)) rfl wM_C_160 wI_H_giveBack wV_H_giveBack wN_H wB_H_giveBack hy_H_giveBack (fun q => q.elim) ⟨Nat.le_of_ble_eq_true rfl, Nat.le_of_ble_eq_true rfl⟩ ⟨Nat.le_of_ble_eq_true rfl, Nat.le_of_ble_eq_true rfl⟩ (Nat.le_of_ble_eq_true rfl) (fun r n h hp => ?_) (fun _ _ _ q => q.elim)
    obtain ⟨rfl, rfl, rfl⟩ := hp
    refine XV.cast ((congrArg (fun w => setElev w 5 (P ((o + j) % 6))) (cw_setH _ _ _)).trans (cw_setE _)) ?_
    refine XV.run C okC_undo 1 (q := (32, ([some (.ref (4))], [.ref (4)]))) rfl ?_
    refine XV.getf C (ci := 4) (kf := 1) (v := .ref (33)) (xlk_ok okC_undo rfl) rfl (by decide) wF_C_19 (by omega) (by omega) (cw_o) rfl ?_
    refine XV.getfN C (ci := 1) (kf := 2) (v := .int (nI j)) (xlk_ok okC_undo rfl) rfl (by decide) (List.mem_of_getElem? (i := 19) rfl) (by omega) (by omega) (cw_h 0 (by decide)) rfl ?_
    exact XV.iret C (xlk_ok okC_undo rfl) hret rfl (Nat.le_of_ble_eq_true rfl) (Nat.le_of_ble_eq_true rfl) (⟨j, rfl, rfl, rfl, rfl⟩)
  ·
    have hk0 : kp = 0 := (nI_eq (b := 0) (by omega) (by omega)).mp (c1)
    refine XV.throwS C hnt (E := XISE) (Or.inl ⟨rfl, rfl, rfl⟩) (List.mem_of_getElem? (i := 7) rfl) (xlk_ok okC_undo (pc := 10) rfl) (xlk_ok okC_undo (pc := 13) rfl) (xlk_ok okC_undo (pc := 14) rfl) (xlk_ok okC_undo (pc := 16) rfl) (xlk_ok okC_undo (pc := 19) rfl) (Nat.le_of_ble_eq_true rfl) (Nat.le_of_ble_eq_true rfl) (Nat.le_of_ble_eq_true rfl) (Nat.le_of_ble_eq_true rfl) (Nat.le_of_ble_eq_true rfl) (Nat.le_of_ble_eq_true rfl) ?_
    exact ⟨⟨rfl, hk0⟩, rfl, rfl⟩
set_option maxHeartbeats 4000000 in
set_option maxRecDepth 100000 in
theorem ct_C_rope {l : Launch} (hfl : l.stackTraces = false) {G : XG} {n : Nat} {h : XH} {f : Nat → Int32} {o kp : Nat} {P : Nat → Nat → Int32} {tx : Nat → Int32} {len : Nat} {p : PT} {ρ : Nat → Int32} (hn : 209 ≤ n) {k : Nat} (hm : f 1 = nI k) (hk : k ≤ 5) (hl : ∀ i, i < k → 0 < rowOf f i 0) {z : Nat} (hz : f 2 = nI z) (z1 : 1 ≤ z) (z2 : z ≤ 12) (x y : Int32) : XCt l G False (Cond.code yC_rope bC_rope 4 (some .int)) yC_rope 7 112 2 12 [.ref (4), .int (x), .int (y)] n (setCW h f o kp P tx len p ρ) (fun r' n' h' => ∃ i w, (x = nI i ∧ i < k ∧ y = nI w ∧ w ≤ 9) ∧ r' = some (.int (ropeFigK f (rowOf f i) z w)) ∧ n' = n ∧ h' = setCW h f o kp P tx len p ρ) (fun E n' h' => ((E = XIOB ∧ ((x < 0 ∨ nI k ≤ x))) ∨ (E = XIAE ∧ (¬ (x < 0 ∨ nI k ≤ x) ∧ (y < 0 ∨ ¬ y ≤ 9)))) ∧ n' = n ∧ h' = setCW h f o kp P tx len p ρ) := by
  refine XCt.of hfl (by decide +kernel) (Nat.le_of_ble_eq_true rfl) ?_
  intro p' e' s' m' g' b' t' c' C hret hname hnt hmd
  refine XV.run C okC_rope 2 (q := (2, ([some (.ref (4)), some (.int (x)), some (.int (y)), none], [.int (x), .ref (4)]))) rfl ?_
  refine XV.callV C (As := [.int (x)]) (rest := []) (ci := 4) (ct_C_existingRope hfl hn hm hk hl (x)) (xlk_ok okC_rope rfl) rfl (by omega) (by omega) rfl (cw_o) rfl wM_C_60 wI_C_existingRope wV_C_existingRope wN_C wB_C_existingRope hy_C_existingRope (fun q => q.elim) ⟨Nat.le_of_ble_eq_true rfl, Nat.le_of_ble_eq_true rfl⟩ ⟨Nat.le_of_ble_eq_true rfl, Nat.le_of_ble_eq_true rfl⟩ (Nat.le_of_ble_eq_true rfl) (fun r n h hp => ?_) (fun E n1 h1 q => by obtain ⟨⟨rfl, hbad⟩, rfl, rfl⟩ := q; exact XT.out C hnt (Nat.le_of_ble_eq_true rfl) (Nat.le_of_ble_eq_true rfl) (⟨Or.inl (⟨rfl, hbad⟩), rfl, rfl⟩))
  obtain ⟨i, hx, hi, rfl, rfl, rfl⟩ := hp
  refine XV.run C okC_rope 4 (q := (10, ([some (.ref (4)), some (.int (x)), some (.int (y)), some (.ref (5 + 3 + 5 * i))], [.int (9), .int (0), .int (y)]))) rfl ?_
  refine XV.callS C (As := [.int (y), .int (0), .int (9)]) (rest := []) (ct_C_requireRange hfl y 0 9) (xlk_ok okC_rope rfl) rfl wM_C_37 wS_C_requireRange wN_C wB_C_requireRange hy_C_requireRange (fun q => q.elim) ⟨Nat.le_of_ble_eq_true rfl, Nat.le_of_ble_eq_true rfl⟩ ⟨Nat.le_of_ble_eq_true rfl, Nat.le_of_ble_eq_true rfl⟩ (Nat.le_of_ble_eq_true rfl) (fun r n h hp => ?_) (fun E n1 h1 q => by obtain ⟨⟨rfl, hbad⟩, rfl, rfl⟩ := q; exact XT.out C hnt (Nat.le_of_ble_eq_true rfl) (Nat.le_of_ble_eq_true rfl) (⟨Or.inr (⟨rfl, nbad hx hi hk, hbad⟩), rfl, rfl⟩))
  obtain ⟨rfl, h1, rfl, rfl⟩ := hp
  obtain ⟨w, hw, hwl⟩ := rg_nat (d := 9) h1 rfl (by omega)
  refine XV.run C okC_rope 3 (q := (16, ([some (.ref (4)), some (.int (x)), some (.int (y)), some (.ref (5 + 3 + 5 * i))], [.int (y), .ref (5 + 3 + 5 * i), .ref (4)]))) rfl ?_
  refine XV.callV C (As := [.ref (5 + 3 + 5 * i), .int (y)]) (rest := []) (ci := 4) (ct_C_ropeFigure hfl hn hm hk hl (i := i) hi hz z1 z2 (w := w) (hw) (by omega)) (xlk_ok okC_rope rfl) rfl (by omega) (by omega) rfl (cw_o) rfl wM_C_163 wI_C_ropeFigure wV_C_ropeFigure wN_C wB_C_ropeFigure hy_C_ropeFigure (fun q => q.elim) ⟨Nat.le_of_ble_eq_true rfl, Nat.le_of_ble_eq_true rfl⟩ ⟨Nat.le_of_ble_eq_true rfl, Nat.le_of_ble_eq_true rfl⟩ (Nat.le_of_ble_eq_true rfl) (fun r n h hp => ?_) (fun _ _ _ q => q.elim)
  obtain ⟨rfl, rfl, rfl⟩ := hp
  exact XV.iret C (xlk_ok okC_rope rfl) hret rfl (Nat.le_of_ble_eq_true rfl) (Nat.le_of_ble_eq_true rfl) (⟨i, w, ⟨hx, hi, hw, hwl⟩, rfl, rfl, rfl⟩)
set_option maxHeartbeats 4000000 in
set_option maxRecDepth 100000 in
theorem ct_C_section {l : Launch} (hfl : l.stackTraces = false) {G : XG} {n : Nat} {h : XH} {f : Nat → Int32} {o kp : Nat} {P : Nat → Nat → Int32} {tx : Nat → Int32} {len : Nat} {p : PT} {ρ : Nat → Int32} (hn : 209 ≤ n) {k : Nat} (hm : f 1 = nI k) (hk : k ≤ 5) (hl : ∀ i, i < k → 0 < rowOf f i 0) (x y u : Int32) : XCt l G False (Cond.code yC_section bC_section 5 (some .int)) yC_section 7 112 3 18 [.ref (4), .int (x), .int (y), .int (u)] n (setCW h f o kp P tx len p ρ) (fun r' n' h' => ∃ i s w, (x = nI i ∧ i < k ∧ y = nI s ∧ s < 24 ∧ u = nI w ∧ w ≤ 4) ∧ r' = some (.int (secF (rowOf f i) s w)) ∧ n' = n ∧ h' = setCW h f o kp P tx len p ρ) (fun E n' h' => ((E = XIOB ∧ ((x < 0 ∨ nI k ≤ x))) ∨ (E = XIOB ∧ (¬ (x < 0 ∨ nI k ≤ x) ∧ (y < 0 ∨ ¬ y < 24))) ∨ (E = XIAE ∧ (¬ (x < 0 ∨ nI k ≤ x) ∧ (¬ y < 0 ∧ y < 24) ∧ (u < 0 ∨ ¬ u ≤ 4)))) ∧ n' = n ∧ h' = setCW h f o kp P tx len p ρ) := by
  refine XCt.of hfl (by decide +kernel) (Nat.le_of_ble_eq_true rfl) ?_
  intro p' e' s' m' g' b' t' c' C hret hname hnt hmd
  refine XV.run C okC_section 2 (q := (2, ([some (.ref (4)), some (.int (x)), some (.int (y)), some (.int (u)), none], [.int (x), .ref (4)]))) rfl ?_
  refine XV.callV C (As := [.int (x)]) (rest := []) (ci := 4) (ct_C_existingRope hfl hn hm hk hl (x)) (xlk_ok okC_section rfl) rfl (by omega) (by omega) rfl (cw_o) rfl wM_C_60 wI_C_existingRope wV_C_existingRope wN_C wB_C_existingRope hy_C_existingRope (fun q => q.elim) ⟨Nat.le_of_ble_eq_true rfl, Nat.le_of_ble_eq_true rfl⟩ ⟨Nat.le_of_ble_eq_true rfl, Nat.le_of_ble_eq_true rfl⟩ (Nat.le_of_ble_eq_true rfl) (fun r n h hp => ?_) (fun E n1 h1 q => by obtain ⟨⟨rfl, hbad⟩, rfl, rfl⟩ := q; exact XT.out C hnt (Nat.le_of_ble_eq_true rfl) (Nat.le_of_ble_eq_true rfl) (⟨Or.inl (⟨rfl, hbad⟩), rfl, rfl⟩))
  obtain ⟨i, hx, hi, rfl, rfl, rfl⟩ := hp
  refine XV.run C okC_section 3 (q := (10, ([some (.ref (4)), some (.int (x)), some (.int (y)), some (.int (u)), some (.ref (5 + 3 + 5 * i))], [.int (24), .int (y)]))) rfl ?_
  refine XV.callS C (As := [.int (y), .int (24)]) (rest := []) (ct_C_requireIndex hfl y 24) (xlk_ok okC_section rfl) rfl wM_C_93 wS_C_requireIndex wN_C wB_C_requireIndex hy_C_requireIndex (fun q => q.elim) ⟨Nat.le_of_ble_eq_true rfl, Nat.le_of_ble_eq_true rfl⟩ ⟨Nat.le_of_ble_eq_true rfl, Nat.le_of_ble_eq_true rfl⟩ (Nat.le_of_ble_eq_true rfl) (fun r n h hp => ?_) (fun E n1 h1 q => by obtain ⟨⟨rfl, hbad⟩, rfl, rfl⟩ := q; exact XT.out C hnt (Nat.le_of_ble_eq_true rfl) (Nat.le_of_ble_eq_true rfl) (⟨Or.inr (Or.inl (⟨rfl, nbad hx hi hk, hbad⟩)), rfl, rfl⟩))
  obtain ⟨rfl, h1, rfl, rfl⟩ := hp
  obtain ⟨sx, hs, hsl⟩ := ix_nat (d := 24) h1 rfl (by omega)
  refine XV.run C okC_section 3 (q := (16, ([some (.ref (4)), some (.int (x)), some (.int (y)), some (.int (u)), some (.ref (5 + 3 + 5 * i))], [.int (4), .int (0), .int (u)]))) rfl ?_
  refine XV.callS C (As := [.int (u), .int (0), .int (4)]) (rest := []) (ct_C_requireRange hfl u 0 4) (xlk_ok okC_section rfl) rfl wM_C_37 wS_C_requireRange wN_C wB_C_requireRange hy_C_requireRange (fun q => q.elim) ⟨Nat.le_of_ble_eq_true rfl, Nat.le_of_ble_eq_true rfl⟩ ⟨Nat.le_of_ble_eq_true rfl, Nat.le_of_ble_eq_true rfl⟩ (Nat.le_of_ble_eq_true rfl) (fun r n h hp => ?_) (fun E n1 h1 q => by obtain ⟨⟨rfl, hbad⟩, rfl, rfl⟩ := q; exact XT.out C hnt (Nat.le_of_ble_eq_true rfl) (Nat.le_of_ble_eq_true rfl) (⟨Or.inr (Or.inr (⟨rfl, nbad hx hi hk, h1, hbad⟩)), rfl, rfl⟩))
  obtain ⟨rfl, h2, rfl, rfl⟩ := hp
  obtain ⟨w, hw, hwl⟩ := rg_nat (d := 4) h2 rfl (by omega)
  refine XV.run C okC_section 3 (q := (23, ([some (.ref (4)), some (.int (x)), some (.int (y)), some (.int (u)), some (.ref (5 + 3 + 5 * i))], [.int (u), .int (y), .ref (5 + 3 + 5 * i)]))) rfl ?_
  refine XV.callV C (As := [.int (y), .int (u)]) (rest := []) (ci := 2) (ct_R_sectionFigure hfl (elev_ropeL cw_e (by omega) (hl i hi)) (by omega) (by omega) (i := sx) (w := w) (hs) (hw) (by omega) (by omega) (hl i hi)) (xlk_ok okC_section rfl) rfl (by omega) (by omega) rfl ((elev_ropeL cw_e (by omega) (hl i hi)) 0 (by decide)) rfl wM_C_167 wI_R_sectionFigure wV_R_sectionFigure wN_R wB_R_sectionFigure hy_R_sectionFigure (fun q => q.elim) ⟨Nat.le_of_ble_eq_true rfl, Nat.le_of_ble_eq_true rfl⟩ ⟨Nat.le_of_ble_eq_true rfl, Nat.le_of_ble_eq_true rfl⟩ (Nat.le_of_ble_eq_true rfl) (fun r n h hp => ?_) (fun _ _ _ q => q.elim)
  obtain ⟨rfl, rfl, rfl⟩ := hp
  exact XV.iret C (xlk_ok okC_section rfl) hret rfl (Nat.le_of_ble_eq_true rfl) (Nat.le_of_ble_eq_true rfl) (⟨i, sx, w, ⟨hx, hi, hs, hsl, hw, hwl⟩, rfl, rfl, rfl⟩)
set_option maxHeartbeats 4000000 in
set_option maxRecDepth 100000 in
theorem ct_C_window {l : Launch} (hfl : l.stackTraces = false) {G : XG} {n : Nat} {h : XH} {f : Nat → Int32} {o kp : Nat} {P : Nat → Nat → Int32} {tx : Nat → Int32} {len : Nat} {p : PT} {ρ : Nat → Int32} (hn : 209 ≤ n) {k : Nat} (hm : f 1 = nI k) (hk : k ≤ 5) (hl : ∀ i, i < k → 0 < rowOf f i 0) {z : Nat} (hz : f 2 = nI z) (z1 : 1 ≤ z) (z2 : z ≤ 12) (x y u : Int32) : XCt l G False (Cond.code yC_window bC_window 5 (some .int)) yC_window 7 112 3 18 [.ref (4), .int (x), .int (y), .int (u)] n (setCW h f o kp P tx len p ρ) (fun r' n' h' => ∃ i j w, (x = nI i ∧ i < k ∧ y = nI j ∧ j < 25 - z ∧ u = nI w ∧ w ≤ 1) ∧ r' = some (.int (winS (rowOf f i) (decide (w = 1)) z j)) ∧ n' = n ∧ h' = setCW h f o kp P tx len p ρ) (fun E n' h' => ((E = XIOB ∧ ((x < 0 ∨ nI k ≤ x))) ∨ (E = XIOB ∧ (¬ (x < 0 ∨ nI k ≤ x) ∧ (y < 0 ∨ ¬ y < nI (25 - z)))) ∨ (E = XIAE ∧ (¬ (x < 0 ∨ nI k ≤ x) ∧ (¬ y < 0 ∧ y < nI (25 - z)) ∧ (u < 0 ∨ ¬ u ≤ 1)))) ∧ n' = n ∧ h' = setCW h f o kp P tx len p ρ) := by
  refine XCt.of hfl (by decide +kernel) (Nat.le_of_ble_eq_true rfl) ?_
  intro p' e' s' m' g' b' t' c' C hret hname hnt hmd
  refine XV.run C okC_window 2 (q := (2, ([some (.ref (4)), some (.int (x)), some (.int (y)), some (.int (u)), none], [.int (x), .ref (4)]))) rfl ?_
  refine XV.callV C (As := [.int (x)]) (rest := []) (ci := 4) (ct_C_existingRope hfl hn hm hk hl (x)) (xlk_ok okC_window rfl) rfl (by omega) (by omega) rfl (cw_o) rfl wM_C_60 wI_C_existingRope wV_C_existingRope wN_C wB_C_existingRope hy_C_existingRope (fun q => q.elim) ⟨Nat.le_of_ble_eq_true rfl, Nat.le_of_ble_eq_true rfl⟩ ⟨Nat.le_of_ble_eq_true rfl, Nat.le_of_ble_eq_true rfl⟩ (Nat.le_of_ble_eq_true rfl) (fun r n h hp => ?_) (fun E n1 h1 q => by obtain ⟨⟨rfl, hbad⟩, rfl, rfl⟩ := q; exact XT.out C hnt (Nat.le_of_ble_eq_true rfl) (Nat.le_of_ble_eq_true rfl) (⟨Or.inl (⟨rfl, hbad⟩), rfl, rfl⟩))
  obtain ⟨i, hx, hi, rfl, rfl, rfl⟩ := hp
  refine XV.run C okC_window 3 (q := (9, ([some (.ref (4)), some (.int (x)), some (.int (y)), some (.int (u)), some (.ref (5 + 3 + 5 * i))], [.ref (4), .int (y)]))) rfl ?_
  refine XV.getf C (ci := 4) (kf := 0) (v := .ref (5)) (xlk_ok okC_window rfl) rfl (by decide) wF_C_10 (by omega) (by omega) (cw_o) rfl ?_
  refine XV.callV C (As := []) (rest := [.int (y)]) (ci := 0) (ct_E_windows hfl cw_e (by omega) (by omega) (z := z) (hz) (by omega) (by omega)) (xlk_ok okC_window rfl) rfl (by omega) (by omega) rfl (cw_e 0 (by decide)) rfl wM_C_171 wI_E_windows wV_E_windows wN_E wB_E_windows hy_E_windows (fun q => q.elim) ⟨Nat.le_of_ble_eq_true rfl, Nat.le_of_ble_eq_true rfl⟩ ⟨Nat.le_of_ble_eq_true rfl, Nat.le_of_ble_eq_true rfl⟩ (Nat.le_of_ble_eq_true rfl) (fun r n h hp => ?_) (fun _ _ _ q => q.elim)
  obtain ⟨rfl, rfl, rfl⟩ := hp
  refine XV.callS C (As := [.int (y), .int (nI (25 - z))]) (rest := []) (ct_C_requireIndex hfl y (nI (25 - z))) (xlk_ok okC_window rfl) rfl wM_C_93 wS_C_requireIndex wN_C wB_C_requireIndex hy_C_requireIndex (fun q => q.elim) ⟨Nat.le_of_ble_eq_true rfl, Nat.le_of_ble_eq_true rfl⟩ ⟨Nat.le_of_ble_eq_true rfl, Nat.le_of_ble_eq_true rfl⟩ (Nat.le_of_ble_eq_true rfl) (fun r n h hp => ?_) (fun E n1 h1 q => by obtain ⟨⟨rfl, hbad⟩, rfl, rfl⟩ := q; exact XT.out C hnt (Nat.le_of_ble_eq_true rfl) (Nat.le_of_ble_eq_true rfl) (⟨Or.inr (Or.inl (⟨rfl, nbad hx hi hk, hbad⟩)), rfl, rfl⟩))
  obtain ⟨rfl, h1, rfl, rfl⟩ := hp
  obtain ⟨j, hj, hjl⟩ := ix_nat (d := (25 - z)) h1 rfl (by omega)
  refine XV.run C okC_window 3 (q := (21, ([some (.ref (4)), some (.int (x)), some (.int (y)), some (.int (u)), some (.ref (5 + 3 + 5 * i))], [.int (1), .int (0), .int (u)]))) rfl ?_
  refine XV.callS C (As := [.int (u), .int (0), .int (1)]) (rest := []) (ct_C_requireRange hfl u 0 1) (xlk_ok okC_window rfl) rfl wM_C_37 wS_C_requireRange wN_C wB_C_requireRange hy_C_requireRange (fun q => q.elim) ⟨Nat.le_of_ble_eq_true rfl, Nat.le_of_ble_eq_true rfl⟩ ⟨Nat.le_of_ble_eq_true rfl, Nat.le_of_ble_eq_true rfl⟩ (Nat.le_of_ble_eq_true rfl) (fun r n h hp => ?_) (fun E n1 h1 q => by obtain ⟨⟨rfl, hbad⟩, rfl, rfl⟩ := q; exact XT.out C hnt (Nat.le_of_ble_eq_true rfl) (Nat.le_of_ble_eq_true rfl) (⟨Or.inr (Or.inr (⟨rfl, nbad hx hi hk, h1, hbad⟩)), rfl, rfl⟩))
  obtain ⟨rfl, h2, rfl, rfl⟩ := hp
  obtain ⟨w, hw, hwl⟩ := rg_nat (d := 1) h2 rfl (by omega)
  refine XV.run C okC_window 4 (q := (29, ([some (.ref (4)), some (.int (x)), some (.int (y)), some (.int (u)), some (.ref (5 + 3 + 5 * i))], [.int (u), .int (y), .ref (5 + 3 + 5 * i), .ref (4)]))) rfl ?_
  refine XV.callV C (As := [.ref (5 + 3 + 5 * i), .int (y), .int (u)]) (rest := []) (ci := 4) (ct_C_windowFigure hfl hn hm hk hl (i := i) hi hz z1 z2 (j := j) (w := w) (hj) (hw) (by omega) (by omega)) (xlk_ok okC_window rfl) rfl (by omega) (by omega) rfl (cw_o) rfl wM_C_174 wI_C_windowFigure wV_C_windowFigure wN_C wB_C_windowFigure hy_C_windowFigure (fun q => q.elim) ⟨Nat.le_of_ble_eq_true rfl, Nat.le_of_ble_eq_true rfl⟩ ⟨Nat.le_of_ble_eq_true rfl, Nat.le_of_ble_eq_true rfl⟩ (Nat.le_of_ble_eq_true rfl) (fun r n h hp => ?_) (fun _ _ _ q => q.elim)
  obtain ⟨rfl, rfl, rfl⟩ := hp
  exact XV.iret C (xlk_ok okC_window rfl) hret rfl (Nat.le_of_ble_eq_true rfl) (Nat.le_of_ble_eq_true rfl) (⟨i, j, w, ⟨hx, hi, hj, hjl, hw, hwl⟩, rfl, rfl, rfl⟩)
set_option maxHeartbeats 4000000 in
set_option maxRecDepth 100000 in
theorem ct_C_count {l : Launch} (hfl : l.stackTraces = false) {G : XG} {n : Nat} {h : XH} {f : Nat → Int32} {o kp : Nat} {P : Nat → Nat → Int32} {tx : Nat → Int32} {len : Nat} {p : PT} {ρ : Nat → Int32} (hn : 209 ≤ n) {k : Nat} (hm : f 1 = nI k) (hk : k ≤ 5) (hl : ∀ i, i < k → 0 < rowOf f i 0) {z : Nat} (hz : f 2 = nI z) (z1 : 1 ≤ z) (z2 : z ≤ 12) (ho : o < 6) (hkp : kp ≤ 6) (x : Int32) : XCt l G False (Cond.code yC_count bC_count 2 (some .int)) yC_count 7 149 1 6 [.ref (4), .int (x)] n (setCW h f o kp P tx len p ρ) (fun r' n' h' => ∃ w, (x = nI w ∧ w ≤ 8) ∧ r' = some (.int (countFigK f z k kp w)) ∧ n' = n ∧ h' = setCW h f o kp P tx len p ρ) (fun E n' h' => ((E = XIAE ∧ ((x < 0 ∨ ¬ x ≤ 8)))) ∧ n' = n ∧ h' = setCW h f o kp P tx len p ρ) := by
  refine XCt.of hfl (by decide +kernel) (Nat.le_of_ble_eq_true rfl) ?_
  intro p' e' s' m' g' b' t' c' C hret hname hnt hmd
  refine XV.run C okC_count 3 (q := (4, ([some (.ref (4)), some (.int (x))], [.int (8), .int (0), .int (x)]))) rfl ?_
  refine XV.callS C (As := [.int (x), .int (0), .int (8)]) (rest := []) (ct_C_requireRange hfl x 0 8) (xlk_ok okC_count rfl) rfl wM_C_37 wS_C_requireRange wN_C wB_C_requireRange hy_C_requireRange (fun q => q.elim) ⟨Nat.le_of_ble_eq_true rfl, Nat.le_of_ble_eq_true rfl⟩ ⟨Nat.le_of_ble_eq_true rfl, Nat.le_of_ble_eq_true rfl⟩ (Nat.le_of_ble_eq_true rfl) (fun r n h hp => ?_) (fun E n1 h1 q => by obtain ⟨⟨rfl, hbad⟩, rfl, rfl⟩ := q; exact XT.out C hnt (Nat.le_of_ble_eq_true rfl) (Nat.le_of_ble_eq_true rfl) (⟨⟨rfl, hbad⟩, rfl, rfl⟩))
  obtain ⟨rfl, h1, rfl, rfl⟩ := hp
  obtain ⟨w, hw, hwl⟩ := rg_nat (d := 8) h1 rfl (by omega)
  refine XV.run C okC_count 2 (q := (9, ([some (.ref (4)), some (.int (x))], [.int (x), .ref (4)]))) rfl ?_
  refine XV.callV C (As := [.int (x)]) (rest := []) (ci := 4) (ct_C_countFigure hfl hn hm hk hl hz z1 z2 ho hkp (w := w) (hw) (by omega)) (xlk_ok okC_count rfl) rfl (by omega) (by omega) rfl (cw_o) rfl wM_C_178 wI_C_countFigure wV_C_countFigure wN_C wB_C_countFigure hy_C_countFigure (fun q => q.elim) ⟨Nat.le_of_ble_eq_true rfl, Nat.le_of_ble_eq_true rfl⟩ ⟨Nat.le_of_ble_eq_true rfl, Nat.le_of_ble_eq_true rfl⟩ (Nat.le_of_ble_eq_true rfl) (fun r n h hp => ?_) (fun _ _ _ q => q.elim)
  obtain ⟨rfl, rfl, rfl⟩ := hp
  exact XV.iret C (xlk_ok okC_count rfl) hret rfl (Nat.le_of_ble_eq_true rfl) (Nat.le_of_ble_eq_true rfl) (⟨w, ⟨hw, hwl⟩, rfl, rfl, rfl⟩)
theorem rg1_nat {x y : Int32} {d : Nat} (h : ¬ x < 1 ∧ x ≤ y) (hy : y = nI d) (hd : d + 1 < 2 ^ 31) : ∃ j, x = nI j ∧ 1 ≤ j ∧ j ≤ d := by
  obtain ⟨j, hj, hj2⟩ := rg_nat (x := x) ⟨fun q => h.1 (Int32.lt_trans q (by decide)), h.2⟩ hy hd
  refine ⟨j, hj, ?_, hj2⟩
  rcases Nat.eq_zero_or_pos j with q | q
  · subst q; subst hj; exact absurd (show nI 0 < 1 by decide) h.1
  · exact q
set_option maxHeartbeats 4000000 in
set_option maxRecDepth 100000 in
theorem ct_C_tripsLeft {l : Launch} (hfl : l.stackTraces = false) {G : XG} {n : Nat} {h : XH} {f : Nat → Int32} {o kp : Nat} {P : Nat → Nat → Int32} {tx : Nat → Int32} {len : Nat} {p : PT} {ρ : Nat → Int32} (hn : 209 ≤ n) {k : Nat} (hm : f 1 = nI k) (hk : k ≤ 5) (hl : ∀ i, i < k → 0 < rowOf f i 0) {z : Nat} (hz : f 2 = nI z) (z1 : 1 ≤ z) (z2 : z ≤ 12) (x : Int32) : XCt l G False (Cond.code yC_tripsLeft bC_tripsLeft 2 (some .int)) yC_tripsLeft 7 115 1 6 [.ref (4), .int (x)] n (setCW h f o kp P tx len p ρ) (fun r' n' h' => ∃ i, (x = nI i ∧ i < k) ∧ r' = some (.int (tlK f (rowOf f i) z 32 0 (f 3 * rowOf f i 0))) ∧ n' = n ∧ ∃ ρ', h' = setCW h f o kp P tx len p ρ') (fun E n' h' => ((E = XIOB ∧ ((x < 0 ∨ nI k ≤ x)))) ∧ n' = n ∧ h' = setCW h f o kp P tx len p ρ) := by
  refine XCt.of hfl (by decide +kernel) (Nat.le_of_ble_eq_true rfl) ?_
  intro p' e' s' m' g' b' t' c' C hret hname hnt hmd
  refine XV.run C okC_tripsLeft 3 (q := (3, ([some (.ref (4)), some (.int (x))], [.int (x), .ref (4), .ref (4)]))) rfl ?_
  refine XV.callV C (As := [.int (x)]) (rest := [.ref (4)]) (ci := 4) (ct_C_existingRope hfl hn hm hk hl (x)) (xlk_ok okC_tripsLeft rfl) rfl (by omega) (by omega) rfl (cw_o) rfl wM_C_60 wI_C_existingRope wV_C_existingRope wN_C wB_C_existingRope hy_C_existingRope (fun q => q.elim) ⟨Nat.le_of_ble_eq_true rfl, Nat.le_of_ble_eq_true rfl⟩ ⟨Nat.le_of_ble_eq_true rfl, Nat.le_of_ble_eq_true rfl⟩ (Nat.le_of_ble_eq_true rfl) (fun r n h hp => ?_) (fun E n1 h1 q => by obtain ⟨⟨rfl, hbad⟩, rfl, rfl⟩ := q; exact XT.out C hnt (Nat.le_of_ble_eq_true rfl) (Nat.le_of_ble_eq_true rfl) (⟨⟨rfl, hbad⟩, rfl, rfl⟩))
  obtain ⟨i, hx, hi, rfl, rfl, rfl⟩ := hp
  refine XV.callV C (As := [.ref (5 + 3 + 5 * i)]) (rest := []) (ci := 4) (ct_C_tripsToLimit hfl hn hm hk hl (i := i) hi hz z1 z2) (xlk_ok okC_tripsLeft rfl) rfl (by omega) (by omega) rfl (cw_o) rfl wM_C_188 wI_C_tripsToLimit wV_C_tripsToLimit wN_C wB_C_tripsToLimit hy_C_tripsToLimit (fun q => q.elim) ⟨Nat.le_of_ble_eq_true rfl, Nat.le_of_ble_eq_true rfl⟩ ⟨Nat.le_of_ble_eq_true rfl, Nat.le_of_ble_eq_true rfl⟩ (Nat.le_of_ble_eq_true rfl) (fun r n h hp => ?_) (fun _ _ _ q => q.elim)
  obtain ⟨rfl, rfl, ρ1, rfl⟩ := hp
  exact XV.iret C (xlk_ok okC_tripsLeft rfl) hret rfl (Nat.le_of_ble_eq_true rfl) (Nat.le_of_ble_eq_true rfl) (⟨i, ⟨hx, hi⟩, rfl, rfl, _, rfl⟩)
set_option maxHeartbeats 4000000 in
set_option maxRecDepth 100000 in
theorem ct_C_unseen {l : Launch} (hfl : l.stackTraces = false) {G : XG} {n : Nat} {h : XH} {f : Nat → Int32} {o kp : Nat} {P : Nat → Nat → Int32} {tx : Nat → Int32} {len : Nat} {p : PT} {ρ : Nat → Int32} (hn : 209 ≤ n) {k : Nat} (hm : f 1 = nI k) (hk : k ≤ 5) (hl : ∀ i, i < k → 0 < rowOf f i 0) {z : Nat} (hz : f 2 = nI z) (z1 : 1 ≤ z) (z2 : z ≤ 12) : XCt l G False (Cond.code yC_unseen bC_unseen 1 (some .int)) yC_unseen 6 131 0 0 [.ref (4)] n (setCW h f o kp P tx len p ρ) (fun r' n' h' => r' = some (.int (luK f z k 0)) ∧ n' = n ∧ ∃ ρ', h' = setCW h f o kp P tx len p ρ') (fun _ _ _ => False) := by
  refine XCt.of hfl (by decide +kernel) (Nat.le_of_ble_eq_true rfl) ?_
  intro p' e' s' m' g' b' t' c' C hret hname hnt hmd
  refine XV.run C okC_unseen 1 (q := (1, ([some (.ref (4))], [.ref (4)]))) rfl ?_
  refine XV.callV C (As := []) (rest := []) (ci := 4) (ct_C_lowestUnseen hfl hn hm hk hl hz z1 z2) (xlk_ok okC_unseen rfl) rfl (by omega) (by omega) rfl (cw_o) rfl wM_C_192 wI_C_lowestUnseen wV_C_lowestUnseen wN_C wB_C_lowestUnseen hy_C_lowestUnseen (fun q => q.elim) ⟨Nat.le_of_ble_eq_true rfl, Nat.le_of_ble_eq_true rfl⟩ ⟨Nat.le_of_ble_eq_true rfl, Nat.le_of_ble_eq_true rfl⟩ (Nat.le_of_ble_eq_true rfl) (fun r n h hp => ?_) (fun _ _ _ q => q.elim)
  obtain ⟨rfl, rfl, ρ1, rfl⟩ := hp
  exact XV.iret C (xlk_ok okC_unseen rfl) hret rfl (Nat.le_of_ble_eq_true rfl) (Nat.le_of_ble_eq_true rfl) (⟨rfl, rfl, _, rfl⟩)
