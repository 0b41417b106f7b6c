/-! Arrays.fill, Math.floorMod; RopeThreads$Rope: the writes, the constructor -/
set_option maxHeartbeats 4000000 in
set_option maxRecDepth 100000 in
theorem ct_JA_fill {l : Launch} (hfl : l.stackTraces = false) {G : XG} {n : Nat} {h : XH} {a N : Nat} {f : Nat → Int32} {x : Int32} (hh : h a = xar N f) (h4 : 4 ≤ a) (hn : a < n + 4) (hN : N < 2 ^ 31) : XCt l G False (Cond.code yJA_fill bJA_fill 4 none) yJA_fill 0 0 0 0 [.ref (a), .int (x)] n h (fun r' n' h' => r' = none ∧ n' = n ∧ h' = xup h a (xar N (fun _ => x))) (fun _ _ _ => False) := by
  refine XCt.of hfl (by decide +kernel) (Nat.le_of_ble_eq_true rfl) ?_
  intro p' e' s' m' g' b' t' c' C hret hname hnt hmd
  refine XV.run C okJA_fill 3 (q := (3, ([some (.ref (a)), some (.int (x)), some (.int (0)), none], [.ref (a)]))) rfl ?_
  refine XV.alenC C (N := N) (f := f) (xlk_ok okJA_fill rfl) (h4) (hn) (hh) ?_
  refine XV.run C okJA_fill 1 (q := (5, ([some (.ref (a)), some (.int (x)), some (.int (0)), some (.int (nI N))], []))) rfl ?_
  have loop : ∀ (d j : Nat), j + d = N → XV G 4 p' l e' ({ frames := 0, cells := 0, slots := 0, locals := 0 } : Room) s' m' g' b' t' c' (XEnd G b' (fun r' n' h' => r' = none ∧ n' = n ∧ h' = xup h a (xar N (fun _ => x))) (fun _ _ _ => False) g' s' 0 0) 5 [some (.ref (a)), some (.int (x)), some (.int (nI j)), some (.int (nI N))] [] n (xup h a (xar N (fillF f x j))) 0 0 := by
    intro d
    induction d with
    | zero =>
      intro j hj
      refine XV.run C okJA_fill 2 (q := (7, ([some (.ref (a)), some (.int (x)), some (.int (nI j)), some (.int (nI N))], [.int (nI N), .int (nI j)]))) rfl ?_
      refine XV.icmp_ge C (tgt := 20) (xlk_ok okJA_fill rfl) rfl (fun _ => ?_) (fun hc => absurd (nI_le (by omega) (by omega)) hc)
      exact XV.vret C (xlk_ok okJA_fill rfl) hret (Nat.le_of_ble_eq_true rfl) (Nat.le_of_ble_eq_true rfl) (⟨rfl, rfl, by rw [show j = N by omega, fillF_all]⟩)
    | succ d ih =>
      intro j hj
      refine XV.run C okJA_fill 2 (q := (7, ([some (.ref (a)), some (.int (x)), some (.int (nI j)), some (.int (nI N))], [.int (nI N), .int (nI j)]))) rfl ?_
      refine XV.icmp_ge C (tgt := 20) (xlk_ok okJA_fill rfl) rfl (fun hc => absurd hc (nI_ge (by omega) (by omega))) (fun _ => ?_)
      refine XV.run C okJA_fill 3 (q := (13, ([some (.ref (a)), some (.int (x)), some (.int (nI j)), some (.int (nI N))], [.int (x), .int (nI j), .ref (a)]))) rfl ?_
      refine XV.iastC C (N := N) (f := (fillF f x j)) (a := j) (xlk_ok okJA_fill rfl) (h4) (hn) (xup_at _ _ _) (rfl) (by omega) (hN) ?_
      refine XV.cast (by rw [xup_xup, fillF_s]) (h' := xup h a (xar N (fillF f x (j + 1)))) ?_
      refine XV.run C okJA_fill 2 (q := (5, ([some (.ref (a)), some (.int (x)), some (.int ((nI j) + 1)), some (.int (nI N))], []))) rfl ?_
      rw [nI_1]
      exact ih (j + 1) (by omega)
  refine XV.cast (by rw [fillF_0, xup_self hh]) (h' := xup h a (xar N (fillF f x 0))) ?_
  exact loop N 0 (by omega)
theorem fm_ge {i d : Nat} (hi : i < 2 ^ 31) (hd : d < 2 ^ 31) : 0 ≤ nI i ^^^ nI d := by
  have h1 : (nI i ^^^ nI d) = nI (i ^^^ d) := by
    unfold nI
    apply Int32.toBitVec_inj.mp
    rw [Int32.toBitVec_xor]
    show BitVec.ofNat 32 i ^^^ BitVec.ofNat 32 d = BitVec.ofNat 32 (i ^^^ d)
    exact BitVec.ofNat_xor.symm
  rw [h1]
  exact nI_pos' (Nat.xor_lt_two_pow hi hd)
set_option maxHeartbeats 4000000 in
set_option maxRecDepth 100000 in
theorem ct_JM_floorMod {l : Launch} (hfl : l.stackTraces = false) {G : XG} {n : Nat} {h : XH} {x y : Int32} {i d : Nat} (hx : x = nI i) (hy : y = nI d) (hi : i < 2 ^ 31) (h0 : 0 < d) (hd : d < 2 ^ 31) : XCt l G False (Cond.code yJM_floorMod bJM_floorMod 3 (some .int)) yJM_floorMod 0 0 0 0 [.int (x), .int (y)] n h (fun r' n' h' => r' = some (.int (nI (i % d))) ∧ n' = n ∧ h' = h) (fun _ _ _ => False) := by
  subst hx; subst hy
  refine XCt.ofF hfl (by decide +kernel) (Nat.le_of_ble_eq_true rfl) ?_
  intro p' e' s' m' g' b' t' c' C hret hname hnt hmd
  refine XV.run C okJM_floorMod 2 (q := (2, ([some (.int (nI i)), some (.int (nI d)), none], [.int (nI d), .int (nI i)]))) rfl ?_
  refine XV.irem C (xlk_ok okJM_floorMod rfl) (nI_ne0 h0 hd) ?_
  rw [pk_rem hi h0 hd]
  refine XV.run C okJM_floorMod 4 (q := (7, ([some (.int (nI i)), some (.int (nI d)), some (.int (nI (i % d)))], [.int ((nI i) ^^^ (nI d))]))) rfl ?_
  refine XV.if_ge C (tgt := 18) (xlk_ok okJM_floorMod rfl) rfl (fun _ => ?_) (fun hc => absurd (fm_ge hi hd) hc)
  refine XV.run C okJM_floorMod 1 (q := (19, ([some (.int (nI i)), some (.int (nI d)), some (.int (nI (i % d)))], [.int (nI (i % d))]))) rfl ?_
  exact XV.iret C (xlk_ok okJM_floorMod rfl) hret rfl (Nat.le_of_ble_eq_true rfl) (Nat.le_of_ble_eq_true rfl) (⟨rfl, rfl, rfl⟩)
set_option maxHeartbeats 4000000 in
set_option maxRecDepth 100000 in
theorem ct_R_renew {l : Launch} (hfl : l.stackTraces = false) {G : XG} {n : Nat} {h : XH} {a : Nat} {r : Nat → Int32} (hR : IsRope h a r) (h4 : 4 ≤ a) (hn : a + 5 ≤ n + 4) (q t : Int32) : XCt l G False (Cond.code yR_renew bR_renew 3 none) yR_renew 1 23 0 0 [.ref (a), .int (q), .int (t)] n h (fun r' n' h' => r' = none ∧ n' = n ∧ h' = setRope h a (rNew q t)) (fun _ _ _ => False) := by
  refine XCt.of hfl (by decide +kernel) (Nat.le_of_ble_eq_true rfl) ?_
  intro p' e' s' m' g' b' t' c' C hret hname hnt hmd
  refine XV.cast (setRope_self hR).symm ?_
  refine XV.run C okR_renew 1 (q := (1, ([some (.ref (a)), some (.int (q)), some (.int (t))], [.ref (a)]))) rfl ?_
  refine XV.getf C (ci := 2) (kf := 0) (v := .ref (a + 1)) (xlk_ok okR_renew rfl) rfl (by decide) wF_R_9 (by omega) (by omega) ((blk_is h a 5 (ropeC a (r))) 0 (by decide)) rfl ?_
  refine XV.run C okR_renew 1 (q := (5, ([some (.ref (a)), some (.int (q)), some (.int (t))], [.int (0), .ref (a + 1)]))) rfl ?_
  refine XV.callS C (As := [.ref (a + 1), .int (0)]) (rest := []) (ct_JA_fill hfl ((blk_is h a 5 (ropeC a (r))) 1 (by decide)) (by omega) (by omega) (by decide)) (xlk_ok okR_renew rfl) rfl wM_R_34 wS_JA_fill wN_JA wB_JA_fill hy_JA_fill (fun q => q.elim) ⟨Nat.le_of_ble_eq_true rfl, Nat.le_of_ble_eq_true rfl⟩ ⟨Nat.le_of_ble_eq_true rfl, Nat.le_of_ble_eq_true rfl⟩ (Nat.le_of_ble_eq_true rfl) (fun r n h hp => ?_) (fun _ _ _ q => q.elim)
  obtain ⟨rfl, rfl, rfl⟩ := hp
  refine XV.cast (setRope_fill _ a _ (0) 1 3 (by decide)) ?_
  refine XV.run C okR_renew 1 (q := (9, ([some (.ref (a)), some (.int (q)), some (.int (t))], [.ref (a)]))) rfl ?_
  refine XV.getf C (ci := 2) (kf := 1) (v := .ref (a + 2)) (xlk_ok okR_renew rfl) rfl (by decide) wF_R_15 (by omega) (by omega) ((blk_is h a 5 (ropeC a (rFill (r) 3 (0)))) 0 (by decide)) rfl ?_
  refine XV.run C okR_renew 1 (q := (13, ([some (.ref (a)), some (.int (q)), some (.int (t))], [.int (0), .ref (a + 2)]))) rfl ?_
  refine XV.callS C (As := [.ref (a + 2), .int (0)]) (rest := []) (ct_JA_fill hfl ((blk_is h a 5 (ropeC a (rFill (r) 3 (0)))) 2 (by decide)) (by omega) (by omega) (by decide)) (xlk_ok okR_renew rfl) rfl wM_R_34 wS_JA_fill wN_JA wB_JA_fill hy_JA_fill (fun q => q.elim) ⟨Nat.le_of_ble_eq_true rfl, Nat.le_of_ble_eq_true rfl⟩ ⟨Nat.le_of_ble_eq_true rfl, Nat.le_of_ble_eq_true rfl⟩ (Nat.le_of_ble_eq_true rfl) (fun r n h hp => ?_) (fun _ _ _ q => q.elim)
  obtain ⟨rfl, rfl, rfl⟩ := hp
  refine XV.cast (setRope_fill _ a _ (0) 2 27 (by decide)) ?_
  refine XV.run C okR_renew 1 (q := (17, ([some (.ref (a)), some (.int (q)), some (.int (t))], [.ref (a)]))) rfl ?_
  refine XV.getf C (ci := 2) (kf := 2) (v := .ref (a + 3)) (xlk_ok okR_renew rfl) rfl (by decide) wF_R_18 (by omega) (by omega) ((blk_is h a 5 (ropeC a (rFill (rFill (r) 3 (0)) 27 (0)))) 0 (by decide)) rfl ?_
  refine XV.run C okR_renew 1 (q := (21, ([some (.ref (a)), some (.int (q)), some (.int (t))], [.int (0), .ref (a + 3)]))) rfl ?_
  refine XV.callS C (As := [.ref (a + 3), .int (0)]) (rest := []) (ct_JA_fill hfl ((blk_is h a 5 (ropeC a (rFill (rFill (r) 3 (0)) 27 (0)))) 3 (by decide)) (by omega) (by omega) (by decide)) (xlk_ok okR_renew rfl) rfl wM_R_34 wS_JA_fill wN_JA wB_JA_fill hy_JA_fill (fun q => q.elim) ⟨Nat.le_of_ble_eq_true rfl, Nat.le_of_ble_eq_true rfl⟩ ⟨Nat.le_of_ble_eq_true rfl, Nat.le_of_ble_eq_true rfl⟩ (Nat.le_of_ble_eq_true rfl) (fun r n h hp => ?_) (fun _ _ _ q => q.elim)
  obtain ⟨rfl, rfl, rfl⟩ := hp
  refine XV.cast (setRope_fill _ a _ (0) 3 51 (by decide)) ?_
  refine XV.run C okR_renew 1 (q := (25, ([some (.ref (a)), some (.int (q)), some (.int (t))], [.ref (a)]))) rfl ?_
  refine XV.getf C (ci := 2) (kf := 3) (v := .ref (a + 4)) (xlk_ok okR_renew rfl) rfl (by decide) wF_R_21 (by omega) (by omega) ((blk_is h a 5 (ropeC a (rFill (rFill (rFill (r) 3 (0)) 27 (0)) 51 (0)))) 0 (by decide)) rfl ?_
  refine XV.run C okR_renew 1 (q := (29, ([some (.ref (a)), some (.int (q)), some (.int (t))], [.int (t), .ref (a + 4)]))) rfl ?_
  refine XV.callS C (As := [.ref (a + 4), .int (t)]) (rest := []) (ct_JA_fill hfl ((blk_is h a 5 (ropeC a (rFill (rFill (rFill (r) 3 (0)) 27 (0)) 51 (0)))) 4 (by decide)) (by omega) (by omega) (by decide)) (xlk_ok okR_renew rfl) rfl wM_R_34 wS_JA_fill wN_JA wB_JA_fill hy_JA_fill (fun q => q.elim) ⟨Nat.le_of_ble_eq_true rfl, Nat.le_of_ble_eq_true rfl⟩ ⟨Nat.le_of_ble_eq_true rfl, Nat.le_of_ble_eq_true rfl⟩ (Nat.le_of_ble_eq_true rfl) (fun r n h hp => ?_) (fun _ _ _ q => q.elim)
  obtain ⟨rfl, rfl, rfl⟩ := hp
  refine XV.cast (setRope_fill _ a _ (t) 4 75 (by decide)) ?_
  refine XV.run C okR_renew 2 (q := (34, ([some (.ref (a)), some (.int (q)), some (.int (t))], [.int (q), .ref (a)]))) rfl ?_
  refine XV.putf C (ci := 2) (kf := 4) (ty := .int) (xlk_ok okR_renew rfl) rfl (by decide) wF_R_24 (by omega) (by omega) ((blk_is h a 5 (ropeC a (rFill (rFill (rFill (rFill (r) 3 (0)) 27 (0)) 51 (0)) 75 (t)))) 0 (by decide)) rfl rfl rfl rfl (Nat.le_of_ble_eq_true rfl) ?_
  refine XV.cast (setRope_f0 _ a _ (q)) ?_
  refine XV.run C okR_renew 2 (q := (39, ([some (.ref (a)), some (.int (q)), some (.int (t))], [.int (t), .ref (a)]))) rfl ?_
  refine XV.putf C (ci := 2) (kf := 5) (ty := .int) (xlk_ok okR_renew rfl) rfl (by decide) wF_R_28 (by omega) (by omega) ((blk_is h a 5 (ropeC a (upd (rFill (rFill (rFill (rFill (r) 3 (0)) 27 (0)) 51 (0)) 75 (t)) 0 (q)))) 0 (by decide)) rfl rfl rfl rfl (Nat.le_of_ble_eq_true rfl) ?_
  refine XV.cast (setRope_f1 _ a _ (t)) ?_
  refine XV.run C okR_renew 2 (q := (44, ([some (.ref (a)), some (.int (q)), some (.int (t))], [.int (0), .ref (a)]))) rfl ?_
  refine XV.putf C (ci := 2) (kf := 6) (ty := .int) (xlk_ok okR_renew rfl) rfl (by decide) wF_R_31 (by omega) (by omega) ((blk_is h a 5 (ropeC a (upd (upd (rFill (rFill (rFill (rFill (r) 3 (0)) 27 (0)) 51 (0)) 75 (t)) 0 (q)) 1 (t)))) 0 (by decide)) rfl rfl rfl rfl (Nat.le_of_ble_eq_true rfl) ?_
  refine XV.cast (setRope_f2 _ a _ (0)) ?_
  exact XV.vret C (xlk_ok okR_renew rfl) hret (Nat.le_of_ble_eq_true rfl) (Nat.le_of_ble_eq_true rfl) (⟨rfl, rfl, setRope_congr (rNew_eq r q t)⟩)
set_option maxHeartbeats 4000000 in
set_option maxRecDepth 100000 in
theorem ct_R_bend {l : Launch} (hfl : l.stackTraces = false) {G : XG} {n : Nat} {h : XH} {a : Nat} {r : Nat → Int32} (hR : IsRope h a r) (h4 : 4 ≤ a) (hn : a + 5 ≤ n + 4) {x y : Int32} {i w b : Nat} (hx : x = nI i) (hy : y = nI b) (hb : b < 24) (hw : i + w = b + 1) (t : Int32) : XCt l G False (Cond.code yR_bend bR_bend 5 none) yR_bend 0 0 0 0 [.ref (a), .int (x), .int (y), .int (t)] n h (fun r' n' h' => r' = none ∧ n' = n ∧ h' = setRope h a (rBendT r i w t)) (fun _ _ _ => False) := by
  subst hx; subst hy
  refine XCt.of hfl (by decide +kernel) (Nat.le_of_ble_eq_true rfl) ?_
  intro p' e' s' m' g' b' t' c' C hret hname hnt hmd
  refine XV.cast (setRope_self hR).symm ?_
  refine XV.run C okR_bend 2 (q := (3, ([some (.ref (a)), some (.int (nI i)), some (.int (nI b)), some (.int (t)), some (.int (nI i))], []))) rfl ?_
  have loop : ∀ (d j : Nat), j + d = w → XV G 5 p' l e' ({ frames := 0, cells := 0, slots := 0, locals := 0 } : Room) s' m' g' b' t' c' (XEnd G b' (fun r' n' h' => r' = none ∧ n' = n ∧ h' = setRope h a (rBendT r i w t)) (fun _ _ _ => False) g' s' 0 0) 3 [some (.ref (a)), some (.int (nI i)), some (.int (nI b)), some (.int (t)), some (.int (nI (i + j)))] [] n (setRope h a (rBend r i j t)) 0 0 := by
    intro d
    induction d with
    | zero =>
      intro j hj
      refine XV.run C okR_bend 1 (q := (5, ([some (.ref (a)), some (.int (nI i)), some (.int (nI b)), some (.int (t)), some (.int (nI (i + j)))], [.int (nI (i + j))]))) rfl ?_
      refine XV.if_lt C (tgt := 38) (xlk_ok okR_bend rfl) rfl (fun hc => absurd hc (nI_pos (by omega))) (fun _ => ?_)
      refine XV.run C okR_bend 2 (q := (11, ([some (.ref (a)), some (.int (nI i)), some (.int (nI b)), some (.int (t)), some (.int (nI (i + j)))], [.int (nI b), .int (nI (i + j))]))) rfl ?_
      refine XV.icmp_gt C (tgt := 38) (xlk_ok okR_bend rfl) rfl (fun _ => ?_) (fun hc => absurd (nI_lt (by omega) (by omega)) hc)
      refine XV.run C okR_bend 2 (q := (40, ([some (.ref (a)), some (.int (nI i)), some (.int (nI b)), some (.int (t)), some (.int (nI (i + j)))], [.ref (a), .ref (a)]))) rfl ?_
      refine XV.getf C (ci := 2) (kf := 6) (v := .int ((rBend r i j t) 2)) (xlk_ok okR_bend rfl) rfl (by decide) wF_R_31 (by omega) (by omega) ((blk_is h a 5 (ropeC a (rBend r i j t))) 0 (by decide)) rfl ?_
      refine XV.run C okR_bend 2 (q := (45, ([some (.ref (a)), some (.int (nI i)), some (.int (nI b)), some (.int (t)), some (.int (nI (i + j)))], [.int (((rBend r i j t) 2) + t), .ref (a)]))) rfl ?_
      refine XV.putf C (ci := 2) (kf := 6) (ty := .int) (xlk_ok okR_bend rfl) rfl (by decide) wF_R_31 (by omega) (by omega) ((blk_is h a 5 (ropeC a (rBend r i j t))) 0 (by decide)) rfl rfl rfl rfl (Nat.le_of_ble_eq_true rfl) ?_
      refine XV.cast (setRope_f2 _ a _ (((rBend r i j t) 2) + t)) ?_
      exact XV.vret C (xlk_ok okR_bend rfl) hret (Nat.le_of_ble_eq_true rfl) (Nat.le_of_ble_eq_true rfl) (⟨rfl, rfl, by rw [show j = w by omega, show rBend r i w t 2 = r 2 from if_neg (by omega)]; rfl⟩)
    | succ d ih =>
      intro j hj
      refine XV.run C okR_bend 1 (q := (5, ([some (.ref (a)), some (.int (nI i)), some (.int (nI b)), some (.int (t)), some (.int (nI (i + j)))], [.int (nI (i + j))]))) rfl ?_
      refine XV.if_lt C (tgt := 38) (xlk_ok okR_bend rfl) rfl (fun hc => absurd hc (nI_pos (by omega))) (fun _ => ?_)
      refine XV.run C okR_bend 2 (q := (11, ([some (.ref (a)), some (.int (nI i)), some (.int (nI b)), some (.int (t)), some (.int (nI (i + j)))], [.int (nI b), .int (nI (i + j))]))) rfl ?_
      refine XV.icmp_gt C (tgt := 38) (xlk_ok okR_bend rfl) rfl (fun hc => absurd hc (nI_nlt (by omega) (by omega))) (fun _ => ?_)
      refine XV.run C okR_bend 2 (q := (18, ([some (.ref (a)), some (.int (nI i)), some (.int (nI b)), some (.int (t)), some (.int (nI (i + j)))], [.int (24), .int (nI (i + j))]))) rfl ?_
      refine XV.icmp_ge C (tgt := 38) (xlk_ok okR_bend rfl) rfl (fun hc => absurd hc (nI_ge (b := 24) (by omega) (by omega))) (fun _ => ?_)
      refine XV.run C okR_bend 1 (q := (22, ([some (.ref (a)), some (.int (nI i)), some (.int (nI b)), some (.int (t)), some (.int (nI (i + j)))], [.ref (a)]))) rfl ?_
      refine XV.getf C (ci := 2) (kf := 0) (v := .ref (a + 1)) (xlk_ok okR_bend rfl) rfl (by decide) wF_R_9 (by omega) (by omega) ((blk_is h a 5 (ropeC a (rBend r i j t))) 0 (by decide)) rfl ?_
      refine XV.run C okR_bend 2 (q := (28, ([some (.ref (a)), some (.int (nI i)), some (.int (nI b)), some (.int (t)), some (.int (nI (i + j)))], [.int (nI (i + j)), .ref (a + 1), .int (nI (i + j)), .ref (a + 1)]))) rfl ?_
      refine XV.ialdC C (N := 24) (f := (fun s => (rBend r i j t) (3 + s))) (a := (i + j)) (xlk_ok okR_bend rfl) (by omega) (by omega) ((blk_is h a 5 (ropeC a (rBend r i j t))) 1 (by decide)) (rfl) (by omega) (by decide) ?_
      refine XV.run C okR_bend 2 (q := (31, ([some (.ref (a)), some (.int (nI i)), some (.int (nI b)), some (.int (t)), some (.int (nI (i + j)))], [.int (((rBend r i j t) (3 + (i + j))) + t), .int (nI (i + j)), .ref (a + 1)]))) rfl ?_
      refine XV.iastC C (N := 24) (f := (fun s => (rBend r i j t) (3 + s))) (a := (i + j)) (xlk_ok okR_bend rfl) (by omega) (by omega) ((blk_is h a 5 (ropeC a (rBend r i j t))) 1 (by decide)) (rfl) (by omega) (by decide) ?_
      refine XV.cast (setRope_up _ a _ 1 3 ((i + j)) (((rBend r i j t) (3 + (i + j))) + t) (by decide) (by omega)) ?_
      refine XV.run C okR_bend 2 (q := (3, ([some (.ref (a)), some (.int (nI i)), some (.int (nI b)), some (.int (t)), some (.int ((nI (i + j)) + 1))], []))) rfl ?_
      rw [nI_1]
      refine XV.cast (congrArg (setRope h a) (rBend_s r i j t)) ?_
      exact ih (j + 1) (by omega)
  refine XV.cast (by rw [rBend_0]) (h' := setRope h a (rBend r i 0 t)) ?_
  exact loop w 0 (by omega)
theorem lk_q {r : Nat → Int32} {i j c : Nat} {t x : Int32} (hq : 0 < r 0) (hc : 0 < c) : 0 < upd (rLook r i j t) c x 0 := by
  rw [upd_ne (by omega)]
  unfold rLook
  rw [if_neg (by omega), if_neg (by omega), if_neg (by omega)]
  exact hq
set_option maxHeartbeats 4000000 in
set_option maxRecDepth 100000 in
theorem ct_R_lookAt {l : Launch} (hfl : l.stackTraces = false) {G : XG} {n : Nat} {h : XH} {a : Nat} {r : Nat → Int32} (hR : IsRope h a r) (h4 : 4 ≤ a) (hn : a + 5 ≤ n + 4) {x y : Int32} {i w b : Nat} (hx : x = nI i) (hy : y = nI b) (hb : b < 24) (hw : i + w = b + 1) (t : Int32) (hq : 0 < r 0) : XCt l G False (Cond.code yR_lookAt bR_lookAt 5 none) yR_lookAt 1 21 0 0 [.ref (a), .int (x), .int (y), .int (t)] n h (fun r' n' h' => r' = none ∧ n' = n ∧ h' = setRope h a (rLook r i w t)) (fun _ _ _ => False) := by
  subst hx; subst hy
  refine XCt.of hfl (by decide +kernel) (Nat.le_of_ble_eq_true rfl) ?_
  intro p' e' s' m' g' b' t' c' C hret hname hnt hmd
  refine XV.cast (setRope_self hR).symm ?_
  refine XV.run C okR_lookAt 2 (q := (3, ([some (.ref (a)), some (.int (nI i)), some (.int (nI b)), some (.int (t)), some (.int (nI i))], []))) rfl ?_
  have loop : ∀ (d j : Nat), j + d = w → XV G 5 p' l e' ({ frames := 1, cells := 0, slots := 0, locals := 21 } : Room) s' m' g' b' t' c' (XEnd G b' (fun r' n' h' => r' = none ∧ n' = n ∧ h' = setRope h a (rLook r i w t)) (fun _ _ _ => False) g' s' 0 0) 3 [some (.ref (a)), some (.int (nI i)), some (.int (nI b)), some (.int (t)), some (.int (nI (i + j)))] [] n (setRope h a (rLook r i j t)) 0 0 := by
    intro d
    induction d with
    | zero =>
      intro j hj
      refine XV.run C okR_lookAt 1 (q := (5, ([some (.ref (a)), some (.int (nI i)), some (.int (nI b)), some (.int (t)), some (.int (nI (i + j)))], [.int (nI (i + j))]))) rfl ?_
      refine XV.if_lt C (tgt := 62) (xlk_ok okR_lookAt rfl) rfl (fun hc => absurd hc (nI_pos (by omega))) (fun _ => ?_)
      refine XV.run C okR_lookAt 2 (q := (11, ([some (.ref (a)), some (.int (nI i)), some (.int (nI b)), some (.int (t)), some (.int (nI (i + j)))], [.int (nI b), .int (nI (i + j))]))) rfl ?_
      refine XV.icmp_gt C (tgt := 62) (xlk_ok okR_lookAt rfl) rfl (fun _ => ?_) (fun hc => absurd (nI_lt (by omega) (by omega)) hc)
      exact XV.vret C (xlk_ok okR_lookAt rfl) hret (Nat.le_of_ble_eq_true rfl) (Nat.le_of_ble_eq_true rfl) (⟨rfl, rfl, by rw [show j = w by omega]⟩)
    | succ d ih =>
      intro j hj
      refine XV.run C okR_lookAt 1 (q := (5, ([some (.ref (a)), some (.int (nI i)), some (.int (nI b)), some (.int (t)), some (.int (nI (i + j)))], [.int (nI (i + j))]))) rfl ?_
      refine XV.if_lt C (tgt := 62) (xlk_ok okR_lookAt rfl) rfl (fun hc => absurd hc (nI_pos (by omega))) (fun _ => ?_)
      refine XV.run C okR_lookAt 2 (q := (11, ([some (.ref (a)), some (.int (nI i)), some (.int (nI b)), some (.int (t)), some (.int (nI (i + j)))], [.int (nI b), .int (nI (i + j))]))) rfl ?_
      refine XV.icmp_gt C (tgt := 62) (xlk_ok okR_lookAt rfl) rfl (fun hc => absurd hc (nI_nlt (by omega) (by omega))) (fun _ => ?_)
      refine XV.run C okR_lookAt 2 (q := (18, ([some (.ref (a)), some (.int (nI i)), some (.int (nI b)), some (.int (t)), some (.int (nI (i + j)))], [.int (24), .int (nI (i + j))]))) rfl ?_
      refine XV.icmp_ge C (tgt := 62) (xlk_ok okR_lookAt rfl) rfl (fun hc => absurd hc (nI_ge (b := 24) (by omega) (by omega))) (fun _ => ?_)
      refine XV.run C okR_lookAt 1 (q := (22, ([some (.ref (a)), some (.int (nI i)), some (.int (nI b)), some (.int (t)), some (.int (nI (i + j)))], [.ref (a)]))) rfl ?_
      refine XV.getf C (ci := 2) (kf := 2) (v := .ref (a + 3)) (xlk_ok okR_lookAt rfl) rfl (by decide) wF_R_18 (by omega) (by omega) ((blk_is h a 5 (ropeC a (rLook r i j t))) 0 (by decide)) rfl ?_
      refine XV.run C okR_lookAt 2 (q := (28, ([some (.ref (a)), some (.int (nI i)), some (.int (nI b)), some (.int (t)), some (.int (nI (i + j)))], [.ref (a), .int (nI (i + j)), .ref (a + 3)]))) rfl ?_
      refine XV.getf C (ci := 2) (kf := 1) (v := .ref (a + 2)) (xlk_ok okR_lookAt rfl) rfl (by decide) wF_R_15 (by omega) (by omega) ((blk_is h a 5 (ropeC a (rLook r i j t))) 0 (by decide)) rfl ?_
      refine XV.run C okR_lookAt 1 (q := (33, ([some (.ref (a)), some (.int (nI i)), some (.int (nI b)), some (.int (t)), some (.int (nI (i + j)))], [.int (nI (i + j)), .ref (a + 2), .int (nI (i + j)), .ref (a + 3)]))) rfl ?_
      refine XV.ialdC C (N := 24) (f := (fun s => (rLook r i j t) (27 + s))) (a := (i + j)) (xlk_ok okR_lookAt rfl) (by omega) (by omega) ((blk_is h a 5 (ropeC a (rLook r i j t))) 2 (by decide)) (rfl) (by omega) (by decide) ?_
      refine XV.iastC C (N := 24) (f := (fun s => (rLook r i j t) (51 + s))) (a := (i + j)) (xlk_ok okR_lookAt rfl) (by omega) (by omega) ((blk_is h a 5 (ropeC a (rLook r i j t))) 3 (by decide)) (rfl) (by omega) (by decide) ?_
      refine XV.cast (setRope_up _ a _ 3 51 ((i + j)) ((rLook r i j t) (27 + (i + j))) (by decide) (by omega)) ?_
      refine XV.run C okR_lookAt 1 (q := (36, ([some (.ref (a)), some (.int (nI i)), some (.int (nI b)), some (.int (t)), some (.int (nI (i + j)))], [.ref (a)]))) rfl ?_
      refine XV.getf C (ci := 2) (kf := 1) (v := .ref (a + 2)) (xlk_ok okR_lookAt rfl) rfl (by decide) wF_R_15 (by omega) (by omega) ((blk_is h a 5 (ropeC a (upd (rLook r i j t) (51 + (i + j)) ((rLook r i j t) (27 + (i + j)))))) 0 (by decide)) rfl ?_
      refine XV.run C okR_lookAt 3 (q := (44, ([some (.ref (a)), some (.int (nI i)), some (.int (nI b)), some (.int (t)), some (.int (nI (i + j)))], [.int (nI (i + j)), .ref (a), .int (nI (i + j)), .ref (a + 2)]))) rfl ?_
      refine XV.callV C (As := [.int (nI (i + j))]) (rest := [.int (nI (i + j)), .ref (a + 2)]) (ci := 2) (ct_R_broken hfl (blk_is h a 5 (ropeC a (upd (rLook r i j t) (51 + (i + j)) ((rLook r i j t) (27 + (i + j)))))) (by omega) (by omega) (i := i + j) (rfl) (by omega) (lk_q hq (by omega))) (xlk_ok okR_lookAt rfl) rfl (by omega) (by omega) rfl ((blk_is h a 5 (ropeC a (upd (rLook r i j t) (51 + (i + j)) ((rLook r i j t) (27 + (i + j)))))) 0 (by decide)) rfl wM_R_46 wI_R_broken wV_R_broken wN_R wB_R_broken hy_R_broken (fun q => q.elim) ⟨Nat.le_of_ble_eq_true rfl, Nat.le_of_ble_eq_true rfl⟩ ⟨Nat.le_of_ble_eq_true rfl, Nat.le_of_ble_eq_true rfl⟩ (Nat.le_of_ble_eq_true rfl) (fun r n h hp => ?_) (fun _ _ _ q => q.elim)
      obtain ⟨rfl, rfl, rfl⟩ := hp
      refine XV.iastC C (N := 24) (f := (fun s => (upd (rLook r i j t) (51 + (i + j)) ((rLook r i j t) (27 + (i + j)))) (27 + s))) (a := (i + j)) (xlk_ok okR_lookAt rfl) (by omega) (by omega) ((blk_is h a 5 (ropeC a (upd (rLook r i j t) (51 + (i + j)) ((rLook r i j t) (27 + (i + j)))))) 2 (by decide)) (rfl) (by omega) (by decide) ?_
      refine XV.cast (setRope_up _ a _ 2 27 ((i + j)) (brk (upd (rLook r i j t) (51 + (i + j)) ((rLook r i j t) (27 + (i + j)))) (i + j)) (by decide) (by omega)) ?_
      refine XV.run C okR_lookAt 1 (q := (49, ([some (.ref (a)), some (.int (nI i)), some (.int (nI b)), some (.int (t)), some (.int (nI (i + j)))], [.ref (a)]))) rfl ?_
      refine XV.getf C (ci := 2) (kf := 3) (v := .ref (a + 4)) (xlk_ok okR_lookAt rfl) rfl (by decide) wF_R_21 (by omega) (by omega) ((blk_is h a 5 (ropeC a (upd (upd (rLook r i j t) (51 + (i + j)) ((rLook r i j t) (27 + (i + j)))) (27 + (i + j)) (brk (upd (rLook r i j t) (51 + (i + j)) ((rLook r i j t) (27 + (i + j)))) (i + j))))) 0 (by decide)) rfl ?_
      refine XV.run C okR_lookAt 2 (q := (55, ([some (.ref (a)), some (.int (nI i)), some (.int (nI b)), some (.int (t)), some (.int (nI (i + j)))], [.int (t), .int (nI (i + j)), .ref (a + 4)]))) rfl ?_
      refine XV.iastC C (N := 24) (f := (fun s => (upd (upd (rLook r i j t) (51 + (i + j)) ((rLook r i j t) (27 + (i + j)))) (27 + (i + j)) (brk (upd (rLook r i j t) (51 + (i + j)) ((rLook r i j t) (27 + (i + j)))) (i + j))) (75 + s))) (a := (i + j)) (xlk_ok okR_lookAt rfl) (by omega) (by omega) ((blk_is h a 5 (ropeC a (upd (upd (rLook r i j t) (51 + (i + j)) ((rLook r i j t) (27 + (i + j)))) (27 + (i + j)) (brk (upd (rLook r i j t) (51 + (i + j)) ((rLook r i j t) (27 + (i + j)))) (i + j))))) 4 (by decide)) (rfl) (by omega) (by decide) ?_
      refine XV.cast (setRope_up _ a _ 4 75 ((i + j)) (t) (by decide) (by omega)) ?_
      refine XV.run C okR_lookAt 2 (q := (3, ([some (.ref (a)), some (.int (nI i)), some (.int (nI b)), some (.int (t)), some (.int ((nI (i + j)) + 1))], []))) rfl ?_
      rw [nI_1]
      refine XV.cast (congrArg (setRope h a) (rLook_s r i j t (by omega))) ?_
      exact ih (j + 1) (by omega)
  refine XV.cast (by rw [rLook_0]) (h' := setRope h a (rLook r i 0 t)) ?_
  exact loop w 0 (by omega)
set_option maxHeartbeats 4000000 in
set_option maxRecDepth 100000 in
theorem ct_R_copyFrom {l : Launch} (hfl : l.stackTraces = false) {G : XG} {n : Nat} {h : XH} {a : Nat} {r : Nat → Int32} (hR : IsRope h a r) (h4 : 4 ≤ a) (hn : a + 5 ≤ n + 4) {b : Nat} {q : Nat → Int32} (hB : IsRope h b q) (b4 : 4 ≤ b) (bn : b + 5 ≤ n + 4) (hd : b + 5 ≤ a ∨ a + 5 ≤ b) : XCt l G False (Cond.code yR_copyFrom bR_copyFrom 2 none) yR_copyFrom 1 26 0 0 [.ref (a), .ref (b)] n h (fun r' n' h' => r' = none ∧ n' = n ∧ h' = setRope h a (q)) (fun _ _ _ => False) := by
  refine XCt.of hfl (by decide +kernel) (Nat.le_of_ble_eq_true rfl) ?_
  intro p' e' s' m' g' b' t' c' C hret hname hnt hmd
  refine XV.cast (setRope_self hR).symm ?_
  refine XV.run C okR_copyFrom 1 (q := (1, ([some (.ref (a)), some (.ref (b))], [.ref (b)]))) rfl ?_
  refine XV.getf C (ci := 2) (kf := 0) (v := .ref (b + 1)) (xlk_ok okR_copyFrom rfl) rfl (by decide) wF_R_9 (by omega) (by omega) ((hB.out hd) 0 (by decide)) rfl ?_
  refine XV.run C okR_copyFrom 2 (q := (6, ([some (.ref (a)), some (.ref (b))], [.ref (a), .int (0), .ref (b + 1)]))) rfl ?_
  refine XV.getf C (ci := 2) (kf := 0) (v := .ref (a + 1)) (xlk_ok okR_copyFrom rfl) rfl (by decide) wF_R_9 (by omega) (by omega) ((blk_is h a 5 (ropeC a (r))) 0 (by decide)) rfl ?_
  refine XV.run C okR_copyFrom 2 (q := (12, ([some (.ref (a)), some (.ref (b))], [.int (24), .int (0), .ref (a + 1), .int (0), .ref (b + 1)]))) rfl ?_
  refine XV.copyC C (N := 24) (f := (fun s => q (3 + s))) (g := (fun s => r (3 + s))) (xlk_ok okR_copyFrom rfl) wM_R_40 (by omega) (by omega) (by omega) (by omega) ((hB.out hd) 1 (by decide)) ((blk_is h a 5 (ropeC a (r))) 1 (by decide)) rfl (by decide) (Nat.le_of_ble_eq_true rfl) (Nat.le_of_ble_eq_true rfl) ?_
  refine XV.cast (setRope_arr2 _ a _ q 1 3 (by decide)) ?_
  refine XV.run C okR_copyFrom 1 (q := (16, ([some (.ref (a)), some (.ref (b))], [.ref (b)]))) rfl ?_
  refine XV.getf C (ci := 2) (kf := 1) (v := .ref (b + 2)) (xlk_ok okR_copyFrom rfl) rfl (by decide) wF_R_15 (by omega) (by omega) ((hB.out hd) 0 (by decide)) rfl ?_
  refine XV.run C okR_copyFrom 2 (q := (21, ([some (.ref (a)), some (.ref (b))], [.ref (a), .int (0), .ref (b + 2)]))) rfl ?_
  refine XV.getf C (ci := 2) (kf := 1) (v := .ref (a + 2)) (xlk_ok okR_copyFrom rfl) rfl (by decide) wF_R_15 (by omega) (by omega) ((blk_is h a 5 (ropeC a (rArr (r) 3 q))) 0 (by decide)) rfl ?_
  refine XV.run C okR_copyFrom 2 (q := (27, ([some (.ref (a)), some (.ref (b))], [.int (24), .int (0), .ref (a + 2), .int (0), .ref (b + 2)]))) rfl ?_
  refine XV.copyC C (N := 24) (f := (fun s => q (27 + s))) (g := (fun s => (rArr (r) 3 q) (27 + s))) (xlk_ok okR_copyFrom rfl) wM_R_40 (by omega) (by omega) (by omega) (by omega) ((hB.out hd) 2 (by decide)) ((blk_is h a 5 (ropeC a (rArr (r) 3 q))) 2 (by decide)) rfl (by decide) (Nat.le_of_ble_eq_true rfl) (Nat.le_of_ble_eq_true rfl) ?_
  refine XV.cast (setRope_arr2 _ a _ q 2 27 (by decide)) ?_
  refine XV.run C okR_copyFrom 1 (q := (31, ([some (.ref (a)), some (.ref (b))], [.ref (b)]))) rfl ?_
  refine XV.getf C (ci := 2) (kf := 2) (v := .ref (b + 3)) (xlk_ok okR_copyFrom rfl) rfl (by decide) wF_R_18 (by omega) (by omega) ((hB.out hd) 0 (by decide)) rfl ?_
  refine XV.run C okR_copyFrom 2 (q := (36, ([some (.ref (a)), some (.ref (b))], [.ref (a), .int (0), .ref (b + 3)]))) rfl ?_
  refine XV.getf C (ci := 2) (kf := 2) (v := .ref (a + 3)) (xlk_ok okR_copyFrom rfl) rfl (by decide) wF_R_18 (by omega) (by omega) ((blk_is h a 5 (ropeC a (rArr (rArr (r) 3 q) 27 q))) 0 (by decide)) rfl ?_
  refine XV.run C okR_copyFrom 2 (q := (42, ([some (.ref (a)), some (.ref (b))], [.int (24), .int (0), .ref (a + 3), .int (0), .ref (b + 3)]))) rfl ?_
  refine XV.copyC C (N := 24) (f := (fun s => q (51 + s))) (g := (fun s => (rArr (rArr (r) 3 q) 27 q) (51 + s))) (xlk_ok okR_copyFrom rfl) wM_R_40 (by omega) (by omega) (by omega) (by omega) ((hB.out hd) 3 (by decide)) ((blk_is h a 5 (ropeC a (rArr (rArr (r) 3 q) 27 q))) 3 (by decide)) rfl (by decide) (Nat.le_of_ble_eq_true rfl) (Nat.le_of_ble_eq_true rfl) ?_
  refine XV.cast (setRope_arr2 _ a _ q 3 51 (by decide)) ?_
  refine XV.run C okR_copyFrom 1 (q := (46, ([some (.ref (a)), some (.ref (b))], [.ref (b)]))) rfl ?_
  refine XV.getf C (ci := 2) (kf := 3) (v := .ref (b + 4)) (xlk_ok okR_copyFrom rfl) rfl (by decide) wF_R_21 (by omega) (by omega) ((hB.out hd) 0 (by decide)) rfl ?_
  refine XV.run C okR_copyFrom 2 (q := (51, ([some (.ref (a)), some (.ref (b))], [.ref (a), .int (0), .ref (b + 4)]))) rfl ?_
  refine XV.getf C (ci := 2) (kf := 3) (v := .ref (a + 4)) (xlk_ok okR_copyFrom rfl) rfl (by decide) wF_R_21 (by omega) (by omega) ((blk_is h a 5 (ropeC a (rArr (rArr (rArr (r) 3 q) 27 q) 51 q))) 0 (by decide)) rfl ?_
  refine XV.run C okR_copyFrom 2 (q := (57, ([some (.ref (a)), some (.ref (b))], [.int (24), .int (0), .ref (a + 4), .int (0), .ref (b + 4)]))) rfl ?_
  refine XV.copyC C (N := 24) (f := (fun s => q (75 + s))) (g := (fun s => (rArr (rArr (rArr (r) 3 q) 27 q) 51 q) (75 + s))) (xlk_ok okR_copyFrom rfl) wM_R_40 (by omega) (by omega) (by omega) (by omega) ((hB.out hd) 4 (by decide)) ((blk_is h a 5 (ropeC a (rArr (rArr (rArr (r) 3 q) 27 q) 51 q))) 4 (by decide)) rfl (by decide) (Nat.le_of_ble_eq_true rfl) (Nat.le_of_ble_eq_true rfl) ?_
  refine XV.cast (setRope_arr2 _ a _ q 4 75 (by decide)) ?_
  refine XV.run C okR_copyFrom 2 (q := (62, ([some (.ref (a)), some (.ref (b))], [.ref (b), .ref (a)]))) rfl ?_
  refine XV.getf C (ci := 2) (kf := 4) (v := .int (q 0)) (xlk_ok okR_copyFrom rfl) rfl (by decide) wF_R_24 (by omega) (by omega) ((hB.out hd) 0 (by decide)) rfl ?_
  refine XV.putf C (ci := 2) (kf := 4) (ty := .int) (xlk_ok okR_copyFrom rfl) rfl (by decide) wF_R_24 (by omega) (by omega) ((blk_is h a 5 (ropeC a (rArr (rArr (rArr (rArr (r) 3 q) 27 q) 51 q) 75 q))) 0 (by decide)) rfl rfl rfl rfl (Nat.le_of_ble_eq_true rfl) ?_
  refine XV.cast (setRope_f0 _ a _ (q 0)) ?_
  refine XV.run C okR_copyFrom 2 (q := (70, ([some (.ref (a)), some (.ref (b))], [.ref (b), .ref (a)]))) rfl ?_
  refine XV.getf C (ci := 2) (kf := 5) (v := .int (q 1)) (xlk_ok okR_copyFrom rfl) rfl (by decide) wF_R_28 (by omega) (by omega) ((hB.out hd) 0 (by decide)) rfl ?_
  refine XV.putf C (ci := 2) (kf := 5) (ty := .int) (xlk_ok okR_copyFrom rfl) rfl (by decide) wF_R_28 (by omega) (by omega) ((blk_is h a 5 (ropeC a (upd (rArr (rArr (rArr (rArr (r) 3 q) 27 q) 51 q) 75 q) 0 (q 0)))) 0 (by decide)) rfl rfl rfl rfl (Nat.le_of_ble_eq_true rfl) ?_
  refine XV.cast (setRope_f1 _ a _ (q 1)) ?_
  refine XV.run C okR_copyFrom 2 (q := (78, ([some (.ref (a)), some (.ref (b))], [.ref (b), .ref (a)]))) rfl ?_
  refine XV.getf C (ci := 2) (kf := 6) (v := .int (q 2)) (xlk_ok okR_copyFrom rfl) rfl (by decide) wF_R_31 (by omega) (by omega) ((hB.out hd) 0 (by decide)) rfl ?_
  refine XV.putf C (ci := 2) (kf := 6) (ty := .int) (xlk_ok okR_copyFrom rfl) rfl (by decide) wF_R_31 (by omega) (by omega) ((blk_is h a 5 (ropeC a (upd (upd (rArr (rArr (rArr (rArr (r) 3 q) 27 q) 51 q) 75 q) 0 (q 0)) 1 (q 1)))) 0 (by decide)) rfl rfl rfl rfl (Nat.le_of_ble_eq_true rfl) ?_
  refine XV.cast (setRope_f2 _ a _ (q 2)) ?_
  exact XV.vret C (xlk_ok okR_copyFrom rfl) hret (Nat.le_of_ble_eq_true rfl) (Nat.le_of_ble_eq_true rfl) (⟨rfl, rfl, setRope_congr (rCopy_eq r q)⟩)
