/-! RopeThreadsModel: the calls that write -/
set_option maxHeartbeats 4000000 in
set_option maxRecDepth 100000 in
theorem ct_M_isFor {l : Launch} (hfl : l.stackTraces = false) {G : XG} {n : Nat} {h : XH} {i : Nat} {x : Int32} (hx : x = nI i) (hi : i < 5) (y : Int32) : XCt l G False (Cond.code yM_isFor bM_isFor 2 (some .boolean)) yM_isFor 1 22 0 0 [.int (x), .int (y)] n h (fun r' n' h' => r' = some (.int (if inK y 1 ((XSA 2).2 i) then 1 else 0)) ∧ n' = n ∧ h' = h) (fun _ _ _ => False) := by
  subst hx
  refine XCt.of hfl (by decide +kernel) (Nat.le_of_ble_eq_true rfl) ?_
  intro p' e' s' m' g' b' t' c' C hret hname hnt hmd
  refine XV.run C okM_isFor 1 (q := (1, ([some (.int (nI i)), some (.int (y))], [.int (nI i)]))) rfl ?_
  rcases (show i = 0 ∨ i = 1 ∨ i = 2 ∨ i = 3 ∨ i = 4 by omega) with rfl | rfl | rfl | rfl | rfl
  ·
    refine XV.if_ne C (tgt := 14) (xlk_ok okM_isFor rfl) rfl (fun hc => absurd (rfl) hc) (fun _ => ?_)
    refine XV.run C okM_isFor 3 (q := (8, ([some (.int (nI 0)), some (.int (y))], [.int (12), .int (1), .int (y)]))) rfl ?_
    refine XV.callS C (As := [.int (y), .int (1), .int (12)]) (rest := []) (ct_M_in hfl (y) (1) (12)) (xlk_ok okM_isFor rfl) rfl wM_M_29 wS_M_in wN_M wB_M_in hy_M_in (fun q => q.elim) ⟨Nat.le_of_ble_eq_true rfl, Nat.le_of_ble_eq_true rfl⟩ ⟨Nat.le_of_ble_eq_true rfl, Nat.le_of_ble_eq_true rfl⟩ (Nat.le_of_ble_eq_true rfl) (fun r n h hp => ?_) (fun _ _ _ q => q.elim)
    obtain ⟨rfl, rfl, rfl⟩ := hp
    refine XV.run C okM_isFor 1 (q := (52, ([some (.int (nI 0)), some (.int (y))], [.int (if inK y 1 12 then 1 else 0)]))) rfl ?_
    exact XV.iret C (xlk_ok okM_isFor rfl) hret (nbool _) (Nat.le_of_ble_eq_true rfl) (Nat.le_of_ble_eq_true rfl) (⟨rfl, rfl, rfl⟩)
  ·
    refine XV.if_ne C (tgt := 14) (xlk_ok okM_isFor rfl) rfl (fun _ => ?_) (fun hc => absurd hc (by decide))
    refine XV.run C okM_isFor 2 (q := (16, ([some (.int (nI 1)), some (.int (y))], [.int (2), .int (nI 1)]))) rfl ?_
    refine XV.icmp_ne C (tgt := 30) (xlk_ok okM_isFor rfl) rfl (fun _ => ?_) (fun hc => absurd hc (by decide))
    refine XV.run C okM_isFor 2 (q := (32, ([some (.int (nI 1)), some (.int (y))], [.int (4), .int (nI 1)]))) rfl ?_
    refine XV.icmp_ne C (tgt := 45) (xlk_ok okM_isFor rfl) rfl (fun _ => ?_) (fun hc => absurd hc (by decide))
    refine XV.run C okM_isFor 3 (q := (49, ([some (.int (nI 1)), some (.int (y))], [.int (99), .int (1), .int (y)]))) rfl ?_
    refine XV.callS C (As := [.int (y), .int (1), .int (99)]) (rest := []) (ct_M_in hfl (y) (1) (99)) (xlk_ok okM_isFor rfl) rfl wM_M_29 wS_M_in wN_M wB_M_in hy_M_in (fun q => q.elim) ⟨Nat.le_of_ble_eq_true rfl, Nat.le_of_ble_eq_true rfl⟩ ⟨Nat.le_of_ble_eq_true rfl, Nat.le_of_ble_eq_true rfl⟩ (Nat.le_of_ble_eq_true rfl) (fun r n h hp => ?_) (fun _ _ _ q => q.elim)
    obtain ⟨rfl, rfl, rfl⟩ := hp
    exact XV.iret C (xlk_ok okM_isFor rfl) hret (nbool _) (Nat.le_of_ble_eq_true rfl) (Nat.le_of_ble_eq_true rfl) (⟨rfl, rfl, rfl⟩)
  ·
    refine XV.if_ne C (tgt := 14) (xlk_ok okM_isFor rfl) rfl (fun _ => ?_) (fun hc => absurd hc (by decide))
    refine XV.run C okM_isFor 2 (q := (16, ([some (.int (nI 2)), some (.int (y))], [.int (2), .int (nI 2)]))) rfl ?_
    refine XV.icmp_ne C (tgt := 30) (xlk_ok okM_isFor rfl) rfl (fun hc => absurd (rfl) hc) (fun _ => ?_)
    refine XV.run C okM_isFor 3 (q := (24, ([some (.int (nI 2)), some (.int (y))], [.int (999), .int (1), .int (y)]))) rfl ?_
    refine XV.callS C (As := [.int (y), .int (1), .int (999)]) (rest := []) (ct_M_in hfl (y) (1) (999)) (xlk_ok okM_isFor rfl) rfl wM_M_29 wS_M_in wN_M wB_M_in hy_M_in (fun q => q.elim) ⟨Nat.le_of_ble_eq_true rfl, Nat.le_of_ble_eq_true rfl⟩ ⟨Nat.le_of_ble_eq_true rfl, Nat.le_of_ble_eq_true rfl⟩ (Nat.le_of_ble_eq_true rfl) (fun r n h hp => ?_) (fun _ _ _ q => q.elim)
    obtain ⟨rfl, rfl, rfl⟩ := hp
    refine XV.run C okM_isFor 1 (q := (52, ([some (.int (nI 2)), some (.int (y))], [.int (if inK y 1 999 then 1 else 0)]))) rfl ?_
    exact XV.iret C (xlk_ok okM_isFor rfl) hret (nbool _) (Nat.le_of_ble_eq_true rfl) (Nat.le_of_ble_eq_true rfl) (⟨rfl, rfl, rfl⟩)
  ·
    refine XV.if_ne C (tgt := 14) (xlk_ok okM_isFor rfl) rfl (fun _ => ?_) (fun hc => absurd hc (by decide))
    refine XV.run C okM_isFor 2 (q := (16, ([some (.int (nI 3)), some (.int (y))], [.int (2), .int (nI 3)]))) rfl ?_
    refine XV.icmp_ne C (tgt := 30) (xlk_ok okM_isFor rfl) rfl (fun _ => ?_) (fun hc => absurd hc (by decide))
    refine XV.run C okM_isFor 2 (q := (32, ([some (.int (nI 3)), some (.int (y))], [.int (4), .int (nI 3)]))) rfl ?_
    refine XV.icmp_ne C (tgt := 45) (xlk_ok okM_isFor rfl) rfl (fun _ => ?_) (fun hc => absurd hc (by decide))
    refine XV.run C okM_isFor 3 (q := (49, ([some (.int (nI 3)), some (.int (y))], [.int (99), .int (1), .int (y)]))) rfl ?_
    refine XV.callS C (As := [.int (y), .int (1), .int (99)]) (rest := []) (ct_M_in hfl (y) (1) (99)) (xlk_ok okM_isFor rfl) rfl wM_M_29 wS_M_in wN_M wB_M_in hy_M_in (fun q => q.elim) ⟨Nat.le_of_ble_eq_true rfl, Nat.le_of_ble_eq_true rfl⟩ ⟨Nat.le_of_ble_eq_true rfl, Nat.le_of_ble_eq_true rfl⟩ (Nat.le_of_ble_eq_true rfl) (fun r n h hp => ?_) (fun _ _ _ q => q.elim)
    obtain ⟨rfl, rfl, rfl⟩ := hp
    exact XV.iret C (xlk_ok okM_isFor rfl) hret (nbool _) (Nat.le_of_ble_eq_true rfl) (Nat.le_of_ble_eq_true rfl) (⟨rfl, rfl, rfl⟩)
  ·
    refine XV.if_ne C (tgt := 14) (xlk_ok okM_isFor rfl) rfl (fun _ => ?_) (fun hc => absurd hc (by decide))
    refine XV.run C okM_isFor 2 (q := (16, ([some (.int (nI 4)), some (.int (y))], [.int (2), .int (nI 4)]))) rfl ?_
    refine XV.icmp_ne C (tgt := 30) (xlk_ok okM_isFor rfl) rfl (fun _ => ?_) (fun hc => absurd hc (by decide))
    refine XV.run C okM_isFor 2 (q := (32, ([some (.int (nI 4)), some (.int (y))], [.int (4), .int (nI 4)]))) rfl ?_
    refine XV.icmp_ne C (tgt := 45) (xlk_ok okM_isFor rfl) rfl (fun hc => absurd (rfl) hc) (fun _ => ?_)
    refine XV.run C okM_isFor 3 (q := (39, ([some (.int (nI 4)), some (.int (y))], [.int (60), .int (1), .int (y)]))) rfl ?_
    refine XV.callS C (As := [.int (y), .int (1), .int (60)]) (rest := []) (ct_M_in hfl (y) (1) (60)) (xlk_ok okM_isFor rfl) rfl wM_M_29 wS_M_in wN_M wB_M_in hy_M_in (fun q => q.elim) ⟨Nat.le_of_ble_eq_true rfl, Nat.le_of_ble_eq_true rfl⟩ ⟨Nat.le_of_ble_eq_true rfl, Nat.le_of_ble_eq_true rfl⟩ (Nat.le_of_ble_eq_true rfl) (fun r n h hp => ?_) (fun _ _ _ q => q.elim)
    obtain ⟨rfl, rfl, rfl⟩ := hp
    refine XV.run C okM_isFor 1 (q := (52, ([some (.int (nI 4)), some (.int (y))], [.int (if inK y 1 60 then 1 else 0)]))) rfl ?_
    exact XV.iret C (xlk_ok okM_isFor rfl) hret (nbool _) (Nat.le_of_ble_eq_true rfl) (Nat.le_of_ble_eq_true rfl) (⟨rfl, rfl, rfl⟩)
set_option maxHeartbeats 4000000 in
set_option maxRecDepth 100000 in
theorem ct_M_append {l : Launch} (hfl : l.stackTraces = false) {G : XG} {n : Nat} {h : XH} {g pa tr mx td F : Nat → Int32} (hn : 215 ≤ n) {len : Nat} (hlen : F 5 = nI len) (hl6 : len ≤ 60) (x : Int32) : XCt l G False (Cond.code yM_append bM_append 2 (some .int)) yM_append 1 22 0 0 [.ref (213), .int (x)] n (setM h g pa tr mx td F) (fun r' n' h' => n' = n ∧ (∃ v, r' = some (.int v)) ∧ ((((x < 33 ∨ ¬ x ≤ 126)) ∧ h' = setM h g pa tr mx td (upd (upd F 6 0) 6 1)) ∨ (((¬ x < 33 ∧ x ≤ 126) ∧ ¬ len < 60) ∧ h' = setM h g pa tr mx td (upd (upd F 6 0) 6 2)) ∨ (((¬ x < 33 ∧ x ≤ 126) ∧ len < 60) ∧ r' = some (.int (nI (len + 1))) ∧ h' = setM h g pa tr (upd mx len x) td (upd (upd F 6 0) 5 (nI (len + 1)))))) (fun _ _ _ => False) := by
  refine XCt.of hfl (by decide +kernel) (Nat.le_of_ble_eq_true rfl) ?_
  intro p' e' s' m' g' b' t' c' C hret hname hnt hmd
  refine XV.run C okM_append 2 (q := (2, ([some (.ref (213)), some (.int (x))], [.int (0), .ref (213)]))) rfl ?_
  refine XV.putf C (ci := 5) (kf := 6) (ty := .int) (xlk_ok okM_append rfl) rfl (by decide) wF_M_25 (by omega) (by omega) (mw_o) rfl rfl rfl rfl (Nat.le_of_ble_eq_true rfl) ?_
  refine XV.cast (mw_f (upd F 6 (0))) ?_
  refine XV.run C okM_append 3 (q := (10, ([some (.ref (213)), some (.int (x))], [.int (126), .int (33), .int (x)]))) rfl ?_
  refine XV.callS C (As := [.int (x), .int (33), .int (126)]) (rest := []) (ct_M_in hfl (x) (33) (126)) (xlk_ok okM_append rfl) rfl wM_M_29 wS_M_in wN_M wB_M_in hy_M_in (fun q => q.elim) ⟨Nat.le_of_ble_eq_true rfl, Nat.le_of_ble_eq_true rfl⟩ ⟨Nat.le_of_ble_eq_true rfl, Nat.le_of_ble_eq_true rfl⟩ (Nat.le_of_ble_eq_true rfl) (fun r n h hp => ?_) (fun _ _ _ q => q.elim)
  obtain ⟨rfl, rfl, rfl⟩ := hp
  refine XV.if_ne C (tgt := 22) (xlk_ok okM_append rfl) rfl (fun c1 => ?_) (fun c1 => ?_)
  ·
    have hok := inG_t (if1_1 c1)
    refine XV.run C okM_append 1 (q := (23, ([some (.ref (213)), some (.int (x))], [.ref (213)]))) rfl ?_
    refine XV.getf C (ci := 5) (kf := 5) (v := .int ((upd F 6 (0)) 5)) (xlk_ok okM_append rfl) rfl (by decide) wF_M_103 (by omega) (by omega) (mw_o) rfl ?_
    refine XV.run C okM_append 1 (q := (28, ([some (.ref (213)), some (.int (x))], [.int (60), .int ((upd F 6 (0)) 5)]))) rfl ?_
    refine XV.icmp_ne C (tgt := 37) (xlk_ok okM_append rfl) rfl (fun c2 => ?_) (fun c2 => ?_)
    ·
      have hl5 : len < 60 := by
        rcases Nat.lt_or_ge len 60 with q | q
        · exact q
        · exact absurd (((upd_ne (by decide)).trans hlen).trans (by rw [show len = 60 by omega]; rfl)) c2
      refine XV.run C okM_append 1 (q := (38, ([some (.ref (213)), some (.int (x))], [.ref (213)]))) rfl ?_
      refine XV.getf C (ci := 5) (kf := 4) (v := .ref (217)) (xlk_ok okM_append rfl) rfl (by decide) wF_M_19 (by omega) (by omega) (mw_o) rfl ?_
      refine XV.run C okM_append 1 (q := (42, ([some (.ref (213)), some (.int (x))], [.ref (213), .ref (217)]))) rfl ?_
      refine XV.getf C (ci := 5) (kf := 5) (v := .int ((upd F 6 (0)) 5)) (xlk_ok okM_append rfl) rfl (by decide) wF_M_103 (by omega) (by omega) (mw_o) rfl ?_
      refine XV.run C okM_append 1 (q := (46, ([some (.ref (213)), some (.int (x))], [.int (x), .int ((upd F 6 (0)) 5), .ref (217)]))) rfl ?_
      refine XV.iastC C (N := 60) (f := mx) (a := len) (xlk_ok okM_append rfl) (by omega) (by omega) (mw_4) ((upd_ne (by decide)).trans hlen) (by omega) (by decide) ?_
      refine XV.cast (mw_u4 (upd mx len (x))) ?_
      refine XV.run C okM_append 2 (q := (49, ([some (.ref (213)), some (.int (x))], [.ref (213), .ref (213)]))) rfl ?_
      refine XV.getf C (ci := 5) (kf := 5) (v := .int ((upd F 6 (0)) 5)) (xlk_ok okM_append rfl) rfl (by decide) wF_M_103 (by omega) (by omega) (mw_o) rfl ?_
      refine XV.run C okM_append 2 (q := (54, ([some (.ref (213)), some (.int (x))], [.int (((upd F 6 (0)) 5) + 1), .ref (213)]))) rfl ?_
      rw [show (((upd F 6 (0)) 5) + 1 : Int32) = nI (len + 1) from by rw [show upd F 6 0 5 = nI len from (upd_ne (by decide)).trans hlen, nI_1]]
      refine XV.putf C (ci := 5) (kf := 5) (ty := .int) (xlk_ok okM_append rfl) rfl (by decide) wF_M_103 (by omega) (by omega) (mw_o) rfl rfl rfl rfl (Nat.le_of_ble_eq_true rfl) ?_
      refine XV.cast (mw_f (upd (upd F 6 (0)) 5 (nI (len + 1)))) ?_
      refine XV.run C okM_append 1 (q := (58, ([some (.ref (213)), some (.int (x))], [.ref (213)]))) rfl ?_
      refine XV.getf C (ci := 5) (kf := 5) (v := .int ((upd (upd F 6 (0)) 5 (nI (len + 1))) 5)) (xlk_ok okM_append rfl) rfl (by decide) wF_M_103 (by omega) (by omega) (mw_o) rfl ?_
      exact XV.iret C (xlk_ok okM_append rfl) hret rfl (Nat.le_of_ble_eq_true rfl) (Nat.le_of_ble_eq_true rfl) (⟨rfl, ⟨_, rfl⟩, Or.inr (Or.inr ⟨⟨hok, hl5⟩, congrArg (fun q => some (Value.int q)) upd_eq, rfl⟩)⟩)
    ·
      have hl5 : ¬ len < 60 := fun q => absurd ((nI_eq (b := 60) (by omega) (by omega)).mp ((((upd_ne (by decide)).trans hlen).symm).trans c2)) (by omega)
      refine XV.run C okM_append 2 (q := (33, ([some (.ref (213)), some (.int (x))], [.int (2), .ref (213)]))) rfl ?_
      refine XV.callV C (As := [.int (2)]) (rest := []) (ci := 5) (ct_M_fails hfl hn (2)) (xlk_ok okM_append rfl) rfl (by omega) (by omega) rfl (mw_o) rfl wM_M_36 wI_M_fails wV_M_fails wN_M wB_M_fails hy_M_fails (fun q => q.elim) ⟨Nat.le_of_ble_eq_true rfl, Nat.le_of_ble_eq_true rfl⟩ ⟨Nat.le_of_ble_eq_true rfl, Nat.le_of_ble_eq_true rfl⟩ (Nat.le_of_ble_eq_true rfl) (fun r n h hp => ?_) (fun _ _ _ q => q.elim)
      obtain ⟨rfl, rfl, rfl⟩ := hp
      exact XV.iret C (xlk_ok okM_append rfl) hret rfl (Nat.le_of_ble_eq_true rfl) (Nat.le_of_ble_eq_true rfl) (⟨rfl, ⟨_, rfl⟩, Or.inr (Or.inl (⟨⟨hok, hl5⟩, rfl⟩))⟩)
  ·
    have hb := inG_f (if1_0 c1)
    refine XV.run C okM_append 2 (q := (18, ([some (.ref (213)), some (.int (x))], [.int (1), .ref (213)]))) rfl ?_
    refine XV.callV C (As := [.int (1)]) (rest := []) (ci := 5) (ct_M_fails hfl hn (1)) (xlk_ok okM_append rfl) rfl (by omega) (by omega) rfl (mw_o) rfl wM_M_36 wI_M_fails wV_M_fails wN_M wB_M_fails hy_M_fails (fun q => q.elim) ⟨Nat.le_of_ble_eq_true rfl, Nat.le_of_ble_eq_true rfl⟩ ⟨Nat.le_of_ble_eq_true rfl, Nat.le_of_ble_eq_true rfl⟩ (Nat.le_of_ble_eq_true rfl) (fun r n h hp => ?_) (fun _ _ _ q => q.elim)
    obtain ⟨rfl, rfl, rfl⟩ := hp
    exact XV.iret C (xlk_ok okM_append rfl) hret rfl (Nat.le_of_ble_eq_true rfl) (Nat.le_of_ble_eq_true rfl) (⟨rfl, ⟨_, rfl⟩, Or.inl (⟨hb, rfl⟩)⟩)
set_option maxHeartbeats 4000000 in
set_option maxRecDepth 100000 in
theorem ct_M_hang {l : Launch} (hfl : l.stackTraces = false) {G : XG} {n : Nat} {h : XH} {g pa tr mx td F : Nat → Int32} (hn : 215 ≤ n) {k : Nat} (hm : g 1 = nI k) (hk : k ≤ 5) {kp : Nat} (hkp : F 2 = nI kp) (hk6 : kp ≤ 6) (x : Int32) : XCt l G False (Cond.code yM_hang bM_hang 2 (some .int)) yM_hang 2 45 0 0 [.ref (213), .int (x)] n (setM h g pa tr mx td F) (fun r' n' h' => n' = n ∧ (∃ v, r' = some (.int v)) ∧ ((((x < 1 ∨ ¬ x ≤ 99)) ∧ h' = setM h g pa tr mx td (upd (upd F 6 0) 6 1)) ∨ (((¬ x < 1 ∧ x ≤ 99) ∧ ¬ k < 5) ∧ h' = setM h g pa tr mx td (upd (upd F 6 0) 6 2)) ∨ (((¬ x < 1 ∧ x ≤ 99) ∧ k < 5) ∧ r' = some (.int (nI k)) ∧ h' = setM h (upd (putRow g k (rNew x (g 0))) 1 (g 1 + 1)) (svP pa g kp) tr mx td (upd (upd F 6 0) 2 (nI (kK kp)))))) (fun _ _ _ => False) := by
  refine XCt.of hfl (by decide +kernel) (Nat.le_of_ble_eq_true rfl) ?_
  intro p' e' s' m' g' b' t' c' C hret hname hnt hmd
  refine XV.run C okM_hang 2 (q := (2, ([some (.ref (213)), some (.int (x))], [.int (0), .ref (213)]))) rfl ?_
  refine XV.putf C (ci := 5) (kf := 6) (ty := .int) (xlk_ok okM_hang rfl) rfl (by decide) wF_M_25 (by omega) (by omega) (mw_o) rfl rfl rfl rfl (Nat.le_of_ble_eq_true rfl) ?_
  refine XV.cast (mw_f (upd F 6 (0))) ?_
  refine XV.run C okM_hang 1 (q := (6, ([some (.ref (213)), some (.int (x))], [.int (x)]))) rfl ?_
  refine XV.callS C (As := [.int (x)]) (rest := []) (ct_M_isQuality hfl (x)) (xlk_ok okM_hang rfl) rfl wM_M_62 wS_M_isQuality wN_M wB_M_isQuality hy_M_isQuality (fun q => q.elim) ⟨Nat.le_of_ble_eq_true rfl, Nat.le_of_ble_eq_true rfl⟩ ⟨Nat.le_of_ble_eq_true rfl, Nat.le_of_ble_eq_true rfl⟩ (Nat.le_of_ble_eq_true rfl) (fun r n h hp => ?_) (fun _ _ _ q => q.elim)
  obtain ⟨rfl, rfl, rfl⟩ := hp
  refine XV.if_ne C (tgt := 18) (xlk_ok okM_hang rfl) rfl (fun c1 => ?_) (fun c1 => ?_)
  ·
    have hok := inG_t (if1_1 c1)
    refine XV.run C okM_hang 1 (q := (19, ([some (.ref (213)), some (.int (x))], [.ref (213)]))) rfl ?_
    refine XV.getf C (ci := 5) (kf := 0) (v := .ref (214)) (xlk_ok okM_hang rfl) rfl (by decide) wF_M_7 (by omega) (by omega) (mw_o) rfl ?_
    refine XV.run C okM_hang 1 (q := (23, ([some (.ref (213)), some (.int (x))], [.int (1), .ref (214)]))) rfl ?_
    refine XV.ialdC C (N := 505) (f := g) (a := 1) (xlk_ok okM_hang rfl) (by omega) (by omega) (mw_1) (rfl) (by decide) (by decide) ?_
    refine XV.run C okM_hang 1 (q := (25, ([some (.ref (213)), some (.int (x))], [.int (5), .int (g 1)]))) rfl ?_
    refine XV.icmp_ne C (tgt := 34) (xlk_ok okM_hang rfl) rfl (fun c2 => ?_) (fun c2 => ?_)
    ·
      have hk5 : k < 5 := by
        rcases Nat.lt_or_ge k 5 with q | q
        · exact q
        · exact absurd (hm.trans (by rw [show k = 5 by omega]; rfl)) c2
      refine XV.run C okM_hang 1 (q := (35, ([some (.ref (213)), some (.int (x))], [.ref (213)]))) rfl ?_
      refine XV.callV C (As := []) (rest := []) (ci := 5) (ct_M_saves hfl hn (kp := kp) ((upd_ne (by decide)).trans hkp) hk6) (xlk_ok okM_hang rfl) rfl (by omega) (by omega) rfl (mw_o) rfl wM_M_66 wI_M_saves wV_M_saves wN_M wB_M_saves hy_M_saves (fun q => q.elim) ⟨Nat.le_of_ble_eq_true rfl, Nat.le_of_ble_eq_true rfl⟩ ⟨Nat.le_of_ble_eq_true rfl, Nat.le_of_ble_eq_true rfl⟩ (Nat.le_of_ble_eq_true rfl) (fun r n h hp => ?_) (fun _ _ _ q => q.elim)
      obtain ⟨rfl, rfl, rfl⟩ := hp
      refine XV.run C okM_hang 2 (q := (40, ([some (.ref (213)), some (.int (x))], [.ref (213), .ref (213)]))) rfl ?_
      refine XV.getf C (ci := 5) (kf := 0) (v := .ref (214)) (xlk_ok okM_hang rfl) rfl (by decide) wF_M_7 (by omega) (by omega) (mw_o) rfl ?_
      refine XV.run C okM_hang 1 (q := (44, ([some (.ref (213)), some (.int (x))], [.int (1), .ref (214), .ref (213)]))) rfl ?_
      refine XV.ialdC C (N := 505) (f := g) (a := 1) (xlk_ok okM_hang rfl) (by omega) (by omega) (mw_1) (rfl) (by decide) (by decide) ?_
      refine XV.run C okM_hang 1 (q := (46, ([some (.ref (213)), some (.int (x))], [.int (x), .int (g 1), .ref (213)]))) rfl ?_
      refine XV.callV C (As := [.int (g 1), .int (x)]) (rest := []) (ci := 5) (ct_M_hangs hfl hn (i := k) (by omega) (hm) (x)) (xlk_ok okM_hang rfl) rfl (by omega) (by omega) rfl (mw_o) rfl wM_M_69 wI_M_hangs wV_M_hangs wN_M wB_M_hangs hy_M_hangs (fun q => q.elim) ⟨Nat.le_of_ble_eq_true rfl, Nat.le_of_ble_eq_true rfl⟩ ⟨Nat.le_of_ble_eq_true rfl, Nat.le_of_ble_eq_true rfl⟩ (Nat.le_of_ble_eq_true rfl) (fun r n h hp => ?_) (fun _ _ _ q => q.elim)
      obtain ⟨rfl, rfl, rfl⟩ := hp
      refine XV.run C okM_hang 1 (q := (50, ([some (.ref (213)), some (.int (x))], [.ref (213)]))) rfl ?_
      refine XV.getf C (ci := 5) (kf := 0) (v := .ref (214)) (xlk_ok okM_hang rfl) rfl (by decide) wF_M_7 (by omega) (by omega) (mw_o) rfl ?_
      refine XV.run C okM_hang 2 (q := (55, ([some (.ref (213)), some (.int (x))], [.int (1), .ref (214), .int (1), .ref (214)]))) rfl ?_
      refine XV.ialdC C (N := 505) (f := (putRow g k (rNew x (g 0)))) (a := 1) (xlk_ok okM_hang rfl) (by omega) (by omega) (mw_1) (rfl) (by decide) (by decide) ?_
      refine XV.run C okM_hang 2 (q := (58, ([some (.ref (213)), some (.int (x))], [.int (((putRow g k (rNew x (g 0))) 1) + 1), .int (1), .ref (214)]))) rfl ?_
      rw [show (((putRow g k (rNew x (g 0))) 1) + 1 : Int32) = g 1 + 1 from congrArg (fun q => q + 1) (putRow_lo (by decide))]
      refine XV.iastC C (N := 505) (f := (putRow g k (rNew x (g 0)))) (a := 1) (xlk_ok okM_hang rfl) (by omega) (by omega) (mw_1) (rfl) (by decide) (by decide) ?_
      refine XV.cast (mw_u1 (upd (putRow g k (rNew x (g 0))) 1 (g 1 + 1))) ?_
      refine XV.run C okM_hang 1 (q := (60, ([some (.ref (213)), some (.int (x))], [.ref (213)]))) rfl ?_
      refine XV.getf C (ci := 5) (kf := 0) (v := .ref (214)) (xlk_ok okM_hang rfl) rfl (by decide) wF_M_7 (by omega) (by omega) (mw_o) rfl ?_
      refine XV.run C okM_hang 1 (q := (64, ([some (.ref (213)), some (.int (x))], [.int (1), .ref (214)]))) rfl ?_
      refine XV.ialdC C (N := 505) (f := (upd (putRow g k (rNew x (g 0))) 1 (g 1 + 1))) (a := 1) (xlk_ok okM_hang rfl) (by omega) (by omega) (mw_1) (rfl) (by decide) (by decide) ?_
      refine XV.run C okM_hang 2 (q := (67, ([some (.ref (213)), some (.int (x))], [.int (((upd (putRow g k (rNew x (g 0))) 1 (g 1 + 1)) 1) - 1)]))) rfl ?_
      exact XV.iret C (xlk_ok okM_hang rfl) hret rfl (Nat.le_of_ble_eq_true rfl) (Nat.le_of_ble_eq_true rfl) (⟨rfl, ⟨_, rfl⟩, Or.inr (Or.inr ⟨⟨hok, hk5⟩, congrArg (fun q => some (Value.int q)) (by rw [upd_eq, hm, nI_1]; exact nI_pred k), rfl⟩)⟩)
    ·
      have hk5 : ¬ k < 5 := fun q => absurd ((nI_eq (b := 5) (by omega) (by omega)).mp (hm.symm.trans c2)) (by omega)
      refine XV.run C okM_hang 2 (q := (30, ([some (.ref (213)), some (.int (x))], [.int (2), .ref (213)]))) rfl ?_
      refine XV.callV C (As := [.int (2)]) (rest := []) (ci := 5) (ct_M_fails hfl hn (2)) (xlk_ok okM_hang rfl) rfl (by omega) (by omega) rfl (mw_o) rfl wM_M_36 wI_M_fails wV_M_fails wN_M wB_M_fails hy_M_fails (fun q => q.elim) ⟨Nat.le_of_ble_eq_true rfl, Nat.le_of_ble_eq_true rfl⟩ ⟨Nat.le_of_ble_eq_true rfl, Nat.le_of_ble_eq_true rfl⟩ (Nat.le_of_ble_eq_true rfl) (fun r n h hp => ?_) (fun _ _ _ q => q.elim)
      obtain ⟨rfl, rfl, rfl⟩ := hp
      exact XV.iret C (xlk_ok okM_hang rfl) hret rfl (Nat.le_of_ble_eq_true rfl) (Nat.le_of_ble_eq_true rfl) (⟨rfl, ⟨_, rfl⟩, Or.inr (Or.inl (⟨⟨hok, hk5⟩, rfl⟩))⟩)
  ·
    have hb := inG_f (if1_0 c1)
    refine XV.run C okM_hang 2 (q := (14, ([some (.ref (213)), some (.int (x))], [.int (1), .ref (213)]))) rfl ?_
    refine XV.callV C (As := [.int (1)]) (rest := []) (ci := 5) (ct_M_fails hfl hn (1)) (xlk_ok okM_hang rfl) rfl (by omega) (by omega) rfl (mw_o) rfl wM_M_36 wI_M_fails wV_M_fails wN_M wB_M_fails hy_M_fails (fun q => q.elim) ⟨Nat.le_of_ble_eq_true rfl, Nat.le_of_ble_eq_true rfl⟩ ⟨Nat.le_of_ble_eq_true rfl, Nat.le_of_ble_eq_true rfl⟩ (Nat.le_of_ble_eq_true rfl) (fun r n h hp => ?_) (fun _ _ _ q => q.elim)
    obtain ⟨rfl, rfl, rfl⟩ := hp
    exact XV.iret C (xlk_ok okM_hang rfl) hret rfl (Nat.le_of_ble_eq_true rfl) (Nat.le_of_ble_eq_true rfl) (⟨rfl, ⟨_, rfl⟩, Or.inl (⟨hb, rfl⟩)⟩)
def mvF (w : Nat → Int32) (x j : Nat) : Nat → Int32 := fun k => if x ≤ k ∧ k < x + j then w (k + 99) else w k
theorem mvF_0 (w : Nat → Int32) (x : Nat) : mvF w x 0 = w := by
  funext k
  exact if_neg (by omega)
theorem mvF_s (w : Nat → Int32) (x j : Nat) : upd (mvF w x j) (x + j) (mvF w x j (x + j + 99)) = mvF w x (j + 1) := by
  funext k
  unfold upd mvF
  by_cases h : k = x + j
  · subst h
    rw [if_pos rfl, if_neg (by omega), if_pos (by omega)]
  · rw [if_neg h]
    by_cases h2 : x ≤ k ∧ k < x + j
    · rw [if_pos h2, if_pos (by omega)]
    · rw [if_neg h2, if_neg (by omega)]
theorem mvF_lo {w : Nat → Int32} {x j k : Nat} (h : k < x) : mvF w x j k = w k := if_neg (by omega)
theorem mv_sh (g : Nat → Int32) (i j : Nat) (v : Int32) : mvF (upd g 1 v) (10 + 99 * i) (99 * j) = upd (shiftK g i j) 1 v := by
  funext k
  unfold mvF upd shiftK
  by_cases h1 : k = 1
  · subst h1
    rw [if_neg (by omega), if_pos rfl, if_pos rfl]
  · rw [if_neg h1, if_neg h1]
    by_cases h2 : 10 + 99 * i ≤ k ∧ k < 10 + 99 * (i + j)
    · rw [if_pos h2, if_pos (by omega), if_neg (by omega)]
    · rw [if_neg h2, if_neg (by omega)]
set_option maxHeartbeats 4000000 in
set_option maxRecDepth 100000 in
theorem ct_M_cut {l : Launch} (hfl : l.stackTraces = false) {G : XG} {n : Nat} {h : XH} {g pa tr mx td F : Nat → Int32} (hn : 215 ≤ n) {k : Nat} (hm : g 1 = nI k) (hk : k ≤ 5) {kp : Nat} (hkp : F 2 = nI kp) (hk6 : kp ≤ 6) (x : Int32) : XCt l G False (Cond.code yM_cut bM_cut 3 (some .int)) yM_cut 2 43 0 0 [.ref (213), .int (x)] n (setM h g pa tr mx td F) (fun r' n' h' => n' = n ∧ (∃ v, r' = some (.int v)) ∧ ((((x < 0 ∨ nI k ≤ x)) ∧ h' = setM h g pa tr mx td (upd (upd F 6 0) 6 1)) ∨ (∃ i, (x = nI i ∧ i < k) ∧ r' = some (.int (nI (k - 1))) ∧ h' = setM h (upd (shiftK g i (k - 1 - i)) 1 (g 1 - 1)) (svP pa g kp) tr mx td (upd (upd F 6 0) 2 (nI (kK kp)))))) (fun _ _ _ => False) := by
  refine XCt.of hfl (by decide +kernel) (Nat.le_of_ble_eq_true rfl) ?_
  intro p' e' s' m' g' b' t' c' C hret hname hnt hmd
  refine XV.run C okM_cut 2 (q := (2, ([some (.ref (213)), some (.int (x)), none], [.int (0), .ref (213)]))) rfl ?_
  refine XV.putf C (ci := 5) (kf := 6) (ty := .int) (xlk_ok okM_cut rfl) rfl (by decide) wF_M_25 (by omega) (by omega) (mw_o) rfl rfl rfl rfl (Nat.le_of_ble_eq_true rfl) ?_
  refine XV.cast (mw_f (upd F 6 (0))) ?_
  refine XV.run C okM_cut 2 (q := (7, ([some (.ref (213)), some (.int (x)), none], [.int (x), .ref (213)]))) rfl ?_
  refine XV.callV C (As := [.int (x)]) (rest := []) (ci := 5) (ct_M_isRope hfl hn (x)) (xlk_ok okM_cut rfl) rfl (by omega) (by omega) rfl (mw_o) rfl wM_M_73 wI_M_isRope wV_M_isRope wN_M wB_M_isRope hy_M_isRope (fun q => q.elim) ⟨Nat.le_of_ble_eq_true rfl, Nat.le_of_ble_eq_true rfl⟩ ⟨Nat.le_of_ble_eq_true rfl, Nat.le_of_ble_eq_true rfl⟩ (Nat.le_of_ble_eq_true rfl) (fun r n h hp => ?_) (fun _ _ _ q => q.elim)
  obtain ⟨rfl, rfl, rfl⟩ := hp
  refine XV.if_ne C (tgt := 19) (xlk_ok okM_cut rfl) rfl (fun c1 => ?_) (fun c1 => ?_)
  ·
    obtain ⟨i, hx, hi⟩ := inR_t hm hk (if1_1 c1)
    refine XV.run C okM_cut 1 (q := (20, ([some (.ref (213)), some (.int (x)), none], [.ref (213)]))) rfl ?_
    refine XV.callV C (As := []) (rest := []) (ci := 5) (ct_M_saves hfl hn (kp := kp) ((upd_ne (by decide)).trans hkp) hk6) (xlk_ok okM_cut rfl) rfl (by omega) (by omega) rfl (mw_o) rfl wM_M_66 wI_M_saves wV_M_saves wN_M wB_M_saves hy_M_saves (fun q => q.elim) ⟨Nat.le_of_ble_eq_true rfl, Nat.le_of_ble_eq_true rfl⟩ ⟨Nat.le_of_ble_eq_true rfl, Nat.le_of_ble_eq_true rfl⟩ (Nat.le_of_ble_eq_true rfl) (fun r n h hp => ?_) (fun _ _ _ q => q.elim)
    obtain ⟨rfl, rfl, rfl⟩ := hp
    refine XV.run C okM_cut 1 (q := (24, ([some (.ref (213)), some (.int (x)), none], [.ref (213)]))) rfl ?_
    refine XV.getf C (ci := 5) (kf := 0) (v := .ref (214)) (xlk_ok okM_cut rfl) rfl (by decide) wF_M_7 (by omega) (by omega) (mw_o) rfl ?_
    refine XV.run C okM_cut 2 (q := (29, ([some (.ref (213)), some (.int (x)), none], [.int (1), .ref (214), .int (1), .ref (214)]))) rfl ?_
    refine XV.ialdC C (N := 505) (f := g) (a := 1) (xlk_ok okM_cut rfl) (by omega) (by omega) (mw_1) (rfl) (by decide) (by decide) ?_
    refine XV.run C okM_cut 2 (q := (32, ([some (.ref (213)), some (.int (x)), none], [.int ((g 1) - 1), .int (1), .ref (214)]))) rfl ?_
    refine XV.iastC C (N := 505) (f := g) (a := 1) (xlk_ok okM_cut rfl) (by omega) (by omega) (mw_1) (rfl) (by decide) (by decide) ?_
    refine XV.cast (mw_u1 (upd g 1 ((g 1) - 1))) ?_
    refine XV.run C okM_cut 1 (q := (34, ([some (.ref (213)), some (.int (x)), none], [.int (x)]))) rfl ?_
    refine XV.callS C (As := [.int (x)]) (rest := []) (ct_M_row hfl (i := i) (hx)) (xlk_ok okM_cut rfl) rfl wM_M_59 wS_M_row wN_M wB_M_row hy_M_row (fun q => q.elim) ⟨Nat.le_of_ble_eq_true rfl, Nat.le_of_ble_eq_true rfl⟩ ⟨Nat.le_of_ble_eq_true rfl, Nat.le_of_ble_eq_true rfl⟩ (Nat.le_of_ble_eq_true rfl) (fun r n h hp => ?_) (fun _ _ _ q => q.elim)
    obtain ⟨rfl, rfl, rfl⟩ := hp
    refine XV.run C okM_cut 1 (q := (38, ([some (.ref (213)), some (.int (x)), some (.int (nI (10 + 99 * i)))], []))) rfl ?_
    have hk1 : (upd g 1 (g 1 - 1)) 1 = nI (k - 1) := by rw [upd_eq, hm]; exact nI_m1 (by omega)
    have loop : ∀ (d j : Nat), j + d = 99 * (k - 1 - i) → XV G 3 p' l e' ({ frames := 2, cells := 0, slots := 0, locals := 43 } : Room) s' m' g' b' t' c' (XEnd G b' (fun r' n' h' => n' = n ∧ (∃ v, r' = some (.int v)) ∧ ((((x < 0 ∨ nI k ≤ x)) ∧ h' = setM h g pa tr mx td (upd (upd F 6 0) 6 1)) ∨ (∃ i, (x = nI i ∧ i < k) ∧ r' = some (.int (nI (k - 1))) ∧ h' = setM h (upd (shiftK g i (k - 1 - i)) 1 (g 1 - 1)) (svP pa g kp) tr mx td (upd (upd F 6 0) 2 (nI (kK kp)))))) (fun _ _ _ => False) g' s' 0 0) 38 [some (.ref (213)), some (.int (x)), some (.int (nI (10 + 99 * i + j)))] [] n (setM h (mvF (upd g 1 (g 1 - 1)) (10 + 99 * i) j) (svP pa g kp) tr mx td (upd (upd F 6 0) 2 (nI (kK kp)))) 0 0 := by
      intro d
      induction d with
      | zero =>
        intro j hj
        refine XV.run C okM_cut 2 (q := (40, ([some (.ref (213)), some (.int (x)), some (.int (nI (10 + 99 * i + j)))], [.ref (213), .int (nI (10 + 99 * i + j))]))) rfl ?_
        refine XV.getf C (ci := 5) (kf := 0) (v := .ref (214)) (xlk_ok okM_cut rfl) rfl (by decide) wF_M_7 (by omega) (by omega) (mw_o) rfl ?_
        refine XV.run C okM_cut 1 (q := (44, ([some (.ref (213)), some (.int (x)), some (.int (nI (10 + 99 * i + j)))], [.int (1), .ref (214), .int (nI (10 + 99 * i + j))]))) rfl ?_
        refine XV.ialdC C (N := 505) (f := (mvF (upd g 1 (g 1 - 1)) (10 + 99 * i) j)) (a := 1) (xlk_ok okM_cut rfl) (by omega) (by omega) (mw_1) (rfl) (by decide) (by decide) ?_
        refine XV.callS C (As := [.int ((mvF (upd g 1 (g 1 - 1)) (10 + 99 * i) j) 1)]) (rest := [.int (nI (10 + 99 * i + j))]) (ct_M_row hfl (i := (k - 1)) ((mvF_lo (by omega)).trans hk1)) (xlk_ok okM_cut rfl) rfl wM_M_59 wS_M_row wN_M wB_M_row hy_M_row (fun q => q.elim) ⟨Nat.le_of_ble_eq_true rfl, Nat.le_of_ble_eq_true rfl⟩ ⟨Nat.le_of_ble_eq_true rfl, Nat.le_of_ble_eq_true rfl⟩ (Nat.le_of_ble_eq_true rfl) (fun r n h hp => ?_) (fun _ _ _ q => q.elim)
        obtain ⟨rfl, rfl, rfl⟩ := hp
        refine XV.icmp_ge C (tgt := 72) (xlk_ok okM_cut rfl) rfl (fun _ => ?_) (fun hc => absurd (nI_le (by omega) (by omega)) hc)
        refine XV.run C okM_cut 1 (q := (73, ([some (.ref (213)), some (.int (x)), some (.int (nI (10 + 99 * i + j)))], [.ref (213)]))) rfl ?_
        refine XV.getf C (ci := 5) (kf := 0) (v := .ref (214)) (xlk_ok okM_cut rfl) rfl (by decide) wF_M_7 (by omega) (by omega) (mw_o) rfl ?_
        refine XV.run C okM_cut 1 (q := (77, ([some (.ref (213)), some (.int (x)), some (.int (nI (10 + 99 * i + j)))], [.int (1), .ref (214)]))) rfl ?_
        refine XV.ialdC C (N := 505) (f := (mvF (upd g 1 (g 1 - 1)) (10 + 99 * i) j)) (a := 1) (xlk_ok okM_cut rfl) (by omega) (by omega) (mw_1) (rfl) (by decide) (by decide) ?_
        exact XV.iret C (xlk_ok okM_cut rfl) hret rfl (Nat.le_of_ble_eq_true rfl) (Nat.le_of_ble_eq_true rfl) (⟨rfl, ⟨_, rfl⟩, Or.inr ⟨i, ⟨hx, hi⟩, congrArg (fun q => some (Value.int q)) ((mvF_lo (by omega)).trans hk1), by rw [show j = 99 * (k - 1 - i) by omega, mv_sh]⟩⟩)
      | succ d ih =>
        intro j hj
        refine XV.run C okM_cut 2 (q := (40, ([some (.ref (213)), some (.int (x)), some (.int (nI (10 + 99 * i + j)))], [.ref (213), .int (nI (10 + 99 * i + j))]))) rfl ?_
        refine XV.getf C (ci := 5) (kf := 0) (v := .ref (214)) (xlk_ok okM_cut rfl) rfl (by decide) wF_M_7 (by omega) (by omega) (mw_o) rfl ?_
        refine XV.run C okM_cut 1 (q := (44, ([some (.ref (213)), some (.int (x)), some (.int (nI (10 + 99 * i + j)))], [.int (1), .ref (214), .int (nI (10 + 99 * i + j))]))) rfl ?_
        refine XV.ialdC C (N := 505) (f := (mvF (upd g 1 (g 1 - 1)) (10 + 99 * i) j)) (a := 1) (xlk_ok okM_cut rfl) (by omega) (by omega) (mw_1) (rfl) (by decide) (by decide) ?_
        refine XV.callS C (As := [.int ((mvF (upd g 1 (g 1 - 1)) (10 + 99 * i) j) 1)]) (rest := [.int (nI (10 + 99 * i + j))]) (ct_M_row hfl (i := (k - 1)) ((mvF_lo (by omega)).trans hk1)) (xlk_ok okM_cut rfl) rfl wM_M_59 wS_M_row wN_M wB_M_row hy_M_row (fun q => q.elim) ⟨Nat.le_of_ble_eq_true rfl, Nat.le_of_ble_eq_true rfl⟩ ⟨Nat.le_of_ble_eq_true rfl, Nat.le_of_ble_eq_true rfl⟩ (Nat.le_of_ble_eq_true rfl) (fun r n h hp => ?_) (fun _ _ _ q => q.elim)
        obtain ⟨rfl, rfl, rfl⟩ := hp
        refine XV.icmp_ge C (tgt := 72) (xlk_ok okM_cut rfl) rfl (fun hc => absurd hc (nI_ge (by omega) (by omega))) (fun _ => ?_)
        refine XV.run C okM_cut 1 (q := (52, ([some (.ref (213)), some (.int (x)), some (.int (nI (10 + 99 * i + j)))], [.ref (213)]))) rfl ?_
        refine XV.getf C (ci := 5) (kf := 0) (v := .ref (214)) (xlk_ok okM_cut rfl) rfl (by decide) wF_M_7 (by omega) (by omega) (mw_o) rfl ?_
        refine XV.run C okM_cut 2 (q := (57, ([some (.ref (213)), some (.int (x)), some (.int (nI (10 + 99 * i + j)))], [.ref (213), .int (nI (10 + 99 * i + j)), .ref (214)]))) rfl ?_
        refine XV.getf C (ci := 5) (kf := 0) (v := .ref (214)) (xlk_ok okM_cut rfl) rfl (by decide) wF_M_7 (by omega) (by omega) (mw_o) rfl ?_
        refine XV.run C okM_cut 3 (q := (64, ([some (.ref (213)), some (.int (x)), some (.int (nI (10 + 99 * i + j)))], [.int ((nI (10 + 99 * i + j)) + 99), .ref (214), .int (nI (10 + 99 * i + j)), .ref (214)]))) rfl ?_
        refine XV.ialdC C (N := 505) (f := (mvF (upd g 1 (g 1 - 1)) (10 + 99 * i) j)) (a := (10 + 99 * i + j + 99)) (xlk_ok okM_cut rfl) (by omega) (by omega) (mw_1) (nI_add _ 99) (by omega) (by decide) ?_
        refine XV.iastC C (N := 505) (f := (mvF (upd g 1 (g 1 - 1)) (10 + 99 * i) j)) (a := (10 + 99 * i + j)) (xlk_ok okM_cut rfl) (by omega) (by omega) (mw_1) (rfl) (by omega) (by decide) ?_
        refine XV.cast (mw_u1 (upd (mvF (upd g 1 (g 1 - 1)) (10 + 99 * i) j) (10 + 99 * i + j) ((mvF (upd g 1 (g 1 - 1)) (10 + 99 * i) j) (10 + 99 * i + j + 99)))) ?_
        refine XV.run C okM_cut 2 (q := (38, ([some (.ref (213)), some (.int (x)), some (.int ((nI (10 + 99 * i + j)) + 1))], []))) rfl ?_
        rw [nI_1]
        refine XV.cast (congrArg (fun w => setM h w (svP pa g kp) tr mx td (upd (upd F 6 0) 2 (nI (kK kp)))) (mvF_s (upd g 1 (g 1 - 1)) (10 + 99 * i) j)) ?_
        exact ih (j + 1) (by omega)
    refine XV.cast (h' := setM h (mvF (upd g 1 (g 1 - 1)) (10 + 99 * i) 0) (svP pa g kp) tr mx td (upd (upd F 6 0) 2 (nI (kK kp)))) (by rw [mvF_0]) ?_
    exact loop (99 * (k - 1 - i)) 0 (by omega)
  ·
    have hb := inR_f hm hk (if1_0 c1)
    refine XV.run C okM_cut 2 (q := (15, ([some (.ref (213)), some (.int (x)), none], [.int (1), .ref (213)]))) rfl ?_
    refine XV.callV C (As := [.int (1)]) (rest := []) (ci := 5) (ct_M_fails hfl hn (1)) (xlk_ok okM_cut rfl) rfl (by omega) (by omega) rfl (mw_o) rfl wM_M_36 wI_M_fails wV_M_fails wN_M wB_M_fails hy_M_fails (fun q => q.elim) ⟨Nat.le_of_ble_eq_true rfl, Nat.le_of_ble_eq_true rfl⟩ ⟨Nat.le_of_ble_eq_true rfl, Nat.le_of_ble_eq_true rfl⟩ (Nat.le_of_ble_eq_true rfl) (fun r n h hp => ?_) (fun _ _ _ q => q.elim)
    obtain ⟨rfl, rfl, rfl⟩ := hp
    exact XV.iret C (xlk_ok okM_cut rfl) hret rfl (Nat.le_of_ble_eq_true rfl) (Nat.le_of_ble_eq_true rfl) (⟨rfl, ⟨_, rfl⟩, Or.inl (⟨hb, rfl⟩)⟩)
set_option maxHeartbeats 4000000 in
set_option maxRecDepth 100000 in
theorem ct_M_swap {l : Launch} (hfl : l.stackTraces = false) {G : XG} {n : Nat} {h : XH} {g pa tr mx td F : Nat → Int32} (hn : 215 ≤ n) {k : Nat} (hm : g 1 = nI k) (hk : k ≤ 5) (hl : ∀ i, i < k → 0 < rowOf g i 0) {kp : Nat} (hkp : F 2 = nI kp) (hk6 : kp ≤ 6) (x y : Int32) : XCt l G False (Cond.code yM_swap bM_swap 4 (some .int)) yM_swap 2 48 0 0 [.ref (213), .int (x), .int (y)] n (setM h g pa tr mx td F) (fun r' n' h' => n' = n ∧ (∃ v, r' = some (.int v)) ∧ ((((x < 0 ∨ nI k ≤ x)) ∧ h' = setM h g pa tr mx td (upd (upd F 6 0) 6 1)) ∨ ((¬ (x < 0 ∨ nI k ≤ x) ∧ (y < 1 ∨ ¬ y ≤ 99)) ∧ h' = setM h g pa tr mx td (upd (upd F 6 0) 6 2)) ∨ (∃ i, (x = nI i ∧ i < k ∧ (¬ y < 1 ∧ y ≤ 99)) ∧ r' = some (.int (sumN (colR (rowOf g i) true) 0 24)) ∧ h' = setM h (upd (putRow g i (rNew y (g 0))) 9 (putRow g i (rNew y (g 0)) 9 + 1)) (svP pa g kp) tr mx td (upd (upd F 6 0) 2 (nI (kK kp)))))) (fun _ _ _ => False) := by
  refine XCt.of hfl (by decide +kernel) (Nat.le_of_ble_eq_true rfl) ?_
  intro p' e' s' m' g' b' t' c' C hret hname hnt hmd
  refine XV.run C okM_swap 2 (q := (2, ([some (.ref (213)), some (.int (x)), some (.int (y)), none], [.int (0), .ref (213)]))) rfl ?_
  refine XV.putf C (ci := 5) (kf := 6) (ty := .int) (xlk_ok okM_swap rfl) rfl (by decide) wF_M_25 (by omega) (by omega) (mw_o) rfl rfl rfl rfl (Nat.le_of_ble_eq_true rfl) ?_
  refine XV.cast (mw_f (upd F 6 (0))) ?_
  refine XV.run C okM_swap 2 (q := (7, ([some (.ref (213)), some (.int (x)), some (.int (y)), none], [.int (x), .ref (213)]))) rfl ?_
  refine XV.callV C (As := [.int (x)]) (rest := []) (ci := 5) (ct_M_isRope hfl hn (x)) (xlk_ok okM_swap rfl) rfl (by omega) (by omega) rfl (mw_o) rfl wM_M_73 wI_M_isRope wV_M_isRope wN_M wB_M_isRope hy_M_isRope (fun q => q.elim) ⟨Nat.le_of_ble_eq_true rfl, Nat.le_of_ble_eq_true rfl⟩ ⟨Nat.le_of_ble_eq_true rfl, Nat.le_of_ble_eq_true rfl⟩ (Nat.le_of_ble_eq_true rfl) (fun r n h hp => ?_) (fun _ _ _ q => q.elim)
  obtain ⟨rfl, rfl, rfl⟩ := hp
  refine XV.if_ne C (tgt := 19) (xlk_ok okM_swap rfl) rfl (fun c1 => ?_) (fun c1 => ?_)
  ·
    obtain ⟨i, hx, hi⟩ := inR_t hm hk (if1_1 c1)
    refine XV.run C okM_swap 1 (q := (20, ([some (.ref (213)), some (.int (x)), some (.int (y)), none], [.int (y)]))) rfl ?_
    refine XV.callS C (As := [.int (y)]) (rest := []) (ct_M_isQuality hfl (y)) (xlk_ok okM_swap rfl) rfl wM_M_62 wS_M_isQuality wN_M wB_M_isQuality hy_M_isQuality (fun q => q.elim) ⟨Nat.le_of_ble_eq_true rfl, Nat.le_of_ble_eq_true rfl⟩ ⟨Nat.le_of_ble_eq_true rfl, Nat.le_of_ble_eq_true rfl⟩ (Nat.le_of_ble_eq_true rfl) (fun r n h hp => ?_) (fun _ _ _ q => q.elim)
    obtain ⟨rfl, rfl, rfl⟩ := hp
    refine XV.if_ne C (tgt := 32) (xlk_ok okM_swap rfl) rfl (fun c2 => ?_) (fun c2 => ?_)
    ·
      have hok := inG_t (if1_1 c2)
      refine XV.run C okM_swap 1 (q := (33, ([some (.ref (213)), some (.int (x)), some (.int (y)), none], [.ref (213)]))) rfl ?_
      refine XV.callV C (As := []) (rest := []) (ci := 5) (ct_M_saves hfl hn (kp := kp) ((upd_ne (by decide)).trans hkp) hk6) (xlk_ok okM_swap rfl) rfl (by omega) (by omega) rfl (mw_o) rfl wM_M_66 wI_M_saves wV_M_saves wN_M wB_M_saves hy_M_saves (fun q => q.elim) ⟨Nat.le_of_ble_eq_true rfl, Nat.le_of_ble_eq_true rfl⟩ ⟨Nat.le_of_ble_eq_true rfl, Nat.le_of_ble_eq_true rfl⟩ (Nat.le_of_ble_eq_true rfl) (fun r n h hp => ?_) (fun _ _ _ q => q.elim)
      obtain ⟨rfl, rfl, rfl⟩ := hp
      refine XV.run C okM_swap 1 (q := (37, ([some (.ref (213)), some (.int (x)), some (.int (y)), none], [.ref (213)]))) rfl ?_
      refine XV.getf C (ci := 5) (kf := 0) (v := .ref (214)) (xlk_ok okM_swap rfl) rfl (by decide) wF_M_7 (by omega) (by omega) (mw_o) rfl ?_
      refine XV.run C okM_swap 1 (q := (41, ([some (.ref (213)), some (.int (x)), some (.int (y)), none], [.int (x), .ref (214)]))) rfl ?_
      refine XV.callS C (As := [.int (x)]) (rest := [.ref (214)]) (ct_M_row hfl (i := i) (hx)) (xlk_ok okM_swap rfl) rfl wM_M_59 wS_M_row wN_M wB_M_row hy_M_row (fun q => q.elim) ⟨Nat.le_of_ble_eq_true rfl, Nat.le_of_ble_eq_true rfl⟩ ⟨Nat.le_of_ble_eq_true rfl, Nat.le_of_ble_eq_true rfl⟩ (Nat.le_of_ble_eq_true rfl) (fun r n h hp => ?_) (fun _ _ _ q => q.elim)
      obtain ⟨rfl, rfl, rfl⟩ := hp
      refine XV.run C okM_swap 3 (q := (48, ([some (.ref (213)), some (.int (x)), some (.int (y)), none], [.int (1), .int (24), .int (0), .int (nI (10 + 99 * i)), .ref (214)]))) rfl ?_
      refine XV.callS C (As := [.ref (214), .int (nI (10 + 99 * i)), .int (0), .int (24), .int (1)]) (rest := []) (ct_M_sumOf hfl (X := 10 + 99 * i) (mw_1) (by omega) (by omega) (by decide) (by omega) (i := 0) (v := 24) true (rfl) (rfl) (rfl) (by omega) (fun _ => ne_of_gt (hl i hi))) (xlk_ok okM_swap rfl) rfl wM_M_48 wS_M_sumOf wN_M wB_M_sumOf hy_M_sumOf (fun q => q.elim) ⟨Nat.le_of_ble_eq_true rfl, Nat.le_of_ble_eq_true rfl⟩ ⟨Nat.le_of_ble_eq_true rfl, Nat.le_of_ble_eq_true rfl⟩ (Nat.le_of_ble_eq_true rfl) (fun r n h hp => ?_) (fun _ _ _ q => q.elim)
      obtain ⟨rfl, rfl, rfl⟩ := hp
      refine XV.run C okM_swap 4 (q := (55, ([some (.ref (213)), some (.int (x)), some (.int (y)), some (.int (sumN (colR (atF g (10 + 99 * i)) true) 0 24))], [.int (y), .int (x), .ref (213)]))) rfl ?_
      refine XV.callV C (As := [.int (x), .int (y)]) (rest := []) (ci := 5) (ct_M_hangs hfl hn (i := i) (by omega) (hx) (y)) (xlk_ok okM_swap rfl) rfl (by omega) (by omega) rfl (mw_o) rfl wM_M_69 wI_M_hangs wV_M_hangs wN_M wB_M_hangs hy_M_hangs (fun q => q.elim) ⟨Nat.le_of_ble_eq_true rfl, Nat.le_of_ble_eq_true rfl⟩ ⟨Nat.le_of_ble_eq_true rfl, Nat.le_of_ble_eq_true rfl⟩ (Nat.le_of_ble_eq_true rfl) (fun r n h hp => ?_) (fun _ _ _ q => q.elim)
      obtain ⟨rfl, rfl, rfl⟩ := hp
      refine XV.run C okM_swap 1 (q := (59, ([some (.ref (213)), some (.int (x)), some (.int (y)), some (.int (sumN (colR (atF g (10 + 99 * i)) true) 0 24))], [.ref (213)]))) rfl ?_
      refine XV.getf C (ci := 5) (kf := 0) (v := .ref (214)) (xlk_ok okM_swap rfl) rfl (by decide) wF_M_7 (by omega) (by omega) (mw_o) rfl ?_
      refine XV.run C okM_swap 2 (q := (65, ([some (.ref (213)), some (.int (x)), some (.int (y)), some (.int (sumN (colR (atF g (10 + 99 * i)) true) 0 24))], [.int (9), .ref (214), .int (9), .ref (214)]))) rfl ?_
      refine XV.ialdC C (N := 505) (f := (putRow g i (rNew y (g 0)))) (a := 9) (xlk_ok okM_swap rfl) (by omega) (by omega) (mw_1) (rfl) (by decide) (by decide) ?_
      refine XV.run C okM_swap 2 (q := (68, ([some (.ref (213)), some (.int (x)), some (.int (y)), some (.int (sumN (colR (atF g (10 + 99 * i)) true) 0 24))], [.int (((putRow g i (rNew y (g 0))) 9) + 1), .int (9), .ref (214)]))) rfl ?_
      refine XV.iastC C (N := 505) (f := (putRow g i (rNew y (g 0)))) (a := 9) (xlk_ok okM_swap rfl) (by omega) (by omega) (mw_1) (rfl) (by decide) (by decide) ?_
      refine XV.cast (mw_u1 (upd (putRow g i (rNew y (g 0))) 9 (((putRow g i (rNew y (g 0))) 9) + 1))) ?_
      refine XV.run C okM_swap 1 (q := (70, ([some (.ref (213)), some (.int (x)), some (.int (y)), some (.int (sumN (colR (atF g (10 + 99 * i)) true) 0 24))], [.int (sumN (colR (atF g (10 + 99 * i)) true) 0 24)]))) rfl ?_
      exact XV.iret C (xlk_ok okM_swap rfl) hret rfl (Nat.le_of_ble_eq_true rfl) (Nat.le_of_ble_eq_true rfl) (⟨rfl, ⟨_, rfl⟩, Or.inr (Or.inr (⟨i, ⟨hx, hi, hok⟩, rfl, rfl⟩))⟩)
    ·
      have hb2 := inG_f (if1_0 c2)
      refine XV.run C okM_swap 2 (q := (28, ([some (.ref (213)), some (.int (x)), some (.int (y)), none], [.int (2), .ref (213)]))) rfl ?_
      refine XV.callV C (As := [.int (2)]) (rest := []) (ci := 5) (ct_M_fails hfl hn (2)) (xlk_ok okM_swap rfl) rfl (by omega) (by omega) rfl (mw_o) rfl wM_M_36 wI_M_fails wV_M_fails wN_M wB_M_fails hy_M_fails (fun q => q.elim) ⟨Nat.le_of_ble_eq_true rfl, Nat.le_of_ble_eq_true rfl⟩ ⟨Nat.le_of_ble_eq_true rfl, Nat.le_of_ble_eq_true rfl⟩ (Nat.le_of_ble_eq_true rfl) (fun r n h hp => ?_) (fun _ _ _ q => q.elim)
      obtain ⟨rfl, rfl, rfl⟩ := hp
      exact XV.iret C (xlk_ok okM_swap rfl) hret rfl (Nat.le_of_ble_eq_true rfl) (Nat.le_of_ble_eq_true rfl) (⟨rfl, ⟨_, rfl⟩, Or.inr (Or.inl (⟨⟨nbad hx hi hk, hb2⟩, rfl⟩))⟩)
  ·
    have hb := inR_f hm hk (if1_0 c1)
    refine XV.run C okM_swap 2 (q := (15, ([some (.ref (213)), some (.int (x)), some (.int (y)), none], [.int (1), .ref (213)]))) rfl ?_
    refine XV.callV C (As := [.int (1)]) (rest := []) (ci := 5) (ct_M_fails hfl hn (1)) (xlk_ok okM_swap rfl) rfl (by omega) (by omega) rfl (mw_o) rfl wM_M_36 wI_M_fails wV_M_fails wN_M wB_M_fails hy_M_fails (fun q => q.elim) ⟨Nat.le_of_ble_eq_true rfl, Nat.le_of_ble_eq_true rfl⟩ ⟨Nat.le_of_ble_eq_true rfl, Nat.le_of_ble_eq_true rfl⟩ (Nat.le_of_ble_eq_true rfl) (fun r n h hp => ?_) (fun _ _ _ q => q.elim)
    obtain ⟨rfl, rfl, rfl⟩ := hp
    exact XV.iret C (xlk_ok okM_swap rfl) hret rfl (Nat.le_of_ble_eq_true rfl) (Nat.le_of_ble_eq_true rfl) (⟨rfl, ⟨_, rfl⟩, Or.inl (⟨hb, rfl⟩)⟩)
set_option maxHeartbeats 4000000 in
set_option maxRecDepth 100000 in
theorem ct_M_inspect {l : Launch} (hfl : l.stackTraces = false) {G : XG} {n : Nat} {h : XH} {g pa tr mx td F : Nat → Int32} (hn : 215 ≤ n) {k : Nat} (hm : g 1 = nI k) (hk : k ≤ 5) (hl : ∀ i, i < k → 0 < rowOf g i 0) {kp : Nat} (hkp : F 2 = nI kp) (hk6 : kp ≤ 6) (x y u : Int32) : XCt l G False (Cond.code yM_inspect bM_inspect 5 (some .int)) yM_inspect 2 48 0 0 [.ref (213), .int (x), .int (y), .int (u)] n (setM h g pa tr mx td F) (fun r' n' h' => n' = n ∧ (∃ v, r' = some (.int v)) ∧ ((((x < 0 ∨ nI k ≤ x) ∨ ¬ (x < 0 ∨ nI k ≤ x) ∧ ((y < 0 ∨ ¬ y ≤ 23) ∨ (u < 0 ∨ ¬ u ≤ 23))) ∧ h' = setM h g pa tr mx td (upd (upd F 6 0) 6 1)) ∨ ((¬ (x < 0 ∨ nI k ≤ x) ∧ ¬ (y < 0 ∨ ¬ y ≤ 23) ∧ ¬ (u < 0 ∨ ¬ u ≤ 23) ∧ u < y) ∧ h' = setM h g pa tr mx td (upd (upd F 6 0) 6 2)) ∨ (∃ i a b, (x = nI i ∧ i < k ∧ y = nI a ∧ u = nI b ∧ a ≤ b ∧ b < 24) ∧ r' = some (.int (sumN (colR (rowOf (upd (putRow g i (rLook (rowOf g i) a (b + 1 - a) (g 0))) 8 (putRow g i (rLook (rowOf g i) a (b + 1 - a) (g 0)) 8 + (u - y + 1))) i) false) 0 24 - sumN (colR (rowOf g i) false) 0 24)) ∧ h' = setM h (upd (putRow g i (rLook (rowOf g i) a (b + 1 - a) (g 0))) 8 (putRow g i (rLook (rowOf g i) a (b + 1 - a) (g 0)) 8 + (u - y + 1))) (svP pa g kp) tr mx td (upd (upd F 6 0) 2 (nI (kK kp)))))) (fun _ _ _ => False) := by
  refine XCt.of hfl (by decide +kernel) (Nat.le_of_ble_eq_true rfl) ?_
  intro p' e' s' m' g' b' t' c' C hret hname hnt hmd
  refine XV.run C okM_inspect 2 (q := (2, ([some (.ref (213)), some (.int (x)), some (.int (y)), some (.int (u)), none], [.int (0), .ref (213)]))) rfl ?_
  refine XV.putf C (ci := 5) (kf := 6) (ty := .int) (xlk_ok okM_inspect rfl) rfl (by decide) wF_M_25 (by omega) (by omega) (mw_o) rfl rfl rfl rfl (Nat.le_of_ble_eq_true rfl) ?_
  refine XV.cast (mw_f (upd F 6 (0))) ?_
  refine XV.run C okM_inspect 2 (q := (7, ([some (.ref (213)), some (.int (x)), some (.int (y)), some (.int (u)), none], [.int (x), .ref (213)]))) rfl ?_
  refine XV.callV C (As := [.int (x)]) (rest := []) (ci := 5) (ct_M_isRope hfl hn (x)) (xlk_ok okM_inspect rfl) rfl (by omega) (by omega) rfl (mw_o) rfl wM_M_73 wI_M_isRope wV_M_isRope wN_M wB_M_isRope hy_M_isRope (fun q => q.elim) ⟨Nat.le_of_ble_eq_true rfl, Nat.le_of_ble_eq_true rfl⟩ ⟨Nat.le_of_ble_eq_true rfl, Nat.le_of_ble_eq_true rfl⟩ (Nat.le_of_ble_eq_true rfl) (fun r n h hp => ?_) (fun _ _ _ q => q.elim)
  obtain ⟨rfl, rfl, rfl⟩ := hp
  refine XV.if_eq C (tgt := 27) (xlk_ok okM_inspect rfl) rfl (fun c1 => ?_) (fun c1 => ?_)
  ·
    have hb := inR_f hm hk (if1_0 c1)
    refine XV.run C okM_inspect 2 (q := (29, ([some (.ref (213)), some (.int (x)), some (.int (y)), some (.int (u)), none], [.int (1), .ref (213)]))) rfl ?_
    refine XV.callV C (As := [.int (1)]) (rest := []) (ci := 5) (ct_M_fails hfl hn (1)) (xlk_ok okM_inspect rfl) rfl (by omega) (by omega) rfl (mw_o) rfl wM_M_36 wI_M_fails wV_M_fails wN_M wB_M_fails hy_M_fails (fun q => q.elim) ⟨Nat.le_of_ble_eq_true rfl, Nat.le_of_ble_eq_true rfl⟩ ⟨Nat.le_of_ble_eq_true rfl, Nat.le_of_ble_eq_true rfl⟩ (Nat.le_of_ble_eq_true rfl) (fun r n h hp => ?_) (fun _ _ _ q => q.elim)
    obtain ⟨rfl, rfl, rfl⟩ := hp
    exact XV.iret C (xlk_ok okM_inspect rfl) hret rfl (Nat.le_of_ble_eq_true rfl) (Nat.le_of_ble_eq_true rfl) (⟨rfl, ⟨_, rfl⟩, Or.inl ⟨by first | exact Or.inl hb | exact Or.inr ⟨nbad hx hi hk, Or.inl hb1⟩ | exact Or.inr ⟨nbad hx hi hk, Or.inr hb2⟩, rfl⟩⟩)
  ·
    obtain ⟨i, hx, hi⟩ := inR_t hm hk (if1_1 c1)
    refine XV.run C okM_inspect 1 (q := (14, ([some (.ref (213)), some (.int (x)), some (.int (y)), some (.int (u)), none], [.int (y)]))) rfl ?_
    refine XV.callS C (As := [.int (y)]) (rest := []) (ct_M_isSection hfl (y)) (xlk_ok okM_inspect rfl) rfl wM_M_76 wS_M_isSection wN_M wB_M_isSection hy_M_isSection (fun q => q.elim) ⟨Nat.le_of_ble_eq_true rfl, Nat.le_of_ble_eq_true rfl⟩ ⟨Nat.le_of_ble_eq_true rfl, Nat.le_of_ble_eq_true rfl⟩ (Nat.le_of_ble_eq_true rfl) (fun r n h hp => ?_) (fun _ _ _ q => q.elim)
    obtain ⟨rfl, rfl, rfl⟩ := hp
    refine XV.if_eq C (tgt := 27) (xlk_ok okM_inspect rfl) rfl (fun c2 => ?_) (fun c2 => ?_)
    ·
      have hb1 := inG_f (if1_0 c2)
      refine XV.run C okM_inspect 2 (q := (29, ([some (.ref (213)), some (.int (x)), some (.int (y)), some (.int (u)), none], [.int (1), .ref (213)]))) rfl ?_
      refine XV.callV C (As := [.int (1)]) (rest := []) (ci := 5) (ct_M_fails hfl hn (1)) (xlk_ok okM_inspect rfl) rfl (by omega) (by omega) rfl (mw_o) rfl wM_M_36 wI_M_fails wV_M_fails wN_M wB_M_fails hy_M_fails (fun q => q.elim) ⟨Nat.le_of_ble_eq_true rfl, Nat.le_of_ble_eq_true rfl⟩ ⟨Nat.le_of_ble_eq_true rfl, Nat.le_of_ble_eq_true rfl⟩ (Nat.le_of_ble_eq_true rfl) (fun r n h hp => ?_) (fun _ _ _ q => q.elim)
      obtain ⟨rfl, rfl, rfl⟩ := hp
      exact XV.iret C (xlk_ok okM_inspect rfl) hret rfl (Nat.le_of_ble_eq_true rfl) (Nat.le_of_ble_eq_true rfl) (⟨rfl, ⟨_, rfl⟩, Or.inl ⟨by first | exact Or.inl hb | exact Or.inr ⟨nbad hx hi hk, Or.inl hb1⟩ | exact Or.inr ⟨nbad hx hi hk, Or.inr hb2⟩, rfl⟩⟩)
    ·
      have ok1 := inG_t (if1_1 c2)
      obtain ⟨a, hy, hal⟩ := rg_nat (d := 23) ok1 rfl (by omega)
      refine XV.run C okM_inspect 1 (q := (21, ([some (.ref (213)), some (.int (x)), some (.int (y)), some (.int (u)), none], [.int (u)]))) rfl ?_
      refine XV.callS C (As := [.int (u)]) (rest := []) (ct_M_isSection hfl (u)) (xlk_ok okM_inspect rfl) rfl wM_M_76 wS_M_isSection wN_M wB_M_isSection hy_M_isSection (fun q => q.elim) ⟨Nat.le_of_ble_eq_true rfl, Nat.le_of_ble_eq_true rfl⟩ ⟨Nat.le_of_ble_eq_true rfl, Nat.le_of_ble_eq_true rfl⟩ (Nat.le_of_ble_eq_true rfl) (fun r n h hp => ?_) (fun _ _ _ q => q.elim)
      obtain ⟨rfl, rfl, rfl⟩ := hp
      refine XV.if_ne C (tgt := 33) (xlk_ok okM_inspect rfl) rfl (fun c3 => ?_) (fun c3 => ?_)
      ·
        have ok2 := inG_t (if1_1 c3)
        obtain ⟨b, hu, hbl⟩ := rg_nat (d := 23) ok2 rfl (by omega)
        refine XV.run C okM_inspect 2 (q := (35, ([some (.ref (213)), some (.int (x)), some (.int (y)), some (.int (u)), none], [.int (y), .int (u)]))) rfl ?_
        refine XV.icmp_ge C (tgt := 44) (xlk_ok okM_inspect rfl) rfl (fun c4 => ?_) (fun c4 => ?_)
        ·
          have hab : a ≤ b := by
            rw [hy, hu] at c4
            exact (nI_leI (by omega) (by omega)).mp c4
          refine XV.run C okM_inspect 1 (q := (45, ([some (.ref (213)), some (.int (x)), some (.int (y)), some (.int (u)), none], [.ref (213)]))) rfl ?_
          refine XV.callV C (As := []) (rest := []) (ci := 5) (ct_M_saves hfl hn (kp := kp) ((upd_ne (by decide)).trans hkp) hk6) (xlk_ok okM_inspect rfl) rfl (by omega) (by omega) rfl (mw_o) rfl wM_M_66 wI_M_saves wV_M_saves wN_M wB_M_saves hy_M_saves (fun q => q.elim) ⟨Nat.le_of_ble_eq_true rfl, Nat.le_of_ble_eq_true rfl⟩ ⟨Nat.le_of_ble_eq_true rfl, Nat.le_of_ble_eq_true rfl⟩ (Nat.le_of_ble_eq_true rfl) (fun r n h hp => ?_) (fun _ _ _ q => q.elim)
          obtain ⟨rfl, rfl, rfl⟩ := hp
          refine XV.run C okM_inspect 1 (q := (49, ([some (.ref (213)), some (.int (x)), some (.int (y)), some (.int (u)), none], [.ref (213)]))) rfl ?_
          refine XV.getf C (ci := 5) (kf := 0) (v := .ref (214)) (xlk_ok okM_inspect rfl) rfl (by decide) wF_M_7 (by omega) (by omega) (mw_o) rfl ?_
          refine XV.run C okM_inspect 1 (q := (53, ([some (.ref (213)), some (.int (x)), some (.int (y)), some (.int (u)), none], [.int (x), .ref (214)]))) rfl ?_
          refine XV.callS C (As := [.int (x)]) (rest := [.ref (214)]) (ct_M_row hfl (i := i) (hx)) (xlk_ok okM_inspect rfl) rfl wM_M_59 wS_M_row wN_M wB_M_row hy_M_row (fun q => q.elim) ⟨Nat.le_of_ble_eq_true rfl, Nat.le_of_ble_eq_true rfl⟩ ⟨Nat.le_of_ble_eq_true rfl, Nat.le_of_ble_eq_true rfl⟩ (Nat.le_of_ble_eq_true rfl) (fun r n h hp => ?_) (fun _ _ _ q => q.elim)
          obtain ⟨rfl, rfl, rfl⟩ := hp
          refine XV.run C okM_inspect 3 (q := (60, ([some (.ref (213)), some (.int (x)), some (.int (y)), some (.int (u)), none], [.int (0), .int (24), .int (0), .int (nI (10 + 99 * i)), .ref (214)]))) rfl ?_
          refine XV.callS C (As := [.ref (214), .int (nI (10 + 99 * i)), .int (0), .int (24), .int (0)]) (rest := []) (ct_M_sumOf hfl (X := 10 + 99 * i) (mw_1) (by omega) (by omega) (by decide) (by omega) (i := 0) (v := 24) false (rfl) (rfl) (rfl) (by omega) (fun q => Bool.noConfusion q)) (xlk_ok okM_inspect rfl) rfl wM_M_48 wS_M_sumOf wN_M wB_M_sumOf hy_M_sumOf (fun q => q.elim) ⟨Nat.le_of_ble_eq_true rfl, Nat.le_of_ble_eq_true rfl⟩ ⟨Nat.le_of_ble_eq_true rfl, Nat.le_of_ble_eq_true rfl⟩ (Nat.le_of_ble_eq_true rfl) (fun r n h hp => ?_) (fun _ _ _ q => q.elim)
          obtain ⟨rfl, rfl, rfl⟩ := hp
          refine XV.run C okM_inspect 3 (q := (67, ([some (.ref (213)), some (.int (x)), some (.int (y)), some (.int (u)), some (.int (sumN (colR (atF g (10 + 99 * i)) false) 0 24))], [.ref (213), .ref (213)]))) rfl ?_
          refine XV.getf C (ci := 5) (kf := 0) (v := .ref (214)) (xlk_ok okM_inspect rfl) rfl (by decide) wF_M_7 (by omega) (by omega) (mw_o) rfl ?_
          refine XV.run C okM_inspect 1 (q := (71, ([some (.ref (213)), some (.int (x)), some (.int (y)), some (.int (u)), some (.int (sumN (colR (atF g (10 + 99 * i)) false) 0 24))], [.int (x), .ref (214), .ref (213)]))) rfl ?_
          refine XV.callS C (As := [.int (x)]) (rest := [.ref (214), .ref (213)]) (ct_M_row hfl (i := i) (hx)) (xlk_ok okM_inspect rfl) rfl wM_M_59 wS_M_row wN_M wB_M_row hy_M_row (fun q => q.elim) ⟨Nat.le_of_ble_eq_true rfl, Nat.le_of_ble_eq_true rfl⟩ ⟨Nat.le_of_ble_eq_true rfl, Nat.le_of_ble_eq_true rfl⟩ (Nat.le_of_ble_eq_true rfl) (fun r n h hp => ?_) (fun _ _ _ q => q.elim)
          obtain ⟨rfl, rfl, rfl⟩ := hp
          refine XV.run C okM_inspect 2 (q := (76, ([some (.ref (213)), some (.int (x)), some (.int (y)), some (.int (u)), some (.int (sumN (colR (atF g (10 + 99 * i)) false) 0 24))], [.int (u), .int (y), .int (nI (10 + 99 * i)), .ref (214), .ref (213)]))) rfl ?_
          refine XV.callV C (As := [.ref (214), .int (nI (10 + 99 * i)), .int (y), .int (u)]) (rest := []) (ci := 5) (ct_M_inspects_n hfl hn (i := i) (by omega) (a := a) (v := b + 1 - a) (b := b) (rfl) (hy) (hu) (by omega) (by omega) (hl i hi)) (xlk_ok okM_inspect rfl) rfl (by omega) (by omega) rfl (mw_o) rfl wM_M_79 wI_M_inspects wV_M_inspects wN_M wB_M_inspects hy_M_inspects (fun q => q.elim) ⟨Nat.le_of_ble_eq_true rfl, Nat.le_of_ble_eq_true rfl⟩ ⟨Nat.le_of_ble_eq_true rfl, Nat.le_of_ble_eq_true rfl⟩ (Nat.le_of_ble_eq_true rfl) (fun r n h hp => ?_) (fun _ _ _ q => q.elim)
          obtain ⟨rfl, rfl, rfl⟩ := hp
          refine XV.run C okM_inspect 1 (q := (80, ([some (.ref (213)), some (.int (x)), some (.int (y)), some (.int (u)), some (.int (sumN (colR (atF g (10 + 99 * i)) false) 0 24))], [.ref (213)]))) rfl ?_
          refine XV.getf C (ci := 5) (kf := 0) (v := .ref (214)) (xlk_ok okM_inspect rfl) rfl (by decide) wF_M_7 (by omega) (by omega) (mw_o) rfl ?_
          refine XV.run C okM_inspect 2 (q := (86, ([some (.ref (213)), some (.int (x)), some (.int (y)), some (.int (u)), some (.int (sumN (colR (atF g (10 + 99 * i)) false) 0 24))], [.int (8), .ref (214), .int (8), .ref (214)]))) rfl ?_
          refine XV.ialdC C (N := 505) (f := (putRow g i (rLook (rowOf g i) a (b + 1 - a) (g 0)))) (a := 8) (xlk_ok okM_inspect rfl) (by omega) (by omega) (mw_1) (rfl) (by decide) (by decide) ?_
          refine XV.run C okM_inspect 6 (q := (93, ([some (.ref (213)), some (.int (x)), some (.int (y)), some (.int (u)), some (.int (sumN (colR (atF g (10 + 99 * i)) false) 0 24))], [.int (((putRow g i (rLook (rowOf g i) a (b + 1 - a) (g 0))) 8) + ((u - y) + 1)), .int (8), .ref (214)]))) rfl ?_
          refine XV.iastC C (N := 505) (f := (putRow g i (rLook (rowOf g i) a (b + 1 - a) (g 0)))) (a := 8) (xlk_ok okM_inspect rfl) (by omega) (by omega) (mw_1) (rfl) (by decide) (by decide) ?_
          refine XV.cast (mw_u1 (upd (putRow g i (rLook (rowOf g i) a (b + 1 - a) (g 0))) 8 (((putRow g i (rLook (rowOf g i) a (b + 1 - a) (g 0))) 8) + ((u - y) + 1)))) ?_
          refine XV.run C okM_inspect 1 (q := (95, ([some (.ref (213)), some (.int (x)), some (.int (y)), some (.int (u)), some (.int (sumN (colR (atF g (10 + 99 * i)) false) 0 24))], [.ref (213)]))) rfl ?_
          refine XV.getf C (ci := 5) (kf := 0) (v := .ref (214)) (xlk_ok okM_inspect rfl) rfl (by decide) wF_M_7 (by omega) (by omega) (mw_o) rfl ?_
          refine XV.run C okM_inspect 1 (q := (99, ([some (.ref (213)), some (.int (x)), some (.int (y)), some (.int (u)), some (.int (sumN (colR (atF g (10 + 99 * i)) false) 0 24))], [.int (x), .ref (214)]))) rfl ?_
          refine XV.callS C (As := [.int (x)]) (rest := [.ref (214)]) (ct_M_row hfl (i := i) (hx)) (xlk_ok okM_inspect rfl) rfl wM_M_59 wS_M_row wN_M wB_M_row hy_M_row (fun q => q.elim) ⟨Nat.le_of_ble_eq_true rfl, Nat.le_of_ble_eq_true rfl⟩ ⟨Nat.le_of_ble_eq_true rfl, Nat.le_of_ble_eq_true rfl⟩ (Nat.le_of_ble_eq_true rfl) (fun r n h hp => ?_) (fun _ _ _ q => q.elim)
          obtain ⟨rfl, rfl, rfl⟩ := hp
          refine XV.run C okM_inspect 3 (q := (106, ([some (.ref (213)), some (.int (x)), some (.int (y)), some (.int (u)), some (.int (sumN (colR (atF g (10 + 99 * i)) false) 0 24))], [.int (0), .int (24), .int (0), .int (nI (10 + 99 * i)), .ref (214)]))) rfl ?_
          refine XV.callS C (As := [.ref (214), .int (nI (10 + 99 * i)), .int (0), .int (24), .int (0)]) (rest := []) (ct_M_sumOf hfl (X := 10 + 99 * i) (mw_1) (by omega) (by omega) (by decide) (by omega) (i := 0) (v := 24) false (rfl) (rfl) (rfl) (by omega) (fun q => Bool.noConfusion q)) (xlk_ok okM_inspect rfl) rfl wM_M_48 wS_M_sumOf wN_M wB_M_sumOf hy_M_sumOf (fun q => q.elim) ⟨Nat.le_of_ble_eq_true rfl, Nat.le_of_ble_eq_true rfl⟩ ⟨Nat.le_of_ble_eq_true rfl, Nat.le_of_ble_eq_true rfl⟩ (Nat.le_of_ble_eq_true rfl) (fun r n h hp => ?_) (fun _ _ _ q => q.elim)
          obtain ⟨rfl, rfl, rfl⟩ := hp
          refine XV.run C okM_inspect 2 (q := (112, ([some (.ref (213)), some (.int (x)), some (.int (y)), some (.int (u)), some (.int (sumN (colR (atF g (10 + 99 * i)) false) 0 24))], [.int ((sumN (colR (atF (upd (putRow g i (rLook (rowOf g i) a (b + 1 - a) (g 0))) 8 (((putRow g i (rLook (rowOf g i) a (b + 1 - a) (g 0))) 8) + ((u - y) + 1))) (10 + 99 * i)) false) 0 24) - (sumN (colR (atF g (10 + 99 * i)) false) 0 24))]))) rfl ?_
          exact XV.iret C (xlk_ok okM_inspect rfl) hret rfl (Nat.le_of_ble_eq_true rfl) (Nat.le_of_ble_eq_true rfl) (⟨rfl, ⟨_, rfl⟩, Or.inr (Or.inr (⟨i, a, b, ⟨hx, hi, hy, hu, hab, by omega⟩, rfl, rfl⟩))⟩)
        ·
          refine XV.run C okM_inspect 2 (q := (40, ([some (.ref (213)), some (.int (x)), some (.int (y)), some (.int (u)), none], [.int (2), .ref (213)]))) rfl ?_
          refine XV.callV C (As := [.int (2)]) (rest := []) (ci := 5) (ct_M_fails hfl hn (2)) (xlk_ok okM_inspect rfl) rfl (by omega) (by omega) rfl (mw_o) rfl wM_M_36 wI_M_fails wV_M_fails wN_M wB_M_fails hy_M_fails (fun q => q.elim) ⟨Nat.le_of_ble_eq_true rfl, Nat.le_of_ble_eq_true rfl⟩ ⟨Nat.le_of_ble_eq_true rfl, Nat.le_of_ble_eq_true rfl⟩ (Nat.le_of_ble_eq_true rfl) (fun r n h hp => ?_) (fun _ _ _ q => q.elim)
          obtain ⟨rfl, rfl, rfl⟩ := hp
          exact XV.iret C (xlk_ok okM_inspect rfl) hret rfl (Nat.le_of_ble_eq_true rfl) (Nat.le_of_ble_eq_true rfl) (⟨rfl, ⟨_, rfl⟩, Or.inr (Or.inl (⟨⟨nbad hx hi hk, fun q => q.elim ok1.1 (fun z => z ok1.2), fun q => q.elim ok2.1 (fun z => z ok2.2), Int32.not_le.mp c4⟩, rfl⟩))⟩)
      ·
        have hb2 := inG_f (if1_0 c3)
        refine XV.run C okM_inspect 2 (q := (29, ([some (.ref (213)), some (.int (x)), some (.int (y)), some (.int (u)), none], [.int (1), .ref (213)]))) rfl ?_
        refine XV.callV C (As := [.int (1)]) (rest := []) (ci := 5) (ct_M_fails hfl hn (1)) (xlk_ok okM_inspect rfl) rfl (by omega) (by omega) rfl (mw_o) rfl wM_M_36 wI_M_fails wV_M_fails wN_M wB_M_fails hy_M_fails (fun q => q.elim) ⟨Nat.le_of_ble_eq_true rfl, Nat.le_of_ble_eq_true rfl⟩ ⟨Nat.le_of_ble_eq_true rfl, Nat.le_of_ble_eq_true rfl⟩ (Nat.le_of_ble_eq_true rfl) (fun r n h hp => ?_) (fun _ _ _ q => q.elim)
        obtain ⟨rfl, rfl, rfl⟩ := hp
        exact XV.iret C (xlk_ok okM_inspect rfl) hret rfl (Nat.le_of_ble_eq_true rfl) (Nat.le_of_ble_eq_true rfl) (⟨rfl, ⟨_, rfl⟩, Or.inl ⟨by first | exact Or.inl hb | exact Or.inr ⟨nbad hx hi hk, Or.inl hb1⟩ | exact Or.inr ⟨nbad hx hi hk, Or.inr hb2⟩, rfl⟩⟩)
set_option maxHeartbeats 4000000 in
set_option maxRecDepth 100000 in
theorem ct_M_set {l : Launch} (hfl : l.stackTraces = false) {G : XG} {n : Nat} {h : XH} {g pa tr mx td F : Nat → Int32} (hn : 215 ≤ n) {kp : Nat} (hkp : F 2 = nI kp) (hk6 : kp ≤ 6) (x y : Int32) : XCt l G False (Cond.code yM_set bM_set 4 (some .int)) yM_set 2 43 0 0 [.ref (213), .int (x), .int (y)] n (setM h g pa tr mx td F) (fun r' n' h' => n' = n ∧ (∃ v, r' = some (.int v)) ∧ ((((x < 0 ∨ ¬ x ≤ 4)) ∧ h' = setM h g pa tr mx td (upd (upd F 6 0) 6 1)) ∨ ((∃ i, x = nI i ∧ i < 5 ∧ (y < 1 ∨ ¬ y ≤ (XSA 2).2 i)) ∧ h' = setM h g pa tr mx td (upd (upd F 6 0) 6 2)) ∨ (∃ i, (x = nI i ∧ i < 5 ∧ (¬ y < 1 ∧ y ≤ (XSA 2).2 i)) ∧ r' = some (.int (g (2 + i))) ∧ h' = setM h (upd g (2 + i) y) (svP pa g kp) tr mx td (upd (upd F 6 0) 2 (nI (kK kp)))))) (fun _ _ _ => False) := by
  refine XCt.of hfl (by decide +kernel) (Nat.le_of_ble_eq_true rfl) ?_
  intro p' e' s' m' g' b' t' c' C hret hname hnt hmd
  refine XV.run C okM_set 2 (q := (2, ([some (.ref (213)), some (.int (x)), some (.int (y)), none], [.int (0), .ref (213)]))) rfl ?_
  refine XV.putf C (ci := 5) (kf := 6) (ty := .int) (xlk_ok okM_set rfl) rfl (by decide) wF_M_25 (by omega) (by omega) (mw_o) rfl rfl rfl rfl (Nat.le_of_ble_eq_true rfl) ?_
  refine XV.cast (mw_f (upd F 6 (0))) ?_
  refine XV.run C okM_set 3 (q := (8, ([some (.ref (213)), some (.int (x)), some (.int (y)), none], [.int (4), .int (0), .int (x)]))) rfl ?_
  refine XV.callS C (As := [.int (x), .int (0), .int (4)]) (rest := []) (ct_M_in hfl (x) (0) (4)) (xlk_ok okM_set rfl) rfl wM_M_29 wS_M_in wN_M wB_M_in hy_M_in (fun q => q.elim) ⟨Nat.le_of_ble_eq_true rfl, Nat.le_of_ble_eq_true rfl⟩ ⟨Nat.le_of_ble_eq_true rfl, Nat.le_of_ble_eq_true rfl⟩ (Nat.le_of_ble_eq_true rfl) (fun r n h hp => ?_) (fun _ _ _ q => q.elim)
  obtain ⟨rfl, rfl, rfl⟩ := hp
  refine XV.if_ne C (tgt := 20) (xlk_ok okM_set rfl) rfl (fun c1 => ?_) (fun c1 => ?_)
  ·
    have hok := inG_t (if1_1 c1)
    obtain ⟨i, hx, hil⟩ := rg_nat (d := 4) hok rfl (by omega)
    have hi : i < 5 := by omega
    refine XV.run C okM_set 2 (q := (22, ([some (.ref (213)), some (.int (x)), some (.int (y)), none], [.int (y), .int (x)]))) rfl ?_
    refine XV.callS C (As := [.int (x), .int (y)]) (rest := []) (ct_M_isFor hfl (i := i) hx hi (y)) (xlk_ok okM_set rfl) rfl wM_M_83 wS_M_isFor wN_M wB_M_isFor hy_M_isFor (fun q => q.elim) ⟨Nat.le_of_ble_eq_true rfl, Nat.le_of_ble_eq_true rfl⟩ ⟨Nat.le_of_ble_eq_true rfl, Nat.le_of_ble_eq_true rfl⟩ (Nat.le_of_ble_eq_true rfl) (fun r n h hp => ?_) (fun _ _ _ q => q.elim)
    obtain ⟨rfl, rfl, rfl⟩ := hp
    refine XV.if_ne C (tgt := 34) (xlk_ok okM_set rfl) rfl (fun c2 => ?_) (fun c2 => ?_)
    ·
      have hok2 := inG_t (if1_1 c2)
      refine XV.run C okM_set 1 (q := (35, ([some (.ref (213)), some (.int (x)), some (.int (y)), none], [.ref (213)]))) rfl ?_
      refine XV.callV C (As := []) (rest := []) (ci := 5) (ct_M_saves hfl hn (kp := kp) ((upd_ne (by decide)).trans hkp) hk6) (xlk_ok okM_set rfl) rfl (by omega) (by omega) rfl (mw_o) rfl wM_M_66 wI_M_saves wV_M_saves wN_M wB_M_saves hy_M_saves (fun q => q.elim) ⟨Nat.le_of_ble_eq_true rfl, Nat.le_of_ble_eq_true rfl⟩ ⟨Nat.le_of_ble_eq_true rfl, Nat.le_of_ble_eq_true rfl⟩ (Nat.le_of_ble_eq_true rfl) (fun r n h hp => ?_) (fun _ _ _ q => q.elim)
      obtain ⟨rfl, rfl, rfl⟩ := hp
      refine XV.run C okM_set 1 (q := (39, ([some (.ref (213)), some (.int (x)), some (.int (y)), none], [.ref (213)]))) rfl ?_
      refine XV.getf C (ci := 5) (kf := 0) (v := .ref (214)) (xlk_ok okM_set rfl) rfl (by decide) wF_M_7 (by omega) (by omega) (mw_o) rfl ?_
      refine XV.run C okM_set 3 (q := (45, ([some (.ref (213)), some (.int (x)), some (.int (y)), none], [.int (2 + x), .ref (214)]))) rfl ?_
      refine XV.ialdC C (N := 505) (f := g) (a := (2 + i)) (xlk_ok okM_set rfl) (by omega) (by omega) (mw_1) (by rw [hx, show (2 : Int32) = nI 2 from rfl, nI_add]) (by omega) (by decide) ?_
      refine XV.run C okM_set 2 (q := (48, ([some (.ref (213)), some (.int (x)), some (.int (y)), some (.int (g (2 + i)))], [.ref (213)]))) rfl ?_
      refine XV.getf C (ci := 5) (kf := 0) (v := .ref (214)) (xlk_ok okM_set rfl) rfl (by decide) wF_M_7 (by omega) (by omega) (mw_o) rfl ?_
      refine XV.run C okM_set 4 (q := (55, ([some (.ref (213)), some (.int (x)), some (.int (y)), some (.int (g (2 + i)))], [.int (y), .int (2 + x), .ref (214)]))) rfl ?_
      refine XV.iastC C (N := 505) (f := g) (a := (2 + i)) (xlk_ok okM_set rfl) (by omega) (by omega) (mw_1) (by rw [hx, show (2 : Int32) = nI 2 from rfl, nI_add]) (by omega) (by decide) ?_
      refine XV.cast (mw_u1 (upd g (2 + i) (y))) ?_
      refine XV.run C okM_set 1 (q := (57, ([some (.ref (213)), some (.int (x)), some (.int (y)), some (.int (g (2 + i)))], [.int (g (2 + i))]))) rfl ?_
      exact XV.iret C (xlk_ok okM_set rfl) hret rfl (Nat.le_of_ble_eq_true rfl) (Nat.le_of_ble_eq_true rfl) (⟨rfl, ⟨_, rfl⟩, Or.inr (Or.inr (⟨i, ⟨hx, hi, hok2⟩, rfl, rfl⟩))⟩)
    ·
      have hb2 := inG_f (if1_0 c2)
      refine XV.run C okM_set 2 (q := (30, ([some (.ref (213)), some (.int (x)), some (.int (y)), none], [.int (2), .ref (213)]))) rfl ?_
      refine XV.callV C (As := [.int (2)]) (rest := []) (ci := 5) (ct_M_fails hfl hn (2)) (xlk_ok okM_set rfl) rfl (by omega) (by omega) rfl (mw_o) rfl wM_M_36 wI_M_fails wV_M_fails wN_M wB_M_fails hy_M_fails (fun q => q.elim) ⟨Nat.le_of_ble_eq_true rfl, Nat.le_of_ble_eq_true rfl⟩ ⟨Nat.le_of_ble_eq_true rfl, Nat.le_of_ble_eq_true rfl⟩ (Nat.le_of_ble_eq_true rfl) (fun r n h hp => ?_) (fun _ _ _ q => q.elim)
      obtain ⟨rfl, rfl, rfl⟩ := hp
      exact XV.iret C (xlk_ok okM_set rfl) hret rfl (Nat.le_of_ble_eq_true rfl) (Nat.le_of_ble_eq_true rfl) (⟨rfl, ⟨_, rfl⟩, Or.inr (Or.inl (⟨⟨i, hx, hi, hb2⟩, rfl⟩))⟩)
  ·
    have hb := inG_f (if1_0 c1)
    refine XV.run C okM_set 2 (q := (16, ([some (.ref (213)), some (.int (x)), some (.int (y)), none], [.int (1), .ref (213)]))) rfl ?_
    refine XV.callV C (As := [.int (1)]) (rest := []) (ci := 5) (ct_M_fails hfl hn (1)) (xlk_ok okM_set rfl) rfl (by omega) (by omega) rfl (mw_o) rfl wM_M_36 wI_M_fails wV_M_fails wN_M wB_M_fails hy_M_fails (fun q => q.elim) ⟨Nat.le_of_ble_eq_true rfl, Nat.le_of_ble_eq_true rfl⟩ ⟨Nat.le_of_ble_eq_true rfl, Nat.le_of_ble_eq_true rfl⟩ (Nat.le_of_ble_eq_true rfl) (fun r n h hp => ?_) (fun _ _ _ q => q.elim)
    obtain ⟨rfl, rfl, rfl⟩ := hp
    exact XV.iret C (xlk_ok okM_set rfl) hret rfl (Nat.le_of_ble_eq_true rfl) (Nat.le_of_ble_eq_true rfl) (⟨rfl, ⟨_, rfl⟩, Or.inl (⟨hb, rfl⟩)⟩)
set_option maxHeartbeats 4000000 in
set_option maxRecDepth 100000 in
theorem ct_M_trip {l : Launch} (hfl : l.stackTraces = false) {G : XG} {n : Nat} {h : XH} {g pa tr mx td F : Nat → Int32} (hn : 215 ≤ n) {k : Nat} (hm : g 1 = nI k) (hk : k ≤ 5) {z : Nat} (hz : g 2 = nI z) (z1 : 1 ≤ z) (z2 : z ≤ 12) {kp : Nat} (hkp : F 2 = nI kp) (hk6 : kp ≤ 6) (x y u : Int32) : XCt l G False (Cond.code yM_trip bM_trip 4 (some .int)) yM_trip 7 164 0 0 [.ref (213), .int (x), .int (y), .int (u)] n (setM h g pa tr mx td F) (fun r' n' h' => n' = n ∧ (∃ v, r' = some (.int v)) ∧ ((((x < 0 ∨ ¬ x ≤ 7) ∨ ¬ (x < 0 ∨ ¬ x ≤ 7) ∧ (y < 0 ∨ ¬ y ≤ 7)) ∧ h' = setM h g pa tr mx td (upd (upd F 6 0) 6 1)) ∨ ((¬ (x < 0 ∨ ¬ x ≤ 7) ∧ ¬ (y < 0 ∨ ¬ y ≤ 7) ∧ (u < 1 ∨ ¬ u ≤ 99)) ∧ h' = setM h g pa tr mx td (upd (upd F 6 0) 6 2)) ∨ ((¬ (x < 0 ∨ ¬ x ≤ 7) ∧ ¬ (y < 0 ∨ ¬ y ≤ 7) ∧ (¬ u < 1 ∧ u ≤ 99) ∧ ¬ (canM g z k = true ∧ g 7 + u ≤ 99999)) ∧ h' = setM h g pa tr mx td (upd (upd F 6 0) 6 3)) ∨ (∃ a b, (x = nI a ∧ a < 8 ∧ y = nI b ∧ b < 8 ∧ (¬ u < 1 ∧ u ≤ 99) ∧ (canM g z k = true ∧ g 7 + u ≤ 99999)) ∧ r' = some (.int (g 7 + u)) ∧ h' = setM h (travK g (min a b) (max a b) k u) (svP pa g kp) tr mx td (upd (upd F 6 0) 2 (nI (kK kp)))))) (fun _ _ _ => False) := by
  refine XCt.of hfl (by decide +kernel) (Nat.le_of_ble_eq_true rfl) ?_
  intro p' e' s' m' g' b' t' c' C hret hname hnt hmd
  refine XV.run C okM_trip 2 (q := (2, ([some (.ref (213)), some (.int (x)), some (.int (y)), some (.int (u))], [.int (0), .ref (213)]))) rfl ?_
  refine XV.putf C (ci := 5) (kf := 6) (ty := .int) (xlk_ok okM_trip rfl) rfl (by decide) wF_M_25 (by omega) (by omega) (mw_o) rfl rfl rfl rfl (Nat.le_of_ble_eq_true rfl) ?_
  refine XV.cast (mw_f (upd F 6 (0))) ?_
  refine XV.run C okM_trip 3 (q := (9, ([some (.ref (213)), some (.int (x)), some (.int (y)), some (.int (u))], [.int (7), .int (0), .int (x)]))) rfl ?_
  refine XV.callS C (As := [.int (x), .int (0), .int (7)]) (rest := []) (ct_M_in hfl (x) (0) (7)) (xlk_ok okM_trip rfl) rfl wM_M_29 wS_M_in wN_M wB_M_in hy_M_in (fun q => q.elim) ⟨Nat.le_of_ble_eq_true rfl, Nat.le_of_ble_eq_true rfl⟩ ⟨Nat.le_of_ble_eq_true rfl, Nat.le_of_ble_eq_true rfl⟩ (Nat.le_of_ble_eq_true rfl) (fun r n h hp => ?_) (fun _ _ _ q => q.elim)
  obtain ⟨rfl, rfl, rfl⟩ := hp
  refine XV.if_eq C (tgt := 25) (xlk_ok okM_trip rfl) rfl (fun c1 => ?_) (fun c1 => ?_)
  ·
    have hb := inG_f (if1_0 c1)
    refine XV.run C okM_trip 2 (q := (27, ([some (.ref (213)), some (.int (x)), some (.int (y)), some (.int (u))], [.int (1), .ref (213)]))) rfl ?_
    refine XV.callV C (As := [.int (1)]) (rest := []) (ci := 5) (ct_M_fails hfl hn (1)) (xlk_ok okM_trip rfl) rfl (by omega) (by omega) rfl (mw_o) rfl wM_M_36 wI_M_fails wV_M_fails wN_M wB_M_fails hy_M_fails (fun q => q.elim) ⟨Nat.le_of_ble_eq_true rfl, Nat.le_of_ble_eq_true rfl⟩ ⟨Nat.le_of_ble_eq_true rfl, Nat.le_of_ble_eq_true rfl⟩ (Nat.le_of_ble_eq_true rfl) (fun r n h hp => ?_) (fun _ _ _ q => q.elim)
    obtain ⟨rfl, rfl, rfl⟩ := hp
    exact XV.iret C (xlk_ok okM_trip rfl) hret rfl (Nat.le_of_ble_eq_true rfl) (Nat.le_of_ble_eq_true rfl) (⟨rfl, ⟨_, rfl⟩, Or.inl ⟨by first | exact Or.inl hb | exact Or.inr ⟨fun q => q.elim ok1.1 (fun z => z ok1.2), hb1⟩, rfl⟩⟩)
  ·
    have ok1 := inG_t (if1_1 c1)
    obtain ⟨a, hx, hal⟩ := rg_nat (d := 7) ok1 rfl (by omega)
    refine XV.run C okM_trip 3 (q := (19, ([some (.ref (213)), some (.int (x)), some (.int (y)), some (.int (u))], [.int (7), .int (0), .int (y)]))) rfl ?_
    refine XV.callS C (As := [.int (y), .int (0), .int (7)]) (rest := []) (ct_M_in hfl (y) (0) (7)) (xlk_ok okM_trip rfl) rfl wM_M_29 wS_M_in wN_M wB_M_in hy_M_in (fun q => q.elim) ⟨Nat.le_of_ble_eq_true rfl, Nat.le_of_ble_eq_true rfl⟩ ⟨Nat.le_of_ble_eq_true rfl, Nat.le_of_ble_eq_true rfl⟩ (Nat.le_of_ble_eq_true rfl) (fun r n h hp => ?_) (fun _ _ _ q => q.elim)
    obtain ⟨rfl, rfl, rfl⟩ := hp
    refine XV.if_ne C (tgt := 31) (xlk_ok okM_trip rfl) rfl (fun c2 => ?_) (fun c2 => ?_)
    ·
      have ok2 := inG_t (if1_1 c2)
      obtain ⟨b, hy, hbl⟩ := rg_nat (d := 7) ok2 rfl (by omega)
      refine XV.run C okM_trip 3 (q := (35, ([some (.ref (213)), some (.int (x)), some (.int (y)), some (.int (u))], [.int (99), .int (1), .int (u)]))) rfl ?_
      refine XV.callS C (As := [.int (u), .int (1), .int (99)]) (rest := []) (ct_M_in hfl (u) (1) (99)) (xlk_ok okM_trip rfl) rfl wM_M_29 wS_M_in wN_M wB_M_in hy_M_in (fun q => q.elim) ⟨Nat.le_of_ble_eq_true rfl, Nat.le_of_ble_eq_true rfl⟩ ⟨Nat.le_of_ble_eq_true rfl, Nat.le_of_ble_eq_true rfl⟩ (Nat.le_of_ble_eq_true rfl) (fun r n h hp => ?_) (fun _ _ _ q => q.elim)
      obtain ⟨rfl, rfl, rfl⟩ := hp
      refine XV.if_ne C (tgt := 47) (xlk_ok okM_trip rfl) rfl (fun c3 => ?_) (fun c3 => ?_)
      ·
        have hok := inG_t (if1_1 c3)
        refine XV.run C okM_trip 1 (q := (48, ([some (.ref (213)), some (.int (x)), some (.int (y)), some (.int (u))], [.ref (213)]))) rfl ?_
        refine XV.callV C (As := []) (rest := []) (ci := 5) (ct_M_canRun hfl hn (hm) hk (hz) z1 z2) (xlk_ok okM_trip rfl) rfl (by omega) (by omega) rfl (mw_o) rfl wM_M_94 wI_M_canRun wV_M_canRun wN_M wB_M_canRun hy_M_canRun (fun q => q.elim) ⟨Nat.le_of_ble_eq_true rfl, Nat.le_of_ble_eq_true rfl⟩ ⟨Nat.le_of_ble_eq_true rfl, Nat.le_of_ble_eq_true rfl⟩ (Nat.le_of_ble_eq_true rfl) (fun r n h hp => ?_) (fun _ _ _ q => q.elim)
        obtain ⟨rfl, rfl, rfl⟩ := hp
        refine XV.if_eq C (tgt := 68) (xlk_ok okM_trip rfl) rfl (fun c4 => ?_) (fun c4 => ?_)
        ·
          have hc := if1_0 c4
          refine XV.run C okM_trip 2 (q := (70, ([some (.ref (213)), some (.int (x)), some (.int (y)), some (.int (u))], [.int (3), .ref (213)]))) rfl ?_
          refine XV.callV C (As := [.int (3)]) (rest := []) (ci := 5) (ct_M_fails hfl hn (3)) (xlk_ok okM_trip rfl) rfl (by omega) (by omega) rfl (mw_o) rfl wM_M_36 wI_M_fails wV_M_fails wN_M wB_M_fails hy_M_fails (fun q => q.elim) ⟨Nat.le_of_ble_eq_true rfl, Nat.le_of_ble_eq_true rfl⟩ ⟨Nat.le_of_ble_eq_true rfl, Nat.le_of_ble_eq_true rfl⟩ (Nat.le_of_ble_eq_true rfl) (fun r n h hp => ?_) (fun _ _ _ q => q.elim)
          obtain ⟨rfl, rfl, rfl⟩ := hp
          exact XV.iret C (xlk_ok okM_trip rfl) hret rfl (Nat.le_of_ble_eq_true rfl) (Nat.le_of_ble_eq_true rfl) (⟨rfl, ⟨_, rfl⟩, Or.inr (Or.inr (Or.inl (⟨⟨fun q => q.elim ok1.1 (fun z => z ok1.2), fun q => q.elim ok2.1 (fun z => z ok2.2), hok, by first | exact fun q => c5 q.2 | exact fun q => Bool.noConfusion (hc.symm.trans q.1)⟩, rfl⟩)))⟩)
        ·
          have hc := if1_1 c4
          refine XV.run C okM_trip 1 (q := (55, ([some (.ref (213)), some (.int (x)), some (.int (y)), some (.int (u))], [.ref (213)]))) rfl ?_
          refine XV.getf C (ci := 5) (kf := 0) (v := .ref (214)) (xlk_ok okM_trip rfl) rfl (by decide) wF_M_7 (by omega) (by omega) (mw_o) rfl ?_
          refine XV.run C okM_trip 1 (q := (60, ([some (.ref (213)), some (.int (x)), some (.int (y)), some (.int (u))], [.int (7), .ref (214)]))) rfl ?_
          refine XV.ialdC C (N := 505) (f := g) (a := 7) (xlk_ok okM_trip rfl) (by omega) (by omega) (mw_1) (rfl) (by decide) (by decide) ?_
          refine XV.run C okM_trip 2 (q := (63, ([some (.ref (213)), some (.int (x)), some (.int (y)), some (.int (u))], [.int ((g 7) + u)]))) rfl ?_
          refine XV.ldc C (xlk_ok okM_trip rfl) wK_M_98 ?_
          refine XV.icmp_le C (tgt := 74) (xlk_ok okM_trip rfl) rfl (fun c5 => ?_) (fun c5 => ?_)
          ·
            refine XV.run C okM_trip 1 (q := (75, ([some (.ref (213)), some (.int (x)), some (.int (y)), some (.int (u))], [.ref (213)]))) rfl ?_
            refine XV.callV C (As := []) (rest := []) (ci := 5) (ct_M_saves hfl hn (kp := kp) ((upd_ne (by decide)).trans hkp) hk6) (xlk_ok okM_trip rfl) rfl (by omega) (by omega) rfl (mw_o) rfl wM_M_66 wI_M_saves wV_M_saves wN_M wB_M_saves hy_M_saves (fun q => q.elim) ⟨Nat.le_of_ble_eq_true rfl, Nat.le_of_ble_eq_true rfl⟩ ⟨Nat.le_of_ble_eq_true rfl, Nat.le_of_ble_eq_true rfl⟩ (Nat.le_of_ble_eq_true rfl) (fun r n h hp => ?_) (fun _ _ _ q => q.elim)
            obtain ⟨rfl, rfl, rfl⟩ := hp
            refine XV.run C okM_trip 4 (q := (82, ([some (.ref (213)), some (.int (x)), some (.int (y)), some (.int (u))], [.int (u), .int (y), .int (x), .ref (213)]))) rfl ?_
            refine XV.callV C (As := [.int (x), .int (y), .int (u)]) (rest := []) (ci := 5) (ct_M_goes hfl hn (hm) hk (hx) (hy) (by omega) (by omega) (u)) (xlk_ok okM_trip rfl) rfl (by omega) (by omega) rfl (mw_o) rfl wM_M_99 wI_M_goes wV_M_goes wN_M wB_M_goes hy_M_goes (fun q => q.elim) ⟨Nat.le_of_ble_eq_true rfl, Nat.le_of_ble_eq_true rfl⟩ ⟨Nat.le_of_ble_eq_true rfl, Nat.le_of_ble_eq_true rfl⟩ (Nat.le_of_ble_eq_true rfl) (fun r n h hp => ?_) (fun _ _ _ q => q.elim)
            obtain ⟨rfl, rfl, rfl⟩ := hp
            refine XV.run C okM_trip 1 (q := (86, ([some (.ref (213)), some (.int (x)), some (.int (y)), some (.int (u))], [.ref (213)]))) rfl ?_
            refine XV.getf C (ci := 5) (kf := 0) (v := .ref (214)) (xlk_ok okM_trip rfl) rfl (by decide) wF_M_7 (by omega) (by omega) (mw_o) rfl ?_
            refine XV.run C okM_trip 1 (q := (91, ([some (.ref (213)), some (.int (x)), some (.int (y)), some (.int (u))], [.int (7), .ref (214)]))) rfl ?_
            refine XV.ialdC C (N := 505) (f := (travK g (min a b) (max a b) k u)) (a := 7) (xlk_ok okM_trip rfl) (by omega) (by omega) (mw_1) (rfl) (by decide) (by decide) ?_
            exact XV.iret C (xlk_ok okM_trip rfl) hret rfl (Nat.le_of_ble_eq_true rfl) (Nat.le_of_ble_eq_true rfl) (⟨rfl, ⟨_, rfl⟩, Or.inr (Or.inr (Or.inr (⟨a, b, ⟨hx, by omega, hy, by omega, hok, hc, c5⟩, congrArg (fun q => some (Value.int q)) upd_eq, rfl⟩)))⟩)
          ·
            refine XV.run C okM_trip 2 (q := (70, ([some (.ref (213)), some (.int (x)), some (.int (y)), some (.int (u))], [.int (3), .ref (213)]))) rfl ?_
            refine XV.callV C (As := [.int (3)]) (rest := []) (ci := 5) (ct_M_fails hfl hn (3)) (xlk_ok okM_trip rfl) rfl (by omega) (by omega) rfl (mw_o) rfl wM_M_36 wI_M_fails wV_M_fails wN_M wB_M_fails hy_M_fails (fun q => q.elim) ⟨Nat.le_of_ble_eq_true rfl, Nat.le_of_ble_eq_true rfl⟩ ⟨Nat.le_of_ble_eq_true rfl, Nat.le_of_ble_eq_true rfl⟩ (Nat.le_of_ble_eq_true rfl) (fun r n h hp => ?_) (fun _ _ _ q => q.elim)
            obtain ⟨rfl, rfl, rfl⟩ := hp
            exact XV.iret C (xlk_ok okM_trip rfl) hret rfl (Nat.le_of_ble_eq_true rfl) (Nat.le_of_ble_eq_true rfl) (⟨rfl, ⟨_, rfl⟩, Or.inr (Or.inr (Or.inl (⟨⟨fun q => q.elim ok1.1 (fun z => z ok1.2), fun q => q.elim ok2.1 (fun z => z ok2.2), hok, by first | exact fun q => c5 q.2 | exact fun q => Bool.noConfusion (hc.symm.trans q.1)⟩, rfl⟩)))⟩)
      ·
        have hb2 := inG_f (if1_0 c3)
        refine XV.run C okM_trip 2 (q := (43, ([some (.ref (213)), some (.int (x)), some (.int (y)), some (.int (u))], [.int (2), .ref (213)]))) rfl ?_
        refine XV.callV C (As := [.int (2)]) (rest := []) (ci := 5) (ct_M_fails hfl hn (2)) (xlk_ok okM_trip rfl) rfl (by omega) (by omega) rfl (mw_o) rfl wM_M_36 wI_M_fails wV_M_fails wN_M wB_M_fails hy_M_fails (fun q => q.elim) ⟨Nat.le_of_ble_eq_true rfl, Nat.le_of_ble_eq_true rfl⟩ ⟨Nat.le_of_ble_eq_true rfl, Nat.le_of_ble_eq_true rfl⟩ (Nat.le_of_ble_eq_true rfl) (fun r n h hp => ?_) (fun _ _ _ q => q.elim)
        obtain ⟨rfl, rfl, rfl⟩ := hp
        exact XV.iret C (xlk_ok okM_trip rfl) hret rfl (Nat.le_of_ble_eq_true rfl) (Nat.le_of_ble_eq_true rfl) (⟨rfl, ⟨_, rfl⟩, Or.inr (Or.inl (⟨⟨fun q => q.elim ok1.1 (fun z => z ok1.2), fun q => q.elim ok2.1 (fun z => z ok2.2), hb2⟩, rfl⟩))⟩)
    ·
      have hb1 := inG_f (if1_0 c2)
      refine XV.run C okM_trip 2 (q := (27, ([some (.ref (213)), some (.int (x)), some (.int (y)), some (.int (u))], [.int (1), .ref (213)]))) rfl ?_
      refine XV.callV C (As := [.int (1)]) (rest := []) (ci := 5) (ct_M_fails hfl hn (1)) (xlk_ok okM_trip rfl) rfl (by omega) (by omega) rfl (mw_o) rfl wM_M_36 wI_M_fails wV_M_fails wN_M wB_M_fails hy_M_fails (fun q => q.elim) ⟨Nat.le_of_ble_eq_true rfl, Nat.le_of_ble_eq_true rfl⟩ ⟨Nat.le_of_ble_eq_true rfl, Nat.le_of_ble_eq_true rfl⟩ (Nat.le_of_ble_eq_true rfl) (fun r n h hp => ?_) (fun _ _ _ q => q.elim)
      obtain ⟨rfl, rfl, rfl⟩ := hp
      exact XV.iret C (xlk_ok okM_trip rfl) hret rfl (Nat.le_of_ble_eq_true rfl) (Nat.le_of_ble_eq_true rfl) (⟨rfl, ⟨_, rfl⟩, Or.inl ⟨by first | exact Or.inl hb | exact Or.inr ⟨fun q => q.elim ok1.1 (fun z => z ok1.2), hb1⟩, rfl⟩⟩)
set_option maxHeartbeats 4000000 in
set_option maxRecDepth 100000 in
theorem ct_M_pass {l : Launch} (hfl : l.stackTraces = false) {G : XG} {n : Nat} {h : XH} {g pa tr mx td F : Nat → Int32} (hn : 215 ≤ n) {k : Nat} (hm : g 1 = nI k) (hk : k ≤ 5) {z : Nat} (hz : g 2 = nI z) (z1 : 1 ≤ z) (z2 : z ≤ 12) {kp : Nat} (hkp : F 2 = nI kp) (hk6 : kp ≤ 6) (x : Int32) : XCt l G False (Cond.code yM_pass bM_pass 2 (some .int)) yM_pass 6 144 0 0 [.ref (213), .int (x)] n (setM h g pa tr mx td F) (fun r' n' h' => n' = n ∧ (∃ v, r' = some (.int v)) ∧ ((((x < 1 ∨ ¬ x ≤ 24)) ∧ h' = setM h g pa tr mx td (upd (upd F 6 0) 6 1)) ∨ (((¬ x < 1 ∧ x ≤ 24) ∧ ¬ g 0 + x ≤ 2000) ∧ h' = setM h g pa tr mx td (upd (upd F 6 0) 6 2)) ∨ (((¬ x < 1 ∧ x ≤ 24) ∧ g 0 + x ≤ 2000) ∧ r' = some (.int (nI (retM (upd g 0 (g 0 + x)) z k))) ∧ h' = setM h (upd g 0 (g 0 + x)) (svP pa g kp) tr mx td (upd (upd F 6 0) 2 (nI (kK kp)))))) (fun _ _ _ => False) := by
  refine XCt.of hfl (by decide +kernel) (Nat.le_of_ble_eq_true rfl) ?_
  intro p' e' s' m' g' b' t' c' C hret hname hnt hmd
  refine XV.run C okM_pass 2 (q := (2, ([some (.ref (213)), some (.int (x))], [.int (0), .ref (213)]))) rfl ?_
  refine XV.putf C (ci := 5) (kf := 6) (ty := .int) (xlk_ok okM_pass rfl) rfl (by decide) wF_M_25 (by omega) (by omega) (mw_o) rfl rfl rfl rfl (Nat.le_of_ble_eq_true rfl) ?_
  refine XV.cast (mw_f (upd F 6 (0))) ?_
  refine XV.run C okM_pass 3 (q := (9, ([some (.ref (213)), some (.int (x))], [.int (24), .int (1), .int (x)]))) rfl ?_
  refine XV.callS C (As := [.int (x), .int (1), .int (24)]) (rest := []) (ct_M_in hfl (x) (1) (24)) (xlk_ok okM_pass rfl) rfl wM_M_29 wS_M_in wN_M wB_M_in hy_M_in (fun q => q.elim) ⟨Nat.le_of_ble_eq_true rfl, Nat.le_of_ble_eq_true rfl⟩ ⟨Nat.le_of_ble_eq_true rfl, Nat.le_of_ble_eq_true rfl⟩ (Nat.le_of_ble_eq_true rfl) (fun r n h hp => ?_) (fun _ _ _ q => q.elim)
  obtain ⟨rfl, rfl, rfl⟩ := hp
  refine XV.if_ne C (tgt := 21) (xlk_ok okM_pass rfl) rfl (fun c1 => ?_) (fun c1 => ?_)
  ·
    have hok := inG_t (if1_1 c1)
    refine XV.run C okM_pass 1 (q := (22, ([some (.ref (213)), some (.int (x))], [.ref (213)]))) rfl ?_
    refine XV.getf C (ci := 5) (kf := 0) (v := .ref (214)) (xlk_ok okM_pass rfl) rfl (by decide) wF_M_7 (by omega) (by omega) (mw_o) rfl ?_
    refine XV.run C okM_pass 1 (q := (26, ([some (.ref (213)), some (.int (x))], [.int (0), .ref (214)]))) rfl ?_
    refine XV.ialdC C (N := 505) (f := g) (a := 0) (xlk_ok okM_pass rfl) (by omega) (by omega) (mw_1) (rfl) (by decide) (by decide) ?_
    refine XV.run C okM_pass 3 (q := (32, ([some (.ref (213)), some (.int (x))], [.int (2000), .int ((g 0) + x)]))) rfl ?_
    refine XV.icmp_le C (tgt := 41) (xlk_ok okM_pass rfl) rfl (fun c2 => ?_) (fun c2 => ?_)
    ·
      refine XV.run C okM_pass 1 (q := (42, ([some (.ref (213)), some (.int (x))], [.ref (213)]))) rfl ?_
      refine XV.callV C (As := []) (rest := []) (ci := 5) (ct_M_saves hfl hn (kp := kp) ((upd_ne (by decide)).trans hkp) hk6) (xlk_ok okM_pass rfl) rfl (by omega) (by omega) rfl (mw_o) rfl wM_M_66 wI_M_saves wV_M_saves wN_M wB_M_saves hy_M_saves (fun q => q.elim) ⟨Nat.le_of_ble_eq_true rfl, Nat.le_of_ble_eq_true rfl⟩ ⟨Nat.le_of_ble_eq_true rfl, Nat.le_of_ble_eq_true rfl⟩ (Nat.le_of_ble_eq_true rfl) (fun r n h hp => ?_) (fun _ _ _ q => q.elim)
      obtain ⟨rfl, rfl, rfl⟩ := hp
      refine XV.run C okM_pass 1 (q := (46, ([some (.ref (213)), some (.int (x))], [.ref (213)]))) rfl ?_
      refine XV.getf C (ci := 5) (kf := 0) (v := .ref (214)) (xlk_ok okM_pass rfl) rfl (by decide) wF_M_7 (by omega) (by omega) (mw_o) rfl ?_
      refine XV.run C okM_pass 2 (q := (51, ([some (.ref (213)), some (.int (x))], [.int (0), .ref (214), .int (0), .ref (214)]))) rfl ?_
      refine XV.ialdC C (N := 505) (f := g) (a := 0) (xlk_ok okM_pass rfl) (by omega) (by omega) (mw_1) (rfl) (by decide) (by decide) ?_
      refine XV.run C okM_pass 2 (q := (54, ([some (.ref (213)), some (.int (x))], [.int ((g 0) + x), .int (0), .ref (214)]))) rfl ?_
      refine XV.iastC C (N := 505) (f := g) (a := 0) (xlk_ok okM_pass rfl) (by omega) (by omega) (mw_1) (rfl) (by decide) (by decide) ?_
      refine XV.cast (mw_u1 (upd g 0 ((g 0) + x))) ?_
      refine XV.run C okM_pass 1 (q := (56, ([some (.ref (213)), some (.int (x))], [.ref (213)]))) rfl ?_
      refine XV.callV C (As := []) (rest := []) (ci := 5) (ct_M_retired hfl hn ((upd_ne (by decide)).trans hm) hk ((upd_ne (by decide)).trans hz) z1 z2) (xlk_ok okM_pass rfl) rfl (by omega) (by omega) rfl (mw_o) rfl wM_M_91 wI_M_retired wV_M_retired wN_M wB_M_retired hy_M_retired (fun q => q.elim) ⟨Nat.le_of_ble_eq_true rfl, Nat.le_of_ble_eq_true rfl⟩ ⟨Nat.le_of_ble_eq_true rfl, Nat.le_of_ble_eq_true rfl⟩ (Nat.le_of_ble_eq_true rfl) (fun r n h hp => ?_) (fun _ _ _ q => q.elim)
      obtain ⟨rfl, rfl, rfl⟩ := hp
      exact XV.iret C (xlk_ok okM_pass rfl) hret rfl (Nat.le_of_ble_eq_true rfl) (Nat.le_of_ble_eq_true rfl) (⟨rfl, ⟨_, rfl⟩, Or.inr (Or.inr ⟨⟨hok, c2⟩, rfl, rfl⟩)⟩)
    ·
      refine XV.run C okM_pass 2 (q := (37, ([some (.ref (213)), some (.int (x))], [.int (2), .ref (213)]))) rfl ?_
      refine XV.callV C (As := [.int (2)]) (rest := []) (ci := 5) (ct_M_fails hfl hn (2)) (xlk_ok okM_pass rfl) rfl (by omega) (by omega) rfl (mw_o) rfl wM_M_36 wI_M_fails wV_M_fails wN_M wB_M_fails hy_M_fails (fun q => q.elim) ⟨Nat.le_of_ble_eq_true rfl, Nat.le_of_ble_eq_true rfl⟩ ⟨Nat.le_of_ble_eq_true rfl, Nat.le_of_ble_eq_true rfl⟩ (Nat.le_of_ble_eq_true rfl) (fun r n h hp => ?_) (fun _ _ _ q => q.elim)
      obtain ⟨rfl, rfl, rfl⟩ := hp
      exact XV.iret C (xlk_ok okM_pass rfl) hret rfl (Nat.le_of_ble_eq_true rfl) (Nat.le_of_ble_eq_true rfl) (⟨rfl, ⟨_, rfl⟩, Or.inr (Or.inl (⟨⟨hok, c2⟩, rfl⟩))⟩)
  ·
    have hb := inG_f (if1_0 c1)
    refine XV.run C okM_pass 2 (q := (17, ([some (.ref (213)), some (.int (x))], [.int (1), .ref (213)]))) rfl ?_
    refine XV.callV C (As := [.int (1)]) (rest := []) (ci := 5) (ct_M_fails hfl hn (1)) (xlk_ok okM_pass rfl) rfl (by omega) (by omega) rfl (mw_o) rfl wM_M_36 wI_M_fails wV_M_fails wN_M wB_M_fails hy_M_fails (fun q => q.elim) ⟨Nat.le_of_ble_eq_true rfl, Nat.le_of_ble_eq_true rfl⟩ ⟨Nat.le_of_ble_eq_true rfl, Nat.le_of_ble_eq_true rfl⟩ (Nat.le_of_ble_eq_true rfl) (fun r n h hp => ?_) (fun _ _ _ q => q.elim)
    obtain ⟨rfl, rfl, rfl⟩ := hp
    exact XV.iret C (xlk_ok okM_pass rfl) hret rfl (Nat.le_of_ble_eq_true rfl) (Nat.le_of_ble_eq_true rfl) (⟨rfl, ⟨_, rfl⟩, Or.inl (⟨hb, rfl⟩)⟩)
