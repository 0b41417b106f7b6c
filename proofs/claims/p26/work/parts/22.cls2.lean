/-! RopeThreads: the calls -/
set_option maxHeartbeats 4000000 in
set_option maxRecDepth 100000 in
theorem ct_C_requireTripsAllowed {l : Launch} (hfl : l.stackTraces = false) {G : XG} {n : Nat} {h : XH} {f : Nat → Int32} {o kp : Nat} {P : Nat → Nat → Int32} {tx : Nat → Int32} {len : Nat} {p : PT} {ρ : Nat → Int32} (hn : 209 ≤ n) {k : Nat} (hm : f 1 = nI k) (hk : k ≤ 5) (hl : ∀ i, i < k → 0 < rowOf f i 0) {z : Nat} (hz : f 2 = nI z) (z1 : 1 ≤ z) (z2 : z ≤ 12) (x : Int32) : XCt l G False (Cond.code yC_requireTripsAllowed bC_requireTripsAllowed 2 none) yC_requireTripsAllowed 6 128 1 6 [.ref (4), .int (x)] n (setCW h f o kp P tx len p ρ) (fun r' n' h' => r' = none ∧ (¬ canK f z k = 0 ∧ f 7 + x ≤ 99999) ∧ n' = n ∧ h' = setCW h f o kp P tx len p ρ) (fun E n' h' => (E = XISE ∧ ¬ (¬ canK f z k = 0 ∧ f 7 + x ≤ 99999)) ∧ n' = n ∧ h' = setCW h f o kp P tx len p ρ) := by
  refine XCt.of hfl (by decide +kernel) (Nat.le_of_ble_eq_true rfl) ?_
  intro p' e' s' m' g' b' t' c' C hret hname hnt hmd
  refine XV.run C okC_requireTripsAllowed 1 (q := (1, ([some (.ref (4)), some (.int (x))], [.ref (4)]))) rfl ?_
  refine XV.getf C (ci := 4) (kf := 0) (v := .ref (5)) (xlk_ok okC_requireTripsAllowed rfl) rfl (by decide) wF_C_10 (by omega) (by omega) (cw_o) rfl ?_
  refine XV.callV C (As := []) (rest := []) (ci := 0) (ct_E_canRun hfl cw_e (by omega) (by omega) (k := k) (hm) (by omega) (hl) (z := z) (hz) (by omega) (by omega)) (xlk_ok okC_requireTripsAllowed rfl) rfl (by omega) (by omega) rfl (cw_e 0 (by decide)) rfl wM_C_230 wI_E_canRun wV_E_canRun wN_E wB_E_canRun hy_E_canRun (fun q => q.elim) ⟨Nat.le_of_ble_eq_true rfl, Nat.le_of_ble_eq_true rfl⟩ ⟨Nat.le_of_ble_eq_true rfl, Nat.le_of_ble_eq_true rfl⟩ (Nat.le_of_ble_eq_true rfl) (fun r n h hp => ?_) (fun _ _ _ q => q.elim)
  obtain ⟨rfl, rfl, rfl⟩ := hp
  refine XV.if_eq C (tgt := 24) (xlk_ok okC_requireTripsAllowed rfl) rfl (fun c1 => ?_) (fun c1 => ?_)
  ·
    refine XV.throwS C hnt (E := XISE) (Or.inl ⟨rfl, rfl, rfl⟩) (List.mem_of_getElem? (i := 5) rfl) (xlk_ok okC_requireTripsAllowed (pc := 24) rfl) (xlk_ok okC_requireTripsAllowed (pc := 27) rfl) (xlk_ok okC_requireTripsAllowed (pc := 28) rfl) (xlk_ok okC_requireTripsAllowed (pc := 30) rfl) (xlk_ok okC_requireTripsAllowed (pc := 33) rfl) (Nat.le_of_ble_eq_true rfl) (Nat.le_of_ble_eq_true rfl) (Nat.le_of_ble_eq_true rfl) (Nat.le_of_ble_eq_true rfl) (Nat.le_of_ble_eq_true rfl) (Nat.le_of_ble_eq_true rfl) ?_
    exact ⟨⟨rfl, fun q => by first | exact q.1 c1 | exact c2 q.2⟩, rfl, rfl⟩
  ·
    refine XV.run C okC_requireTripsAllowed 1 (q := (11, ([some (.ref (4)), some (.int (x))], [.ref (4)]))) rfl ?_
    refine XV.getf C (ci := 4) (kf := 0) (v := .ref (5)) (xlk_ok okC_requireTripsAllowed rfl) rfl (by decide) wF_C_10 (by omega) (by omega) (cw_o) rfl ?_
    refine XV.getfN C (ci := 0) (kf := 4) (v := .int (f 7)) (xlk_ok okC_requireTripsAllowed rfl) rfl (by decide) (List.mem_of_getElem? (i := 16) rfl) (by omega) (by omega) (cw_e 0 (by decide)) rfl ?_
    refine XV.run C okC_requireTripsAllowed 2 (q := (19, ([some (.ref (4)), some (.int (x))], [.int ((f 7) + x)]))) rfl ?_
    refine XV.ldc C (xlk_ok okC_requireTripsAllowed rfl) wK_C_233 ?_
    refine XV.icmp_le C (tgt := 34) (xlk_ok okC_requireTripsAllowed rfl) rfl (fun c2 => ?_) (fun c2 => ?_)
    ·
      exact XV.vret C (xlk_ok okC_requireTripsAllowed rfl) hret (Nat.le_of_ble_eq_true rfl) (Nat.le_of_ble_eq_true rfl) (⟨rfl, ⟨c1, c2⟩, rfl, rfl⟩)
    ·
      refine XV.throwS C hnt (E := XISE) (Or.inl ⟨rfl, rfl, rfl⟩) (List.mem_of_getElem? (i := 5) rfl) (xlk_ok okC_requireTripsAllowed (pc := 24) rfl) (xlk_ok okC_requireTripsAllowed (pc := 27) rfl) (xlk_ok okC_requireTripsAllowed (pc := 28) rfl) (xlk_ok okC_requireTripsAllowed (pc := 30) rfl) (xlk_ok okC_requireTripsAllowed (pc := 33) rfl) (Nat.le_of_ble_eq_true rfl) (Nat.le_of_ble_eq_true rfl) (Nat.le_of_ble_eq_true rfl) (Nat.le_of_ble_eq_true rfl) (Nat.le_of_ble_eq_true rfl) (Nat.le_of_ble_eq_true rfl) ?_
      exact ⟨⟨rfl, fun q => by first | exact q.1 c1 | exact c2 q.2⟩, rfl, rfl⟩
theorem uns_f0 {f : Nat → Int32} {z i : Nat} (h : ¬ reasonK f (rowOf f i) z = 0) : unsK f z i = false := decide_eq_false fun q => h q.1
theorem uns_f1 {f : Nat → Int32} {z i : Nat} (h1 : ¬ reasonK f (lookR f (rowOf f i)) z = 1) (h2 : ¬ reasonK f (lookR f (rowOf f i)) z = 2) : unsK f z i = false := decide_eq_false fun q => q.2.elim h1 h2
theorem uns_t {f : Nat → Int32} {z i : Nat} (h : reasonK f (rowOf f i) z = 0) (h1 : reasonK f (lookR f (rowOf f i)) z = 1 ∨ reasonK f (lookR f (rowOf f i)) z = 2) : unsK f z i = true := decide_eq_true ⟨h, h1⟩
theorem luK_t {f : Nat → Int32} {z d j : Nat} (h : unsK f z j = true) : luK f z (d + 1) j = nI j := by unfold luK; rw [h]; rfl
theorem luK_f {f : Nat → Int32} {z d j : Nat} (h : unsK f z j = false) : luK f z (d + 1) j = luK f z d (j + 1) := by show (if unsK f z j then _ else _) = _; rw [h]; rfl
set_option maxHeartbeats 4000000 in
set_option maxRecDepth 100000 in
theorem ct_C_lowestUnseen {l : Launch} (hfl : l.stackTraces = false) {G : XG} {n : Nat} {h : XH} {f : Nat → Int32} {o kp : Nat} {P : Nat → Nat → Int32} {tx : Nat → Int32} {len : Nat} {p : PT} {ρ : Nat → Int32} (hn : 209 ≤ n) {k : Nat} (hm : f 1 = nI k) (hk : k ≤ 5) (hl : ∀ i, i < k → 0 < rowOf f i 0) {z : Nat} (hz : f 2 = nI z) (z1 : 1 ≤ z) (z2 : z ≤ 12) : XCt l G False (Cond.code yC_lowestUnseen bC_lowestUnseen 4 (some .int)) yC_lowestUnseen 5 108 0 0 [.ref (4)] n (setCW h f o kp P tx len p ρ) (fun r' n' h' => r' = some (.int (luK f z k 0)) ∧ n' = n ∧ ∃ ρ', h' = setCW h f o kp P tx len p ρ') (fun _ _ _ => False) := by
  refine XCt.of hfl (by decide +kernel) (Nat.le_of_ble_eq_true rfl) ?_
  intro p' e' s' m' g' b' t' c' C hret hname hnt hmd
  refine XV.run C okC_lowestUnseen 2 (q := (2, ([some (.ref (4)), some (.int (0)), none, none], []))) rfl ?_
  have loop : ∀ (d j : Nat) (σ : Nat → Int32), j + d = k → luK f z d j = luK f z k 0 → XV G 4 p' l e' ({ frames := 5, cells := 0, slots := 0, locals := 108 } : Room) s' m' g' b' t' c' (XEnd G b' (fun r' n' h' => r' = some (.int (luK f z k 0)) ∧ n' = n ∧ ∃ ρ', h' = setCW h f o kp P tx len p ρ') (fun _ _ _ => False) g' s' 0 0) 2 [some (.ref (4)), some (.int (nI j)), none, none] [] n (setCW h f o kp P tx len p σ) 0 0 := by
    intro d
    induction d with
    | zero =>
      intro j σ hj hv
      refine XV.run C okC_lowestUnseen 2 (q := (4, ([some (.ref (4)), some (.int (nI j)), none, none], [.ref (4), .int (nI j)]))) rfl ?_
      refine XV.getf C (ci := 4) (kf := 0) (v := .ref (5)) (xlk_ok okC_lowestUnseen rfl) rfl (by decide) wF_C_10 (by omega) (by omega) (cw_o) rfl ?_
      refine XV.getfN C (ci := 0) (kf := 2) (v := .int (f 1)) (xlk_ok okC_lowestUnseen rfl) rfl (by decide) (List.mem_of_getElem? (i := 14) rfl) (by omega) (by omega) (cw_e 0 (by decide)) rfl ?_
      refine XV.icmp_ge C (tgt := 64) (xlk_ok okC_lowestUnseen rfl) rfl (fun _ => ?_) (fun hc => absurd (by rw [hm]; exact nI_le (by omega) (by omega)) hc)
      refine XV.run C okC_lowestUnseen 1 (q := (65, ([some (.ref (4)), some (.int (nI j)), none, none], [.int ((-1))]))) rfl ?_
      exact XV.iret C (xlk_ok okC_lowestUnseen rfl) hret (rfl) (Nat.le_of_ble_eq_true rfl) (Nat.le_of_ble_eq_true rfl) (⟨by rw [← hv]; rfl, rfl, _, rfl⟩)
    | succ d ih =>
      intro j σ hj hv
      refine XV.run C okC_lowestUnseen 2 (q := (4, ([some (.ref (4)), some (.int (nI j)), none, none], [.ref (4), .int (nI j)]))) rfl ?_
      refine XV.getf C (ci := 4) (kf := 0) (v := .ref (5)) (xlk_ok okC_lowestUnseen rfl) rfl (by decide) wF_C_10 (by omega) (by omega) (cw_o) rfl ?_
      refine XV.getfN C (ci := 0) (kf := 2) (v := .int (f 1)) (xlk_ok okC_lowestUnseen rfl) rfl (by decide) (List.mem_of_getElem? (i := 14) rfl) (by omega) (by omega) (cw_e 0 (by decide)) rfl ?_
      refine XV.icmp_ge C (tgt := 64) (xlk_ok okC_lowestUnseen rfl) rfl (fun hc => absurd hc (by rw [hm]; exact nI_ge (by omega) (by omega))) (fun _ => ?_)
      refine XV.run C okC_lowestUnseen 1 (q := (14, ([some (.ref (4)), some (.int (nI j)), none, none], [.ref (4)]))) rfl ?_
      refine XV.getf C (ci := 4) (kf := 0) (v := .ref (5)) (xlk_ok okC_lowestUnseen rfl) rfl (by decide) wF_C_10 (by omega) (by omega) (cw_o) rfl ?_
      refine XV.run C okC_lowestUnseen 1 (q := (18, ([some (.ref (4)), some (.int (nI j)), none, none], [.int (nI j), .ref (5)]))) rfl ?_
      refine XV.callV C (As := [.int (nI j)]) (rest := []) (ci := 0) (ct_E_ropeAt hfl cw_e (by omega) (by omega) (i := j) (rfl) (hm) (by omega) (by omega)) (xlk_ok okC_lowestUnseen rfl) rfl (by omega) (by omega) rfl (cw_e 0 (by decide)) rfl wM_C_205 wI_E_ropeAt wV_E_ropeAt wN_E wB_E_ropeAt hy_E_ropeAt (fun q => q.elim) ⟨Nat.le_of_ble_eq_true rfl, Nat.le_of_ble_eq_true rfl⟩ ⟨Nat.le_of_ble_eq_true rfl, Nat.le_of_ble_eq_true rfl⟩ (Nat.le_of_ble_eq_true rfl) (fun r n h hp => ?_) (fun _ _ _ q => q.elim)
      obtain ⟨rfl, rfl, rfl⟩ := hp
      refine XV.run C okC_lowestUnseen 2 (q := (23, ([some (.ref (4)), some (.int (nI j)), some (.ref (5 + 3 + 5 * j)), none], [.ref (5 + 3 + 5 * j)]))) rfl ?_
      refine XV.null_r C (xlk_ok okC_lowestUnseen rfl) ?_
      refine XV.run C okC_lowestUnseen 1 (q := (27, ([some (.ref (4)), some (.int (nI j)), some (.ref (5 + 3 + 5 * j)), none], [.ref (4)]))) rfl ?_
      refine XV.getf C (ci := 4) (kf := 0) (v := .ref (5)) (xlk_ok okC_lowestUnseen rfl) rfl (by decide) wF_C_10 (by omega) (by omega) (cw_o) rfl ?_
      refine XV.run C okC_lowestUnseen 1 (q := (31, ([some (.ref (4)), some (.int (nI j)), some (.ref (5 + 3 + 5 * j)), none], [.ref (5 + 3 + 5 * j), .ref (5)]))) rfl ?_
      refine XV.callV C (As := [.ref (5 + 3 + 5 * j)]) (rest := []) (ci := 0) (ct_E_reasonFor hfl cw_e (by omega) (by omega) (elev_ropeL cw_e (by omega) (hl j (by omega))) (by omega) (by omega) (z := z) (hz) (by omega) (by omega)) (xlk_ok okC_lowestUnseen rfl) rfl (by omega) (by omega) rfl (cw_e 0 (by decide)) rfl wM_C_251 wI_E_reasonFor wV_E_reasonFor wN_E wB_E_reasonFor hy_E_reasonFor (fun q => q.elim) ⟨Nat.le_of_ble_eq_true rfl, Nat.le_of_ble_eq_true rfl⟩ ⟨Nat.le_of_ble_eq_true rfl, Nat.le_of_ble_eq_true rfl⟩ (Nat.le_of_ble_eq_true rfl) (fun r n h hp => ?_) (fun _ _ _ q => q.elim)
      obtain ⟨rfl, rfl, rfl⟩ := hp
      refine XV.if_ne C (tgt := 58) (xlk_ok okC_lowestUnseen rfl) rfl (fun c1 => ?_) (fun c1 => ?_)
      ·
        refine XV.run C okC_lowestUnseen 2 (q := (2, ([some (.ref (4)), some (.int ((nI j) + 1)), some (.ref (5 + 3 + 5 * j)), none], []))) rfl ?_
        rw [nI_1]
        exact XV.drop (ih (j + 1) _ (by omega) (by rw [← hv, luK_f (by first | exact uns_f0 c1 | exact uns_f1 c2 c3)])) rfl (by simp [xle])
      ·
        refine XV.run C okC_lowestUnseen 4 (q := (42, ([some (.ref (4)), some (.int (nI j)), some (.ref (5 + 3 + 5 * j)), none], [.int (23), .int (0), .ref (5 + 3 + 5 * j), .ref (4)]))) rfl ?_
        refine XV.callV C (As := [.ref (5 + 3 + 5 * j), .int (0), .int (23)]) (rest := []) (ci := 4) (ct_C_reasonIfInspected hfl hn hm hk hl (i := j) (by omega) hz z1 z2 (j := 0) (w := 24) (b := 23) (rfl) (rfl) (by omega) (by omega)) (xlk_ok okC_lowestUnseen rfl) rfl (by omega) (by omega) rfl (cw_o) rfl wM_C_182 wI_C_reasonIfInspected wV_C_reasonIfInspected wN_C wB_C_reasonIfInspected hy_C_reasonIfInspected (fun q => q.elim) ⟨Nat.le_of_ble_eq_true rfl, Nat.le_of_ble_eq_true rfl⟩ ⟨Nat.le_of_ble_eq_true rfl, Nat.le_of_ble_eq_true rfl⟩ (Nat.le_of_ble_eq_true rfl) (fun r n h hp => ?_) (fun _ _ _ q => q.elim)
        obtain ⟨rfl, rfl, rfl⟩ := hp
        refine XV.run C okC_lowestUnseen 3 (q := (48, ([some (.ref (4)), some (.int (nI j)), some (.ref (5 + 3 + 5 * j)), some (.int (reasonK f (rLook (rowOf f j) 0 24 (f 0)) z))], [.int (1), .int (reasonK f (rLook (rowOf f j) 0 24 (f 0)) z)]))) rfl ?_
        refine XV.icmp_eq C (tgt := 56) (xlk_ok okC_lowestUnseen rfl) rfl (fun c2 => ?_) (fun c2 => ?_)
        ·
          refine XV.run C okC_lowestUnseen 1 (q := (57, ([some (.ref (4)), some (.int (nI j)), some (.ref (5 + 3 + 5 * j)), some (.int (reasonK f (rLook (rowOf f j) 0 24 (f 0)) z))], [.int (nI j)]))) rfl ?_
          exact XV.iret C (xlk_ok okC_lowestUnseen rfl) hret rfl (Nat.le_of_ble_eq_true rfl) (Nat.le_of_ble_eq_true rfl) (⟨by rw [← hv, luK_t (uns_t c1 (by first | exact Or.inl c2 | exact Or.inr c3))], rfl, _, rfl⟩)
        ·
          refine XV.run C okC_lowestUnseen 2 (q := (53, ([some (.ref (4)), some (.int (nI j)), some (.ref (5 + 3 + 5 * j)), some (.int (reasonK f (rLook (rowOf f j) 0 24 (f 0)) z))], [.int (2), .int (reasonK f (rLook (rowOf f j) 0 24 (f 0)) z)]))) rfl ?_
          refine XV.icmp_ne C (tgt := 58) (xlk_ok okC_lowestUnseen rfl) rfl (fun c3 => ?_) (fun c3 => ?_)
          ·
            refine XV.run C okC_lowestUnseen 2 (q := (2, ([some (.ref (4)), some (.int ((nI j) + 1)), some (.ref (5 + 3 + 5 * j)), some (.int (reasonK f (rLook (rowOf f j) 0 24 (f 0)) z))], []))) rfl ?_
            rw [nI_1]
            exact XV.drop (ih (j + 1) _ (by omega) (by rw [← hv, luK_f (by first | exact uns_f0 c1 | exact uns_f1 c2 c3)])) rfl (by simp [xle])
          ·
            refine XV.run C okC_lowestUnseen 1 (q := (57, ([some (.ref (4)), some (.int (nI j)), some (.ref (5 + 3 + 5 * j)), some (.int (reasonK f (rLook (rowOf f j) 0 24 (f 0)) z))], [.int (nI j)]))) rfl ?_
            exact XV.iret C (xlk_ok okC_lowestUnseen rfl) hret rfl (Nat.le_of_ble_eq_true rfl) (Nat.le_of_ble_eq_true rfl) (⟨by rw [← hv, luK_t (uns_t c1 (by first | exact Or.inl c2 | exact Or.inr c3))], rfl, _, rfl⟩)
  exact loop k 0 ρ (by omega) rfl
set_option maxHeartbeats 4000000 in
set_option maxRecDepth 100000 in
theorem ct_C_shareCounted {l : Launch} (hfl : l.stackTraces = false) {G : XG} {n : Nat} {h : XH} {f : Nat → Int32} {o kp : Nat} {P : Nat → Nat → Int32} {tx : Nat → Int32} {len : Nat} {p : PT} {ρ : Nat → Int32} (hn : 209 ≤ n) {k : Nat} (hm : f 1 = nI k) (hk : k ≤ 5) (hl : ∀ i, i < k → 0 < rowOf f i 0) (hdv : ¬ sumRK f true k = 0 → vf_n64 (FP.ddiv (FP.i2d (sumRK f false k)) (FP.i2d (sumRK f true k)))) : XCt l G False (Cond.code yC_shareCounted bC_shareCounted 2 (some .double)) yC_shareCounted 4 88 0 0 [.ref (4)] n (setCW h f o kp P tx len p ρ) (fun r' n' h' => r' = some (.double (shrK f k)) ∧ n' = n ∧ h' = setCW h f o kp P tx len p ρ) (fun _ _ _ => False) := by
  refine XCt.of hfl (by decide +kernel) (Nat.le_of_ble_eq_true rfl) ?_
  intro p' e' s' m' g' b' t' c' C hret hname hnt hmd
  refine XV.run C okC_shareCounted 1 (q := (1, ([some (.ref (4)), none], [.ref (4)]))) rfl ?_
  refine XV.getf C (ci := 4) (kf := 0) (v := .ref (5)) (xlk_ok okC_shareCounted rfl) rfl (by decide) wF_C_10 (by omega) (by omega) (cw_o) rfl ?_
  refine XV.callV C (As := []) (rest := []) (ci := 0) (ct_E_brokenOfRopes hfl cw_e (by omega) (by omega) (k := k) (hm) (by omega) (hl)) (xlk_ok okC_shareCounted rfl) rfl (by omega) (by omega) rfl (cw_e 0 (by decide)) rfl wM_C_264 wI_E_brokenOfRopes wV_E_brokenOfRopes wN_E wB_E_brokenOfRopes hy_E_brokenOfRopes (fun q => q.elim) ⟨Nat.le_of_ble_eq_true rfl, Nat.le_of_ble_eq_true rfl⟩ ⟨Nat.le_of_ble_eq_true rfl, Nat.le_of_ble_eq_true rfl⟩ (Nat.le_of_ble_eq_true rfl) (fun r n h hp => ?_) (fun _ _ _ q => q.elim)
  obtain ⟨rfl, rfl, rfl⟩ := hp
  refine XV.run C okC_shareCounted 2 (q := (9, ([some (.ref (4)), some (.int (sumRK f true k))], [.int (sumRK f true k)]))) rfl ?_
  refine XV.if_ne C (tgt := 14) (xlk_ok okC_shareCounted rfl) rfl (fun c1 => ?_) (fun c1 => ?_)
  ·
    refine XV.run C okC_shareCounted 1 (q := (15, ([some (.ref (4)), some (.int (sumRK f true k))], [.ref (4)]))) rfl ?_
    refine XV.getf C (ci := 4) (kf := 0) (v := .ref (5)) (xlk_ok okC_shareCounted rfl) rfl (by decide) wF_C_10 (by omega) (by omega) (cw_o) rfl ?_
    refine XV.callV C (As := []) (rest := []) (ci := 0) (ct_E_countsOfRopes hfl cw_e (by omega) (by omega) (k := k) (hm) (by omega) (hl)) (xlk_ok okC_shareCounted rfl) rfl (by omega) (by omega) rfl (cw_e 0 (by decide)) rfl wM_C_267 wI_E_countsOfRopes wV_E_countsOfRopes wN_E wB_E_countsOfRopes hy_E_countsOfRopes (fun q => q.elim) ⟨Nat.le_of_ble_eq_true rfl, Nat.le_of_ble_eq_true rfl⟩ ⟨Nat.le_of_ble_eq_true rfl, Nat.le_of_ble_eq_true rfl⟩ (Nat.le_of_ble_eq_true rfl) (fun r n h hp => ?_) (fun _ _ _ q => q.elim)
    obtain ⟨rfl, rfl, rfl⟩ := hp
    refine XV.run C okC_shareCounted 3 (q := (24, ([some (.ref (4)), some (.int (sumRK f true k))], [.double (FP.i2d (sumRK f true k)), .double (FP.i2d (sumRK f false k))]))) rfl ?_
    refine XV.ddiv C (xlk_ok okC_shareCounted rfl) (hdv c1) ?_
    exact XV.dret C (xlk_ok okC_shareCounted rfl) hret (Nat.le_of_ble_eq_true rfl) (Nat.le_of_ble_eq_true rfl) (⟨by unfold shrK; first | rw [if_pos c1] | rw [if_neg c1], rfl, rfl⟩)
  ·
    refine XV.dconst1 C (xlk_ok okC_shareCounted rfl) ?_
    exact XV.dret C (xlk_ok okC_shareCounted rfl) hret (Nat.le_of_ble_eq_true rfl) (Nat.le_of_ble_eq_true rfl) (⟨by unfold shrK; first | rw [if_pos c1] | rw [if_neg c1], rfl, rfl⟩)
set_option maxHeartbeats 4000000 in
set_option maxRecDepth 100000 in
theorem ct_C_countedShare {l : Launch} (hfl : l.stackTraces = false) {G : XG} {n : Nat} {h : XH} {f : Nat → Int32} {o kp : Nat} {P : Nat → Nat → Int32} {tx : Nat → Int32} {len : Nat} {p : PT} {ρ : Nat → Int32} (hn : 209 ≤ n) {k : Nat} (hm : f 1 = nI k) (hk : k ≤ 5) (hl : ∀ i, i < k → 0 < rowOf f i 0) (hdv : ¬ sumRK f true k = 0 → vf_n64 (FP.ddiv (FP.i2d (sumRK f false k)) (FP.i2d (sumRK f true k)))) : XCt l G False (Cond.code yC_countedShare bC_countedShare 1 (some .double)) yC_countedShare 5 109 0 0 [.ref (4)] n (setCW h f o kp P tx len p ρ) (fun r' n' h' => r' = some (.double (shrK f k)) ∧ n' = n ∧ h' = setCW h f o kp P tx len p ρ) (fun _ _ _ => False) := by
  refine XCt.of hfl (by decide +kernel) (Nat.le_of_ble_eq_true rfl) ?_
  intro p' e' s' m' g' b' t' c' C hret hname hnt hmd
  refine XV.run C okC_countedShare 1 (q := (1, ([some (.ref (4))], [.ref (4)]))) rfl ?_
  refine XV.callV C (As := []) (rest := []) (ci := 4) (ct_C_shareCounted hfl hn hm hk hl hdv) (xlk_ok okC_countedShare rfl) rfl (by omega) (by omega) rfl (cw_o) rfl wM_C_195 wI_C_shareCounted wV_C_shareCounted wN_C wB_C_shareCounted hy_C_shareCounted (fun q => q.elim) ⟨Nat.le_of_ble_eq_true rfl, Nat.le_of_ble_eq_true rfl⟩ ⟨Nat.le_of_ble_eq_true rfl, Nat.le_of_ble_eq_true rfl⟩ (Nat.le_of_ble_eq_true rfl) (fun r n h hp => ?_) (fun _ _ _ q => q.elim)
  obtain ⟨rfl, rfl, rfl⟩ := hp
  exact XV.dret C (xlk_ok okC_countedShare rfl) hret (Nat.le_of_ble_eq_true rfl) (Nat.le_of_ble_eq_true rfl) (⟨rfl, rfl, rfl⟩)
theorem mixN_s (g : Nat → Int64) (n : Nat) (h : Int64) : mixN g (n + 1) h = 31 * mixN g n h + g n := rfl
theorem secM_s (r : Nat → Int32) (n : Nat) (h : Int64) : secM r (n + 1) h = mixN (fun w => (secF r n w).toInt64) 5 (secM r n h) := rfl
theorem winM_s (r : Nat → Int32) (z n : Nat) (h : Int64) : winM r z (n + 1) h = 31 * (31 * winM r z n h + (winS r false z n).toInt64) + (winS r true z n).toInt64 := rfl
theorem bestI_lt (r : Nat → Int32) (w : Nat) : bestI r w ≤ 24 - w := amax_le _ _
theorem rpsM_s (f : Nat → Int32) (z n : Nat) (h : Int64) : rpsM f z (n + 1) h = mwrK f (rowOf f n) z (rpsM f z n h) := rfl
def digK2 (f : Nat → Int32) (z k kp : Nat) (tx : Nat → Int32) (len : Nat) (B : Int64) : Int64 := mixN (fun w => (sgn tx len w).toInt64) len (31 * (31 * (31 * rpsM f z k (mixN (fun w => (f (2 + w)).toInt64) 5 (mixN (fun w => (countFigK f z k kp w).toInt64) 9 2677)) + (luK f z k 0).toInt64) + B) + (nI len).toInt64)
