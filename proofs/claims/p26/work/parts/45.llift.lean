/-! RopeThreadsLaw: lift -/
set_option maxHeartbeats 4000000 in
set_option maxRecDepth 100000 in
theorem ct_L_lift {l : Launch} (hfl : l.stackTraces = false) {G : XG} {n : Nat} {h : XH} {f : Nat → Int32} {o kp : Nat} {P : Nat → Nat → Int32} {tx : Nat → Int32} {len : Nat} {p : PT} {ρ : Nat → Int32} {k m tt z : Nat} (hn : 209 ≤ n) (hO : OKf f k m tt) (hz : f 2 = nI z) (z1 : 1 ≤ z) (z2 : z ≤ 12) (ho : o < 6) (hkp : kp ≤ 6) : XCt l G False (Cond.code yL_lift bL_lift 9 (some .boolean)) yL_lift 9 195 5100 31000 [.ref (4)] n (setCW h f o kp P tx len p ρ) (fun r' n' h' => r' = some (.int 1) ∧ n' = n ∧ ∃ ρ', h' = setCW h f o kp P tx len p ρ') (fun _ _ _ => False) := by
  have hk := hO.2.1
  
  refine XCt.of hfl (by decide +kernel) (Nat.le_of_ble_eq_true rfl) ?_
  intro p' e' s' m' g' b' t' c' C hret hname hnt hmd
  refine XV.run C okL_lift 2 (q := (2, ([some (.ref (4)), none, none, none, none, none, none, none, none], [.int (1), .ref (4)]))) rfl ?_
  refine XV.callV C (As := [.int (1)]) (rest := []) (ci := 4) (ct_D_count hfl hn hO hz z1 z2 ho hkp (w := 1) (by decide)) (xlk_ok okL_lift rfl) rfl (by omega) (by omega) rfl (cw_o) rfl wM_L_29 wI_C_count wV_C_count wN_C wB_C_count hy_C_count (fun q => q.elim) ⟨Nat.le_of_ble_eq_true rfl, Nat.le_of_ble_eq_true rfl⟩ ⟨by show _ ≤ 5100; omega, by show _ ≤ 31000; omega⟩ (Nat.le_of_ble_eq_true rfl) (fun r n h hp => ?_) (fun _ _ _ q => q.elim)
  obtain ⟨rfl, rfl, rfl⟩ := hp
  rw [show (countFigK f z k kp 1 : Int32) = nI k from hO.1]
  refine XV.run C okL_lift 9 (q := (15, ([some (.ref (4)), some (.int (nI k)), some (.int (0)), some (.int (0)), some (.int (0)), none, none, none, none], [.int (5), .int (nI k)]))) rfl ?_
  refine XV.icmp_gt C (tgt := 22) (xlk_ok okL_lift rfl) rfl (fun hc => absurd hc (nI_nlt (a := 5) (by omega) (by omega))) (fun _ => ?_)
  refine XV.run C okL_lift 5 (q := (28, ([some (.ref (4)), some (.int (nI k)), some (.int (0)), some (.int (0)), some (.int (0)), some (.int (1)), some (.int (0)), none, none], []))) rfl ?_
  have loop : ∀ (d j : Nat) (σ : Nat → Int32), j + d = k → XV G 9 p' l e' ({ frames := 9, cells := 5100, slots := 31000, locals := 195 } : Room) s' m' g' b' t' c' (XEnd G b' (fun r' n' h' => r' = some (.int 1) ∧ n' = n ∧ ∃ ρ', h' = setCW h f o kp P tx len p ρ') (fun _ _ _ => False) g' s' 5100 31000) 28 [some (.ref (4)), some (.int (nI k)), some (.int (nI (retK f z j))), some (.int (sumRK f true j)), some (.int (sumRK f false j)), some (.int (1)), some (.int (nI j)), none, none] [] n (setCW h f o kp P tx len p σ) (1 + 1006 * j) (6 + 6036 * j) := by
    intro d
    induction d with
    | zero =>
      intro j σ hj
      refine XV.run C okL_lift 2 (q := (31, ([some (.ref (4)), some (.int (nI k)), some (.int (nI (retK f z j))), some (.int (sumRK f true j)), some (.int (sumRK f false j)), some (.int (1)), some (.int (nI j)), none, none], [.int (nI k), .int (nI j)]))) rfl ?_
      refine XV.icmp_ge C (tgt := 94) (xlk_ok okL_lift rfl) rfl (fun _ => ?_) (fun hc => absurd (nI_le (by omega) (by omega)) hc)
      obtain rfl : k = j := by omega
      refine XV.run C okL_lift 1 (q := (95, ([some (.ref (4)), some (.int (nI k)), some (.int (nI (retK f z k))), some (.int (sumRK f true k)), some (.int (sumRK f false k)), some (.int (1)), some (.int (nI k)), none, none], [.ref (4)]))) rfl ?_
      refine XV.callV C (As := []) (rest := []) (ci := 4) (ct_C_unseen hfl hn hO.1 hO.2.1 hO.live hz z1 z2) (xlk_ok okL_lift rfl) rfl (by omega) (by omega) rfl (cw_o) rfl wM_L_49 wI_C_unseen wV_C_unseen wN_C wB_C_unseen hy_C_unseen (fun q => q.elim) ⟨Nat.le_of_ble_eq_true rfl, Nat.le_of_ble_eq_true rfl⟩ ⟨by show _ ≤ 5100; omega, by show _ ≤ 31000; omega⟩ (Nat.le_of_ble_eq_true rfl) (fun r n h hp => ?_) (fun _ _ _ q => q.elim)
      obtain ⟨rfl, rfl, ρ1, rfl⟩ := hp
      refine XV.run C okL_lift 2 (q := (102, ([some (.ref (4)), some (.int (nI k)), some (.int (nI (retK f z k))), some (.int (sumRK f true k)), some (.int (sumRK f false k)), some (.int (1)), some (.int (luK f z k 0)), none, none], [.int (1)]))) rfl ?_
      refine XV.if_eq C (tgt := 138) (xlk_ok okL_lift rfl) rfl (fun hc => absurd hc (by decide)) (fun _ => ?_)
      rcases lu_ok f z k 0 with hu | ⟨i, hi, hu, hun⟩
      ·
        rw [hu]
        refine XV.run C okL_lift 2 (q := (108, ([some (.ref (4)), some (.int (nI k)), some (.int (nI (retK f z k))), some (.int (sumRK f true k)), some (.int (sumRK f false k)), some (.int (1)), some (.int (-1)), none, none], [.int ((-1)), .int (-1)]))) rfl ?_
        refine XV.icmp_eq C (tgt := 134) (xlk_ok okL_lift rfl) rfl (fun _ => ?_) (fun hc => absurd (rfl) hc)
        refine XV.run C okL_lift 4 (q := (143, ([some (.ref (4)), some (.int (nI k)), some (.int (nI (retK f z k))), some (.int (sumRK f true k)), some (.int (sumRK f false k)), some (.int (1)), some (.int (-1)), none, none], [.int (1)]))) rfl ?_
        refine XV.if_eq C (tgt := 194) (xlk_ok okL_lift rfl) rfl (fun hc => absurd hc (by decide)) (fun _ => ?_)
        refine XV.run C okL_lift 2 (q := (148, ([some (.ref (4)), some (.int (nI k)), some (.int (nI (retK f z k))), some (.int (sumRK f true k)), some (.int (sumRK f false k)), some (.int (1)), some (.int (-1)), none, none], [.int (2), .ref (4)]))) rfl ?_
        refine XV.callV C (As := [.int (2)]) (rest := []) (ci := 4) (ct_D_count hfl hn hO hz z1 z2 ho hkp (w := 2) (by decide)) (xlk_ok okL_lift rfl) rfl (by omega) (by omega) rfl (cw_o) rfl wM_L_29 wI_C_count wV_C_count wN_C wB_C_count hy_C_count (fun q => q.elim) ⟨Nat.le_of_ble_eq_true rfl, Nat.le_of_ble_eq_true rfl⟩ ⟨by show _ ≤ 5100; omega, by show _ ≤ 31000; omega⟩ (Nat.le_of_ble_eq_true rfl) (fun r n h hp => ?_) (fun _ _ _ q => q.elim)
        obtain ⟨rfl, rfl, rfl⟩ := hp
        refine XV.run C okL_lift 1 (q := (152, ([some (.ref (4)), some (.int (nI k)), some (.int (nI (retK f z k))), some (.int (sumRK f true k)), some (.int (sumRK f false k)), some (.int (1)), some (.int (-1)), none, none], [.int (nI (retK f z k)), .int (countFigK f z k kp 2)]))) rfl ?_
        refine XV.icmp_ne C (tgt := 194) (xlk_ok okL_lift rfl) rfl (fun hc => absurd (rfl) hc) (fun _ => ?_)
        refine XV.run C okL_lift 2 (q := (157, ([some (.ref (4)), some (.int (nI k)), some (.int (nI (retK f z k))), some (.int (sumRK f true k)), some (.int (sumRK f false k)), some (.int (1)), some (.int (-1)), none, none], [.int (3), .ref (4)]))) rfl ?_
        refine XV.callV C (As := [.int (3)]) (rest := []) (ci := 4) (ct_D_count hfl hn hO hz z1 z2 ho hkp (w := 3) (by decide)) (xlk_ok okL_lift rfl) rfl (by omega) (by omega) rfl (cw_o) rfl wM_L_29 wI_C_count wV_C_count wN_C wB_C_count hy_C_count (fun q => q.elim) ⟨Nat.le_of_ble_eq_true rfl, Nat.le_of_ble_eq_true rfl⟩ ⟨by show _ ≤ 5100; omega, by show _ ≤ 31000; omega⟩ (Nat.le_of_ble_eq_true rfl) (fun r n h hp => ?_) (fun _ _ _ q => q.elim)
        obtain ⟨rfl, rfl, rfl⟩ := hp
        refine XV.run C okL_lift 2 (q := (162, ([some (.ref (4)), some (.int (nI k)), some (.int (nI (retK f z k))), some (.int (sumRK f true k)), some (.int (sumRK f false k)), some (.int (1)), some (.int (-1)), none, none], [.int (1), .int (nI k), .int (countFigK f z k kp 3)]))) rfl ?_
        refine XV.icmp_le C (tgt := 173) (xlk_ok okL_lift rfl) rfl (fun c2 => ?_) (fun c2 => ?_)
        ·
          refine XV.run C okL_lift 1 (q := (174, ([some (.ref (4)), some (.int (nI k)), some (.int (nI (retK f z k))), some (.int (sumRK f true k)), some (.int (sumRK f false k)), some (.int (1)), some (.int (-1)), none, none], [.int (0), .int (countFigK f z k kp 3)]))) rfl ?_
          refine XV.icmp_ne C (tgt := 194) (xlk_ok okL_lift rfl) rfl (fun hc => absurd (by first | exact c3_0 hk c2 | exact c3_1 hk c3) hc) (fun _ => ?_)
          refine XV.run C okL_lift 2 (q := (180, ([some (.ref (4)), some (.int (nI k)), some (.int (nI (retK f z k))), some (.int (sumRK f true k)), some (.int (sumRK f false k)), some (.int (1)), some (.int (-1)), none, none], [.int (7), .ref (4)]))) rfl ?_
          refine XV.callV C (As := [.int (7)]) (rest := []) (ci := 4) (ct_D_count hfl hn hO hz z1 z2 ho hkp (w := 7) (by decide)) (xlk_ok okL_lift rfl) rfl (by omega) (by omega) rfl (cw_o) rfl wM_L_29 wI_C_count wV_C_count wN_C wB_C_count hy_C_count (fun q => q.elim) ⟨Nat.le_of_ble_eq_true rfl, Nat.le_of_ble_eq_true rfl⟩ ⟨by show _ ≤ 5100; omega, by show _ ≤ 31000; omega⟩ (Nat.le_of_ble_eq_true rfl) (fun r n h hp => ?_) (fun _ _ _ q => q.elim)
          obtain ⟨rfl, rfl, rfl⟩ := hp
          refine XV.run C okL_lift 3 (q := (187, ([some (.ref (4)), some (.int (nI k)), some (.int (nI (retK f z k))), some (.int (sumRK f true k)), some (.int (sumRK f false k)), some (.int (1)), some (.int (-1)), none, none], [.int ((sumRK f true k) - (sumRK f false k)), .int (countFigK f z k kp 7)]))) rfl ?_
          refine XV.icmp_ne C (tgt := 194) (xlk_ok okL_lift rfl) rfl (fun hc => absurd (rfl) hc) (fun _ => ?_)
          refine XV.run C okL_lift 4 (q := (198, ([some (.ref (4)), some (.int (nI k)), some (.int (nI (retK f z k))), some (.int (sumRK f true k)), some (.int (sumRK f false k)), some (.int (1)), some (.int (-1)), none, none], [.ref (4)]))) rfl ?_
          refine XV.callV C (As := []) (rest := []) (ci := 4) (ct_C_countedShare hfl hn hO.1 hO.2.1 hO.live (share_ok hO).2.1) (xlk_ok okL_lift rfl) rfl (by omega) (by omega) rfl (cw_o) rfl wM_L_55 wI_C_countedShare wV_C_countedShare wN_C wB_C_countedShare hy_C_countedShare (fun q => q.elim) ⟨Nat.le_of_ble_eq_true rfl, Nat.le_of_ble_eq_true rfl⟩ ⟨by show _ ≤ 5100; omega, by show _ ≤ 31000; omega⟩ (Nat.le_of_ble_eq_true rfl) (fun r n h hp => ?_) (fun _ _ _ q => q.elim)
          obtain ⟨rfl, rfl, rfl⟩ := hp
          refine XV.run C okL_lift 2 (q := (205, ([some (.ref (4)), some (.int (nI k)), some (.int (nI (retK f z k))), some (.int (sumRK f true k)), some (.int (sumRK f false k)), some (.int (1)), some (.int (-1)), some (.double (shrK f k)), none], [.int (1)]))) rfl ?_
          refine XV.if_eq C (tgt := 237) (xlk_ok okL_lift rfl) rfl (fun hc => absurd hc (by decide)) (fun _ => ?_)
          refine XV.run C okL_lift 1 (q := (210, ([some (.ref (4)), some (.int (nI k)), some (.int (nI (retK f z k))), some (.int (sumRK f true k)), some (.int (sumRK f false k)), some (.int (1)), some (.int (-1)), some (.double (shrK f k)), none], [.double (shrK f k)]))) rfl ?_
          refine XV.dconst0 C (xlk_ok okL_lift rfl) ?_
          refine XV.run C okL_lift 1 (q := (212, ([some (.ref (4)), some (.int (nI k)), some (.int (nI (retK f z k))), some (.int (sumRK f true k)), some (.int (sumRK f false k)), some (.int (1)), some (.int (-1)), some (.double (shrK f k)), none], [.int (Op.cmpValue (FP.dcmp (shrK f k) FP.dconst0) .l)]))) rfl ?_
          refine XV.if_lt C (tgt := 237) (xlk_ok okL_lift rfl) rfl (fun hc => absurd hc (sh_ge0 (share_ok hO).1)) (fun _ => ?_)
          refine XV.run C okL_lift 1 (q := (217, ([some (.ref (4)), some (.int (nI k)), some (.int (nI (retK f z k))), some (.int (sumRK f true k)), some (.int (sumRK f false k)), some (.int (1)), some (.int (-1)), some (.double (shrK f k)), none], [.double (shrK f k)]))) rfl ?_
          refine XV.dconst1 C (xlk_ok okL_lift rfl) ?_
          refine XV.run C okL_lift 1 (q := (219, ([some (.ref (4)), some (.int (nI k)), some (.int (nI (retK f z k))), some (.int (sumRK f true k)), some (.int (sumRK f false k)), some (.int (1)), some (.int (-1)), some (.double (shrK f k)), none], [.int (Op.cmpValue (FP.dcmp (shrK f k) FP.dconst1) .g)]))) rfl ?_
          refine XV.if_gt C (tgt := 237) (xlk_ok okL_lift rfl) rfl (fun hc => absurd hc (sh_le1 (share_ok hO).1)) (fun _ => ?_)
          refine XV.run C okL_lift 1 (q := (223, ([some (.ref (4)), some (.int (nI k)), some (.int (nI (retK f z k))), some (.int (sumRK f true k)), some (.int (sumRK f false k)), some (.int (1)), some (.int (-1)), some (.double (shrK f k)), none], [.int (sumRK f true k)]))) rfl ?_
          refine XV.if_gt C (tgt := 233) (xlk_ok okL_lift rfl) rfl (fun cs => ?_) (fun cs => ?_)
          ·
            refine XV.run C okL_lift 2 (q := (238, ([some (.ref (4)), some (.int (nI k)), some (.int (nI (retK f z k))), some (.int (sumRK f true k)), some (.int (sumRK f false k)), some (.int (1)), some (.int (-1)), some (.double (shrK f k)), none], [.int (1)]))) rfl ?_
            exact XV.iret C (xlk_ok okL_lift rfl) hret (rfl) (by show _ ≤ 5100; omega) (by show _ ≤ 31000; omega) (⟨rfl, rfl, _, rfl⟩)
          ·
            refine XV.run C okL_lift 1 (q := (228, ([some (.ref (4)), some (.int (nI k)), some (.int (nI (retK f z k))), some (.int (sumRK f true k)), some (.int (sumRK f false k)), some (.int (1)), some (.int (-1)), some (.double (shrK f k)), none], [.double (shrK f k)]))) rfl ?_
            refine XV.dconst1 C (xlk_ok okL_lift rfl) ?_
            refine XV.run C okL_lift 1 (q := (230, ([some (.ref (4)), some (.int (nI k)), some (.int (nI (retK f z k))), some (.int (sumRK f true k)), some (.int (sumRK f false k)), some (.int (1)), some (.int (-1)), some (.double (shrK f k)), none], [.int (Op.cmpValue (FP.dcmp (shrK f k) FP.dconst1) .l)]))) rfl ?_
            refine XV.if_ne C (tgt := 237) (xlk_ok okL_lift rfl) rfl (fun hc => absurd (by rw [(share_ok hO).2.2 cs]; exact sh_is1) hc) (fun _ => ?_)
            refine XV.run C okL_lift 2 (q := (238, ([some (.ref (4)), some (.int (nI k)), some (.int (nI (retK f z k))), some (.int (sumRK f true k)), some (.int (sumRK f false k)), some (.int (1)), some (.int (-1)), some (.double (shrK f k)), none], [.int (1)]))) rfl ?_
            exact XV.iret C (xlk_ok okL_lift rfl) hret (rfl) (by show _ ≤ 5100; omega) (by show _ ≤ 31000; omega) (⟨rfl, rfl, _, rfl⟩)
        ·
          refine XV.run C okL_lift 1 (q := (166, ([some (.ref (4)), some (.int (nI k)), some (.int (nI (retK f z k))), some (.int (sumRK f true k)), some (.int (sumRK f false k)), some (.int (1)), some (.int (-1)), none, none], [.int (nI (retK f z k)), .int (countFigK f z k kp 3)]))) rfl ?_
          refine XV.if_ne C (tgt := 173) (xlk_ok okL_lift rfl) rfl (fun c3 => ?_) (fun c3 => ?_)
          ·
            refine XV.run C okL_lift 1 (q := (174, ([some (.ref (4)), some (.int (nI k)), some (.int (nI (retK f z k))), some (.int (sumRK f true k)), some (.int (sumRK f false k)), some (.int (1)), some (.int (-1)), none, none], [.int (0), .int (countFigK f z k kp 3)]))) rfl ?_
            refine XV.icmp_ne C (tgt := 194) (xlk_ok okL_lift rfl) rfl (fun hc => absurd (by first | exact c3_0 hk c2 | exact c3_1 hk c3) hc) (fun _ => ?_)
            refine XV.run C okL_lift 2 (q := (180, ([some (.ref (4)), some (.int (nI k)), some (.int (nI (retK f z k))), some (.int (sumRK f true k)), some (.int (sumRK f false k)), some (.int (1)), some (.int (-1)), none, none], [.int (7), .ref (4)]))) rfl ?_
            refine XV.callV C (As := [.int (7)]) (rest := []) (ci := 4) (ct_D_count hfl hn hO hz z1 z2 ho hkp (w := 7) (by decide)) (xlk_ok okL_lift rfl) rfl (by omega) (by omega) rfl (cw_o) rfl wM_L_29 wI_C_count wV_C_count wN_C wB_C_count hy_C_count (fun q => q.elim) ⟨Nat.le_of_ble_eq_true rfl, Nat.le_of_ble_eq_true rfl⟩ ⟨by show _ ≤ 5100; omega, by show _ ≤ 31000; omega⟩ (Nat.le_of_ble_eq_true rfl) (fun r n h hp => ?_) (fun _ _ _ q => q.elim)
            obtain ⟨rfl, rfl, rfl⟩ := hp
            refine XV.run C okL_lift 3 (q := (187, ([some (.ref (4)), some (.int (nI k)), some (.int (nI (retK f z k))), some (.int (sumRK f true k)), some (.int (sumRK f false k)), some (.int (1)), some (.int (-1)), none, none], [.int ((sumRK f true k) - (sumRK f false k)), .int (countFigK f z k kp 7)]))) rfl ?_
            refine XV.icmp_ne C (tgt := 194) (xlk_ok okL_lift rfl) rfl (fun hc => absurd (rfl) hc) (fun _ => ?_)
            refine XV.run C okL_lift 4 (q := (198, ([some (.ref (4)), some (.int (nI k)), some (.int (nI (retK f z k))), some (.int (sumRK f true k)), some (.int (sumRK f false k)), some (.int (1)), some (.int (-1)), none, none], [.ref (4)]))) rfl ?_
            refine XV.callV C (As := []) (rest := []) (ci := 4) (ct_C_countedShare hfl hn hO.1 hO.2.1 hO.live (share_ok hO).2.1) (xlk_ok okL_lift rfl) rfl (by omega) (by omega) rfl (cw_o) rfl wM_L_55 wI_C_countedShare wV_C_countedShare wN_C wB_C_countedShare hy_C_countedShare (fun q => q.elim) ⟨Nat.le_of_ble_eq_true rfl, Nat.le_of_ble_eq_true rfl⟩ ⟨by show _ ≤ 5100; omega, by show _ ≤ 31000; omega⟩ (Nat.le_of_ble_eq_true rfl) (fun r n h hp => ?_) (fun _ _ _ q => q.elim)
            obtain ⟨rfl, rfl, rfl⟩ := hp
            refine XV.run C okL_lift 2 (q := (205, ([some (.ref (4)), some (.int (nI k)), some (.int (nI (retK f z k))), some (.int (sumRK f true k)), some (.int (sumRK f false k)), some (.int (1)), some (.int (-1)), some (.double (shrK f k)), none], [.int (1)]))) rfl ?_
            refine XV.if_eq C (tgt := 237) (xlk_ok okL_lift rfl) rfl (fun hc => absurd hc (by decide)) (fun _ => ?_)
            refine XV.run C okL_lift 1 (q := (210, ([some (.ref (4)), some (.int (nI k)), some (.int (nI (retK f z k))), some (.int (sumRK f true k)), some (.int (sumRK f false k)), some (.int (1)), some (.int (-1)), some (.double (shrK f k)), none], [.double (shrK f k)]))) rfl ?_
            refine XV.dconst0 C (xlk_ok okL_lift rfl) ?_
            refine XV.run C okL_lift 1 (q := (212, ([some (.ref (4)), some (.int (nI k)), some (.int (nI (retK f z k))), some (.int (sumRK f true k)), some (.int (sumRK f false k)), some (.int (1)), some (.int (-1)), some (.double (shrK f k)), none], [.int (Op.cmpValue (FP.dcmp (shrK f k) FP.dconst0) .l)]))) rfl ?_
            refine XV.if_lt C (tgt := 237) (xlk_ok okL_lift rfl) rfl (fun hc => absurd hc (sh_ge0 (share_ok hO).1)) (fun _ => ?_)
            refine XV.run C okL_lift 1 (q := (217, ([some (.ref (4)), some (.int (nI k)), some (.int (nI (retK f z k))), some (.int (sumRK f true k)), some (.int (sumRK f false k)), some (.int (1)), some (.int (-1)), some (.double (shrK f k)), none], [.double (shrK f k)]))) rfl ?_
            refine XV.dconst1 C (xlk_ok okL_lift rfl) ?_
            refine XV.run C okL_lift 1 (q := (219, ([some (.ref (4)), some (.int (nI k)), some (.int (nI (retK f z k))), some (.int (sumRK f true k)), some (.int (sumRK f false k)), some (.int (1)), some (.int (-1)), some (.double (shrK f k)), none], [.int (Op.cmpValue (FP.dcmp (shrK f k) FP.dconst1) .g)]))) rfl ?_
            refine XV.if_gt C (tgt := 237) (xlk_ok okL_lift rfl) rfl (fun hc => absurd hc (sh_le1 (share_ok hO).1)) (fun _ => ?_)
            refine XV.run C okL_lift 1 (q := (223, ([some (.ref (4)), some (.int (nI k)), some (.int (nI (retK f z k))), some (.int (sumRK f true k)), some (.int (sumRK f false k)), some (.int (1)), some (.int (-1)), some (.double (shrK f k)), none], [.int (sumRK f true k)]))) rfl ?_
            refine XV.if_gt C (tgt := 233) (xlk_ok okL_lift rfl) rfl (fun cs => ?_) (fun cs => ?_)
            ·
              refine XV.run C okL_lift 2 (q := (238, ([some (.ref (4)), some (.int (nI k)), some (.int (nI (retK f z k))), some (.int (sumRK f true k)), some (.int (sumRK f false k)), some (.int (1)), some (.int (-1)), some (.double (shrK f k)), none], [.int (1)]))) rfl ?_
              exact XV.iret C (xlk_ok okL_lift rfl) hret (rfl) (by show _ ≤ 5100; omega) (by show _ ≤ 31000; omega) (⟨rfl, rfl, _, rfl⟩)
            ·
              refine XV.run C okL_lift 1 (q := (228, ([some (.ref (4)), some (.int (nI k)), some (.int (nI (retK f z k))), some (.int (sumRK f true k)), some (.int (sumRK f false k)), some (.int (1)), some (.int (-1)), some (.double (shrK f k)), none], [.double (shrK f k)]))) rfl ?_
              refine XV.dconst1 C (xlk_ok okL_lift rfl) ?_
              refine XV.run C okL_lift 1 (q := (230, ([some (.ref (4)), some (.int (nI k)), some (.int (nI (retK f z k))), some (.int (sumRK f true k)), some (.int (sumRK f false k)), some (.int (1)), some (.int (-1)), some (.double (shrK f k)), none], [.int (Op.cmpValue (FP.dcmp (shrK f k) FP.dconst1) .l)]))) rfl ?_
              refine XV.if_ne C (tgt := 237) (xlk_ok okL_lift rfl) rfl (fun hc => absurd (by rw [(share_ok hO).2.2 cs]; exact sh_is1) hc) (fun _ => ?_)
              refine XV.run C okL_lift 2 (q := (238, ([some (.ref (4)), some (.int (nI k)), some (.int (nI (retK f z k))), some (.int (sumRK f true k)), some (.int (sumRK f false k)), some (.int (1)), some (.int (-1)), some (.double (shrK f k)), none], [.int (1)]))) rfl ?_
              exact XV.iret C (xlk_ok okL_lift rfl) hret (rfl) (by show _ ≤ 5100; omega) (by show _ ≤ 31000; omega) (⟨rfl, rfl, _, rfl⟩)
          ·
            refine XV.run C okL_lift 2 (q := (174, ([some (.ref (4)), some (.int (nI k)), some (.int (nI (retK f z k))), some (.int (sumRK f true k)), some (.int (sumRK f false k)), some (.int (1)), some (.int (-1)), none, none], [.int (1), .int (countFigK f z k kp 3)]))) rfl ?_
            refine XV.icmp_ne C (tgt := 194) (xlk_ok okL_lift rfl) rfl (fun hc => absurd (c3_2 hk c2 c3) hc) (fun _ => ?_)
            refine XV.run C okL_lift 2 (q := (180, ([some (.ref (4)), some (.int (nI k)), some (.int (nI (retK f z k))), some (.int (sumRK f true k)), some (.int (sumRK f false k)), some (.int (1)), some (.int (-1)), none, none], [.int (7), .ref (4)]))) rfl ?_
            refine XV.callV C (As := [.int (7)]) (rest := []) (ci := 4) (ct_D_count hfl hn hO hz z1 z2 ho hkp (w := 7) (by decide)) (xlk_ok okL_lift rfl) rfl (by omega) (by omega) rfl (cw_o) rfl wM_L_29 wI_C_count wV_C_count wN_C wB_C_count hy_C_count (fun q => q.elim) ⟨Nat.le_of_ble_eq_true rfl, Nat.le_of_ble_eq_true rfl⟩ ⟨by show _ ≤ 5100; omega, by show _ ≤ 31000; omega⟩ (Nat.le_of_ble_eq_true rfl) (fun r n h hp => ?_) (fun _ _ _ q => q.elim)
            obtain ⟨rfl, rfl, rfl⟩ := hp
            refine XV.run C okL_lift 3 (q := (187, ([some (.ref (4)), some (.int (nI k)), some (.int (nI (retK f z k))), some (.int (sumRK f true k)), some (.int (sumRK f false k)), some (.int (1)), some (.int (-1)), none, none], [.int ((sumRK f true k) - (sumRK f false k)), .int (countFigK f z k kp 7)]))) rfl ?_
            refine XV.icmp_ne C (tgt := 194) (xlk_ok okL_lift rfl) rfl (fun hc => absurd (rfl) hc) (fun _ => ?_)
            refine XV.run C okL_lift 4 (q := (198, ([some (.ref (4)), some (.int (nI k)), some (.int (nI (retK f z k))), some (.int (sumRK f true k)), some (.int (sumRK f false k)), some (.int (1)), some (.int (-1)), none, none], [.ref (4)]))) rfl ?_
            refine XV.callV C (As := []) (rest := []) (ci := 4) (ct_C_countedShare hfl hn hO.1 hO.2.1 hO.live (share_ok hO).2.1) (xlk_ok okL_lift rfl) rfl (by omega) (by omega) rfl (cw_o) rfl wM_L_55 wI_C_countedShare wV_C_countedShare wN_C wB_C_countedShare hy_C_countedShare (fun q => q.elim) ⟨Nat.le_of_ble_eq_true rfl, Nat.le_of_ble_eq_true rfl⟩ ⟨by show _ ≤ 5100; omega, by show _ ≤ 31000; omega⟩ (Nat.le_of_ble_eq_true rfl) (fun r n h hp => ?_) (fun _ _ _ q => q.elim)
            obtain ⟨rfl, rfl, rfl⟩ := hp
            refine XV.run C okL_lift 2 (q := (205, ([some (.ref (4)), some (.int (nI k)), some (.int (nI (retK f z k))), some (.int (sumRK f true k)), some (.int (sumRK f false k)), some (.int (1)), some (.int (-1)), some (.double (shrK f k)), none], [.int (1)]))) rfl ?_
            refine XV.if_eq C (tgt := 237) (xlk_ok okL_lift rfl) rfl (fun hc => absurd hc (by decide)) (fun _ => ?_)
            refine XV.run C okL_lift 1 (q := (210, ([some (.ref (4)), some (.int (nI k)), some (.int (nI (retK f z k))), some (.int (sumRK f true k)), some (.int (sumRK f false k)), some (.int (1)), some (.int (-1)), some (.double (shrK f k)), none], [.double (shrK f k)]))) rfl ?_
            refine XV.dconst0 C (xlk_ok okL_lift rfl) ?_
            refine XV.run C okL_lift 1 (q := (212, ([some (.ref (4)), some (.int (nI k)), some (.int (nI (retK f z k))), some (.int (sumRK f true k)), some (.int (sumRK f false k)), some (.int (1)), some (.int (-1)), some (.double (shrK f k)), none], [.int (Op.cmpValue (FP.dcmp (shrK f k) FP.dconst0) .l)]))) rfl ?_
            refine XV.if_lt C (tgt := 237) (xlk_ok okL_lift rfl) rfl (fun hc => absurd hc (sh_ge0 (share_ok hO).1)) (fun _ => ?_)
            refine XV.run C okL_lift 1 (q := (217, ([some (.ref (4)), some (.int (nI k)), some (.int (nI (retK f z k))), some (.int (sumRK f true k)), some (.int (sumRK f false k)), some (.int (1)), some (.int (-1)), some (.double (shrK f k)), none], [.double (shrK f k)]))) rfl ?_
            refine XV.dconst1 C (xlk_ok okL_lift rfl) ?_
            refine XV.run C okL_lift 1 (q := (219, ([some (.ref (4)), some (.int (nI k)), some (.int (nI (retK f z k))), some (.int (sumRK f true k)), some (.int (sumRK f false k)), some (.int (1)), some (.int (-1)), some (.double (shrK f k)), none], [.int (Op.cmpValue (FP.dcmp (shrK f k) FP.dconst1) .g)]))) rfl ?_
            refine XV.if_gt C (tgt := 237) (xlk_ok okL_lift rfl) rfl (fun hc => absurd hc (sh_le1 (share_ok hO).1)) (fun _ => ?_)
            refine XV.run C okL_lift 1 (q := (223, ([some (.ref (4)), some (.int (nI k)), some (.int (nI (retK f z k))), some (.int (sumRK f true k)), some (.int (sumRK f false k)), some (.int (1)), some (.int (-1)), some (.double (shrK f k)), none], [.int (sumRK f true k)]))) rfl ?_
            refine XV.if_gt C (tgt := 233) (xlk_ok okL_lift rfl) rfl (fun cs => ?_) (fun cs => ?_)
            ·
              refine XV.run C okL_lift 2 (q := (238, ([some (.ref (4)), some (.int (nI k)), some (.int (nI (retK f z k))), some (.int (sumRK f true k)), some (.int (sumRK f false k)), some (.int (1)), some (.int (-1)), some (.double (shrK f k)), none], [.int (1)]))) rfl ?_
              exact XV.iret C (xlk_ok okL_lift rfl) hret (rfl) (by show _ ≤ 5100; omega) (by show _ ≤ 31000; omega) (⟨rfl, rfl, _, rfl⟩)
            ·
              refine XV.run C okL_lift 1 (q := (228, ([some (.ref (4)), some (.int (nI k)), some (.int (nI (retK f z k))), some (.int (sumRK f true k)), some (.int (sumRK f false k)), some (.int (1)), some (.int (-1)), some (.double (shrK f k)), none], [.double (shrK f k)]))) rfl ?_
              refine XV.dconst1 C (xlk_ok okL_lift rfl) ?_
              refine XV.run C okL_lift 1 (q := (230, ([some (.ref (4)), some (.int (nI k)), some (.int (nI (retK f z k))), some (.int (sumRK f true k)), some (.int (sumRK f false k)), some (.int (1)), some (.int (-1)), some (.double (shrK f k)), none], [.int (Op.cmpValue (FP.dcmp (shrK f k) FP.dconst1) .l)]))) rfl ?_
              refine XV.if_ne C (tgt := 237) (xlk_ok okL_lift rfl) rfl (fun hc => absurd (by rw [(share_ok hO).2.2 cs]; exact sh_is1) hc) (fun _ => ?_)
              refine XV.run C okL_lift 2 (q := (238, ([some (.ref (4)), some (.int (nI k)), some (.int (nI (retK f z k))), some (.int (sumRK f true k)), some (.int (sumRK f false k)), some (.int (1)), some (.int (-1)), some (.double (shrK f k)), none], [.int (1)]))) rfl ?_
              exact XV.iret C (xlk_ok okL_lift rfl) hret (rfl) (by show _ ≤ 5100; omega) (by show _ ≤ 31000; omega) (⟨rfl, rfl, _, rfl⟩)
      ·
        rw [hu]
        have hi5 : i < k := by omega
        refine XV.run C okL_lift 2 (q := (108, ([some (.ref (4)), some (.int (nI k)), some (.int (nI (retK f z k))), some (.int (sumRK f true k)), some (.int (sumRK f false k)), some (.int (1)), some (.int (nI i)), none, none], [.int ((-1)), .int (nI i)]))) rfl ?_
        refine XV.icmp_eq C (tgt := 134) (xlk_ok okL_lift rfl) rfl (fun hc => absurd hc (ne_m1 (by omega))) (fun _ => ?_)
        refine XV.run C okL_lift 3 (q := (116, ([some (.ref (4)), some (.int (nI k)), some (.int (nI (retK f z k))), some (.int (sumRK f true k)), some (.int (sumRK f false k)), some (.int (1)), some (.int (nI i)), none, none], [.int (7), .int (nI i), .ref (4)]))) rfl ?_
        refine XV.callV C (As := [.int (nI i), .int (7)]) (rest := []) (ci := 4) (ct_D_rope hfl hn hO hz z1 z2 ho hkp (i := i) (w := 7) (by first | assumption | omega) (by decide)) (xlk_ok okL_lift rfl) rfl (by omega) (by omega) rfl (cw_o) rfl wM_L_25 wI_C_rope wV_C_rope wN_C wB_C_rope hy_C_rope (fun q => q.elim) ⟨Nat.le_of_ble_eq_true rfl, Nat.le_of_ble_eq_true rfl⟩ ⟨by show _ ≤ 5100; omega, by show _ ≤ 31000; omega⟩ (Nat.le_of_ble_eq_true rfl) (fun r n h hp => ?_) (fun _ _ _ q => q.elim)
        obtain ⟨rfl, rfl, rfl⟩ := hp
        refine XV.if_ne C (tgt := 138) (xlk_ok okL_lift rfl) rfl (fun hc => absurd (uns_0 hun) hc) (fun _ => ?_)
        refine XV.run C okL_lift 4 (q := (128, ([some (.ref (4)), some (.int (nI k)), some (.int (nI (retK f z k))), some (.int (sumRK f true k)), some (.int (sumRK f false k)), some (.int (1)), some (.int (nI i)), none, none], [.int (23), .int (0), .int (nI i), .ref (4)]))) rfl ?_
        refine XV.callV C (As := [.int (nI i), .int (0), .int (23)]) (rest := []) (ci := 4) (ct_D_ifInspected hfl hn hO hz z1 z2 ho hkp (i := i) (by first | assumption | omega)) (xlk_ok okL_lift rfl) rfl (by omega) (by omega) rfl (cw_o) rfl wM_L_52 wI_C_ifInspected wV_C_ifInspected wN_C wB_C_ifInspected hy_C_ifInspected (fun q => q.elim) ⟨Nat.le_of_ble_eq_true rfl, Nat.le_of_ble_eq_true rfl⟩ ⟨by show _ ≤ 5100; omega, by show _ ≤ 31000; omega⟩ (Nat.le_of_ble_eq_true rfl) (fun r n h hp => ?_) (fun _ _ _ q => q.elim)
        obtain ⟨rfl, rfl, ρ2, rfl⟩ := hp
        refine XV.if_le C (tgt := 138) (xlk_ok okL_lift rfl) rfl (fun hc => absurd hc (uns_1 hun)) (fun _ => ?_)
        refine XV.run C okL_lift 4 (q := (143, ([some (.ref (4)), some (.int (nI k)), some (.int (nI (retK f z k))), some (.int (sumRK f true k)), some (.int (sumRK f false k)), some (.int (1)), some (.int (nI i)), none, none], [.int (1)]))) rfl ?_
        refine XV.if_eq C (tgt := 194) (xlk_ok okL_lift rfl) rfl (fun hc => absurd hc (by decide)) (fun _ => ?_)
        refine XV.run C okL_lift 2 (q := (148, ([some (.ref (4)), some (.int (nI k)), some (.int (nI (retK f z k))), some (.int (sumRK f true k)), some (.int (sumRK f false k)), some (.int (1)), some (.int (nI i)), none, none], [.int (2), .ref (4)]))) rfl ?_
        refine XV.callV C (As := [.int (2)]) (rest := []) (ci := 4) (ct_D_count hfl hn hO hz z1 z2 ho hkp (w := 2) (by decide)) (xlk_ok okL_lift rfl) rfl (by omega) (by omega) rfl (cw_o) rfl wM_L_29 wI_C_count wV_C_count wN_C wB_C_count hy_C_count (fun q => q.elim) ⟨Nat.le_of_ble_eq_true rfl, Nat.le_of_ble_eq_true rfl⟩ ⟨by show _ ≤ 5100; omega, by show _ ≤ 31000; omega⟩ (Nat.le_of_ble_eq_true rfl) (fun r n h hp => ?_) (fun _ _ _ q => q.elim)
        obtain ⟨rfl, rfl, rfl⟩ := hp
        refine XV.run C okL_lift 1 (q := (152, ([some (.ref (4)), some (.int (nI k)), some (.int (nI (retK f z k))), some (.int (sumRK f true k)), some (.int (sumRK f false k)), some (.int (1)), some (.int (nI i)), none, none], [.int (nI (retK f z k)), .int (countFigK f z k kp 2)]))) rfl ?_
        refine XV.icmp_ne C (tgt := 194) (xlk_ok okL_lift rfl) rfl (fun hc => absurd (rfl) hc) (fun _ => ?_)
        refine XV.run C okL_lift 2 (q := (157, ([some (.ref (4)), some (.int (nI k)), some (.int (nI (retK f z k))), some (.int (sumRK f true k)), some (.int (sumRK f false k)), some (.int (1)), some (.int (nI i)), none, none], [.int (3), .ref (4)]))) rfl ?_
        refine XV.callV C (As := [.int (3)]) (rest := []) (ci := 4) (ct_D_count hfl hn hO hz z1 z2 ho hkp (w := 3) (by decide)) (xlk_ok okL_lift rfl) rfl (by omega) (by omega) rfl (cw_o) rfl wM_L_29 wI_C_count wV_C_count wN_C wB_C_count hy_C_count (fun q => q.elim) ⟨Nat.le_of_ble_eq_true rfl, Nat.le_of_ble_eq_true rfl⟩ ⟨by show _ ≤ 5100; omega, by show _ ≤ 31000; omega⟩ (Nat.le_of_ble_eq_true rfl) (fun r n h hp => ?_) (fun _ _ _ q => q.elim)
        obtain ⟨rfl, rfl, rfl⟩ := hp
        refine XV.run C okL_lift 2 (q := (162, ([some (.ref (4)), some (.int (nI k)), some (.int (nI (retK f z k))), some (.int (sumRK f true k)), some (.int (sumRK f false k)), some (.int (1)), some (.int (nI i)), none, none], [.int (1), .int (nI k), .int (countFigK f z k kp 3)]))) rfl ?_
        refine XV.icmp_le C (tgt := 173) (xlk_ok okL_lift rfl) rfl (fun c2 => ?_) (fun c2 => ?_)
        ·
          refine XV.run C okL_lift 1 (q := (174, ([some (.ref (4)), some (.int (nI k)), some (.int (nI (retK f z k))), some (.int (sumRK f true k)), some (.int (sumRK f false k)), some (.int (1)), some (.int (nI i)), none, none], [.int (0), .int (countFigK f z k kp 3)]))) rfl ?_
          refine XV.icmp_ne C (tgt := 194) (xlk_ok okL_lift rfl) rfl (fun hc => absurd (by first | exact c3_0 hk c2 | exact c3_1 hk c3) hc) (fun _ => ?_)
          refine XV.run C okL_lift 2 (q := (180, ([some (.ref (4)), some (.int (nI k)), some (.int (nI (retK f z k))), some (.int (sumRK f true k)), some (.int (sumRK f false k)), some (.int (1)), some (.int (nI i)), none, none], [.int (7), .ref (4)]))) rfl ?_
          refine XV.callV C (As := [.int (7)]) (rest := []) (ci := 4) (ct_D_count hfl hn hO hz z1 z2 ho hkp (w := 7) (by decide)) (xlk_ok okL_lift rfl) rfl (by omega) (by omega) rfl (cw_o) rfl wM_L_29 wI_C_count wV_C_count wN_C wB_C_count hy_C_count (fun q => q.elim) ⟨Nat.le_of_ble_eq_true rfl, Nat.le_of_ble_eq_true rfl⟩ ⟨by show _ ≤ 5100; omega, by show _ ≤ 31000; omega⟩ (Nat.le_of_ble_eq_true rfl) (fun r n h hp => ?_) (fun _ _ _ q => q.elim)
          obtain ⟨rfl, rfl, rfl⟩ := hp
          refine XV.run C okL_lift 3 (q := (187, ([some (.ref (4)), some (.int (nI k)), some (.int (nI (retK f z k))), some (.int (sumRK f true k)), some (.int (sumRK f false k)), some (.int (1)), some (.int (nI i)), none, none], [.int ((sumRK f true k) - (sumRK f false k)), .int (countFigK f z k kp 7)]))) rfl ?_
          refine XV.icmp_ne C (tgt := 194) (xlk_ok okL_lift rfl) rfl (fun hc => absurd (rfl) hc) (fun _ => ?_)
          refine XV.run C okL_lift 4 (q := (198, ([some (.ref (4)), some (.int (nI k)), some (.int (nI (retK f z k))), some (.int (sumRK f true k)), some (.int (sumRK f false k)), some (.int (1)), some (.int (nI i)), none, none], [.ref (4)]))) rfl ?_
          refine XV.callV C (As := []) (rest := []) (ci := 4) (ct_C_countedShare hfl hn hO.1 hO.2.1 hO.live (share_ok hO).2.1) (xlk_ok okL_lift rfl) rfl (by omega) (by omega) rfl (cw_o) rfl wM_L_55 wI_C_countedShare wV_C_countedShare wN_C wB_C_countedShare hy_C_countedShare (fun q => q.elim) ⟨Nat.le_of_ble_eq_true rfl, Nat.le_of_ble_eq_true rfl⟩ ⟨by show _ ≤ 5100; omega, by show _ ≤ 31000; omega⟩ (Nat.le_of_ble_eq_true rfl) (fun r n h hp => ?_) (fun _ _ _ q => q.elim)
          obtain ⟨rfl, rfl, rfl⟩ := hp
          refine XV.run C okL_lift 2 (q := (205, ([some (.ref (4)), some (.int (nI k)), some (.int (nI (retK f z k))), some (.int (sumRK f true k)), some (.int (sumRK f false k)), some (.int (1)), some (.int (nI i)), some (.double (shrK f k)), none], [.int (1)]))) rfl ?_
          refine XV.if_eq C (tgt := 237) (xlk_ok okL_lift rfl) rfl (fun hc => absurd hc (by decide)) (fun _ => ?_)
          refine XV.run C okL_lift 1 (q := (210, ([some (.ref (4)), some (.int (nI k)), some (.int (nI (retK f z k))), some (.int (sumRK f true k)), some (.int (sumRK f false k)), some (.int (1)), some (.int (nI i)), some (.double (shrK f k)), none], [.double (shrK f k)]))) rfl ?_
          refine XV.dconst0 C (xlk_ok okL_lift rfl) ?_
          refine XV.run C okL_lift 1 (q := (212, ([some (.ref (4)), some (.int (nI k)), some (.int (nI (retK f z k))), some (.int (sumRK f true k)), some (.int (sumRK f false k)), some (.int (1)), some (.int (nI i)), some (.double (shrK f k)), none], [.int (Op.cmpValue (FP.dcmp (shrK f k) FP.dconst0) .l)]))) rfl ?_
          refine XV.if_lt C (tgt := 237) (xlk_ok okL_lift rfl) rfl (fun hc => absurd hc (sh_ge0 (share_ok hO).1)) (fun _ => ?_)
          refine XV.run C okL_lift 1 (q := (217, ([some (.ref (4)), some (.int (nI k)), some (.int (nI (retK f z k))), some (.int (sumRK f true k)), some (.int (sumRK f false k)), some (.int (1)), some (.int (nI i)), some (.double (shrK f k)), none], [.double (shrK f k)]))) rfl ?_
          refine XV.dconst1 C (xlk_ok okL_lift rfl) ?_
          refine XV.run C okL_lift 1 (q := (219, ([some (.ref (4)), some (.int (nI k)), some (.int (nI (retK f z k))), some (.int (sumRK f true k)), some (.int (sumRK f false k)), some (.int (1)), some (.int (nI i)), some (.double (shrK f k)), none], [.int (Op.cmpValue (FP.dcmp (shrK f k) FP.dconst1) .g)]))) rfl ?_
          refine XV.if_gt C (tgt := 237) (xlk_ok okL_lift rfl) rfl (fun hc => absurd hc (sh_le1 (share_ok hO).1)) (fun _ => ?_)
          refine XV.run C okL_lift 1 (q := (223, ([some (.ref (4)), some (.int (nI k)), some (.int (nI (retK f z k))), some (.int (sumRK f true k)), some (.int (sumRK f false k)), some (.int (1)), some (.int (nI i)), some (.double (shrK f k)), none], [.int (sumRK f true k)]))) rfl ?_
          refine XV.if_gt C (tgt := 233) (xlk_ok okL_lift rfl) rfl (fun cs => ?_) (fun cs => ?_)
          ·
            refine XV.run C okL_lift 2 (q := (238, ([some (.ref (4)), some (.int (nI k)), some (.int (nI (retK f z k))), some (.int (sumRK f true k)), some (.int (sumRK f false k)), some (.int (1)), some (.int (nI i)), some (.double (shrK f k)), none], [.int (1)]))) rfl ?_
            exact XV.iret C (xlk_ok okL_lift rfl) hret (rfl) (by show _ ≤ 5100; omega) (by show _ ≤ 31000; omega) (⟨rfl, rfl, _, rfl⟩)
          ·
            refine XV.run C okL_lift 1 (q := (228, ([some (.ref (4)), some (.int (nI k)), some (.int (nI (retK f z k))), some (.int (sumRK f true k)), some (.int (sumRK f false k)), some (.int (1)), some (.int (nI i)), some (.double (shrK f k)), none], [.double (shrK f k)]))) rfl ?_
            refine XV.dconst1 C (xlk_ok okL_lift rfl) ?_
            refine XV.run C okL_lift 1 (q := (230, ([some (.ref (4)), some (.int (nI k)), some (.int (nI (retK f z k))), some (.int (sumRK f true k)), some (.int (sumRK f false k)), some (.int (1)), some (.int (nI i)), some (.double (shrK f k)), none], [.int (Op.cmpValue (FP.dcmp (shrK f k) FP.dconst1) .l)]))) rfl ?_
            refine XV.if_ne C (tgt := 237) (xlk_ok okL_lift rfl) rfl (fun hc => absurd (by rw [(share_ok hO).2.2 cs]; exact sh_is1) hc) (fun _ => ?_)
            refine XV.run C okL_lift 2 (q := (238, ([some (.ref (4)), some (.int (nI k)), some (.int (nI (retK f z k))), some (.int (sumRK f true k)), some (.int (sumRK f false k)), some (.int (1)), some (.int (nI i)), some (.double (shrK f k)), none], [.int (1)]))) rfl ?_
            exact XV.iret C (xlk_ok okL_lift rfl) hret (rfl) (by show _ ≤ 5100; omega) (by show _ ≤ 31000; omega) (⟨rfl, rfl, _, rfl⟩)
        ·
          refine XV.run C okL_lift 1 (q := (166, ([some (.ref (4)), some (.int (nI k)), some (.int (nI (retK f z k))), some (.int (sumRK f true k)), some (.int (sumRK f false k)), some (.int (1)), some (.int (nI i)), none, none], [.int (nI (retK f z k)), .int (countFigK f z k kp 3)]))) rfl ?_
          refine XV.if_ne C (tgt := 173) (xlk_ok okL_lift rfl) rfl (fun c3 => ?_) (fun c3 => ?_)
          ·
            refine XV.run C okL_lift 1 (q := (174, ([some (.ref (4)), some (.int (nI k)), some (.int (nI (retK f z k))), some (.int (sumRK f true k)), some (.int (sumRK f false k)), some (.int (1)), some (.int (nI i)), none, none], [.int (0), .int (countFigK f z k kp 3)]))) rfl ?_
            refine XV.icmp_ne C (tgt := 194) (xlk_ok okL_lift rfl) rfl (fun hc => absurd (by first | exact c3_0 hk c2 | exact c3_1 hk c3) hc) (fun _ => ?_)
            refine XV.run C okL_lift 2 (q := (180, ([some (.ref (4)), some (.int (nI k)), some (.int (nI (retK f z k))), some (.int (sumRK f true k)), some (.int (sumRK f false k)), some (.int (1)), some (.int (nI i)), none, none], [.int (7), .ref (4)]))) rfl ?_
            refine XV.callV C (As := [.int (7)]) (rest := []) (ci := 4) (ct_D_count hfl hn hO hz z1 z2 ho hkp (w := 7) (by decide)) (xlk_ok okL_lift rfl) rfl (by omega) (by omega) rfl (cw_o) rfl wM_L_29 wI_C_count wV_C_count wN_C wB_C_count hy_C_count (fun q => q.elim) ⟨Nat.le_of_ble_eq_true rfl, Nat.le_of_ble_eq_true rfl⟩ ⟨by show _ ≤ 5100; omega, by show _ ≤ 31000; omega⟩ (Nat.le_of_ble_eq_true rfl) (fun r n h hp => ?_) (fun _ _ _ q => q.elim)
            obtain ⟨rfl, rfl, rfl⟩ := hp
            refine XV.run C okL_lift 3 (q := (187, ([some (.ref (4)), some (.int (nI k)), some (.int (nI (retK f z k))), some (.int (sumRK f true k)), some (.int (sumRK f false k)), some (.int (1)), some (.int (nI i)), none, none], [.int ((sumRK f true k) - (sumRK f false k)), .int (countFigK f z k kp 7)]))) rfl ?_
            refine XV.icmp_ne C (tgt := 194) (xlk_ok okL_lift rfl) rfl (fun hc => absurd (rfl) hc) (fun _ => ?_)
            refine XV.run C okL_lift 4 (q := (198, ([some (.ref (4)), some (.int (nI k)), some (.int (nI (retK f z k))), some (.int (sumRK f true k)), some (.int (sumRK f false k)), some (.int (1)), some (.int (nI i)), none, none], [.ref (4)]))) rfl ?_
            refine XV.callV C (As := []) (rest := []) (ci := 4) (ct_C_countedShare hfl hn hO.1 hO.2.1 hO.live (share_ok hO).2.1) (xlk_ok okL_lift rfl) rfl (by omega) (by omega) rfl (cw_o) rfl wM_L_55 wI_C_countedShare wV_C_countedShare wN_C wB_C_countedShare hy_C_countedShare (fun q => q.elim) ⟨Nat.le_of_ble_eq_true rfl, Nat.le_of_ble_eq_true rfl⟩ ⟨by show _ ≤ 5100; omega, by show _ ≤ 31000; omega⟩ (Nat.le_of_ble_eq_true rfl) (fun r n h hp => ?_) (fun _ _ _ q => q.elim)
            obtain ⟨rfl, rfl, rfl⟩ := hp
            refine XV.run C okL_lift 2 (q := (205, ([some (.ref (4)), some (.int (nI k)), some (.int (nI (retK f z k))), some (.int (sumRK f true k)), some (.int (sumRK f false k)), some (.int (1)), some (.int (nI i)), some (.double (shrK f k)), none], [.int (1)]))) rfl ?_
            refine XV.if_eq C (tgt := 237) (xlk_ok okL_lift rfl) rfl (fun hc => absurd hc (by decide)) (fun _ => ?_)
            refine XV.run C okL_lift 1 (q := (210, ([some (.ref (4)), some (.int (nI k)), some (.int (nI (retK f z k))), some (.int (sumRK f true k)), some (.int (sumRK f false k)), some (.int (1)), some (.int (nI i)), some (.double (shrK f k)), none], [.double (shrK f k)]))) rfl ?_
            refine XV.dconst0 C (xlk_ok okL_lift rfl) ?_
            refine XV.run C okL_lift 1 (q := (212, ([some (.ref (4)), some (.int (nI k)), some (.int (nI (retK f z k))), some (.int (sumRK f true k)), some (.int (sumRK f false k)), some (.int (1)), some (.int (nI i)), some (.double (shrK f k)), none], [.int (Op.cmpValue (FP.dcmp (shrK f k) FP.dconst0) .l)]))) rfl ?_
            refine XV.if_lt C (tgt := 237) (xlk_ok okL_lift rfl) rfl (fun hc => absurd hc (sh_ge0 (share_ok hO).1)) (fun _ => ?_)
            refine XV.run C okL_lift 1 (q := (217, ([some (.ref (4)), some (.int (nI k)), some (.int (nI (retK f z k))), some (.int (sumRK f true k)), some (.int (sumRK f false k)), some (.int (1)), some (.int (nI i)), some (.double (shrK f k)), none], [.double (shrK f k)]))) rfl ?_
            refine XV.dconst1 C (xlk_ok okL_lift rfl) ?_
            refine XV.run C okL_lift 1 (q := (219, ([some (.ref (4)), some (.int (nI k)), some (.int (nI (retK f z k))), some (.int (sumRK f true k)), some (.int (sumRK f false k)), some (.int (1)), some (.int (nI i)), some (.double (shrK f k)), none], [.int (Op.cmpValue (FP.dcmp (shrK f k) FP.dconst1) .g)]))) rfl ?_
            refine XV.if_gt C (tgt := 237) (xlk_ok okL_lift rfl) rfl (fun hc => absurd hc (sh_le1 (share_ok hO).1)) (fun _ => ?_)
            refine XV.run C okL_lift 1 (q := (223, ([some (.ref (4)), some (.int (nI k)), some (.int (nI (retK f z k))), some (.int (sumRK f true k)), some (.int (sumRK f false k)), some (.int (1)), some (.int (nI i)), some (.double (shrK f k)), none], [.int (sumRK f true k)]))) rfl ?_
            refine XV.if_gt C (tgt := 233) (xlk_ok okL_lift rfl) rfl (fun cs => ?_) (fun cs => ?_)
            ·
              refine XV.run C okL_lift 2 (q := (238, ([some (.ref (4)), some (.int (nI k)), some (.int (nI (retK f z k))), some (.int (sumRK f true k)), some (.int (sumRK f false k)), some (.int (1)), some (.int (nI i)), some (.double (shrK f k)), none], [.int (1)]))) rfl ?_
              exact XV.iret C (xlk_ok okL_lift rfl) hret (rfl) (by show _ ≤ 5100; omega) (by show _ ≤ 31000; omega) (⟨rfl, rfl, _, rfl⟩)
            ·
              refine XV.run C okL_lift 1 (q := (228, ([some (.ref (4)), some (.int (nI k)), some (.int (nI (retK f z k))), some (.int (sumRK f true k)), some (.int (sumRK f false k)), some (.int (1)), some (.int (nI i)), some (.double (shrK f k)), none], [.double (shrK f k)]))) rfl ?_
              refine XV.dconst1 C (xlk_ok okL_lift rfl) ?_
              refine XV.run C okL_lift 1 (q := (230, ([some (.ref (4)), some (.int (nI k)), some (.int (nI (retK f z k))), some (.int (sumRK f true k)), some (.int (sumRK f false k)), some (.int (1)), some (.int (nI i)), some (.double (shrK f k)), none], [.int (Op.cmpValue (FP.dcmp (shrK f k) FP.dconst1) .l)]))) rfl ?_
              refine XV.if_ne C (tgt := 237) (xlk_ok okL_lift rfl) rfl (fun hc => absurd (by rw [(share_ok hO).2.2 cs]; exact sh_is1) hc) (fun _ => ?_)
              refine XV.run C okL_lift 2 (q := (238, ([some (.ref (4)), some (.int (nI k)), some (.int (nI (retK f z k))), some (.int (sumRK f true k)), some (.int (sumRK f false k)), some (.int (1)), some (.int (nI i)), some (.double (shrK f k)), none], [.int (1)]))) rfl ?_
              exact XV.iret C (xlk_ok okL_lift rfl) hret (rfl) (by show _ ≤ 5100; omega) (by show _ ≤ 31000; omega) (⟨rfl, rfl, _, rfl⟩)
          ·
            refine XV.run C okL_lift 2 (q := (174, ([some (.ref (4)), some (.int (nI k)), some (.int (nI (retK f z k))), some (.int (sumRK f true k)), some (.int (sumRK f false k)), some (.int (1)), some (.int (nI i)), none, none], [.int (1), .int (countFigK f z k kp 3)]))) rfl ?_
            refine XV.icmp_ne C (tgt := 194) (xlk_ok okL_lift rfl) rfl (fun hc => absurd (c3_2 hk c2 c3) hc) (fun _ => ?_)
            refine XV.run C okL_lift 2 (q := (180, ([some (.ref (4)), some (.int (nI k)), some (.int (nI (retK f z k))), some (.int (sumRK f true k)), some (.int (sumRK f false k)), some (.int (1)), some (.int (nI i)), none, none], [.int (7), .ref (4)]))) rfl ?_
            refine XV.callV C (As := [.int (7)]) (rest := []) (ci := 4) (ct_D_count hfl hn hO hz z1 z2 ho hkp (w := 7) (by decide)) (xlk_ok okL_lift rfl) rfl (by omega) (by omega) rfl (cw_o) rfl wM_L_29 wI_C_count wV_C_count wN_C wB_C_count hy_C_count (fun q => q.elim) ⟨Nat.le_of_ble_eq_true rfl, Nat.le_of_ble_eq_true rfl⟩ ⟨by show _ ≤ 5100; omega, by show _ ≤ 31000; omega⟩ (Nat.le_of_ble_eq_true rfl) (fun r n h hp => ?_) (fun _ _ _ q => q.elim)
            obtain ⟨rfl, rfl, rfl⟩ := hp
            refine XV.run C okL_lift 3 (q := (187, ([some (.ref (4)), some (.int (nI k)), some (.int (nI (retK f z k))), some (.int (sumRK f true k)), some (.int (sumRK f false k)), some (.int (1)), some (.int (nI i)), none, none], [.int ((sumRK f true k) - (sumRK f false k)), .int (countFigK f z k kp 7)]))) rfl ?_
            refine XV.icmp_ne C (tgt := 194) (xlk_ok okL_lift rfl) rfl (fun hc => absurd (rfl) hc) (fun _ => ?_)
            refine XV.run C okL_lift 4 (q := (198, ([some (.ref (4)), some (.int (nI k)), some (.int (nI (retK f z k))), some (.int (sumRK f true k)), some (.int (sumRK f false k)), some (.int (1)), some (.int (nI i)), none, none], [.ref (4)]))) rfl ?_
            refine XV.callV C (As := []) (rest := []) (ci := 4) (ct_C_countedShare hfl hn hO.1 hO.2.1 hO.live (share_ok hO).2.1) (xlk_ok okL_lift rfl) rfl (by omega) (by omega) rfl (cw_o) rfl wM_L_55 wI_C_countedShare wV_C_countedShare wN_C wB_C_countedShare hy_C_countedShare (fun q => q.elim) ⟨Nat.le_of_ble_eq_true rfl, Nat.le_of_ble_eq_true rfl⟩ ⟨by show _ ≤ 5100; omega, by show _ ≤ 31000; omega⟩ (Nat.le_of_ble_eq_true rfl) (fun r n h hp => ?_) (fun _ _ _ q => q.elim)
            obtain ⟨rfl, rfl, rfl⟩ := hp
            refine XV.run C okL_lift 2 (q := (205, ([some (.ref (4)), some (.int (nI k)), some (.int (nI (retK f z k))), some (.int (sumRK f true k)), some (.int (sumRK f false k)), some (.int (1)), some (.int (nI i)), some (.double (shrK f k)), none], [.int (1)]))) rfl ?_
            refine XV.if_eq C (tgt := 237) (xlk_ok okL_lift rfl) rfl (fun hc => absurd hc (by decide)) (fun _ => ?_)
            refine XV.run C okL_lift 1 (q := (210, ([some (.ref (4)), some (.int (nI k)), some (.int (nI (retK f z k))), some (.int (sumRK f true k)), some (.int (sumRK f false k)), some (.int (1)), some (.int (nI i)), some (.double (shrK f k)), none], [.double (shrK f k)]))) rfl ?_
            refine XV.dconst0 C (xlk_ok okL_lift rfl) ?_
            refine XV.run C okL_lift 1 (q := (212, ([some (.ref (4)), some (.int (nI k)), some (.int (nI (retK f z k))), some (.int (sumRK f true k)), some (.int (sumRK f false k)), some (.int (1)), some (.int (nI i)), some (.double (shrK f k)), none], [.int (Op.cmpValue (FP.dcmp (shrK f k) FP.dconst0) .l)]))) rfl ?_
            refine XV.if_lt C (tgt := 237) (xlk_ok okL_lift rfl) rfl (fun hc => absurd hc (sh_ge0 (share_ok hO).1)) (fun _ => ?_)
            refine XV.run C okL_lift 1 (q := (217, ([some (.ref (4)), some (.int (nI k)), some (.int (nI (retK f z k))), some (.int (sumRK f true k)), some (.int (sumRK f false k)), some (.int (1)), some (.int (nI i)), some (.double (shrK f k)), none], [.double (shrK f k)]))) rfl ?_
            refine XV.dconst1 C (xlk_ok okL_lift rfl) ?_
            refine XV.run C okL_lift 1 (q := (219, ([some (.ref (4)), some (.int (nI k)), some (.int (nI (retK f z k))), some (.int (sumRK f true k)), some (.int (sumRK f false k)), some (.int (1)), some (.int (nI i)), some (.double (shrK f k)), none], [.int (Op.cmpValue (FP.dcmp (shrK f k) FP.dconst1) .g)]))) rfl ?_
            refine XV.if_gt C (tgt := 237) (xlk_ok okL_lift rfl) rfl (fun hc => absurd hc (sh_le1 (share_ok hO).1)) (fun _ => ?_)
            refine XV.run C okL_lift 1 (q := (223, ([some (.ref (4)), some (.int (nI k)), some (.int (nI (retK f z k))), some (.int (sumRK f true k)), some (.int (sumRK f false k)), some (.int (1)), some (.int (nI i)), some (.double (shrK f k)), none], [.int (sumRK f true k)]))) rfl ?_
            refine XV.if_gt C (tgt := 233) (xlk_ok okL_lift rfl) rfl (fun cs => ?_) (fun cs => ?_)
            ·
              refine XV.run C okL_lift 2 (q := (238, ([some (.ref (4)), some (.int (nI k)), some (.int (nI (retK f z k))), some (.int (sumRK f true k)), some (.int (sumRK f false k)), some (.int (1)), some (.int (nI i)), some (.double (shrK f k)), none], [.int (1)]))) rfl ?_
              exact XV.iret C (xlk_ok okL_lift rfl) hret (rfl) (by show _ ≤ 5100; omega) (by show _ ≤ 31000; omega) (⟨rfl, rfl, _, rfl⟩)
            ·
              refine XV.run C okL_lift 1 (q := (228, ([some (.ref (4)), some (.int (nI k)), some (.int (nI (retK f z k))), some (.int (sumRK f true k)), some (.int (sumRK f false k)), some (.int (1)), some (.int (nI i)), some (.double (shrK f k)), none], [.double (shrK f k)]))) rfl ?_
              refine XV.dconst1 C (xlk_ok okL_lift rfl) ?_
              refine XV.run C okL_lift 1 (q := (230, ([some (.ref (4)), some (.int (nI k)), some (.int (nI (retK f z k))), some (.int (sumRK f true k)), some (.int (sumRK f false k)), some (.int (1)), some (.int (nI i)), some (.double (shrK f k)), none], [.int (Op.cmpValue (FP.dcmp (shrK f k) FP.dconst1) .l)]))) rfl ?_
              refine XV.if_ne C (tgt := 237) (xlk_ok okL_lift rfl) rfl (fun hc => absurd (by rw [(share_ok hO).2.2 cs]; exact sh_is1) hc) (fun _ => ?_)
              refine XV.run C okL_lift 2 (q := (238, ([some (.ref (4)), some (.int (nI k)), some (.int (nI (retK f z k))), some (.int (sumRK f true k)), some (.int (sumRK f false k)), some (.int (1)), some (.int (nI i)), some (.double (shrK f k)), none], [.int (1)]))) rfl ?_
              exact XV.iret C (xlk_ok okL_lift rfl) hret (rfl) (by show _ ≤ 5100; omega) (by show _ ≤ 31000; omega) (⟨rfl, rfl, _, rfl⟩)
    | succ d ih =>
      intro j σ hj
      refine XV.run C okL_lift 2 (q := (31, ([some (.ref (4)), some (.int (nI k)), some (.int (nI (retK f z j))), some (.int (sumRK f true j)), some (.int (sumRK f false j)), some (.int (1)), some (.int (nI j)), none, none], [.int (nI k), .int (nI j)]))) rfl ?_
      refine XV.icmp_ge C (tgt := 94) (xlk_ok okL_lift rfl) rfl (fun hc => absurd hc (nI_ge (by omega) (by omega))) (fun _ => ?_)
      refine XV.run C okL_lift 1 (q := (36, ([some (.ref (4)), some (.int (nI k)), some (.int (nI (retK f z j))), some (.int (sumRK f true j)), some (.int (sumRK f false j)), some (.int (1)), some (.int (nI j)), none, none], [.int (1)]))) rfl ?_
      refine XV.if_eq C (tgt := 94) (xlk_ok okL_lift rfl) rfl (fun hc => absurd hc (by decide)) (fun _ => ?_)
      refine XV.run C okL_lift 2 (q := (42, ([some (.ref (4)), some (.int (nI k)), some (.int (nI (retK f z j))), some (.int (sumRK f true j)), some (.int (sumRK f false j)), some (.int (1)), some (.int (nI j)), none, none], [.int (nI j), .ref (4)]))) rfl ?_
      refine XV.callS C (As := [.ref (4), .int (nI j)]) (rest := []) (ct_L_rope hfl hn hO hz z1 z2 ho hkp (i := j) (by omega)) (xlk_ok okL_lift rfl) rfl wM_L_44 wS_L_rope wN_L wB_L_rope hy_L_rope (fun q => q.elim) ⟨Nat.le_of_ble_eq_true rfl, Nat.le_of_ble_eq_true rfl⟩ ⟨by show _ ≤ 5100; omega, by show _ ≤ 31000; omega⟩ (Nat.le_of_ble_eq_true rfl) (fun r n h hp => ?_) (fun _ _ _ q => q.elim)
      obtain ⟨rfl, rfl, ρ3, rfl⟩ := hp
      refine XV.run C okL_lift 5 (q := (53, ([some (.ref (4)), some (.int (nI k)), some (.int (nI (retK f z j))), some (.int (sumRK f true j)), some (.int (sumRK f false j)), some (.int (1)), some (.int (nI j)), none, none], [.int (7), .int (nI j), .ref (4), .int (nI (retK f z j))]))) rfl ?_
      refine XV.callV C (As := [.int (nI j), .int (7)]) (rest := [.int (nI (retK f z j))]) (ci := 4) (ct_D_rope hfl hn hO hz z1 z2 ho hkp (i := j) (w := 7) (by first | assumption | omega) (by decide)) (xlk_ok okL_lift rfl) rfl (by omega) (by omega) rfl (cw_o) rfl wM_L_25 wI_C_rope wV_C_rope wN_C wB_C_rope hy_C_rope (fun q => q.elim) ⟨Nat.le_of_ble_eq_true rfl, Nat.le_of_ble_eq_true rfl⟩ ⟨by show _ ≤ 5100; omega, by show _ ≤ 31000; omega⟩ (Nat.le_of_ble_eq_true rfl) (fun r n h hp => ?_) (fun _ _ _ q => q.elim)
      obtain ⟨rfl, rfl, rfl⟩ := hp
      refine XV.if_ne C (tgt := 63) (xlk_ok okL_lift rfl) rfl (fun c7 => ?_) (fun c7 => ?_)
      ·
        refine XV.run C okL_lift 2 (q := (65, ([some (.ref (4)), some (.int (nI k)), some (.int (nI (retK f z j))), some (.int (sumRK f true j)), some (.int (sumRK f false j)), some (.int (1)), some (.int (nI j)), none, none], [.int ((nI (retK f z j)) + 1)]))) rfl ?_
        rw [show ((nI (retK f z j)) + 1 : Int32) = nI (retK f z (j + 1)) from ret_t c7]
        refine XV.run C okL_lift 5 (q := (71, ([some (.ref (4)), some (.int (nI k)), some (.int (nI (retK f z (j + 1)))), some (.int (sumRK f true j)), some (.int (sumRK f false j)), some (.int (1)), some (.int (nI j)), none, none], [.int (3), .int (nI j), .ref (4), .int (sumRK f true j)]))) rfl ?_
        refine XV.callV C (As := [.int (nI j), .int (3)]) (rest := [.int (sumRK f true j)]) (ci := 4) (ct_D_rope hfl hn hO hz z1 z2 ho hkp (i := j) (w := 3) (by first | assumption | omega) (by decide)) (xlk_ok okL_lift rfl) rfl (by omega) (by omega) rfl (cw_o) rfl wM_L_25 wI_C_rope wV_C_rope wN_C wB_C_rope hy_C_rope (fun q => q.elim) ⟨Nat.le_of_ble_eq_true rfl, Nat.le_of_ble_eq_true rfl⟩ ⟨by show _ ≤ 5100; omega, by show _ ≤ 31000; omega⟩ (Nat.le_of_ble_eq_true rfl) (fun r n h hp => ?_) (fun _ _ _ q => q.elim)
        obtain ⟨rfl, rfl, rfl⟩ := hp
        refine XV.run C okL_lift 1 (q := (75, ([some (.ref (4)), some (.int (nI k)), some (.int (nI (retK f z (j + 1)))), some (.int (sumRK f true j)), some (.int (sumRK f false j)), some (.int (1)), some (.int (nI j)), none, none], [.int ((sumRK f true j) + (ropeFigK f (rowOf f j) z 3))]))) rfl ?_
        rw [show ((sumRK f true j) + (ropeFigK f (rowOf f j) z 3) : Int32) = sumRK f true (j + 1) from sr_t _ _ _]
        refine XV.run C okL_lift 5 (q := (82, ([some (.ref (4)), some (.int (nI k)), some (.int (nI (retK f z (j + 1)))), some (.int (sumRK f true (j + 1))), some (.int (sumRK f false j)), some (.int (1)), some (.int (nI j)), none, none], [.int (2), .int (nI j), .ref (4), .int (sumRK f false j)]))) rfl ?_
        refine XV.callV C (As := [.int (nI j), .int (2)]) (rest := [.int (sumRK f false j)]) (ci := 4) (ct_D_rope hfl hn hO hz z1 z2 ho hkp (i := j) (w := 2) (by first | assumption | omega) (by decide)) (xlk_ok okL_lift rfl) rfl (by omega) (by omega) rfl (cw_o) rfl wM_L_25 wI_C_rope wV_C_rope wN_C wB_C_rope hy_C_rope (fun q => q.elim) ⟨Nat.le_of_ble_eq_true rfl, Nat.le_of_ble_eq_true rfl⟩ ⟨by show _ ≤ 5100; omega, by show _ ≤ 31000; omega⟩ (Nat.le_of_ble_eq_true rfl) (fun r n h hp => ?_) (fun _ _ _ q => q.elim)
        obtain ⟨rfl, rfl, rfl⟩ := hp
        refine XV.run C okL_lift 1 (q := (86, ([some (.ref (4)), some (.int (nI k)), some (.int (nI (retK f z (j + 1)))), some (.int (sumRK f true (j + 1))), some (.int (sumRK f false j)), some (.int (1)), some (.int (nI j)), none, none], [.int ((sumRK f false j) + (ropeFigK f (rowOf f j) z 2))]))) rfl ?_
        rw [show ((sumRK f false j) + (ropeFigK f (rowOf f j) z 2) : Int32) = sumRK f false (j + 1) from sr_f _ _ _]
        refine XV.run C okL_lift 3 (q := (28, ([some (.ref (4)), some (.int (nI k)), some (.int (nI (retK f z (j + 1)))), some (.int (sumRK f true (j + 1))), some (.int (sumRK f false (j + 1))), some (.int (1)), some (.int ((nI j) + 1)), none, none], []))) rfl ?_
        rw [nI_1]
        exact XV.widen (by omega) (by omega) (ih (j + 1) _ (by omega))
      ·
        refine XV.run C okL_lift 3 (q := (65, ([some (.ref (4)), some (.int (nI k)), some (.int (nI (retK f z j))), some (.int (sumRK f true j)), some (.int (sumRK f false j)), some (.int (1)), some (.int (nI j)), none, none], [.int ((nI (retK f z j)) + 0)]))) rfl ?_
        rw [show ((nI (retK f z j)) + 0 : Int32) = nI (retK f z (j + 1)) from ret_f c7]
        refine XV.run C okL_lift 5 (q := (71, ([some (.ref (4)), some (.int (nI k)), some (.int (nI (retK f z (j + 1)))), some (.int (sumRK f true j)), some (.int (sumRK f false j)), some (.int (1)), some (.int (nI j)), none, none], [.int (3), .int (nI j), .ref (4), .int (sumRK f true j)]))) rfl ?_
        refine XV.callV C (As := [.int (nI j), .int (3)]) (rest := [.int (sumRK f true j)]) (ci := 4) (ct_D_rope hfl hn hO hz z1 z2 ho hkp (i := j) (w := 3) (by first | assumption | omega) (by decide)) (xlk_ok okL_lift rfl) rfl (by omega) (by omega) rfl (cw_o) rfl wM_L_25 wI_C_rope wV_C_rope wN_C wB_C_rope hy_C_rope (fun q => q.elim) ⟨Nat.le_of_ble_eq_true rfl, Nat.le_of_ble_eq_true rfl⟩ ⟨by show _ ≤ 5100; omega, by show _ ≤ 31000; omega⟩ (Nat.le_of_ble_eq_true rfl) (fun r n h hp => ?_) (fun _ _ _ q => q.elim)
        obtain ⟨rfl, rfl, rfl⟩ := hp
        refine XV.run C okL_lift 1 (q := (75, ([some (.ref (4)), some (.int (nI k)), some (.int (nI (retK f z (j + 1)))), some (.int (sumRK f true j)), some (.int (sumRK f false j)), some (.int (1)), some (.int (nI j)), none, none], [.int ((sumRK f true j) + (ropeFigK f (rowOf f j) z 3))]))) rfl ?_
        rw [show ((sumRK f true j) + (ropeFigK f (rowOf f j) z 3) : Int32) = sumRK f true (j + 1) from sr_t _ _ _]
        refine XV.run C okL_lift 5 (q := (82, ([some (.ref (4)), some (.int (nI k)), some (.int (nI (retK f z (j + 1)))), some (.int (sumRK f true (j + 1))), some (.int (sumRK f false j)), some (.int (1)), some (.int (nI j)), none, none], [.int (2), .int (nI j), .ref (4), .int (sumRK f false j)]))) rfl ?_
        refine XV.callV C (As := [.int (nI j), .int (2)]) (rest := [.int (sumRK f false j)]) (ci := 4) (ct_D_rope hfl hn hO hz z1 z2 ho hkp (i := j) (w := 2) (by first | assumption | omega) (by decide)) (xlk_ok okL_lift rfl) rfl (by omega) (by omega) rfl (cw_o) rfl wM_L_25 wI_C_rope wV_C_rope wN_C wB_C_rope hy_C_rope (fun q => q.elim) ⟨Nat.le_of_ble_eq_true rfl, Nat.le_of_ble_eq_true rfl⟩ ⟨by show _ ≤ 5100; omega, by show _ ≤ 31000; omega⟩ (Nat.le_of_ble_eq_true rfl) (fun r n h hp => ?_) (fun _ _ _ q => q.elim)
        obtain ⟨rfl, rfl, rfl⟩ := hp
        refine XV.run C okL_lift 1 (q := (86, ([some (.ref (4)), some (.int (nI k)), some (.int (nI (retK f z (j + 1)))), some (.int (sumRK f true (j + 1))), some (.int (sumRK f false j)), some (.int (1)), some (.int (nI j)), none, none], [.int ((sumRK f false j) + (ropeFigK f (rowOf f j) z 2))]))) rfl ?_
        rw [show ((sumRK f false j) + (ropeFigK f (rowOf f j) z 2) : Int32) = sumRK f false (j + 1) from sr_f _ _ _]
        refine XV.run C okL_lift 3 (q := (28, ([some (.ref (4)), some (.int (nI k)), some (.int (nI (retK f z (j + 1)))), some (.int (sumRK f true (j + 1))), some (.int (sumRK f false (j + 1))), some (.int (1)), some (.int ((nI j) + 1)), none, none], []))) rfl ?_
        rw [nI_1]
        exact XV.widen (by omega) (by omega) (ih (j + 1) _ (by omega))
  exact loop k 0 _ (by omega)
