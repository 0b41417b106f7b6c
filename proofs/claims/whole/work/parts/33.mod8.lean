/-! RopeThreadsModel: the text whole, firstError, run -/
theorem txM_le {mx : Nat → Int32} {len : Nat} : ∀ (d a t : Nat) (td : Nat → Int32), a ≤ len → (txM mx len d a t td).2.1 ≤ len ∧ ((txM mx len d a t td).1 = true → (txM mx len d a t td).2.1 = len)
  | 0, a, t, td, h => ⟨h, fun q => Bool.noConfusion q⟩
  | d + 1, a, t, td, h => by
    have hp := partM_le (mx := mx) (t := t) (td := td) h
    unfold txM
    split
    · split
      · rename_i h2
        exact txM_le d _ _ _ (by have := atK_lt h2; omega)
      · exact ⟨hp.1, fun q => of_decide_eq_true q⟩
    · exact ⟨hp.1, fun q => Bool.noConfusion q⟩
set_option maxHeartbeats 4000000 in
set_option maxRecDepth 100000 in
theorem ct_M_isText {l : Launch} (hfl : l.stackTraces = false) {G : XG} {n : Nat} {h : XH} {g pa tr mx td F : Nat → Int32} (hn : 215 ≤ n) {len : Nat} (h5 : F 5 = nI len) (hl6 : len ≤ 60) : XCt l G False (Cond.code yM_isText bM_isText 2 (some .boolean)) yM_isText 4 85 0 0 [.ref (213)] n (setM h g pa tr mx td F) (fun r' n' h' => n' = n ∧ r' = some (.int (if (txM mx len 16 0 0 td).1 then 1 else 0)) ∧ ∃ F' td', (F' 7 = nI (txM mx len 16 0 0 td).2.1 ∧ F' 8 = flt len (txM mx len 16 0 0 td).2.1 ∧ F' 5 = F 5 ∧ F' 2 = F 2 ∧ F' 6 = F 6 ∧ ((txM mx len 16 0 0 td).1 = true → F' 10 = nI (txM mx len 16 0 0 td).2.2.1 ∧ td' = (txM mx len 16 0 0 td).2.2.2)) ∧ h' = setM h g pa tr mx td' F') (fun _ _ _ => False) := by
  refine XCt.of hfl (by decide +kernel) (Nat.le_of_ble_eq_true rfl) ?_
  intro p' e' s' m' g' b' t' c' C hret hname hnt hmd
  refine XV.run C okM_isText 2 (q := (2, ([some (.ref (213)), none], [.int (0), .ref (213)]))) rfl ?_
  refine XV.putf C (ci := 5) (kf := 7) (ty := .int) (xlk_ok okM_isText rfl) rfl (by decide) wF_M_106 (by omega) (by omega) (mw_o) rfl rfl rfl rfl (Nat.le_of_ble_eq_true rfl) ?_
  refine XV.cast (mw_f (upd F 7 (0))) ?_
  refine XV.run C okM_isText 2 (q := (7, ([some (.ref (213)), none], [.int (0), .ref (213)]))) rfl ?_
  refine XV.putf C (ci := 5) (kf := 10) (ty := .int) (xlk_ok okM_isText rfl) rfl (by decide) wF_M_119 (by omega) (by omega) (mw_o) rfl rfl rfl rfl (Nat.le_of_ble_eq_true rfl) ?_
  refine XV.cast (mw_f (upd (upd F 7 (0)) 10 (0))) ?_
  refine XV.run C okM_isText 2 (q := (12, ([some (.ref (213)), none], [.int (0), .ref (213)]))) rfl ?_
  refine XV.putf C (ci := 5) (kf := 8) (ty := .boolean) (xlk_ok okM_isText rfl) rfl (by decide) wF_M_109 (by omega) (by omega) (mw_o) rfl rfl rfl rfl (Nat.le_of_ble_eq_true rfl) ?_
  refine XV.cast (mw_f (upd (upd (upd F 7 (0)) 10 (0)) 8 (0))) ?_
  refine XV.run C okM_isText 2 (q := (17, ([some (.ref (213)), some (.int (1))], []))) rfl ?_
  obtain ⟨V, hV⟩ : ∃ V, V = txM mx len 16 0 0 td := ⟨_, rfl⟩
  rw [← hV]
  have loop : ∀ (d a t : Nat) (F0 td0 : Nat → Int32), t + d = 16 → 4 * t ≤ a → a ≤ len → F0 7 = nI a → F0 5 = nI len → F0 10 = nI t → F0 2 = F 2 → F0 6 = F 6 → txM mx len d a t td0 = V → XV G 2 p' l e' ({ frames := 4, cells := 0, slots := 0, locals := 85 } : Room) s' m' g' b' t' c' (XEnd G b' (fun r' n' h' => n' = n ∧ r' = some (.int (if (V).1 then 1 else 0)) ∧ ∃ F' td', (F' 7 = nI (V).2.1 ∧ F' 8 = flt len (V).2.1 ∧ F' 5 = F 5 ∧ F' 2 = F 2 ∧ F' 6 = F 6 ∧ ((V).1 = true → F' 10 = nI (V).2.2.1 ∧ td' = (V).2.2.2)) ∧ h' = setM h g pa tr mx td' F') (fun _ _ _ => False) g' s' 0 0) 17 [some (.ref (213)), some (.int (1))] [] n (setM h g pa tr mx td0 F0) 0 0 := by
    intro d
    induction d with
    | zero =>
      intro a t F0 td0 htd ht ha g7 g5 g10 g2 g6 hv
      refine XV.run C okM_isText 1 (q := (18, ([some (.ref (213)), some (.int (1))], [.int (1)]))) rfl ?_
      exfalso
      omega
    | succ d ih =>
      intro a t F0 td0 htd ht ha g7 g5 g10 g2 g6 hv
      refine XV.run C okM_isText 1 (q := (18, ([some (.ref (213)), some (.int (1))], [.int (1)]))) rfl ?_
      refine XV.if_eq C (tgt := 70) (xlk_ok okM_isText rfl) rfl (fun hc => absurd hc (by decide)) (fun _ => ?_)
      refine XV.run C okM_isText 1 (q := (22, ([some (.ref (213)), some (.int (1))], [.ref (213)]))) rfl ?_
      refine XV.callV C (As := []) (rest := []) (ci := 5) (ct_M_isPart hfl hn (len := len) (a := a) g5 g7 ha hl6 (t := t) g10 ht) (xlk_ok okM_isText rfl) rfl (by omega) (by omega) rfl (mw_o) rfl wM_M_128 wI_M_isPart wV_M_isPart wN_M wB_M_isPart hy_M_isPart (fun q => q.elim) ⟨Nat.le_of_ble_eq_true rfl, Nat.le_of_ble_eq_true rfl⟩ ⟨Nat.le_of_ble_eq_true rfl, Nat.le_of_ble_eq_true rfl⟩ (Nat.le_of_ble_eq_true rfl) (fun r n h hp => ?_) (fun _ _ _ q => q.elim)
      obtain ⟨rfl, hp⟩ := hp
      rcases hp with ⟨eP, rfl, F1, hT1, rfl⟩ | ⟨eP, rfl, F1, td9, hT1, hf1, rfl⟩
      ·
        have hle := (partM_le (mx := mx) (t := t) (td := td0) ha).1
        have hge := (partM_le (mx := mx) (t := t) (td := td0) ha).2 eP
        refine XV.if_ne C (tgt := 30) (xlk_ok okM_isText rfl) rfl (fun _ => ?_) (fun hc => absurd hc (by decide))
        refine XV.run C okM_isText 2 (q := (32, ([some (.ref (213)), some (.int (1))], [.ref (213), .ref (213)]))) rfl ?_
        refine XV.getf C (ci := 5) (kf := 10) (v := .int (F1 10)) (xlk_ok okM_isText rfl) rfl (by decide) wF_M_119 (by omega) (by omega) (mw_o) rfl ?_
        refine XV.run C okM_isText 2 (q := (37, ([some (.ref (213)), some (.int (1))], [.int ((F1 10) + 1), .ref (213)]))) rfl ?_
        rw [show ((F1 10) + 1 : Int32) = nI (t + 1) from by rw [hT1.b10 g10, nI_1]]
        refine XV.putf C (ci := 5) (kf := 10) (ty := .int) (xlk_ok okM_isText rfl) rfl (by decide) wF_M_119 (by omega) (by omega) (mw_o) rfl rfl rfl rfl (Nat.le_of_ble_eq_true rfl) ?_
        refine XV.cast (mw_f (upd F1 10 (nI (t + 1)))) ?_
        refine XV.run C okM_isText 3 (q := (45, ([some (.ref (213)), some (.int (1))], [.int (59), .int (59), .ref (213)]))) rfl ?_
        refine XV.callV C (As := [.int (59), .int (59)]) (rest := []) (ci := 5) (ct_M_isAt hfl hn (len := len) (a := (partM mx len a t td0).2.1) ((upd_ne (by decide)).trans (hT1.b5 g5)) ((upd_ne (by decide)).trans hT1.b7) (by omega) hl6 (59) (59)) (xlk_ok okM_isText rfl) rfl (by omega) (by omega) rfl (mw_o) rfl wM_M_113 wI_M_isAt wV_M_isAt wN_M wB_M_isAt hy_M_isAt (fun q => q.elim) ⟨Nat.le_of_ble_eq_true rfl, Nat.le_of_ble_eq_true rfl⟩ ⟨Nat.le_of_ble_eq_true rfl, Nat.le_of_ble_eq_true rfl⟩ (Nat.le_of_ble_eq_true rfl) (fun r n h hp => ?_) (fun _ _ _ q => q.elim)
        obtain ⟨rfl, rfl, rfl⟩ := hp
        refine XV.run C okM_isText 3 (q := (51, ([some (.ref (213)), some (.int (if atK mx len ((partM mx len a t td0).2.1) 59 59 then 1 else 0))], [.ref (213), .ref (213)]))) rfl ?_
        refine XV.getf C (ci := 5) (kf := 7) (v := .int ((upd F1 10 (nI (t + 1))) 7)) (xlk_ok okM_isText rfl) rfl (by decide) wF_M_106 (by omega) (by omega) (mw_o) rfl ?_
        refine XV.run C okM_isText 1 (q := (55, ([some (.ref (213)), some (.int (if atK mx len ((partM mx len a t td0).2.1) 59 59 then 1 else 0))], [.int (if atK mx len ((partM mx len a t td0).2.1) 59 59 then 1 else 0), .int ((upd F1 10 (nI (t + 1))) 7), .ref (213)]))) rfl ?_
        refine XV.if_eq C (tgt := 62) (xlk_ok okM_isText rfl) rfl (fun c6 => ?_) (fun c6 => ?_)
        ·
          have e6 := if1_0 c6
          refine XV.run C okM_isText 2 (q := (64, ([some (.ref (213)), some (.int (if atK mx len ((partM mx len a t td0).2.1) 59 59 then 1 else 0))], [.int (((upd F1 10 (nI (t + 1))) 7) + 0), .ref (213)]))) rfl ?_
          rw [show (((upd F1 10 (nI (t + 1))) 7) + 0 : Int32) = nI ((partM mx len a t td0).2.1) from (by rw [show (upd F1 10 (nI (t + 1))) 7 = nI (partM mx len a t td0).2.1 from (upd_ne (by decide)).trans hT1.b7]; exact Int32.add_zero _)]
          refine XV.putf C (ci := 5) (kf := 7) (ty := .int) (xlk_ok okM_isText rfl) rfl (by decide) wF_M_106 (by omega) (by omega) (mw_o) rfl rfl rfl rfl (Nat.le_of_ble_eq_true rfl) ?_
          refine XV.cast (mw_f (upd (upd F1 10 (nI (t + 1))) 7 (nI (partM mx len a t td0).2.1))) ?_
          refine XV.run C okM_isText 1 (q := (17, ([some (.ref (213)), some (.int (if atK mx len ((partM mx len a t td0).2.1) 59 59 then 1 else 0))], []))) rfl ?_
          refine XV.run C okM_isText 1 (q := (18, ([some (.ref (213)), some (.int (if atK mx len ((partM mx len a t td0).2.1) 59 59 then 1 else 0))], [.int (if atK mx len ((partM mx len a t td0).2.1) 59 59 then 1 else 0)]))) rfl ?_
          refine XV.if_eq C (tgt := 70) (xlk_ok okM_isText rfl) rfl (fun _ => ?_) (fun hc => absurd (c6) hc)
          have hh7 : (upd (upd F1 10 (nI (t + 1))) 7 (nI (partM mx len a t td0).2.1)) 7 = nI (partM mx len a t td0).2.1 := upd_eq
          have hh5 : (upd (upd F1 10 (nI (t + 1))) 7 (nI (partM mx len a t td0).2.1)) 5 = nI len := (upd_ne (by decide)).trans ((upd_ne (by decide)).trans (hT1.b5 g5))
          have ep : V = (decide ((partM mx len a t td0).2.1 = len), ((partM mx len a t td0).2.1, (t + 1, (partM mx len a t td0).2.2))) := by rw [← hv]; show (if _ then (if _ then _ else _) else _) = _; rw [eP, e6]; rfl
          subst ep
          refine XV.run C okM_isText 2 (q := (72, ([some (.ref (213)), some (.int (if atK mx len ((partM mx len a t td0).2.1) 59 59 then 1 else 0))], [.ref (213), .ref (213)]))) rfl ?_
          refine XV.getf C (ci := 5) (kf := 7) (v := .int ((upd (upd F1 10 (nI (t + 1))) 7 (nI (partM mx len a t td0).2.1)) 7)) (xlk_ok okM_isText rfl) rfl (by decide) wF_M_106 (by omega) (by omega) (mw_o) rfl ?_
          refine XV.run C okM_isText 1 (q := (76, ([some (.ref (213)), some (.int (if atK mx len ((partM mx len a t td0).2.1) 59 59 then 1 else 0))], [.ref (213), .int ((upd (upd F1 10 (nI (t + 1))) 7 (nI (partM mx len a t td0).2.1)) 7), .ref (213)]))) rfl ?_
          refine XV.getf C (ci := 5) (kf := 5) (v := .int ((upd (upd F1 10 (nI (t + 1))) 7 (nI (partM mx len a t td0).2.1)) 5)) (xlk_ok okM_isText rfl) rfl (by decide) wF_M_103 (by omega) (by omega) (mw_o) rfl ?_
          refine XV.icmp_ge C (tgt := 86) (xlk_ok okM_isText rfl) rfl (fun c7 => ?_) (fun c7 => ?_)
          ·
            have e7 : flt len (partM mx len a t td0).2.1 = 0 := if_neg (fun q => by rw [hh5, hh7] at c7; exact absurd c7 (nI_ge q (by omega)))
            refine XV.run C okM_isText 1 (q := (87, ([some (.ref (213)), some (.int (if atK mx len ((partM mx len a t td0).2.1) 59 59 then 1 else 0))], [.int (0), .ref (213)]))) rfl ?_
            refine XV.putf C (ci := 5) (kf := 8) (ty := .boolean) (xlk_ok okM_isText rfl) rfl (by decide) wF_M_109 (by omega) (by omega) (mw_o) rfl rfl rfl rfl (Nat.le_of_ble_eq_true rfl) ?_
            refine XV.cast (mw_f (upd (upd (upd F1 10 (nI (t + 1))) 7 (nI (partM mx len a t td0).2.1)) 8 (0))) ?_
            refine XV.run C okM_isText 1 (q := (91, ([some (.ref (213)), some (.int (if atK mx len ((partM mx len a t td0).2.1) 59 59 then 1 else 0))], [.ref (213)]))) rfl ?_
            refine XV.getf C (ci := 5) (kf := 7) (v := .int ((upd (upd (upd F1 10 (nI (t + 1))) 7 (nI (partM mx len a t td0).2.1)) 8 (0)) 7)) (xlk_ok okM_isText rfl) rfl (by decide) wF_M_106 (by omega) (by omega) (mw_o) rfl ?_
            refine XV.run C okM_isText 1 (q := (95, ([some (.ref (213)), some (.int (if atK mx len ((partM mx len a t td0).2.1) 59 59 then 1 else 0))], [.ref (213), .int ((upd (upd (upd F1 10 (nI (t + 1))) 7 (nI (partM mx len a t td0).2.1)) 8 (0)) 7)]))) rfl ?_
            refine XV.getf C (ci := 5) (kf := 5) (v := .int ((upd (upd (upd F1 10 (nI (t + 1))) 7 (nI (partM mx len a t td0).2.1)) 8 (0)) 5)) (xlk_ok okM_isText rfl) rfl (by decide) wF_M_103 (by omega) (by omega) (mw_o) rfl ?_
            refine XV.icmp_ne C (tgt := 105) (xlk_ok okM_isText rfl) rfl (fun c8 => ?_) (fun c8 => ?_)
            ·
              have e8 : decide ((partM mx len a t td0).2.1 = len) = false := decide_eq_false fun q => c8 (((upd_ne (by decide)).trans hh7).trans ((congrArg nI q).trans (((upd_ne (by decide)).trans hh5).symm)))
              refine XV.run C okM_isText 1 (q := (106, ([some (.ref (213)), some (.int (if atK mx len ((partM mx len a t td0).2.1) 59 59 then 1 else 0))], [.int (0)]))) rfl ?_
              exact XV.iret C (xlk_ok okM_isText rfl) hret (rfl) (Nat.le_of_ble_eq_true rfl) (Nat.le_of_ble_eq_true rfl) (⟨rfl, by show _ = some (Value.int (if decide _ then 1 else 0)); rw [e8]; rfl, _, _, ⟨(upd_ne (by decide)).trans hh7, upd_eq.trans e7.symm, ((upd_ne (by decide)).trans hh5).trans h5.symm, (upd_ne (by decide)).trans ((upd_ne (by decide)).trans ((upd_ne (by decide)).trans (hT1.2.2.1.trans g2))), (upd_ne (by decide)).trans ((upd_ne (by decide)).trans ((upd_ne (by decide)).trans (hT1.2.2.2.1.trans g6))), fun _ => ⟨(upd_ne (by decide)).trans ((upd_ne (by decide)).trans upd_eq), rfl⟩⟩, rfl⟩)
            ·
              have e8 : decide ((partM mx len a t td0).2.1 = len) = true := decide_eq_true ((nI_eq (by omega) (by omega)).mp ((((upd_ne (by decide)).trans hh7).symm).trans (c8.trans ((upd_ne (by decide)).trans hh5))))
              refine XV.run C okM_isText 2 (q := (106, ([some (.ref (213)), some (.int (if atK mx len ((partM mx len a t td0).2.1) 59 59 then 1 else 0))], [.int (1)]))) rfl ?_
              exact XV.iret C (xlk_ok okM_isText rfl) hret (rfl) (Nat.le_of_ble_eq_true rfl) (Nat.le_of_ble_eq_true rfl) (⟨rfl, by show _ = some (Value.int (if decide _ then 1 else 0)); rw [e8]; rfl, _, _, ⟨(upd_ne (by decide)).trans hh7, upd_eq.trans e7.symm, ((upd_ne (by decide)).trans hh5).trans h5.symm, (upd_ne (by decide)).trans ((upd_ne (by decide)).trans ((upd_ne (by decide)).trans (hT1.2.2.1.trans g2))), (upd_ne (by decide)).trans ((upd_ne (by decide)).trans ((upd_ne (by decide)).trans (hT1.2.2.2.1.trans g6))), fun _ => ⟨(upd_ne (by decide)).trans ((upd_ne (by decide)).trans upd_eq), rfl⟩⟩, rfl⟩)
          ·
            have e7 : flt len (partM mx len a t td0).2.1 = 1 := if_pos (Nat.lt_of_not_le fun q => c7 (by rw [hh5, hh7]; exact nI_le q (by omega)))
            refine XV.run C okM_isText 2 (q := (87, ([some (.ref (213)), some (.int (if atK mx len ((partM mx len a t td0).2.1) 59 59 then 1 else 0))], [.int (1), .ref (213)]))) rfl ?_
            refine XV.putf C (ci := 5) (kf := 8) (ty := .boolean) (xlk_ok okM_isText rfl) rfl (by decide) wF_M_109 (by omega) (by omega) (mw_o) rfl rfl rfl rfl (Nat.le_of_ble_eq_true rfl) ?_
            refine XV.cast (mw_f (upd (upd (upd F1 10 (nI (t + 1))) 7 (nI (partM mx len a t td0).2.1)) 8 (1))) ?_
            refine XV.run C okM_isText 1 (q := (91, ([some (.ref (213)), some (.int (if atK mx len ((partM mx len a t td0).2.1) 59 59 then 1 else 0))], [.ref (213)]))) rfl ?_
            refine XV.getf C (ci := 5) (kf := 7) (v := .int ((upd (upd (upd F1 10 (nI (t + 1))) 7 (nI (partM mx len a t td0).2.1)) 8 (1)) 7)) (xlk_ok okM_isText rfl) rfl (by decide) wF_M_106 (by omega) (by omega) (mw_o) rfl ?_
            refine XV.run C okM_isText 1 (q := (95, ([some (.ref (213)), some (.int (if atK mx len ((partM mx len a t td0).2.1) 59 59 then 1 else 0))], [.ref (213), .int ((upd (upd (upd F1 10 (nI (t + 1))) 7 (nI (partM mx len a t td0).2.1)) 8 (1)) 7)]))) rfl ?_
            refine XV.getf C (ci := 5) (kf := 5) (v := .int ((upd (upd (upd F1 10 (nI (t + 1))) 7 (nI (partM mx len a t td0).2.1)) 8 (1)) 5)) (xlk_ok okM_isText rfl) rfl (by decide) wF_M_103 (by omega) (by omega) (mw_o) rfl ?_
            refine XV.icmp_ne C (tgt := 105) (xlk_ok okM_isText rfl) rfl (fun c8 => ?_) (fun c8 => ?_)
            ·
              have e8 : decide ((partM mx len a t td0).2.1 = len) = false := decide_eq_false fun q => c8 (((upd_ne (by decide)).trans hh7).trans ((congrArg nI q).trans (((upd_ne (by decide)).trans hh5).symm)))
              refine XV.run C okM_isText 1 (q := (106, ([some (.ref (213)), some (.int (if atK mx len ((partM mx len a t td0).2.1) 59 59 then 1 else 0))], [.int (0)]))) rfl ?_
              exact XV.iret C (xlk_ok okM_isText rfl) hret (rfl) (Nat.le_of_ble_eq_true rfl) (Nat.le_of_ble_eq_true rfl) (⟨rfl, by show _ = some (Value.int (if decide _ then 1 else 0)); rw [e8]; rfl, _, _, ⟨(upd_ne (by decide)).trans hh7, upd_eq.trans e7.symm, ((upd_ne (by decide)).trans hh5).trans h5.symm, (upd_ne (by decide)).trans ((upd_ne (by decide)).trans ((upd_ne (by decide)).trans (hT1.2.2.1.trans g2))), (upd_ne (by decide)).trans ((upd_ne (by decide)).trans ((upd_ne (by decide)).trans (hT1.2.2.2.1.trans g6))), fun _ => ⟨(upd_ne (by decide)).trans ((upd_ne (by decide)).trans upd_eq), rfl⟩⟩, rfl⟩)
            ·
              have e8 : decide ((partM mx len a t td0).2.1 = len) = true := decide_eq_true ((nI_eq (by omega) (by omega)).mp ((((upd_ne (by decide)).trans hh7).symm).trans (c8.trans ((upd_ne (by decide)).trans hh5))))
              refine XV.run C okM_isText 2 (q := (106, ([some (.ref (213)), some (.int (if atK mx len ((partM mx len a t td0).2.1) 59 59 then 1 else 0))], [.int (1)]))) rfl ?_
              exact XV.iret C (xlk_ok okM_isText rfl) hret (rfl) (Nat.le_of_ble_eq_true rfl) (Nat.le_of_ble_eq_true rfl) (⟨rfl, by show _ = some (Value.int (if decide _ then 1 else 0)); rw [e8]; rfl, _, _, ⟨(upd_ne (by decide)).trans hh7, upd_eq.trans e7.symm, ((upd_ne (by decide)).trans hh5).trans h5.symm, (upd_ne (by decide)).trans ((upd_ne (by decide)).trans ((upd_ne (by decide)).trans (hT1.2.2.1.trans g2))), (upd_ne (by decide)).trans ((upd_ne (by decide)).trans ((upd_ne (by decide)).trans (hT1.2.2.2.1.trans g6))), fun _ => ⟨(upd_ne (by decide)).trans ((upd_ne (by decide)).trans upd_eq), rfl⟩⟩, rfl⟩)
        ·
          have e6 := if1_1 c6
          have hlt := atK_lt e6
          refine XV.run C okM_isText 3 (q := (64, ([some (.ref (213)), some (.int (if atK mx len ((partM mx len a t td0).2.1) 59 59 then 1 else 0))], [.int (((upd F1 10 (nI (t + 1))) 7) + 1), .ref (213)]))) rfl ?_
          rw [show (((upd F1 10 (nI (t + 1))) 7) + 1 : Int32) = nI ((partM mx len a t td0).2.1 + 1) from by rw [show (upd F1 10 (nI (t + 1))) 7 = nI (partM mx len a t td0).2.1 from (upd_ne (by decide)).trans hT1.b7, nI_1]]
          refine XV.putf C (ci := 5) (kf := 7) (ty := .int) (xlk_ok okM_isText rfl) rfl (by decide) wF_M_106 (by omega) (by omega) (mw_o) rfl rfl rfl rfl (Nat.le_of_ble_eq_true rfl) ?_
          refine XV.cast (mw_f (upd (upd F1 10 (nI (t + 1))) 7 (nI ((partM mx len a t td0).2.1 + 1)))) ?_
          refine XV.run C okM_isText 1 (q := (17, ([some (.ref (213)), some (.int (if atK mx len ((partM mx len a t td0).2.1) 59 59 then 1 else 0))], []))) rfl ?_
          have hv2 : txM mx len d ((partM mx len a t td0).2.1 + 1) (t + 1) (partM mx len a t td0).2.2 = V := by rw [← hv]; show _ = if _ then (if _ then _ else _) else _; rw [eP, e6]; rfl
          rw [show (if atK mx len ((partM mx len a t td0).2.1) 59 59 then 1 else 0 : Int32) = 1 from by rw [e6]; rfl]
          exact ih ((partM mx len a t td0).2.1 + 1) (t + 1) _ _ (by omega) (by omega) (by omega) upd_eq ((upd_ne (by decide)).trans ((upd_ne (by decide)).trans (hT1.b5 g5))) ((upd_ne (by decide)).trans upd_eq) ((upd_ne (by decide)).trans ((upd_ne (by decide)).trans (hT1.2.2.1.trans g2))) ((upd_ne (by decide)).trans ((upd_ne (by decide)).trans (hT1.2.2.2.1.trans g6))) hv2
      ·
        refine XV.if_ne C (tgt := 30) (xlk_ok okM_isText rfl) rfl (fun hc => absurd (rfl) hc) (fun _ => ?_)
        refine XV.run C okM_isText 1 (q := (29, ([some (.ref (213)), some (.int (1))], [.int (0)]))) rfl ?_
        have ep : V = (false, ((partM mx len a t td0).2.1, (t, td0))) := by rw [← hv]; show (if _ then _ else _) = _; rw [eP]; rfl
        subst ep
        exact XV.iret C (xlk_ok okM_isText rfl) hret rfl (Nat.le_of_ble_eq_true rfl) (Nat.le_of_ble_eq_true rfl) ⟨rfl, rfl, _, _, ⟨hT1.b7, hf1, (hT1.b5 g5).trans h5.symm, hT1.2.2.1.trans g2, hT1.2.2.2.1.trans g6, fun q => Bool.noConfusion q⟩, rfl⟩
  exact loop 16 0 0 _ _ (by omega) (by omega) (by omega) ((upd_ne (by decide)).trans ((upd_ne (by decide)).trans upd_eq)) ((upd_ne (by decide)).trans ((upd_ne (by decide)).trans ((upd_ne (by decide)).trans h5))) ((upd_ne (by decide)).trans upd_eq) ((upd_ne (by decide)).trans ((upd_ne (by decide)).trans (upd_ne (by decide)))) ((upd_ne (by decide)).trans ((upd_ne (by decide)).trans (upd_ne (by decide)))) hV.symm
set_option maxHeartbeats 4000000 in
set_option maxRecDepth 100000 in
theorem ct_M_firstError {l : Launch} (hfl : l.stackTraces = false) {G : XG} {n : Nat} {h : XH} {g pa tr mx td F : Nat → Int32} (hn : 215 ≤ n) {len : Nat} (h5 : F 5 = nI len) (hl6 : len ≤ 60) : XCt l G False (Cond.code yM_firstError bM_firstError 2 (some .int)) yM_firstError 5 106 0 0 [.ref (213)] n (setM h g pa tr mx td F) (fun r' n' h' => n' = n ∧ r' = some (.int (nI (txM mx len 16 0 0 td).2.1)) ∧ ∃ F' td', (F' 5 = F 5 ∧ F' 2 = F 2 ∧ F' 6 = 0) ∧ h' = setM h g pa tr mx td' F') (fun _ _ _ => False) := by
  have hle := txM_le (mx := mx) (len := len) 16 0 0 td (Nat.zero_le len)
  refine XCt.of hfl (by decide +kernel) (Nat.le_of_ble_eq_true rfl) ?_
  intro p' e' s' m' g' b' t' c' C hret hname hnt hmd
  refine XV.run C okM_firstError 2 (q := (2, ([some (.ref (213)), none], [.int (0), .ref (213)]))) rfl ?_
  refine XV.putf C (ci := 5) (kf := 6) (ty := .int) (xlk_ok okM_firstError rfl) rfl (by decide) wF_M_25 (by omega) (by omega) (mw_o) rfl rfl rfl rfl (Nat.le_of_ble_eq_true rfl) ?_
  refine XV.cast (mw_f (upd F 6 (0))) ?_
  refine XV.run C okM_firstError 1 (q := (6, ([some (.ref (213)), none], [.ref (213)]))) rfl ?_
  refine XV.callV C (As := []) (rest := []) (ci := 5) (ct_M_isText hfl hn (len := len) ((upd_ne (by decide)).trans h5) hl6) (xlk_ok okM_firstError rfl) rfl (by omega) (by omega) rfl (mw_o) rfl wM_M_131 wI_M_isText wV_M_isText wN_M wB_M_isText hy_M_isText (fun q => q.elim) ⟨Nat.le_of_ble_eq_true rfl, Nat.le_of_ble_eq_true rfl⟩ ⟨Nat.le_of_ble_eq_true rfl, Nat.le_of_ble_eq_true rfl⟩ (Nat.le_of_ble_eq_true rfl) (fun r n h hp => ?_) (fun _ _ _ q => q.elim)
  obtain ⟨rfl, rfl, F1, td1, ⟨hx7, hx8, hx5, hx2, hx6, hxt⟩, rfl⟩ := hp
  refine XV.run C okM_firstError 2 (q := (11, ([some (.ref (213)), some (.int (if (txM mx len 16 0 0 td).1 then 1 else 0))], [.int (if (txM mx len 16 0 0 td).1 then 1 else 0)]))) rfl ?_
  refine XV.if_ne C (tgt := 28) (xlk_ok okM_firstError rfl) rfl (fun c1 => ?_) (fun c1 => ?_)
  ·
    have e1 := if1_1 c1
    have e3 := hle.2 e1
    refine XV.run C okM_firstError 1 (q := (29, ([some (.ref (213)), some (.int (if (txM mx len 16 0 0 td).1 then 1 else 0))], [.ref (213)]))) rfl ?_
    refine XV.getf C (ci := 5) (kf := 5) (v := .int (F1 5)) (xlk_ok okM_firstError rfl) rfl (by decide) wF_M_103 (by omega) (by omega) (mw_o) rfl ?_
    exact XV.iret C (xlk_ok okM_firstError rfl) hret rfl (Nat.le_of_ble_eq_true rfl) (Nat.le_of_ble_eq_true rfl) (⟨rfl, congrArg (fun q => some (Value.int q)) ((hx5.trans ((upd_ne (by decide)).trans h5)).trans (congrArg nI e3.symm)), F1, td1, ⟨hx5.trans (upd_ne (by decide)), hx2.trans (upd_ne (by decide)), hx6.trans upd_eq⟩, rfl⟩)
  ·
    have e1 := if1_0 c1
    refine XV.run C okM_firstError 1 (q := (15, ([some (.ref (213)), some (.int (if (txM mx len 16 0 0 td).1 then 1 else 0))], [.ref (213)]))) rfl ?_
    refine XV.getf C (ci := 5) (kf := 8) (v := .int (F1 8)) (xlk_ok okM_firstError rfl) rfl (by decide) wF_M_109 (by omega) (by omega) (mw_o) rfl ?_
    refine XV.if_eq C (tgt := 28) (xlk_ok okM_firstError rfl) rfl (fun c2 => ?_) (fun c2 => ?_)
    ·
      have e3 : (txM mx len 16 0 0 td).2.1 = len := by
        rw [hx8] at c2
        unfold flt at c2
        by_cases q : (txM mx len 16 0 0 td).2.1 < len
        · rw [if_pos q] at c2
          exact absurd c2 (by decide)
        · omega
      refine XV.run C okM_firstError 1 (q := (29, ([some (.ref (213)), some (.int (if (txM mx len 16 0 0 td).1 then 1 else 0))], [.ref (213)]))) rfl ?_
      refine XV.getf C (ci := 5) (kf := 5) (v := .int (F1 5)) (xlk_ok okM_firstError rfl) rfl (by decide) wF_M_103 (by omega) (by omega) (mw_o) rfl ?_
      exact XV.iret C (xlk_ok okM_firstError rfl) hret rfl (Nat.le_of_ble_eq_true rfl) (Nat.le_of_ble_eq_true rfl) (⟨rfl, congrArg (fun q => some (Value.int q)) ((hx5.trans ((upd_ne (by decide)).trans h5)).trans (congrArg nI e3.symm)), F1, td1, ⟨hx5.trans (upd_ne (by decide)), hx2.trans (upd_ne (by decide)), hx6.trans upd_eq⟩, rfl⟩)
    ·
      have e3 : True := trivial
      refine XV.run C okM_firstError 1 (q := (22, ([some (.ref (213)), some (.int (if (txM mx len 16 0 0 td).1 then 1 else 0))], [.ref (213)]))) rfl ?_
      refine XV.getf C (ci := 5) (kf := 7) (v := .int (F1 7)) (xlk_ok okM_firstError rfl) rfl (by decide) wF_M_106 (by omega) (by omega) (mw_o) rfl ?_
      refine XV.run C okM_firstError 1 (q := (32, ([some (.ref (213)), some (.int (if (txM mx len 16 0 0 td).1 then 1 else 0))], [.int (F1 7)]))) rfl ?_
      exact XV.iret C (xlk_ok okM_firstError rfl) hret rfl (Nat.le_of_ble_eq_true rfl) (Nat.le_of_ble_eq_true rfl) (⟨rfl, congrArg (fun q => some (Value.int q)) hx7, F1, td1, ⟨hx5.trans (upd_ne (by decide)), hx2.trans (upd_ne (by decide)), hx6.trans upd_eq⟩, rfl⟩)
theorem atK_flo {mx : Nat → Int32} {len a : Nat} (h : atK mx len a 48 55 = true) : flo (mx a - 48) := by
  unfold atK at h
  rw [Bool.and_eq_true] at h
  have h2 := of_decide_eq_true h.2
  refine flo_of (decide_eq_true ⟨h2.1, Int32.lt_of_le_of_lt h2.2 (by decide)⟩)
theorem partM_td {mx : Nat → Int32} {len a t : Nat} {td : Nat → Int32} (h : (partM mx len a t td).1 = true) : flo ((partM mx len a t td).2.2 (3 * t + 0)) ∧ flo ((partM mx len a t td).2.2 (3 * t + 1)) ∧ ∀ j, j < 3 * t → (partM mx len a t td).2.2 j = td j := by
  unfold partM at h ⊢
  split
  · rename_i h1
    rw [if_pos h1] at h
    split
    · rename_i h2
      rw [if_pos h2] at h
      split
      · rename_i h3
        rw [if_pos h3] at h
        have f1 := atK_flo h1
        have f3 := atK_flo h3
        split
        · refine ⟨?_, ?_, fun j hj => ?_⟩
          · show flo (upd _ _ _ _)
            rw [upd_ne (by omega), upd_ne (by omega), upd_eq]
            exact f1
          · show flo (upd _ _ _ _)
            rw [upd_ne (by omega), upd_eq]
            exact f3
          · show upd _ _ _ _ = _
            rw [upd_ne (by omega), upd_ne (by omega), upd_ne (by omega), upd_ne (by omega)]
        · refine ⟨?_, ?_, fun j hj => ?_⟩
          · show flo (upd _ _ _ _)
            rw [upd_ne (by omega), upd_eq]
            exact f1
          · show flo (upd _ _ _ _)
            rw [upd_eq]
            exact f3
          · show upd _ _ _ _ = _
            rw [upd_ne (by omega), upd_ne (by omega), upd_ne (by omega)]
      · rename_i h3
        rw [if_neg h3] at h
        cases h
    · rename_i h2
      rw [if_neg h2] at h
      cases h
  · rename_i h1
    rw [if_neg h1] at h
    cases h
theorem txM_flo {mx : Nat → Int32} {len : Nat} : ∀ (d a t : Nat) (td : Nat → Int32), (∀ j, j < t → flo (td (3 * j + 0)) ∧ flo (td (3 * j + 1))) → (txM mx len d a t td).1 = true → ∀ j, j < (txM mx len d a t td).2.2.1 → flo ((txM mx len d a t td).2.2.2 (3 * j + 0)) ∧ flo ((txM mx len d a t td).2.2.2 (3 * j + 1))
  | 0, a, t, td, h, h1 => Bool.noConfusion h1
  | d + 1, a, t, td, h, h1 => by
    have hp := partM_td (mx := mx) (len := len) (a := a) (t := t) (td := td)
    have hq : (partM mx len a t td).1 = true → ∀ j, j < t + 1 → flo ((partM mx len a t td).2.2 (3 * j + 0)) ∧ flo ((partM mx len a t td).2.2 (3 * j + 1)) := by
      intro hp1 j hj
      by_cases hjt : j = t
      · subst hjt
        exact ⟨(hp hp1).1, (hp hp1).2.1⟩
      · rw [(hp hp1).2.2 (3 * j + 0) (by omega), (hp hp1).2.2 (3 * j + 1) (by omega)]
        exact h j (by omega)
    unfold txM at h1 ⊢
    split
    · rename_i hp1
      rw [if_pos hp1] at h1
      split
      · rename_i h2
        rw [if_pos h2] at h1
        exact txM_flo d _ _ _ (hq hp1) h1
      · rename_i h2
        exact hq hp1
    · rename_i hp1
      rw [if_neg hp1] at h1
      cases h1
theorem txM_t {mx : Nat → Int32} {len : Nat} (hl : len ≤ 60) : ∀ (d a t : Nat) (td : Nat → Int32), 4 * t ≤ a → a ≤ len → (txM mx len d a t td).2.2.1 ≤ 15
  | 0, a, t, td, h, h1 => by show t ≤ 15; omega
  | d + 1, a, t, td, h, h1 => by
    have hp := partM_le (mx := mx) (t := t) (td := td) h1
    unfold txM
    split
    · rename_i hp1
      have h3 := hp.2 hp1
      split
      · rename_i h2
        have := atK_lt h2
        exact txM_t hl d _ _ _ (by omega) (by omega)
      · show t + 1 ≤ 15
        omega
    · show t ≤ 15
      omega
def ptM (td : Nat → Int32) : PT := (fun j => td (3 * j + 0), (fun j => td (3 * j + 1), (fun j => td (3 * j + 2), 0)))
theorem sumN_0s (T : Nat → Int32) (j : Nat) : sumN T 0 (j + 1) = sumN T 0 j + T j := by
  show sumN T 0 j + T (0 + j) = _
  rw [Nat.zero_add]
set_option maxHeartbeats 4000000 in
set_option maxRecDepth 100000 in
theorem ct_M_run {l : Launch} (hfl : l.stackTraces = false) {G : XG} {n : Nat} {h : XH} {g pa tr mx td F : Nat → Int32} (hn : 215 ≤ n) {len : Nat} (h5 : F 5 = nI len) (hl6 : len ≤ 60) {k : Nat} (hm : g 1 = nI k) (hk : k ≤ 5) (hl : ∀ i, i < k → 0 < rowOf g i 0) {z : Nat} (hz : g 2 = nI z) (z1 : 1 ≤ z) (z2 : z ≤ 12) {kp : Nat} (hkp : F 2 = nI kp) (hk6 : kp ≤ 6) : XCt l G False (Cond.code yM_run bM_run 3 (some .int)) yM_run 7 164 0 0 [.ref (213)] n (setM h g pa tr mx td F) (fun r' n' h' => n' = n ∧ (∃ v, r' = some (.int v)) ∧ (((txM mx len 16 0 0 td).1 = false ∧ ∃ F' td', (F' 5 = F 5 ∧ F' 2 = F 2 ∧ F' 6 = 1) ∧ h' = setM h g pa tr mx td' F') ∨ ((txM mx len 16 0 0 td).1 = true ∧ ¬ (canM g z k = true ∧ g 7 + sumN (ptM (txM mx len 16 0 0 td).2.2.2).2.2.1 0 (txM mx len 16 0 0 td).2.2.1 ≤ 99999) ∧ ∃ F' td', (F' 5 = F 5 ∧ F' 2 = F 2 ∧ F' 6 = 2) ∧ h' = setM h g pa tr mx td' F') ∨ ((txM mx len 16 0 0 td).1 = true ∧ (canM g z k = true ∧ g 7 + sumN (ptM (txM mx len 16 0 0 td).2.2.2).2.2.1 0 (txM mx len 16 0 0 td).2.2.1 ≤ 99999) ∧ r' = some (.int (runK g k (ptM (txM mx len 16 0 0 td).2.2.2) (txM mx len 16 0 0 td).2.2.1 7)) ∧ ∃ F' td', (F' 5 = 0 ∧ F' 2 = nI (kK kp) ∧ F' 6 = 0) ∧ h' = setM h (runK g k (ptM (txM mx len 16 0 0 td).2.2.2) (txM mx len 16 0 0 td).2.2.1) (svP pa g kp) tr mx td' F'))) (fun _ _ _ => False) := by
  refine XCt.of hfl (by decide +kernel) (Nat.le_of_ble_eq_true rfl) ?_
  intro p' e' s' m' g' b' t' c' C hret hname hnt hmd
  refine XV.run C okM_run 2 (q := (2, ([some (.ref (213)), none, none], [.int (0), .ref (213)]))) rfl ?_
  refine XV.putf C (ci := 5) (kf := 6) (ty := .int) (xlk_ok okM_run rfl) rfl (by decide) wF_M_25 (by omega) (by omega) (mw_o) rfl rfl rfl rfl (Nat.le_of_ble_eq_true rfl) ?_
  refine XV.cast (mw_f (upd F 6 (0))) ?_
  refine XV.run C okM_run 1 (q := (6, ([some (.ref (213)), none, none], [.ref (213)]))) rfl ?_
  refine XV.callV C (As := []) (rest := []) (ci := 5) (ct_M_isText hfl hn (len := len) ((upd_ne (by decide)).trans h5) hl6) (xlk_ok okM_run rfl) rfl (by omega) (by omega) rfl (mw_o) rfl wM_M_131 wI_M_isText wV_M_isText wN_M wB_M_isText hy_M_isText (fun q => q.elim) ⟨Nat.le_of_ble_eq_true rfl, Nat.le_of_ble_eq_true rfl⟩ ⟨Nat.le_of_ble_eq_true rfl, Nat.le_of_ble_eq_true rfl⟩ (Nat.le_of_ble_eq_true rfl) (fun r n h hp => ?_) (fun _ _ _ q => q.elim)
  obtain ⟨rfl, rfl, F1, td1, ⟨hx7, hx8, hx5, hx2, hx6, hxt⟩, rfl⟩ := hp
  refine XV.if_ne C (tgt := 18) (xlk_ok okM_run rfl) rfl (fun c1 => ?_) (fun c1 => ?_)
  ·
    have e1 := if1_1 c1
    obtain ⟨hx10, htd⟩ := hxt e1
    have hfl0 := txM_flo (mx := mx) (len := len) 16 0 0 td (fun j hj => absurd hj (Nat.not_lt_zero j)) e1
    have ht15 := txM_t (mx := mx) hl6 16 0 0 td (Nat.le_refl 0) (Nat.zero_le len)
    obtain ⟨V, hV⟩ : ∃ V, V = txM mx len 16 0 0 td := ⟨_, rfl⟩
    rw [← hV] at e1 hx10 htd hfl0 ht15 ⊢
    subst htd
    refine XV.run C okM_run 1 (q := (19, ([some (.ref (213)), none, none], [.ref (213)]))) rfl ?_
    refine XV.getf C (ci := 5) (kf := 0) (v := .ref (214)) (xlk_ok okM_run rfl) rfl (by decide) wF_M_7 (by omega) (by omega) (mw_o) rfl ?_
    refine XV.run C okM_run 1 (q := (24, ([some (.ref (213)), none, none], [.int (7), .ref (214)]))) rfl ?_
    refine XV.ialdC C (N := 505) (f := g) (a := 7) (xlk_ok okM_run rfl) (by omega) (by omega) (mw_1) (rfl) (by decide) (by decide) ?_
    refine XV.run C okM_run 3 (q := (28, ([some (.ref (213)), some (.int (g 7)), some (.int (0))], []))) rfl ?_
    have loop : ∀ (d j : Nat), j + d = V.2.2.1 → XV G 3 p' l e' ({ frames := 7, cells := 0, slots := 0, locals := 164 } : Room) s' m' g' b' t' c' (XEnd G b' (fun r' n' h' => n' = n ∧ (∃ v, r' = some (.int v)) ∧ ((V.1 = false ∧ ∃ F' td', (F' 5 = F 5 ∧ F' 2 = F 2 ∧ F' 6 = 1) ∧ h' = setM h g pa tr mx td' F') ∨ (V.1 = true ∧ ¬ (canM g z k = true ∧ g 7 + sumN (ptM V.2.2.2).2.2.1 0 V.2.2.1 ≤ 99999) ∧ ∃ F' td', (F' 5 = F 5 ∧ F' 2 = F 2 ∧ F' 6 = 2) ∧ h' = setM h g pa tr mx td' F') ∨ (V.1 = true ∧ (canM g z k = true ∧ g 7 + sumN (ptM V.2.2.2).2.2.1 0 V.2.2.1 ≤ 99999) ∧ r' = some (.int (runK g k (ptM V.2.2.2) V.2.2.1 7)) ∧ ∃ F' td', (F' 5 = 0 ∧ F' 2 = nI (kK kp) ∧ F' 6 = 0) ∧ h' = setM h (runK g k (ptM V.2.2.2) V.2.2.1) (svP pa g kp) tr mx td' F'))) (fun _ _ _ => False) g' s' 0 0) 28 [some (.ref (213)), some (.int (g 7 + sumN (ptM V.2.2.2).2.2.1 0 j)), some (.int (nI j))] [] n (setM h g pa tr mx V.2.2.2 F1) 0 0 := by
      intro d
      induction d with
      | zero =>
        intro j hj
        refine XV.run C okM_run 2 (q := (30, ([some (.ref (213)), some (.int (g 7 + sumN (ptM V.2.2.2).2.2.1 0 j)), some (.int (nI j))], [.ref (213), .int (nI j)]))) rfl ?_
        refine XV.getf C (ci := 5) (kf := 10) (v := .int (F1 10)) (xlk_ok okM_run rfl) rfl (by decide) wF_M_119 (by omega) (by omega) (mw_o) rfl ?_
        refine XV.icmp_ge C (tgt := 55) (xlk_ok okM_run rfl) rfl (fun _ => ?_) (fun hc => absurd (by rw [hx10]; exact nI_le (by omega) (by omega)) hc)
        obtain rfl : V.2.2.1 = j := by omega
        refine XV.run C okM_run 1 (q := (56, ([some (.ref (213)), some (.int (g 7 + sumN (ptM V.2.2.2).2.2.1 0 (V.2.2.1))), some (.int (nI (V.2.2.1)))], [.ref (213)]))) rfl ?_
        refine XV.callV C (As := []) (rest := []) (ci := 5) (ct_M_canRun hfl hn (hm) hk (hz) z1 z2) (xlk_ok okM_run rfl) rfl (by omega) (by omega) rfl (mw_o) rfl wM_M_94 wI_M_canRun wV_M_canRun wN_M wB_M_canRun hy_M_canRun (fun q => q.elim) ⟨Nat.le_of_ble_eq_true rfl, Nat.le_of_ble_eq_true rfl⟩ ⟨Nat.le_of_ble_eq_true rfl, Nat.le_of_ble_eq_true rfl⟩ (Nat.le_of_ble_eq_true rfl) (fun r n h hp => ?_) (fun _ _ _ q => q.elim)
        obtain ⟨rfl, rfl, rfl⟩ := hp
        refine XV.if_eq C (tgt := 68) (xlk_ok okM_run rfl) rfl (fun c2 => ?_) (fun c2 => ?_)
        ·
          have hc := if1_0 c2
          refine XV.run C okM_run 2 (q := (70, ([some (.ref (213)), some (.int (g 7 + sumN (ptM V.2.2.2).2.2.1 0 (V.2.2.1))), some (.int (nI (V.2.2.1)))], [.int (2), .ref (213)]))) rfl ?_
          refine XV.callV C (As := [.int (2)]) (rest := []) (ci := 5) (ct_M_fails hfl hn (2)) (xlk_ok okM_run rfl) rfl (by omega) (by omega) rfl (mw_o) rfl wM_M_36 wI_M_fails wV_M_fails wN_M wB_M_fails hy_M_fails (fun q => q.elim) ⟨Nat.le_of_ble_eq_true rfl, Nat.le_of_ble_eq_true rfl⟩ ⟨Nat.le_of_ble_eq_true rfl, Nat.le_of_ble_eq_true rfl⟩ (Nat.le_of_ble_eq_true rfl) (fun r n h hp => ?_) (fun _ _ _ q => q.elim)
          obtain ⟨rfl, rfl, rfl⟩ := hp
          exact XV.iret C (xlk_ok okM_run rfl) hret rfl (Nat.le_of_ble_eq_true rfl) (Nat.le_of_ble_eq_true rfl) (⟨rfl, ⟨_, rfl⟩, Or.inr (Or.inl ⟨e1, by first | exact fun q => c3 q.2 | exact fun q => Bool.noConfusion (hc.symm.trans q.1), _, _, ⟨(upd_ne (by decide)).trans (hx5.trans (upd_ne (by decide))), (upd_ne (by decide)).trans (hx2.trans (upd_ne (by decide))), upd_eq⟩, rfl⟩)⟩)
        ·
          have hc := if1_1 c2
          refine XV.run C okM_run 1 (q := (63, ([some (.ref (213)), some (.int (g 7 + sumN (ptM V.2.2.2).2.2.1 0 (V.2.2.1))), some (.int (nI (V.2.2.1)))], [.int (g 7 + sumN (ptM V.2.2.2).2.2.1 0 (V.2.2.1))]))) rfl ?_
          refine XV.ldc C (xlk_ok okM_run rfl) wK_M_98 ?_
          refine XV.icmp_le C (tgt := 74) (xlk_ok okM_run rfl) rfl (fun c3 => ?_) (fun c3 => ?_)
          ·
            refine XV.run C okM_run 1 (q := (75, ([some (.ref (213)), some (.int (g 7 + sumN (ptM V.2.2.2).2.2.1 0 (V.2.2.1))), some (.int (nI (V.2.2.1)))], [.ref (213)]))) rfl ?_
            refine XV.callV C (As := []) (rest := []) (ci := 5) (ct_M_saves hfl hn (kp := kp) (hx2.trans ((upd_ne (by decide)).trans hkp)) hk6) (xlk_ok okM_run rfl) rfl (by omega) (by omega) rfl (mw_o) rfl wM_M_66 wI_M_saves wV_M_saves wN_M wB_M_saves hy_M_saves (fun q => q.elim) ⟨Nat.le_of_ble_eq_true rfl, Nat.le_of_ble_eq_true rfl⟩ ⟨Nat.le_of_ble_eq_true rfl, Nat.le_of_ble_eq_true rfl⟩ (Nat.le_of_ble_eq_true rfl) (fun r n h hp => ?_) (fun _ _ _ q => q.elim)
            obtain ⟨rfl, rfl, rfl⟩ := hp
            refine XV.run C okM_run 2 (q := (80, ([some (.ref (213)), some (.int (g 7 + sumN (ptM V.2.2.2).2.2.1 0 (V.2.2.1))), some (.int (nI (V.2.2.1)))], [.int (0), .ref (213)]))) rfl ?_
            refine XV.putf C (ci := 5) (kf := 5) (ty := .int) (xlk_ok okM_run rfl) rfl (by decide) wF_M_103 (by omega) (by omega) (mw_o) rfl rfl rfl rfl (Nat.le_of_ble_eq_true rfl) ?_
            refine XV.cast (mw_f (upd (upd (F1) 2 (nI (kK kp))) 5 (0))) ?_
            refine XV.run C okM_run 2 (q := (85, ([some (.ref (213)), some (.int (g 7 + sumN (ptM V.2.2.2).2.2.1 0 (V.2.2.1))), some (.int (0))], []))) rfl ?_
            have loop2 : ∀ (d j : Nat), j + d = V.2.2.1 → XV G 3 p' l e' ({ frames := 7, cells := 0, slots := 0, locals := 164 } : Room) s' m' g' b' t' c' (XEnd G b' (fun r' n' h' => n' = n ∧ (∃ v, r' = some (.int v)) ∧ ((V.1 = false ∧ ∃ F' td', (F' 5 = F 5 ∧ F' 2 = F 2 ∧ F' 6 = 1) ∧ h' = setM h g pa tr mx td' F') ∨ (V.1 = true ∧ ¬ (canM g z k = true ∧ g 7 + sumN (ptM V.2.2.2).2.2.1 0 V.2.2.1 ≤ 99999) ∧ ∃ F' td', (F' 5 = F 5 ∧ F' 2 = F 2 ∧ F' 6 = 2) ∧ h' = setM h g pa tr mx td' F') ∨ (V.1 = true ∧ (canM g z k = true ∧ g 7 + sumN (ptM V.2.2.2).2.2.1 0 V.2.2.1 ≤ 99999) ∧ r' = some (.int (runK g k (ptM V.2.2.2) V.2.2.1 7)) ∧ ∃ F' td', (F' 5 = 0 ∧ F' 2 = nI (kK kp) ∧ F' 6 = 0) ∧ h' = setM h (runK g k (ptM V.2.2.2) V.2.2.1) (svP pa g kp) tr mx td' F'))) (fun _ _ _ => False) g' s' 0 0) 85 [some (.ref (213)), some (.int (g 7 + sumN (ptM V.2.2.2).2.2.1 0 (V.2.2.1))), some (.int (nI j))] [] n (setM h (runK g k (ptM V.2.2.2) j) (svP pa g kp) tr mx V.2.2.2 (upd (upd F1 2 (nI (kK kp))) 5 (0))) 0 0 := by
              intro d
              induction d with
              | zero =>
                intro j hj
                refine XV.run C okM_run 2 (q := (87, ([some (.ref (213)), some (.int (g 7 + sumN (ptM V.2.2.2).2.2.1 0 (V.2.2.1))), some (.int (nI j))], [.ref (213), .int (nI j)]))) rfl ?_
                refine XV.getf C (ci := 5) (kf := 10) (v := .int ((upd (upd F1 2 (nI (kK kp))) 5 (0)) 10)) (xlk_ok okM_run rfl) rfl (by decide) wF_M_119 (by omega) (by omega) (mw_o) rfl ?_
                refine XV.icmp_ge C (tgt := 131) (xlk_ok okM_run rfl) rfl (fun _ => ?_) (fun hc => absurd (by rw [show (upd (upd F1 2 (nI (kK kp))) 5 (0)) 10 = F1 10 from (upd_ne (by decide)).trans (upd_ne (by decide)), hx10]; exact nI_le (by omega) (by omega)) hc)
                obtain rfl : V.2.2.1 = j := by omega
                refine XV.run C okM_run 1 (q := (132, ([some (.ref (213)), some (.int (g 7 + sumN (ptM V.2.2.2).2.2.1 0 (V.2.2.1))), some (.int (nI (V.2.2.1)))], [.ref (213)]))) rfl ?_
                refine XV.getf C (ci := 5) (kf := 0) (v := .ref (214)) (xlk_ok okM_run rfl) rfl (by decide) wF_M_7 (by omega) (by omega) (mw_o) rfl ?_
                refine XV.run C okM_run 1 (q := (137, ([some (.ref (213)), some (.int (g 7 + sumN (ptM V.2.2.2).2.2.1 0 (V.2.2.1))), some (.int (nI (V.2.2.1)))], [.int (7), .ref (214)]))) rfl ?_
                refine XV.ialdC C (N := 505) (f := (runK g k (ptM V.2.2.2) V.2.2.1)) (a := 7) (xlk_ok okM_run rfl) (by omega) (by omega) (mw_1) (rfl) (by decide) (by decide) ?_
                exact XV.iret C (xlk_ok okM_run rfl) hret rfl (Nat.le_of_ble_eq_true rfl) (Nat.le_of_ble_eq_true rfl) (⟨rfl, ⟨_, rfl⟩, Or.inr (Or.inr ⟨e1, ⟨hc, c3⟩, rfl, _, _, ⟨upd_eq, (upd_ne (by decide)).trans upd_eq, (upd_ne (by decide)).trans ((upd_ne (by decide)).trans (hx6.trans upd_eq))⟩, rfl⟩)⟩)
              | succ d ih =>
                intro j hj
                have hf := hfl0 j (by omega)
                have f1 := flo_cl hf.1
                have f2 := flo_cl hf.2
                refine XV.run C okM_run 2 (q := (87, ([some (.ref (213)), some (.int (g 7 + sumN (ptM V.2.2.2).2.2.1 0 (V.2.2.1))), some (.int (nI j))], [.ref (213), .int (nI j)]))) rfl ?_
                refine XV.getf C (ci := 5) (kf := 10) (v := .int ((upd (upd F1 2 (nI (kK kp))) 5 (0)) 10)) (xlk_ok okM_run rfl) rfl (by decide) wF_M_119 (by omega) (by omega) (mw_o) rfl ?_
                refine XV.icmp_ge C (tgt := 131) (xlk_ok okM_run rfl) rfl (fun hc => absurd hc (by rw [show (upd (upd F1 2 (nI (kK kp))) 5 (0)) 10 = F1 10 from (upd_ne (by decide)).trans (upd_ne (by decide)), hx10]; exact nI_ge (by omega) (by omega))) (fun _ => ?_)
                refine XV.run C okM_run 2 (q := (95, ([some (.ref (213)), some (.int (g 7 + sumN (ptM V.2.2.2).2.2.1 0 (V.2.2.1))), some (.int (nI j))], [.ref (213), .ref (213)]))) rfl ?_
                refine XV.getf C (ci := 5) (kf := 9) (v := .ref (218)) (xlk_ok okM_run rfl) rfl (by decide) wF_M_22 (by omega) (by omega) (mw_o) rfl ?_
                refine XV.run C okM_run 3 (q := (101, ([some (.ref (213)), some (.int (g 7 + sumN (ptM V.2.2.2).2.2.1 0 (V.2.2.1))), some (.int (nI j))], [.int (3 * (nI j)), .ref (218), .ref (213)]))) rfl ?_
                refine XV.ialdC C (N := 66) (f := V.2.2.2) (a := (3 * j + 0)) (xlk_ok okM_run rfl) (by omega) (by omega) (mw_5) (by rw [show (3 : Int32) * nI j = nI (3 * j) from pk_mul 3 j]; exact congrArg nI (by omega)) (by omega) (by decide) ?_
                refine XV.run C okM_run 1 (q := (103, ([some (.ref (213)), some (.int (g 7 + sumN (ptM V.2.2.2).2.2.1 0 (V.2.2.1))), some (.int (nI j))], [.ref (213), .int (V.2.2.2 (3 * j + 0)), .ref (213)]))) rfl ?_
                refine XV.getf C (ci := 5) (kf := 9) (v := .ref (218)) (xlk_ok okM_run rfl) rfl (by decide) wF_M_22 (by omega) (by omega) (mw_o) rfl ?_
                refine XV.run C okM_run 5 (q := (111, ([some (.ref (213)), some (.int (g 7 + sumN (ptM V.2.2.2).2.2.1 0 (V.2.2.1))), some (.int (nI j))], [.int ((3 * (nI j)) + 1), .ref (218), .int (V.2.2.2 (3 * j + 0)), .ref (213)]))) rfl ?_
                refine XV.ialdC C (N := 66) (f := V.2.2.2) (a := (3 * j + 1)) (xlk_ok okM_run rfl) (by omega) (by omega) (mw_5) (by rw [show (3 : Int32) * nI j = nI (3 * j) from pk_mul 3 j, show (1 : Int32) = nI 1 from rfl, nI_add]) (by omega) (by decide) ?_
                refine XV.run C okM_run 1 (q := (113, ([some (.ref (213)), some (.int (g 7 + sumN (ptM V.2.2.2).2.2.1 0 (V.2.2.1))), some (.int (nI j))], [.ref (213), .int (V.2.2.2 (3 * j + 1)), .int (V.2.2.2 (3 * j + 0)), .ref (213)]))) rfl ?_
                refine XV.getf C (ci := 5) (kf := 9) (v := .ref (218)) (xlk_ok okM_run rfl) rfl (by decide) wF_M_22 (by omega) (by omega) (mw_o) rfl ?_
                refine XV.run C okM_run 5 (q := (121, ([some (.ref (213)), some (.int (g 7 + sumN (ptM V.2.2.2).2.2.1 0 (V.2.2.1))), some (.int (nI j))], [.int ((3 * (nI j)) + 2), .ref (218), .int (V.2.2.2 (3 * j + 1)), .int (V.2.2.2 (3 * j + 0)), .ref (213)]))) rfl ?_
                refine XV.ialdC C (N := 66) (f := V.2.2.2) (a := (3 * j + 2)) (xlk_ok okM_run rfl) (by omega) (by omega) (mw_5) (by rw [show (3 : Int32) * nI j = nI (3 * j) from pk_mul 3 j, show (2 : Int32) = nI 2 from rfl, nI_add]) (by omega) (by decide) ?_
                refine XV.callV C (As := [.int (V.2.2.2 (3 * j + 0)), .int (V.2.2.2 (3 * j + 1)), .int (V.2.2.2 (3 * j + 2))]) (rest := []) (ci := 5) (ct_M_goes hfl hn ((runK_lo (by decide) (by decide) j).trans hm) hk (f1.1) (f2.1) (f1.2) (f2.2) (V.2.2.2 (3 * j + 2))) (xlk_ok okM_run rfl) rfl (by omega) (by omega) rfl (mw_o) rfl wM_M_99 wI_M_goes wV_M_goes wN_M wB_M_goes hy_M_goes (fun q => q.elim) ⟨Nat.le_of_ble_eq_true rfl, Nat.le_of_ble_eq_true rfl⟩ ⟨Nat.le_of_ble_eq_true rfl, Nat.le_of_ble_eq_true rfl⟩ (Nat.le_of_ble_eq_true rfl) (fun r n h hp => ?_) (fun _ _ _ q => q.elim)
                obtain ⟨rfl, rfl, rfl⟩ := hp
                refine XV.run C okM_run 2 (q := (85, ([some (.ref (213)), some (.int (g 7 + sumN (ptM V.2.2.2).2.2.1 0 (V.2.2.1))), some (.int ((nI j) + 1))], []))) rfl ?_
                rw [nI_1]
                exact ih (j + 1) (by omega)
            exact loop2 V.2.2.1 0 (by omega)
          ·
            refine XV.run C okM_run 2 (q := (70, ([some (.ref (213)), some (.int (g 7 + sumN (ptM V.2.2.2).2.2.1 0 (V.2.2.1))), some (.int (nI (V.2.2.1)))], [.int (2), .ref (213)]))) rfl ?_
            refine XV.callV C (As := [.int (2)]) (rest := []) (ci := 5) (ct_M_fails hfl hn (2)) (xlk_ok okM_run rfl) rfl (by omega) (by omega) rfl (mw_o) rfl wM_M_36 wI_M_fails wV_M_fails wN_M wB_M_fails hy_M_fails (fun q => q.elim) ⟨Nat.le_of_ble_eq_true rfl, Nat.le_of_ble_eq_true rfl⟩ ⟨Nat.le_of_ble_eq_true rfl, Nat.le_of_ble_eq_true rfl⟩ (Nat.le_of_ble_eq_true rfl) (fun r n h hp => ?_) (fun _ _ _ q => q.elim)
            obtain ⟨rfl, rfl, rfl⟩ := hp
            exact XV.iret C (xlk_ok okM_run rfl) hret rfl (Nat.le_of_ble_eq_true rfl) (Nat.le_of_ble_eq_true rfl) (⟨rfl, ⟨_, rfl⟩, Or.inr (Or.inl ⟨e1, by first | exact fun q => c3 q.2 | exact fun q => Bool.noConfusion (hc.symm.trans q.1), _, _, ⟨(upd_ne (by decide)).trans (hx5.trans (upd_ne (by decide))), (upd_ne (by decide)).trans (hx2.trans (upd_ne (by decide))), upd_eq⟩, rfl⟩)⟩)
      | succ d ih =>
        intro j hj
        refine XV.run C okM_run 2 (q := (30, ([some (.ref (213)), some (.int (g 7 + sumN (ptM V.2.2.2).2.2.1 0 j)), some (.int (nI j))], [.ref (213), .int (nI j)]))) rfl ?_
        refine XV.getf C (ci := 5) (kf := 10) (v := .int (F1 10)) (xlk_ok okM_run rfl) rfl (by decide) wF_M_119 (by omega) (by omega) (mw_o) rfl ?_
        refine XV.icmp_ge C (tgt := 55) (xlk_ok okM_run rfl) rfl (fun hc => absurd hc (by rw [hx10]; exact nI_ge (by omega) (by omega))) (fun _ => ?_)
        refine XV.run C okM_run 2 (q := (38, ([some (.ref (213)), some (.int (g 7 + sumN (ptM V.2.2.2).2.2.1 0 j)), some (.int (nI j))], [.ref (213), .int (g 7 + sumN (ptM V.2.2.2).2.2.1 0 j)]))) rfl ?_
        refine XV.getf C (ci := 5) (kf := 9) (v := .ref (218)) (xlk_ok okM_run rfl) rfl (by decide) wF_M_22 (by omega) (by omega) (mw_o) rfl ?_
        refine XV.run C okM_run 5 (q := (46, ([some (.ref (213)), some (.int (g 7 + sumN (ptM V.2.2.2).2.2.1 0 j)), some (.int (nI j))], [.int ((3 * (nI j)) + 2), .ref (218), .int (g 7 + sumN (ptM V.2.2.2).2.2.1 0 j)]))) rfl ?_
        refine XV.ialdC C (N := 66) (f := V.2.2.2) (a := (3 * j + 2)) (xlk_ok okM_run rfl) (by omega) (by omega) (mw_5) (by rw [show (3 : Int32) * nI j = nI (3 * j) from pk_mul 3 j, show (2 : Int32) = nI 2 from rfl, nI_add]) (by omega) (by decide) ?_
        refine XV.run C okM_run 4 (q := (28, ([some (.ref (213)), some (.int ((g 7 + sumN (ptM V.2.2.2).2.2.1 0 j) + (V.2.2.2 (3 * j + 2)))), some (.int ((nI j) + 1))], []))) rfl ?_
        have w2 := ih (j + 1) (by omega)
        rw [sumN_0s, ← Int32.add_assoc] at w2
        rw [nI_1]
        exact w2
    have w0 := loop V.2.2.1 0 (by omega)
    rw [show g 7 + sumN (ptM V.2.2.2).2.2.1 0 0 = g 7 from Int32.add_zero _] at w0
    exact w0
  ·
    have e1 := if1_0 c1
    refine XV.run C okM_run 2 (q := (14, ([some (.ref (213)), none, none], [.int (1), .ref (213)]))) rfl ?_
    refine XV.callV C (As := [.int (1)]) (rest := []) (ci := 5) (ct_M_fails hfl hn (1)) (xlk_ok okM_run rfl) rfl (by omega) (by omega) rfl (mw_o) rfl wM_M_36 wI_M_fails wV_M_fails wN_M wB_M_fails hy_M_fails (fun q => q.elim) ⟨Nat.le_of_ble_eq_true rfl, Nat.le_of_ble_eq_true rfl⟩ ⟨Nat.le_of_ble_eq_true rfl, Nat.le_of_ble_eq_true rfl⟩ (Nat.le_of_ble_eq_true rfl) (fun r n h hp => ?_) (fun _ _ _ q => q.elim)
    obtain ⟨rfl, rfl, rfl⟩ := hp
    exact XV.iret C (xlk_ok okM_run rfl) hret rfl (Nat.le_of_ble_eq_true rfl) (Nat.le_of_ble_eq_true rfl) (⟨rfl, ⟨_, rfl⟩, Or.inl ⟨e1, _, _, ⟨(upd_ne (by decide)).trans (hx5.trans (upd_ne (by decide))), (upd_ne (by decide)).trans (hx2.trans (upd_ne (by decide))), upd_eq⟩, rfl⟩⟩)
