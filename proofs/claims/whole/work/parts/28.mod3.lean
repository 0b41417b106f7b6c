/-! RopeThreadsModel: what is saved, given back, written -/
def shP (pa : Nat → Int32) (j : Nat) : Nat → Int32 := fun k => if k < j then pa (k + 505) else pa k
theorem shP_0 (pa : Nat → Int32) : shP pa 0 = pa := by
  funext k
  exact if_neg (Nat.not_lt_zero k)
theorem shP_s (pa : Nat → Int32) (j : Nat) : upd (shP pa j) j (shP pa j (j + 505)) = shP pa (j + 1) := by
  funext k
  unfold upd shP
  by_cases h : k = j
  · subst h
    rw [if_pos rfl, if_neg (by omega), if_pos (by omega)]
  · rw [if_neg h]
    by_cases h2 : k < j
    · rw [if_pos h2, if_pos (by omega)]
    · rw [if_neg h2, if_neg (by omega)]
/-- the first j of g written over w from x on -/
def ovF (w g : Nat → Int32) (x j : Nat) : Nat → Int32 := fun k => if x ≤ k ∧ k < x + j then g (k - x) else w k
theorem ovF_0 (w g : Nat → Int32) (x : Nat) : ovF w g x 0 = w := by
  funext k
  exact if_neg (by omega)
theorem ovF_s (w g : Nat → Int32) (x j : Nat) : upd (ovF w g x j) (x + j) (g j) = ovF w g x (j + 1) := by
  funext k
  unfold upd ovF
  by_cases h : k = x + j
  · subst h
    rw [if_pos rfl, if_pos (by omega), show x + j - x = j by omega]
  · rw [if_neg h]
    by_cases h2 : x ≤ k ∧ k < x + j
    · rw [if_pos h2, if_pos (by omega)]
    · rw [if_neg h2, if_neg (by omega)]
theorem upd_upd2 (f : Nat → Int32) (j : Nat) (x y : Int32) : upd (upd f j x) j y = upd f j y := by
  funext k
  unfold upd
  by_cases h : k = j
  · rw [if_pos h, if_pos h]
  · rw [if_neg h, if_neg h, if_neg h]
set_option maxHeartbeats 4000000 in
set_option maxRecDepth 100000 in
theorem ct_M_saves_full {l : Launch} (hfl : l.stackTraces = false) {G : XG} {n : Nat} {h : XH} {g pa tr mx td F : Nat → Int32} (hn : 215 ≤ n) (hkp : F 2 = nI 6) : XCt l G False (Cond.code yM_saves bM_saves 2 none) yM_saves 0 0 0 0 [.ref (213)] n (setM h g pa tr mx td F) (fun r' n' h' => r' = none ∧ n' = n ∧ h' = setM h g (ovF (shP pa 2525) g (505 * 5) 505) tr mx td (upd (upd F 2 (nI 5)) 2 (nI (5 + 1)))) (fun _ _ _ => False) := by
  refine XCt.of hfl (by decide +kernel) (Nat.le_of_ble_eq_true rfl) ?_
  intro p' e' s' m' g' b' t' c' C hret hname hnt hmd
  refine XV.run C okM_saves 1 (q := (1, ([some (.ref (213)), none], [.ref (213)]))) rfl ?_
  refine XV.getf C (ci := 5) (kf := 2) (v := .int (F 2)) (xlk_ok okM_saves rfl) rfl (by decide) wF_M_33 (by omega) (by omega) (mw_o) rfl ?_
  refine XV.run C okM_saves 1 (q := (6, ([some (.ref (213)), none], [.int (6), .int (F 2)]))) rfl ?_
  refine XV.icmp_ne C (tgt := 50) (xlk_ok okM_saves rfl) rfl (fun hc => absurd (hkp) hc) (fun _ => ?_)
  refine XV.run C okM_saves 2 (q := (11, ([some (.ref (213)), some (.int (0))], []))) rfl ?_
  have loop : ∀ (d j : Nat), j + d = 2525 → XV G 2 p' l e' ({ frames := 0, cells := 0, slots := 0, locals := 0 } : Room) s' m' g' b' t' c' (XEnd G b' (fun r' n' h' => r' = none ∧ n' = n ∧ h' = setM h g (ovF (shP pa 2525) g (505 * 5) 505) tr mx td (upd (upd F 2 (nI 5)) 2 (nI (5 + 1)))) (fun _ _ _ => False) g' s' 0 0) 11 [some (.ref (213)), some (.int (nI j))] [] n (setM h g (shP pa j) tr mx td F) 0 0 := by
    intro d
    induction d with
    | zero =>
      intro j hj
      refine XV.run C okM_saves 2 (q := (15, ([some (.ref (213)), some (.int (nI j))], [.int (2525), .int (nI j)]))) rfl ?_
      refine XV.icmp_ge C (tgt := 40) (xlk_ok okM_saves rfl) rfl (fun _ => ?_) (fun hc => absurd (nI_le (a := 2525) (by omega) (by omega)) hc)
      obtain rfl : 2525 = j := by omega
      refine XV.run C okM_saves 2 (q := (42, ([some (.ref (213)), some (.int (nI 2525))], [.ref (213), .ref (213)]))) rfl ?_
      refine XV.getf C (ci := 5) (kf := 2) (v := .int (F 2)) (xlk_ok okM_saves rfl) rfl (by decide) wF_M_33 (by omega) (by omega) (mw_o) rfl ?_
      refine XV.run C okM_saves 2 (q := (47, ([some (.ref (213)), some (.int (nI 2525))], [.int ((F 2) - 1), .ref (213)]))) rfl ?_
      rw [show ((F 2) - 1 : Int32) = nI 5 from by rw [hkp]; exact nI_pred 5]
      refine XV.putf C (ci := 5) (kf := 2) (ty := .int) (xlk_ok okM_saves rfl) rfl (by decide) wF_M_33 (by omega) (by omega) (mw_o) rfl rfl rfl rfl (Nat.le_of_ble_eq_true rfl) ?_
      refine XV.cast (mw_f (upd F 2 (nI 5))) ?_
      refine XV.run C okM_saves 2 (q := (52, ([some (.ref (213)), some (.int (0))], []))) rfl ?_
      have loop : ∀ (d j : Nat), j + d = 505 → XV G 2 p' l e' ({ frames := 0, cells := 0, slots := 0, locals := 0 } : Room) s' m' g' b' t' c' (XEnd G b' (fun r' n' h' => r' = none ∧ n' = n ∧ h' = setM h g (ovF (shP pa 2525) g (505 * 5) 505) tr mx td (upd (upd F 2 (nI 5)) 2 (nI (5 + 1)))) (fun _ _ _ => False) g' s' 0 0) 52 [some (.ref (213)), some (.int (nI j))] [] n (setM h g (ovF (shP pa 2525) g (505 * 5) j) tr mx td (upd F 2 (nI 5))) 0 0 := by
        intro d
        induction d with
        | zero =>
          intro j hj
          refine XV.run C okM_saves 2 (q := (56, ([some (.ref (213)), some (.int (nI j))], [.int (505), .int (nI j)]))) rfl ?_
          refine XV.icmp_ge C (tgt := 86) (xlk_ok okM_saves rfl) rfl (fun _ => ?_) (fun hc => absurd (nI_le (a := 505) (by omega) (by omega)) hc)
          obtain rfl : 505 = j := by omega
          refine XV.run C okM_saves 2 (q := (88, ([some (.ref (213)), some (.int (nI 505))], [.ref (213), .ref (213)]))) rfl ?_
          refine XV.getf C (ci := 5) (kf := 2) (v := .int ((upd F 2 (nI 5)) 2)) (xlk_ok okM_saves rfl) rfl (by decide) wF_M_33 (by omega) (by omega) (mw_o) rfl ?_
          refine XV.run C okM_saves 2 (q := (93, ([some (.ref (213)), some (.int (nI 505))], [.int (((upd F 2 (nI 5)) 2) + 1), .ref (213)]))) rfl ?_
          rw [show (((upd F 2 (nI 5)) 2) + 1 : Int32) = nI (5 + 1) from by rw [show (upd F 2 (nI 5)) 2 = nI 5 from upd_eq]; exact nI_1 _]
          refine XV.putf C (ci := 5) (kf := 2) (ty := .int) (xlk_ok okM_saves rfl) rfl (by decide) wF_M_33 (by omega) (by omega) (mw_o) rfl rfl rfl rfl (Nat.le_of_ble_eq_true rfl) ?_
          refine XV.cast (mw_f (upd (upd F 2 (nI 5)) 2 (nI (5 + 1)))) ?_
          exact XV.vret C (xlk_ok okM_saves rfl) hret (Nat.le_of_ble_eq_true rfl) (Nat.le_of_ble_eq_true rfl) (⟨rfl, rfl, rfl⟩)
        | succ d ih =>
          intro j hj
          refine XV.run C okM_saves 2 (q := (56, ([some (.ref (213)), some (.int (nI j))], [.int (505), .int (nI j)]))) rfl ?_
          refine XV.icmp_ge C (tgt := 86) (xlk_ok okM_saves rfl) rfl (fun hc => absurd hc (nI_ge (b := 505) (by omega) (by omega))) (fun _ => ?_)
          refine XV.run C okM_saves 1 (q := (60, ([some (.ref (213)), some (.int (nI j))], [.ref (213)]))) rfl ?_
          refine XV.getf C (ci := 5) (kf := 1) (v := .ref (215)) (xlk_ok okM_saves rfl) rfl (by decide) wF_M_13 (by omega) (by omega) (mw_o) rfl ?_
          refine XV.run C okM_saves 2 (q := (67, ([some (.ref (213)), some (.int (nI j))], [.ref (213), .int (505), .ref (215)]))) rfl ?_
          refine XV.getf C (ci := 5) (kf := 2) (v := .int ((upd F 2 (nI 5)) 2)) (xlk_ok okM_saves rfl) rfl (by decide) wF_M_33 (by omega) (by omega) (mw_o) rfl ?_
          refine XV.run C okM_saves 4 (q := (74, ([some (.ref (213)), some (.int (nI j))], [.ref (213), .int ((505 * ((upd F 2 (nI 5)) 2)) + (nI j)), .ref (215)]))) rfl ?_
          refine XV.getf C (ci := 5) (kf := 0) (v := .ref (214)) (xlk_ok okM_saves rfl) rfl (by decide) wF_M_7 (by omega) (by omega) (mw_o) rfl ?_
          refine XV.run C okM_saves 1 (q := (78, ([some (.ref (213)), some (.int (nI j))], [.int (nI j), .ref (214), .int ((505 * ((upd F 2 (nI 5)) 2)) + (nI j)), .ref (215)]))) rfl ?_
          refine XV.ialdC C (N := 505) (f := g) (a := j) (xlk_ok okM_saves rfl) (by omega) (by omega) (mw_1) (rfl) (by omega) (by decide) ?_
          refine XV.iastC C (N := 3030) (f := (ovF (shP pa 2525) g (505 * 5) j)) (a := (505 * 5 + j)) (xlk_ok okM_saves rfl) (by omega) (by omega) (mw_2) (by rw [show (upd F 2 (nI 5)) 2 = nI 5 from upd_eq, show (505 : Int32) * nI 5 = nI (505 * 5) from pk_mul 505 _, nI_add]) (by omega) (by decide) ?_
          refine XV.cast (mw_u2 (upd (ovF (shP pa 2525) g (505 * 5) j) (505 * 5 + j) (g j))) ?_
          refine XV.run C okM_saves 2 (q := (52, ([some (.ref (213)), some (.int ((nI j) + 1))], []))) rfl ?_
          rw [nI_1]
          refine XV.cast (congrArg (fun w => setM h g w tr mx td (upd F 2 (nI 5))) (ovF_s (shP pa 2525) g (505 * 5) j)) ?_
          exact ih (j + 1) (by omega)
      refine XV.cast (h' := setM h g (ovF (shP pa 2525) g (505 * 5) 0) tr mx td (upd F 2 (nI 5))) (by rw [ovF_0]) ?_
      exact XV.drop (loop 505 0 (by omega)) rfl (by simp [xle]; try rfl)
    | succ d ih =>
      intro j hj
      refine XV.run C okM_saves 2 (q := (15, ([some (.ref (213)), some (.int (nI j))], [.int (2525), .int (nI j)]))) rfl ?_
      refine XV.icmp_ge C (tgt := 40) (xlk_ok okM_saves rfl) rfl (fun hc => absurd hc (nI_ge (b := 2525) (by omega) (by omega))) (fun _ => ?_)
      refine XV.run C okM_saves 1 (q := (19, ([some (.ref (213)), some (.int (nI j))], [.ref (213)]))) rfl ?_
      refine XV.getf C (ci := 5) (kf := 1) (v := .ref (215)) (xlk_ok okM_saves rfl) rfl (by decide) wF_M_13 (by omega) (by omega) (mw_o) rfl ?_
      refine XV.run C okM_saves 2 (q := (24, ([some (.ref (213)), some (.int (nI j))], [.ref (213), .int (nI j), .ref (215)]))) rfl ?_
      refine XV.getf C (ci := 5) (kf := 1) (v := .ref (215)) (xlk_ok okM_saves rfl) rfl (by decide) wF_M_13 (by omega) (by omega) (mw_o) rfl ?_
      refine XV.run C okM_saves 3 (q := (32, ([some (.ref (213)), some (.int (nI j))], [.int ((nI j) + 505), .ref (215), .int (nI j), .ref (215)]))) rfl ?_
      refine XV.ialdC C (N := 3030) (f := (shP pa j)) (a := (j + 505)) (xlk_ok okM_saves rfl) (by omega) (by omega) (mw_2) (nI_add _ _) (by omega) (by decide) ?_
      refine XV.iastC C (N := 3030) (f := (shP pa j)) (a := j) (xlk_ok okM_saves rfl) (by omega) (by omega) (mw_2) (rfl) (by omega) (by decide) ?_
      refine XV.cast (mw_u2 (upd (shP pa j) j ((shP pa j) (j + 505)))) ?_
      refine XV.run C okM_saves 2 (q := (11, ([some (.ref (213)), some (.int ((nI j) + 1))], []))) rfl ?_
      rw [nI_1]
      refine XV.cast (congrArg (fun w => setM h g w tr mx td F) (shP_s pa j)) ?_
      exact ih (j + 1) (by omega)
  refine XV.cast (h' := setM h g (shP pa 0) tr mx td F) (by rw [shP_0]) ?_
  exact loop 2525 0 (by omega)
set_option maxHeartbeats 4000000 in
set_option maxRecDepth 100000 in
theorem ct_M_saves_free {l : Launch} (hfl : l.stackTraces = false) {G : XG} {n : Nat} {h : XH} {g pa tr mx td F : Nat → Int32} (hn : 215 ≤ n) {kp : Nat} (hkp : F 2 = nI kp) (hk6 : kp < 6) : XCt l G False (Cond.code yM_saves bM_saves 2 none) yM_saves 0 0 0 0 [.ref (213)] n (setM h g pa tr mx td F) (fun r' n' h' => r' = none ∧ n' = n ∧ h' = setM h g (ovF (pa) g (505 * kp) 505) tr mx td (upd (F) 2 (nI (kp + 1)))) (fun _ _ _ => False) := by
  refine XCt.of hfl (by decide +kernel) (Nat.le_of_ble_eq_true rfl) ?_
  intro p' e' s' m' g' b' t' c' C hret hname hnt hmd
  refine XV.run C okM_saves 1 (q := (1, ([some (.ref (213)), none], [.ref (213)]))) rfl ?_
  refine XV.getf C (ci := 5) (kf := 2) (v := .int (F 2)) (xlk_ok okM_saves rfl) rfl (by decide) wF_M_33 (by omega) (by omega) (mw_o) rfl ?_
  refine XV.run C okM_saves 1 (q := (6, ([some (.ref (213)), none], [.int (6), .int (F 2)]))) rfl ?_
  refine XV.icmp_ne C (tgt := 50) (xlk_ok okM_saves rfl) rfl (fun _ => ?_) (fun hc => absurd hc (fun z => absurd ((nI_eq (a := kp) (b := 6) (by omega) (by omega)).mp (hkp.symm.trans z)) (by omega)))
  refine XV.run C okM_saves 2 (q := (52, ([some (.ref (213)), some (.int (0))], []))) rfl ?_
  have loop : ∀ (d j : Nat), j + d = 505 → XV G 2 p' l e' ({ frames := 0, cells := 0, slots := 0, locals := 0 } : Room) s' m' g' b' t' c' (XEnd G b' (fun r' n' h' => r' = none ∧ n' = n ∧ h' = setM h g (ovF (pa) g (505 * kp) 505) tr mx td (upd (F) 2 (nI (kp + 1)))) (fun _ _ _ => False) g' s' 0 0) 52 [some (.ref (213)), some (.int (nI j))] [] n (setM h g (ovF (pa) g (505 * kp) j) tr mx td F) 0 0 := by
    intro d
    induction d with
    | zero =>
      intro j hj
      refine XV.run C okM_saves 2 (q := (56, ([some (.ref (213)), some (.int (nI j))], [.int (505), .int (nI j)]))) rfl ?_
      refine XV.icmp_ge C (tgt := 86) (xlk_ok okM_saves rfl) rfl (fun _ => ?_) (fun hc => absurd (nI_le (a := 505) (by omega) (by omega)) hc)
      obtain rfl : 505 = j := by omega
      refine XV.run C okM_saves 2 (q := (88, ([some (.ref (213)), some (.int (nI 505))], [.ref (213), .ref (213)]))) rfl ?_
      refine XV.getf C (ci := 5) (kf := 2) (v := .int (F 2)) (xlk_ok okM_saves rfl) rfl (by decide) wF_M_33 (by omega) (by omega) (mw_o) rfl ?_
      refine XV.run C okM_saves 2 (q := (93, ([some (.ref (213)), some (.int (nI 505))], [.int ((F 2) + 1), .ref (213)]))) rfl ?_
      rw [show ((F 2) + 1 : Int32) = nI (kp + 1) from by rw [show (F) 2 = nI kp from hkp]; exact nI_1 _]
      refine XV.putf C (ci := 5) (kf := 2) (ty := .int) (xlk_ok okM_saves rfl) rfl (by decide) wF_M_33 (by omega) (by omega) (mw_o) rfl rfl rfl rfl (Nat.le_of_ble_eq_true rfl) ?_
      refine XV.cast (mw_f (upd F 2 (nI (kp + 1)))) ?_
      exact XV.vret C (xlk_ok okM_saves rfl) hret (Nat.le_of_ble_eq_true rfl) (Nat.le_of_ble_eq_true rfl) (⟨rfl, rfl, rfl⟩)
    | succ d ih =>
      intro j hj
      refine XV.run C okM_saves 2 (q := (56, ([some (.ref (213)), some (.int (nI j))], [.int (505), .int (nI j)]))) rfl ?_
      refine XV.icmp_ge C (tgt := 86) (xlk_ok okM_saves rfl) rfl (fun hc => absurd hc (nI_ge (b := 505) (by omega) (by omega))) (fun _ => ?_)
      refine XV.run C okM_saves 1 (q := (60, ([some (.ref (213)), some (.int (nI j))], [.ref (213)]))) rfl ?_
      refine XV.getf C (ci := 5) (kf := 1) (v := .ref (215)) (xlk_ok okM_saves rfl) rfl (by decide) wF_M_13 (by omega) (by omega) (mw_o) rfl ?_
      refine XV.run C okM_saves 2 (q := (67, ([some (.ref (213)), some (.int (nI j))], [.ref (213), .int (505), .ref (215)]))) rfl ?_
      refine XV.getf C (ci := 5) (kf := 2) (v := .int (F 2)) (xlk_ok okM_saves rfl) rfl (by decide) wF_M_33 (by omega) (by omega) (mw_o) rfl ?_
      refine XV.run C okM_saves 4 (q := (74, ([some (.ref (213)), some (.int (nI j))], [.ref (213), .int ((505 * (F 2)) + (nI j)), .ref (215)]))) rfl ?_
      refine XV.getf C (ci := 5) (kf := 0) (v := .ref (214)) (xlk_ok okM_saves rfl) rfl (by decide) wF_M_7 (by omega) (by omega) (mw_o) rfl ?_
      refine XV.run C okM_saves 1 (q := (78, ([some (.ref (213)), some (.int (nI j))], [.int (nI j), .ref (214), .int ((505 * (F 2)) + (nI j)), .ref (215)]))) rfl ?_
      refine XV.ialdC C (N := 505) (f := g) (a := j) (xlk_ok okM_saves rfl) (by omega) (by omega) (mw_1) (rfl) (by omega) (by decide) ?_
      refine XV.iastC C (N := 3030) (f := (ovF (pa) g (505 * kp) j)) (a := (505 * kp + j)) (xlk_ok okM_saves rfl) (by omega) (by omega) (mw_2) (by rw [show (F) 2 = nI kp from hkp, show (505 : Int32) * nI kp = nI (505 * kp) from pk_mul 505 _, nI_add]) (by omega) (by decide) ?_
      refine XV.cast (mw_u2 (upd (ovF (pa) g (505 * kp) j) (505 * kp + j) (g j))) ?_
      refine XV.run C okM_saves 2 (q := (52, ([some (.ref (213)), some (.int ((nI j) + 1))], []))) rfl ?_
      rw [nI_1]
      refine XV.cast (congrArg (fun w => setM h g w tr mx td (F)) (ovF_s (pa) g (505 * kp) j)) ?_
      exact ih (j + 1) (by omega)
  refine XV.cast (h' := setM h g (ovF (pa) g (505 * kp) 0) tr mx td F) (by rw [ovF_0]) ?_
  exact XV.drop (loop 505 0 (by omega)) rfl (by simp [xle]; try rfl)
def unP (pa : Nat → Int32) (q : Nat) : Nat → Int32 := fun k => pa (505 * q + k)
set_option maxHeartbeats 4000000 in
set_option maxRecDepth 100000 in
theorem ct_M_undo_0 {l : Launch} (hfl : l.stackTraces = false) {G : XG} {n : Nat} {h : XH} {g pa tr mx td F : Nat → Int32} (hn : 215 ≤ n) (hk0 : F 2 = nI 0) : XCt l G False (Cond.code yM_undo bM_undo 2 (some .int)) yM_undo 1 21 0 0 [.ref (213)] n (setM h g pa tr mx td F) (fun r' n' h' => r' = some (.int 0) ∧ n' = n ∧ h' = setM h g pa tr mx td (upd (upd F 6 0) 6 1)) (fun _ _ _ => False) := by
  refine XCt.of hfl (by decide +kernel) (Nat.le_of_ble_eq_true rfl) ?_
  intro p' e' s' m' g' b' t' c' C hret hname hnt hmd
  refine XV.run C okM_undo 2 (q := (2, ([some (.ref (213)), none], [.int (0), .ref (213)]))) rfl ?_
  refine XV.putf C (ci := 5) (kf := 6) (ty := .int) (xlk_ok okM_undo rfl) rfl (by decide) wF_M_25 (by omega) (by omega) (mw_o) rfl rfl rfl rfl (Nat.le_of_ble_eq_true rfl) ?_
  refine XV.cast (mw_f (upd F 6 (0))) ?_
  refine XV.run C okM_undo 1 (q := (6, ([some (.ref (213)), none], [.ref (213)]))) rfl ?_
  refine XV.getf C (ci := 5) (kf := 2) (v := .int ((upd F 6 (0)) 2)) (xlk_ok okM_undo rfl) rfl (by decide) wF_M_33 (by omega) (by omega) (mw_o) rfl ?_
  refine XV.if_ne C (tgt := 18) (xlk_ok okM_undo rfl) rfl (fun hc => absurd ((upd_ne (by decide)).trans hk0) hc) (fun _ => ?_)
  refine XV.run C okM_undo 2 (q := (14, ([some (.ref (213)), none], [.int (1), .ref (213)]))) rfl ?_
  refine XV.callV C (As := [.int (1)]) (rest := []) (ci := 5) (ct_M_fails hfl hn (1)) (xlk_ok okM_undo rfl) rfl (by omega) (by omega) rfl (mw_o) rfl wM_M_36 wI_M_fails wV_M_fails wN_M wB_M_fails hy_M_fails (fun q => q.elim) ⟨Nat.le_of_ble_eq_true rfl, Nat.le_of_ble_eq_true rfl⟩ ⟨Nat.le_of_ble_eq_true rfl, Nat.le_of_ble_eq_true rfl⟩ (Nat.le_of_ble_eq_true rfl) (fun r n h hp => ?_) (fun _ _ _ q => q.elim)
  obtain ⟨rfl, rfl, rfl⟩ := hp
  exact XV.iret C (xlk_ok okM_undo rfl) hret rfl (Nat.le_of_ble_eq_true rfl) (Nat.le_of_ble_eq_true rfl) (⟨rfl, rfl, rfl⟩)
set_option maxHeartbeats 4000000 in
set_option maxRecDepth 100000 in
theorem ct_M_undo {l : Launch} (hfl : l.stackTraces = false) {G : XG} {n : Nat} {h : XH} {g pa tr mx td F : Nat → Int32} (hn : 215 ≤ n) {kp : Nat} (hkp : F 2 = nI (kp + 1)) (hk6 : kp < 6) : XCt l G False (Cond.code yM_undo bM_undo 2 (some .int)) yM_undo 1 21 0 0 [.ref (213)] n (setM h g pa tr mx td F) (fun r' n' h' => r' = some (.int (nI kp)) ∧ n' = n ∧ h' = setM h (unP pa kp) pa tr mx td (upd (upd F 6 0) 2 (nI kp))) (fun _ _ _ => False) := by
  refine XCt.of hfl (by decide +kernel) (Nat.le_of_ble_eq_true rfl) ?_
  intro p' e' s' m' g' b' t' c' C hret hname hnt hmd
  refine XV.run C okM_undo 2 (q := (2, ([some (.ref (213)), none], [.int (0), .ref (213)]))) rfl ?_
  refine XV.putf C (ci := 5) (kf := 6) (ty := .int) (xlk_ok okM_undo rfl) rfl (by decide) wF_M_25 (by omega) (by omega) (mw_o) rfl rfl rfl rfl (Nat.le_of_ble_eq_true rfl) ?_
  refine XV.cast (mw_f (upd F 6 (0))) ?_
  refine XV.run C okM_undo 1 (q := (6, ([some (.ref (213)), none], [.ref (213)]))) rfl ?_
  refine XV.getf C (ci := 5) (kf := 2) (v := .int ((upd F 6 (0)) 2)) (xlk_ok okM_undo rfl) rfl (by decide) wF_M_33 (by omega) (by omega) (mw_o) rfl ?_
  refine XV.if_ne C (tgt := 18) (xlk_ok okM_undo rfl) rfl (fun _ => ?_) (fun hc => absurd hc (fun q => nI_ne0 (n := kp + 1) (by omega) (by omega) (hkp.symm.trans ((upd_ne (by decide)).symm.trans q))))
  refine XV.run C okM_undo 2 (q := (20, ([some (.ref (213)), none], [.ref (213), .ref (213)]))) rfl ?_
  refine XV.getf C (ci := 5) (kf := 2) (v := .int ((upd F 6 (0)) 2)) (xlk_ok okM_undo rfl) rfl (by decide) wF_M_33 (by omega) (by omega) (mw_o) rfl ?_
  refine XV.run C okM_undo 2 (q := (25, ([some (.ref (213)), none], [.int (((upd F 6 (0)) 2) - 1), .ref (213)]))) rfl ?_
  rw [show (((upd F 6 (0)) 2) - 1 : Int32) = nI kp from by rw [upd_ne (by decide), hkp]; exact nI_pred kp]
  refine XV.putf C (ci := 5) (kf := 2) (ty := .int) (xlk_ok okM_undo rfl) rfl (by decide) wF_M_33 (by omega) (by omega) (mw_o) rfl rfl rfl rfl (Nat.le_of_ble_eq_true rfl) ?_
  refine XV.cast (mw_f (upd (upd F 6 (0)) 2 (nI kp))) ?_
  refine XV.run C okM_undo 2 (q := (30, ([some (.ref (213)), some (.int (0))], []))) rfl ?_
  have loop : ∀ (d j : Nat), j + d = 505 → XV G 2 p' l e' ({ frames := 1, cells := 0, slots := 0, locals := 21 } : Room) s' m' g' b' t' c' (XEnd G b' (fun r' n' h' => r' = some (.int (nI kp)) ∧ n' = n ∧ h' = setM h (unP pa kp) pa tr mx td (upd (upd F 6 0) 2 (nI kp))) (fun _ _ _ => False) g' s' 0 0) 30 [some (.ref (213)), some (.int (nI j))] [] n (setM h (cpF g (unP pa kp) j) pa tr mx td (upd (upd F 6 0) 2 (nI kp))) 0 0 := by
    intro d
    induction d with
    | zero =>
      intro j hj
      refine XV.run C okM_undo 2 (q := (34, ([some (.ref (213)), some (.int (nI j))], [.int (505), .int (nI j)]))) rfl ?_
      refine XV.icmp_ge C (tgt := 64) (xlk_ok okM_undo rfl) rfl (fun _ => ?_) (fun hc => absurd (nI_le (a := 505) (by omega) (by omega)) hc)
      refine XV.run C okM_undo 1 (q := (65, ([some (.ref (213)), some (.int (nI j))], [.ref (213)]))) rfl ?_
      refine XV.getf C (ci := 5) (kf := 2) (v := .int ((upd (upd F 6 0) 2 (nI kp)) 2)) (xlk_ok okM_undo rfl) rfl (by decide) wF_M_33 (by omega) (by omega) (mw_o) rfl ?_
      exact XV.iret C (xlk_ok okM_undo rfl) hret rfl (Nat.le_of_ble_eq_true rfl) (Nat.le_of_ble_eq_true rfl) (⟨by rw [show (upd (upd F 6 0) 2 (nI kp)) 2 = nI kp from upd_eq], rfl, mw_gc (fun k hk => by unfold cpF; rw [if_pos (by omega)])⟩)
    | succ d ih =>
      intro j hj
      refine XV.run C okM_undo 2 (q := (34, ([some (.ref (213)), some (.int (nI j))], [.int (505), .int (nI j)]))) rfl ?_
      refine XV.icmp_ge C (tgt := 64) (xlk_ok okM_undo rfl) rfl (fun hc => absurd hc (nI_ge (b := 505) (by omega) (by omega))) (fun _ => ?_)
      refine XV.run C okM_undo 1 (q := (38, ([some (.ref (213)), some (.int (nI j))], [.ref (213)]))) rfl ?_
      refine XV.getf C (ci := 5) (kf := 0) (v := .ref (214)) (xlk_ok okM_undo rfl) rfl (by decide) wF_M_7 (by omega) (by omega) (mw_o) rfl ?_
      refine XV.run C okM_undo 2 (q := (43, ([some (.ref (213)), some (.int (nI j))], [.ref (213), .int (nI j), .ref (214)]))) rfl ?_
      refine XV.getf C (ci := 5) (kf := 1) (v := .ref (215)) (xlk_ok okM_undo rfl) rfl (by decide) wF_M_13 (by omega) (by omega) (mw_o) rfl ?_
      refine XV.run C okM_undo 2 (q := (50, ([some (.ref (213)), some (.int (nI j))], [.ref (213), .int (505), .ref (215), .int (nI j), .ref (214)]))) rfl ?_
      refine XV.getf C (ci := 5) (kf := 2) (v := .int ((upd (upd F 6 0) 2 (nI kp)) 2)) (xlk_ok okM_undo rfl) rfl (by decide) wF_M_33 (by omega) (by omega) (mw_o) rfl ?_
      refine XV.run C okM_undo 3 (q := (56, ([some (.ref (213)), some (.int (nI j))], [.int ((505 * ((upd (upd F 6 0) 2 (nI kp)) 2)) + (nI j)), .ref (215), .int (nI j), .ref (214)]))) rfl ?_
      refine XV.ialdC C (N := 3030) (f := pa) (a := (505 * kp + j)) (xlk_ok okM_undo rfl) (by omega) (by omega) (mw_2) (by rw [show (upd (upd F 6 0) 2 (nI kp)) 2 = nI kp from upd_eq, show (505 : Int32) * nI kp = nI (505 * kp) from pk_mul 505 _, nI_add]) (by omega) (by decide) ?_
      refine XV.iastC C (N := 505) (f := (cpF g (unP pa kp) j)) (a := j) (xlk_ok okM_undo rfl) (by omega) (by omega) (mw_1) (rfl) (by omega) (by decide) ?_
      refine XV.cast (mw_u1 (upd (cpF g (unP pa kp) j) j (pa (505 * kp + j)))) ?_
      refine XV.run C okM_undo 2 (q := (30, ([some (.ref (213)), some (.int ((nI j) + 1))], []))) rfl ?_
      rw [nI_1]
      refine XV.cast (congrArg (fun w => setM h w pa tr mx td (upd (upd F 6 0) 2 (nI kp))) (cpF_s g (unP pa kp) j)) ?_
      exact ih (j + 1) (by omega)
  refine XV.cast (h' := setM h (cpF g (unP pa kp) 0) pa tr mx td (upd (upd F 6 0) 2 (nI kp))) (by rw [cpF_0]) ?_
  exact loop 505 0 (by omega)
