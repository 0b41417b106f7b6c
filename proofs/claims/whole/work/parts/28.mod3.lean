/-! RopeThreadsModel: what is saved, given back, written -/
def shP (pa : Nat → Int32) (j : Nat) : Nat → Int32 := fun k => if k < j then pa (k + 505) else pa k
theorem shP_0 (pa : Nat → Int32) : shP pa 0 = pa := by
  funext k
  exact if_neg (Nat.not_lt_zero k)
theorem shP_s (pa : Nat → Int32) (j : Nat) : upd (shP pa j) j (shP pa j (j + 505)) = shP pa (j + 1) := by
  funext k
  unfold upd shP
  by_cases h : k = j
  · subst h
    rw [if_pos rfl, if_neg (by omega), if_pos (by omega)]
  · rw [if_neg h]
    by_cases h2 : k < j
    · rw [if_pos h2, if_pos (by omega)]
    · rw [if_neg h2, if_neg (by omega)]
/-- the first j of g written over w from x on -/
def ovF (w g : Nat → Int32) (x j : Nat) : Nat → Int32 := fun k => if x ≤ k ∧ k < x + j then g (k - x) else w k
theorem ovF_0 (w g : Nat → Int32) (x : Nat) : ovF w g x 0 = w := by
  funext k
  exact if_neg (by omega)
theorem ovF_s (w g : Nat → Int32) (x j : Nat) : upd (ovF w g x j) (x + j) (g j) = ovF w g x (j + 1) := by
  funext k
  unfold upd ovF
  by_cases h : k = x + j
  · subst h
    rw [if_pos rfl, if_pos (by omega), show x + j - x = j by omega]
  · rw [if_neg h]
    by_cases h2 : x ≤ k ∧ k < x + j
    · rw [if_pos h2, if_pos (by omega)]
    · rw [if_neg h2, if_neg (by omega)]
theorem upd_upd2 (f : Nat → Int32) (j : Nat) (x y : Int32) : upd (upd f j x) j y = upd f j y := by
  funext k
  unfold upd
  by_cases h : k = j
  · rw [if_pos h, if_pos h]
  · rw [if_neg h, if_neg h, if_neg h]
set_option maxHeartbeats 4000000 in
set_option maxRecDepth 100000 in
theorem ct_M_saves_full {l : Launch} (hfl : l.stackTraces = false) {G : XG} {n : Nat} {h : XH} {g pa tr mx td F : Nat → Int32} (hn : 215 ≤ n) (hkp : F 2 = nI 6) : XCt l G False (Cond.code yM_saves bM_saves 2 none) yM_saves 0 0 0 0 [.ref (213)] n (setM h g pa tr mx td F) (fun r' n' h' => r' = none ∧ n' = n ∧ h' = setM h g (ovF (shP pa 2525) g (505 * 5) 505) tr mx td (upd (upd F 2 (nI 5)) 2 (nI (5 + 1)))) (fun _ _ _ => False) := by
  refine XCt.of hfl (by decide +kernel) (Nat.le_of_ble_eq_true rfl) ?_
  intro p' e' s' m' g' b' t' c' C hret hname hnt hmd
  refine XV.run C okM_saves 1 (q := (1, ([some (.ref (213)), none], [.ref (213)]))) rfl ?_
  refine XV.getf C (ci := 5) (kf := 2) (v := .int (F 2)) (xlk_ok okM_saves rfl) rfl (by decide) wF_M_33 (by omega) (by omega) (mw_o) rfl ?_
  refine XV.run C okM_saves 1 (q := (6, ([some (.ref (213)), none], [.int (6), .int (F 2)]))) rfl ?_
  refine XV.icmp_ne C (tgt := 50) (xlk_ok okM_saves rfl) rfl (fun hc => absurd (hkp) hc) (fun _ => ?_)
  refine XV.run C okM_saves 2 (q := (11, ([some (.ref (213)), some (.int (0))], []))) rfl ?_
  have loop : ∀ (d j : Nat), j + d = 2525 → XV G 2 p' l e' ({ frames := 0, cells := 0, slots := 0, locals := 0 } : Room) s' m' g' b' t' c' (XEnd G b' (fun r' n' h' => r' = none ∧ n' = n ∧ h' = setM h g (ovF (shP pa 2525) g (505 * 5) 505) tr mx td (upd (upd F 2 (nI 5)) 2 (nI (5 + 1)))) (fun _ _ _ => False) g' s' 0 0) 11 [some (.ref (213)), some (.int (nI j))] [] n (setM h g (shP pa j) tr mx td F) 0 0 := by
    intro d
    induction d with
    | zero =>
      intro j hj
      refine XV.run C okM_saves 2 (q := (15, ([some (.ref (213)), some (.int (nI j))], [.int (2525), .int (nI j)]))) rfl ?_
      refine XV.icmp_ge C (tgt := 40) (xlk_ok okM_saves rfl) rfl (fun _ => ?_) (fun hc => absurd (nI_le (a := 2525) (by omega) (by omega)) hc)
      obtain rfl : 2525 = j := by omega
      refine XV.run C okM_saves 2 (q := (42, ([some (.ref (213)), some (.int (nI 2525))], [.ref (213), .ref (213)]))) rfl ?_
      refine XV.getf C (ci := 5) (kf := 2) (v := .int (F 2)) (xlk_ok okM_saves rfl) rfl (by decide) wF_M_33 (by omega) (by omega) (mw_o) rfl ?_
      refine XV.run C okM_saves 2 (q := (47, ([some (.ref (213)), some (.int (nI 2525))], [.int ((F 2) - 1), .ref (213)]))) rfl ?_
      rw [show ((F 2) - 1 : Int32) = nI 5 from by rw [hkp]; exact nI_pred 5]
      refine XV.putf C (ci := 5) (kf := 2) (ty := .int) (xlk_ok okM_saves rfl) rfl (by decide) wF_M_33 (by omega) (by omega) (mw_o) rfl rfl rfl rfl (Nat.le_of_ble_eq_true rfl) ?_
      refine XV.cast (mw_f (upd F 2 (nI 5))) ?_
      refine XV.run C okM_saves 2 (q := (52, ([some (.ref (213)), some (.int (0))], []))) rfl ?_
      have loop : ∀ (d j : Nat), j + d = 505 → XV G 2 p' l e' ({ frames := 0, cells := 0, slots := 0, locals := 0 } : Room) s' m' g' b' t' c' (XEnd G b' (fun r' n' h' => r' = none ∧ n' = n ∧ h' = setM h g (ovF (shP pa 2525) g (505 * 5) 505) tr mx td (upd (upd F 2 (nI 5)) 2 (nI (5 + 1)))) (fun _ _ _ => False) g' s' 0 0) 52 [some (.ref (213)), some (.int (nI j))] [] n (setM h g (ovF (shP pa 2525) g (505 * 5) j) tr mx td (upd F 2 (nI 5))) 0 0 := by
        intro d
        induction d with
        | zero =>
          intro j hj
          refine XV.run C okM_saves 2 (q := (56, ([some (.ref (213)), some (.int (nI j))], [.int (505), .int (nI j)]))) rfl ?_
          refine XV.icmp_ge C (tgt := 86) (xlk_ok okM_saves rfl) rfl (fun _ => ?_) (fun hc => absurd (nI_le (a := 505) (by omega) (by omega)) hc)
          obtain rfl : 505 = j := by omega
          refine XV.run C okM_saves 2 (q := (88, ([some (.ref (213)), some (.int (nI 505))], [.ref (213), .ref (213)]))) rfl ?_
          refine XV.getf C (ci := 5) (kf := 2) (v := .int ((upd F 2 (nI 5)) 2)) (xlk_ok okM_saves rfl) rfl (by decide) wF_M_33 (by omega) (by omega) (mw_o) rfl ?_
          refine XV.run C okM_saves 2 (q := (93, ([some (.ref (213)), some (.int (nI 505))], [.int (((upd F 2 (nI 5)) 2) + 1), .ref (213)]))) rfl ?_
          rw [show (((upd F 2 (nI 5)) 2) + 1 : Int32) = nI (5 + 1) from by rw [show (upd F 2 (nI 5)) 2 = nI 5 from upd_eq]; exact nI_1 _]
          refine XV.putf C (ci := 5) (kf := 2) (ty := .int) (xlk_ok okM_saves rfl) rfl (by decide) wF_M_33 (by omega) (by omega) (mw_o) rfl rfl rfl rfl (Nat.le_of_ble_eq_true rfl) ?_
          refine XV.cast (mw_f (upd (upd F 2 (nI 5)) 2 (nI (5 + 1)))) ?_
          exact XV.vret C (xlk_ok okM_saves rfl) hret (Nat.le_of_ble_eq_true rfl) (Nat.le_of_ble_eq_true rfl) (⟨rfl, rfl, rfl⟩)
        | succ d ih =>
          intro j hj
          refine XV.run C okM_saves 2 (q := (56, ([some (.ref (213)), some (.int (nI j))], [.int (505), .int (nI j)]))) rfl ?_
          refine XV.icmp_ge C (tgt := 86) (xlk_ok okM_saves rfl) rfl (fun hc => absurd hc (nI_ge (b := 505) (by omega) (by omega))) (fun _ => ?_)
          refine XV.run C okM_saves 1 (q := (60, ([some (.ref (213)), some (.int (nI j))], [.ref (213)]))) rfl ?_
          refine XV.getf C (ci := 5) (kf := 1) (v := .ref (215)) (xlk_ok okM_saves rfl) rfl (by decide) wF_M_13 (by omega) (by omega) (mw_o) rfl ?_
          refine XV.run C okM_saves 2 (q := (67, ([some (.ref (213)), some (.int (nI j))], [.ref (213), .int (505), .ref (215)]))) rfl ?_
          refine XV.getf C (ci := 5) (kf := 2) (v := .int ((upd F 2 (nI 5)) 2)) (xlk_ok okM_saves rfl) rfl (by decide) wF_M_33 (by omega) (by omega) (mw_o) rfl ?_
          refine XV.run C okM_saves 4 (q := (74, ([some (.ref (213)), some (.int (nI j))], [.ref (213), .int ((505 * ((upd F 2 (nI 5)) 2)) + (nI j)), .ref (215)]))) rfl ?_
          refine XV.getf C (ci := 5) (kf := 0) (v := .ref (214)) (xlk_ok okM_saves rfl) rfl (by decide) wF_M_7 (by omega) (by omega) (mw_o) rfl ?_
          refine XV.run C okM_saves 1 (q := (78, ([some (.ref (213)), some (.int (nI j))], [.int (nI j), .ref (214), .int ((505 * ((upd F 2 (nI 5)) 2)) + (nI j)), .ref (215)]))) rfl ?_
          refine XV.ialdC C (N := 505) (f := g) (a := j) (xlk_ok okM_saves rfl) (by omega) (by omega) (mw_1) (rfl) (by omega) (by decide) ?_
          refine XV.iastC C (N := 3030) (f := (ovF (shP pa 2525) g (505 * 5) j)) (a := (505 * 5 + j)) (xlk_ok okM_saves rfl) (by omega) (by omega) (mw_2) (by rw [show (upd F 2 (nI 5)) 2 = nI 5 from upd_eq, show (505 : Int32) * nI 5 = nI (505 * 5) from pk_mul 505 _, nI_add]) (by omega) (by decide) ?_
          refine XV.cast (mw_u2 (upd (ovF (shP pa 2525) g (505 * 5) j) (505 * 5 + j) (g j))) ?_
          refine XV.run C okM_saves 2 (q := (52, ([some (.ref (213)), some (.int ((nI j) + 1))], []))) rfl ?_
          rw [nI_1]
          refine XV.cast (congrArg (fun w => setM h g w tr mx td (upd F 2 (nI 5))) (ovF_s (shP pa 2525) g (505 * 5) j)) ?_
          exact ih (j + 1) (by omega)
      refine XV.cast (h' := setM h g (ovF (shP pa 2525) g (505 * 5) 0) tr mx td (upd F 2 (nI 5))) (by rw [ovF_0]) ?_
      exact XV.drop (loop 505 0 (by omega)) rfl (by simp [xle]; try rfl)
    | succ d ih =>
      intro j hj
      refine XV.run C okM_saves 2 (q := (15, ([some (.ref (213)), some (.int (nI j))], [.int (2525), .int (nI j)]))) rfl ?_
      refine XV.icmp_ge C (tgt := 40) (xlk_ok okM_saves rfl) rfl (fun hc => absurd hc (nI_ge (b := 2525) (by omega) (by omega))) (fun _ => ?_)
      refine XV.run C okM_saves 1 (q := (19, ([some (.ref (213)), some (.int (nI j))], [.ref (213)]))) rfl ?_
      refine XV.getf C (ci := 5) (kf := 1) (v := .ref (215)) (xlk_ok okM_saves rfl) rfl (by decide) wF_M_13 (by omega) (by omega) (mw_o) rfl ?_
      refine XV.run C okM_saves 2 (q := (24, ([some (.ref (213)), some (.int (nI j))], [.ref (213), .int (nI j), .ref (215)]))) rfl ?_
      refine XV.getf C (ci := 5) (kf := 1) (v := .ref (215)) (xlk_ok okM_saves rfl) rfl (by decide) wF_M_13 (by omega) (by omega) (mw_o) rfl ?_
      refine XV.run C okM_saves 3 (q := (32, ([some (.ref (213)), some (.int (nI j))], [.int ((nI j) + 505), .ref (215), .int (nI j), .ref (215)]))) rfl ?_
      refine XV.ialdC C (N := 3030) (f := (shP pa j)) (a := (j + 505)) (xlk_ok okM_saves rfl) (by omega) (by omega) (mw_2) (nI_add _ _) (by omega) (by decide) ?_
      refine XV.iastC C (N := 3030) (f := (shP pa j)) (a := j) (xlk_ok okM_saves rfl) (by omega) (by omega) (mw_2) (rfl) (by omega) (by decide) ?_
      refine XV.cast (mw_u2 (upd (shP pa j) j ((shP pa j) (j + 505)))) ?_
      refine XV.run C okM_saves 2 (q := (11, ([some (.ref (213)), some (.int ((nI j) + 1))], []))) rfl ?_
      rw [nI_1]
      refine XV.cast (congrArg (fun w => setM h g w tr mx td F) (shP_s pa j)) ?_
      exact ih (j + 1) (by omega)
  refine XV.cast (h' := setM h g (shP pa 0) tr mx td F) (by rw [shP_0]) ?_
  exact loop 2525 0 (by omega)
set_option maxHeartbeats 4000000 in
set_option maxRecDepth 100000 in
theorem ct_M_saves_free {l : Launch} (hfl : l.stackTraces = false) {G : XG} {n : Nat} {h : XH} {g pa tr mx td F : Nat → Int32} (hn : 215 ≤ n) {kp : Nat} (hkp : F 2 = nI kp) (hk6 : kp < 6) : XCt l G False (Cond.code yM_saves bM_saves 2 none) yM_saves 0 0 0 0 [.ref (213)] n (setM h g pa tr mx td F) (fun r' n' h' => r' = none ∧ n' = n ∧ h' = setM h g (ovF (pa) g (505 * kp) 505) tr mx td (upd (F) 2 (nI (kp + 1)))) (fun _ _ _ => False) := by
  refine XCt.of hfl (by decide +kernel) (Nat.le_of_ble_eq_true rfl) ?_
  intro p' e' s' m' g' b' t' c' C hret hname hnt hmd
  refine XV.run C okM_saves 1 (q := (1, ([some (.ref (213)), none], [.ref (213)]))) rfl ?_
  refine XV.getf C (ci := 5) (kf := 2) (v := .int (F 2)) (xlk_ok okM_saves rfl) rfl (by decide) wF_M_33 (by omega) (by omega) (mw_o) rfl ?_
  refine XV.run C okM_saves 1 (q := (6, ([some (.ref (213)), none], [.int (6), .int (F 2)]))) rfl ?_
  refine XV.icmp_ne C (tgt := 50) (xlk_ok okM_saves rfl) rfl (fun _ => ?_) (fun hc => absurd hc (fun z => absurd ((nI_eq (a := kp) (b := 6) (by omega) (by omega)).mp (hkp.symm.trans z)) (by omega)))
  refine XV.run C okM_saves 2 (q := (52, ([some (.ref (213)), some (.int (0))], []))) rfl ?_
  have loop : ∀ (d j : Nat), j + d = 505 → XV G 2 p' l e' ({ frames := 0, cells := 0, slots := 0, locals := 0 } : Room) s' m' g' b' t' c' (XEnd G b' (fun r' n' h' => r' = none ∧ n' = n ∧ h' = setM h g (ovF (pa) g (505 * kp) 505) tr mx td (upd (F) 2 (nI (kp + 1)))) (fun _ _ _ => False) g' s' 0 0) 52 [some (.ref (213)), some (.int (nI j))] [] n (setM h g (ovF (pa) g (505 * kp) j) tr mx td F) 0 0 := by
    intro d
    induction d with
    | zero =>
      intro j hj
      refine XV.run C okM_saves 2 (q := (56, ([some (.ref (213)), some (.int (nI j))], [.int (505), .int (nI j)]))) rfl ?_
      refine XV.icmp_ge C (tgt := 86) (xlk_ok okM_saves rfl) rfl (fun _ => ?_) (fun hc => absurd (nI_le (a := 505) (by omega) (by omega)) hc)
      obtain rfl : 505 = j := by omega
      refine XV.run C okM_saves 2 (q := (88, ([some (.ref (213)), some (.int (nI 505))], [.ref (213), .ref (213)]))) rfl ?_
      refine XV.getf C (ci := 5) (kf := 2) (v := .int (F 2)) (xlk_ok okM_saves rfl) rfl (by decide) wF_M_33 (by omega) (by omega) (mw_o) rfl ?_
      refine XV.run C okM_saves 2 (q := (93, ([some (.ref (213)), some (.int (nI 505))], [.int ((F 2) + 1), .ref (213)]))) rfl ?_
      rw [show ((F 2) + 1 : Int32) = nI (kp + 1) from by rw [show (F) 2 = nI kp from hkp]; exact nI_1 _]
      refine XV.putf C (ci := 5) (kf := 2) (ty := .int) (xlk_ok okM_saves rfl) rfl (by decide) wF_M_33 (by omega) (by omega) (mw_o) rfl rfl rfl rfl (Nat.le_of_ble_eq_true rfl) ?_
      refine XV.cast (mw_f (upd F 2 (nI (kp + 1)))) ?_
      exact XV.vret C (xlk_ok okM_saves rfl) hret (Nat.le_of_ble_eq_true rfl) (Nat.le_of_ble_eq_true rfl) (⟨rfl, rfl, rfl⟩)
    | succ d ih =>
      intro j hj
      refine XV.run C okM_saves 2 (q := (56, ([some (.ref (213)), some (.int (nI j))], [.int (505), .int (nI j)]))) rfl ?_
      refine XV.icmp_ge C (tgt := 86) (xlk_ok okM_saves rfl) rfl (fun hc => absurd hc (nI_ge (b := 505) (by omega) (by omega))) (fun _ => ?_)
      refine XV.run C okM_saves 1 (q := (60, ([some (.ref (213)), some (.int (nI j))], [.ref (213)]))) rfl ?_
      refine XV.getf C (ci := 5) (kf := 1) (v := .ref (215)) (xlk_ok okM_saves rfl) rfl (by decide) wF_M_13 (by omega) (by omega) (mw_o) rfl ?_
      refine XV.run C okM_saves 2 (q := (67, ([some (.ref (213)), some (.int (nI j))], [.ref (213), .int (505), .ref (215)]))) rfl ?_
      refine XV.getf C (ci := 5) (kf := 2) (v := .int (F 2)) (xlk_ok okM_saves rfl) rfl (by decide) wF_M_33 (by omega) (by omega) (mw_o) rfl ?_
      refine XV.run C okM_saves 4 (q := (74, ([some (.ref (213)), some (.int (nI j))], [.ref (213), .int ((505 * (F 2)) + (nI j)), .ref (215)]))) rfl ?_
      refine XV.getf C (ci := 5) (kf := 0) (v := .ref (214)) (xlk_ok okM_saves rfl) rfl (by decide) wF_M_7 (by omega) (by omega) (mw_o) rfl ?_
      refine XV.run C okM_saves 1 (q := (78, ([some (.ref (213)), some (.int (nI j))], [.int (nI j), .ref (214), .int ((505 * (F 2)) + (nI j)), .ref (215)]))) rfl ?_
      refine XV.ialdC C (N := 505) (f := g) (a := j) (xlk_ok okM_saves rfl) (by omega) (by omega) (mw_1) (rfl) (by omega) (by decide) ?_
      refine XV.iastC C (N := 3030) (f := (ovF (pa) g (505 * kp) j)) (a := (505 * kp + j)) (xlk_ok okM_saves rfl) (by omega) (by omega) (mw_2) (by rw [show (F) 2 = nI kp from hkp, show (505 : Int32) * nI kp = nI (505 * kp) from pk_mul 505 _, nI_add]) (by omega) (by decide) ?_
      refine XV.cast (mw_u2 (upd (ovF (pa) g (505 * kp) j) (505 * kp + j) (g j))) ?_
      refine XV.run C okM_saves 2 (q := (52, ([some (.ref (213)), some (.int ((nI j) + 1))], []))) rfl ?_
      rw [nI_1]
      refine XV.cast (congrArg (fun w => setM h g w tr mx td (F)) (ovF_s (pa) g (505 * kp) j)) ?_
      exact ih (j + 1) (by omega)
  refine XV.cast (h' := setM h g (ovF (pa) g (505 * kp) 0) tr mx td F) (by rw [ovF_0]) ?_
  exact XV.drop (loop 505 0 (by omega)) rfl (by simp [xle]; try rfl)
def unP (pa : Nat → Int32) (q : Nat) : Nat → Int32 := fun k => pa (505 * q + k)
set_option maxHeartbeats 4000000 in
set_option maxRecDepth 100000 in
theorem ct_M_undo_0 {l : Launch} (hfl : l.stackTraces = false) {G : XG} {n : Nat} {h : XH} {g pa tr mx td F : Nat → Int32} (hn : 215 ≤ n) (hk0 : F 2 = nI 0) : XCt l G False (Cond.code yM_undo bM_undo 2 (some .int)) yM_undo 1 21 0 0 [.ref (213)] n (setM h g pa tr mx td F) (fun r' n' h' => r' = some (.int 0) ∧ n' = n ∧ h' = setM h g pa tr mx td (upd (upd F 6 0) 6 1)) (fun _ _ _ => False) := by
  refine XCt.of hfl (by decide +kernel) (Nat.le_of_ble_eq_true rfl) ?_
  intro p' e' s' m' g' b' t' c' C hret hname hnt hmd
  refine XV.run C okM_undo 2 (q := (2, ([some (.ref (213)), none], [.int (0), .ref (213)]))) rfl ?_
  refine XV.putf C (ci := 5) (kf := 6) (ty := .int) (xlk_ok okM_undo rfl) rfl (by decide) wF_M_25 (by omega) (by omega) (mw_o) rfl rfl rfl rfl (Nat.le_of_ble_eq_true rfl) ?_
  refine XV.cast (mw_f (upd F 6 (0))) ?_
  refine XV.run C okM_undo 1 (q := (6, ([some (.ref (213)), none], [.ref (213)]))) rfl ?_
  refine XV.getf C (ci := 5) (kf := 2) (v := .int ((upd F 6 (0)) 2)) (xlk_ok okM_undo rfl) rfl (by decide) wF_M_33 (by omega) (by omega) (mw_o) rfl ?_
  refine XV.if_ne C (tgt := 18) (xlk_ok okM_undo rfl) rfl (fun hc => absurd ((upd_ne (by decide)).trans hk0) hc) (fun _ => ?_)
  refine XV.run C okM_undo 2 (q := (14, ([some (.ref (213)), none], [.int (1), .ref (213)]))) rfl ?_
  refine XV.callV C (As := [.int (1)]) (rest := []) (ci := 5) (ct_M_fails hfl hn (1)) (xlk_ok okM_undo rfl) rfl (by omega) (by omega) rfl (mw_o) rfl wM_M_36 wI_M_fails wV_M_fails wN_M wB_M_fails hy_M_fails (fun q => q.elim) ⟨Nat.le_of_ble_eq_true rfl, Nat.le_of_ble_eq_true rfl⟩ ⟨Nat.le_of_ble_eq_true rfl, Nat.le_of_ble_eq_true rfl⟩ (Nat.le_of_ble_eq_true rfl) (fun r n h hp => ?_) (fun _ _ _ q => q.elim)
  obtain ⟨rfl, rfl, rfl⟩ := hp
  exact XV.iret C (xlk_ok okM_undo rfl) hret rfl (Nat.le_of_ble_eq_true rfl) (Nat.le_of_ble_eq_true rfl) (⟨rfl, rfl, rfl⟩)
set_option maxHeartbeats 4000000 in
set_option maxRecDepth 100000 in
theorem ct_M_undo {l : Launch} (hfl : l.stackTraces = false) {G : XG} {n : Nat} {h : XH} {g pa tr mx td F : Nat → Int32} (hn : 215 ≤ n) {kp : Nat} (hkp : F 2 = nI (kp + 1)) (hk6 : kp < 6) : XCt l G False (Cond.code yM_undo bM_undo 2 (some .int)) yM_undo 1 21 0 0 [.ref (213)] n (setM h g pa tr mx td F) (fun r' n' h' => r' = some (.int (nI kp)) ∧ n' = n ∧ h' = setM h (unP pa kp) pa tr mx td (upd (upd F 6 0) 2 (nI kp))) (fun _ _ _ => False) := by
  refine XCt.of hfl (by decide +kernel) (Nat.le_of_ble_eq_true rfl) ?_
  intro p' e' s' m' g' b' t' c' C hret hname hnt hmd
  refine XV.run C okM_undo 2 (q := (2, ([some (.ref (213)), none], [.int (0), .ref (213)]))) rfl ?_
  refine XV.putf C (ci := 5) (kf := 6) (ty := .int) (xlk_ok okM_undo rfl) rfl (by decide) wF_M_25 (by omega) (by omega) (mw_o) rfl rfl rfl rfl (Nat.le_of_ble_eq_true rfl) ?_
  refine XV.cast (mw_f (upd F 6 (0))) ?_
  refine XV.run C okM_undo 1 (q := (6, ([some (.ref (213)), none], [.ref (213)]))) rfl ?_
  refine XV.getf C (ci := 5) (kf := 2) (v := .int ((upd F 6 (0)) 2)) (xlk_ok okM_undo rfl) rfl (by decide) wF_M_33 (by omega) (by omega) (mw_o) rfl ?_
  refine XV.if_ne C (tgt := 18) (xlk_ok okM_undo rfl) rfl (fun _ => ?_) (fun hc => absurd hc (fun q => nI_ne0 (n := kp + 1) (by omega) (by omega) (hkp.symm.trans ((upd_ne (by decide)).symm.trans q))))
  refine XV.run C okM_undo 2 (q := (20, ([some (.ref (213)), none], [.ref (213), .ref (213)]))) rfl ?_
  refine XV.getf C (ci := 5) (kf := 2) (v := .int ((upd F 6 (0)) 2)) (xlk_ok okM_undo rfl) rfl (by decide) wF_M_33 (by omega) (by omega) (mw_o) rfl ?_
  refine XV.run C okM_undo 2 (q := (25, ([some (.ref (213)), none], [.int (((upd F 6 (0)) 2) - 1), .ref (213)]))) rfl ?_
  rw [show (((upd F 6 (0)) 2) - 1 : Int32) = nI kp from by rw [upd_ne (by decide), hkp]; exact nI_pred kp]
  refine XV.putf C (ci := 5) (kf := 2) (ty := .int) (xlk_ok okM_undo rfl) rfl (by decide) wF_M_33 (by omega) (by omega) (mw_o) rfl rfl rfl rfl (Nat.le_of_ble_eq_true rfl) ?_
  refine XV.cast (mw_f (upd (upd F 6 (0)) 2 (nI kp))) ?_
  refine XV.run C okM_undo 2 (q := (30, ([some (.ref (213)), some (.int (0))], []))) rfl ?_
  have loop : ∀ (d j : Nat), j + d = 505 → XV G 2 p' l e' ({ frames := 1, cells := 0, slots := 0, locals := 21 } : Room) s' m' g' b' t' c' (XEnd G b' (fun r' n' h' => r' = some (.int (nI kp)) ∧ n' = n ∧ h' = setM h (unP pa kp) pa tr mx td (upd (upd F 6 0) 2 (nI kp))) (fun _ _ _ => False) g' s' 0 0) 30 [some (.ref (213)), some (.int (nI j))] [] n (setM h (cpF g (unP pa kp) j) pa tr mx td (upd (upd F 6 0) 2 (nI kp))) 0 0 := by
    intro d
    induction d with
    | zero =>
      intro j hj
      refine XV.run C okM_undo 2 (q := (34, ([some (.ref (213)), some (.int (nI j))], [.int (505), .int (nI j)]))) rfl ?_
      refine XV.icmp_ge C (tgt := 64) (xlk_ok okM_undo rfl) rfl (fun _ => ?_) (fun hc => absurd (nI_le (a := 505) (by omega) (by omega)) hc)
      refine XV.run C okM_undo 1 (q := (65, ([some (.ref (213)), some (.int (nI j))], [.ref (213)]))) rfl ?_
      refine XV.getf C (ci := 5) (kf := 2) (v := .int ((upd (upd F 6 0) 2 (nI kp)) 2)) (xlk_ok okM_undo rfl) rfl (by decide) wF_M_33 (by omega) (by omega) (mw_o) rfl ?_
      exact XV.iret C (xlk_ok okM_undo rfl) hret rfl (Nat.le_of_ble_eq_true rfl) (Nat.le_of_ble_eq_true rfl) (⟨by rw [show (upd (upd F 6 0) 2 (nI kp)) 2 = nI kp from upd_eq], rfl, mw_gc (fun k hk => by unfold cpF; rw [if_pos (by omega)])⟩)
    | succ d ih =>
      intro j hj
      refine XV.run C okM_undo 2 (q := (34, ([some (.ref (213)), some (.int (nI j))], [.int (505), .int (nI j)]))) rfl ?_
      refine XV.icmp_ge C (tgt := 64) (xlk_ok okM_undo rfl) rfl (fun hc => absurd hc (nI_ge (b := 505) (by omega) (by omega))) (fun _ => ?_)
      refine XV.run C okM_undo 1 (q := (38, ([some (.ref (213)), some (.int (nI j))], [.ref (213)]))) rfl ?_
      refine XV.getf C (ci := 5) (kf := 0) (v := .ref (214)) (xlk_ok okM_undo rfl) rfl (by decide) wF_M_7 (by omega) (by omega) (mw_o) rfl ?_
      refine XV.run C okM_undo 2 (q := (43, ([some (.ref (213)), some (.int (nI j))], [.ref (213), .int (nI j), .ref (214)]))) rfl ?_
      refine XV.getf C (ci := 5) (kf := 1) (v := .ref (215)) (xlk_ok okM_undo rfl) rfl (by decide) wF_M_13 (by omega) (by omega) (mw_o) rfl ?_
      refine XV.run C okM_undo 2 (q := (50, ([some (.ref (213)), some (.int (nI j))], [.ref (213), .int (505), .ref (215), .int (nI j), .ref (214)]))) rfl ?_
      refine XV.getf C (ci := 5) (kf := 2) (v := .int ((upd (upd F 6 0) 2 (nI kp)) 2)) (xlk_ok okM_undo rfl) rfl (by decide) wF_M_33 (by omega) (by omega) (mw_o) rfl ?_
      refine XV.run C okM_undo 3 (q := (56, ([some (.ref (213)), some (.int (nI j))], [.int ((505 * ((upd (upd F 6 0) 2 (nI kp)) 2)) + (nI j)), .ref (215), .int (nI j), .ref (214)]))) rfl ?_
      refine XV.ialdC C (N := 3030) (f := pa) (a := (505 * kp + j)) (xlk_ok okM_undo rfl) (by omega) (by omega) (mw_2) (by rw [show (upd (upd F 6 0) 2 (nI kp)) 2 = nI kp from upd_eq, show (505 : Int32) * nI kp = nI (505 * kp) from pk_mul 505 _, nI_add]) (by omega) (by decide) ?_
      refine XV.iastC C (N := 505) (f := (cpF g (unP pa kp) j)) (a := j) (xlk_ok okM_undo rfl) (by omega) (by omega) (mw_1) (rfl) (by omega) (by decide) ?_
      refine XV.cast (mw_u1 (upd (cpF g (unP pa kp) j) j (pa (505 * kp + j)))) ?_
      refine XV.run C okM_undo 2 (q := (30, ([some (.ref (213)), some (.int ((nI j) + 1))], []))) rfl ?_
      rw [nI_1]
      refine XV.cast (congrArg (fun w => setM h w pa tr mx td (upd (upd F 6 0) 2 (nI kp))) (cpF_s g (unP pa kp) j)) ?_
      exact ih (j + 1) (by omega)
  refine XV.cast (h' := setM h (cpF g (unP pa kp) 0) pa tr mx td (upd (upd F 6 0) 2 (nI kp))) (by rw [cpF_0]) ?_
  exact loop 505 0 (by omega)
def hvF (t : Int32) : Nat → Int32 := fun k => if 75 ≤ k then t else 0
theorem inK_nI {j a b : Nat} (hj : j < 2 ^ 31) (ha : a < 2 ^ 31) (hb : b < 2 ^ 31) : inK (nI j) (nI a) (nI b) = decide (a ≤ j ∧ j ≤ b) := by
  unfold inK
  rw [decide_eq_decide, nI_leI ha hj, nI_leI hj hb]
theorem hv_0 {t : Int32} {j : Nat} (hj : j < 99) (h : inK (nI j) 75 98 = false) : (0 : Int32) = hvF t j := by
  rw [show (75 : Int32) = nI 75 from rfl, show (98 : Int32) = nI 98 from rfl, inK_nI (by omega) (by omega) (by omega)] at h
  have := of_decide_eq_false h
  exact (if_neg (by omega)).symm
theorem hv_1 {t : Int32} {j : Nat} (hj : j < 99) (h : inK (nI j) 75 98 = true) : t = hvF t j := by
  rw [show (75 : Int32) = nI 75 from rfl, show (98 : Int32) = nI 98 from rfl, inK_nI (by omega) (by omega) (by omega)] at h
  have := of_decide_eq_true h
  exact (if_pos (by omega)).symm
theorem ovF_lo {w g : Nat → Int32} {x j k : Nat} (h : k < x) : ovF w g x j k = w k := if_neg (by omega)
theorem hang_eq (g : Nat → Int32) (i : Nat) (q v : Int32) (hv : v = g 0) : ∀ k, upd (upd (ovF g (hvF (g 0)) (10 + 99 * i) 99) (10 + 99 * i + 0) q) (10 + 99 * i + 1) v k = putRow g i (rNew q (g 0)) k := by
  intro k
  subst hv
  unfold upd ovF putRow rNew hvF
  by_cases h1 : k = 10 + 99 * i + 1
  · subst h1
    rw [if_pos rfl, if_pos (by omega), if_neg (by omega), if_pos (by omega)]
  rw [if_neg h1]
  by_cases h0 : k = 10 + 99 * i + 0
  · subst h0
    rw [if_pos rfl, if_pos (by omega), if_pos (by omega)]
  rw [if_neg h0]
  by_cases h2 : 10 + 99 * i ≤ k ∧ k < 10 + 99 * i + 99
  · rw [if_pos h2, if_pos h2]
    rw [if_neg (show ¬ k - (10 + 99 * i) = 0 by omega), if_neg (show ¬ k - (10 + 99 * i) = 1 by omega)]
  · rw [if_neg h2, if_neg h2]
set_option maxHeartbeats 4000000 in
set_option maxRecDepth 100000 in
theorem ct_M_hangs {l : Launch} (hfl : l.stackTraces = false) {G : XG} {n : Nat} {h : XH} {g pa tr mx td F : Nat → Int32} (hn : 215 ≤ n) {i : Nat} (hi : i < 5) {x : Int32} (hx : x = nI i) (q : Int32) : XCt l G False (Cond.code yM_hangs bM_hangs 4 none) yM_hangs 1 22 0 0 [.ref (213), .int (x), .int (q)] n (setM h g pa tr mx td F) (fun r' n' h' => r' = none ∧ n' = n ∧ h' = setM h (putRow g i (rNew q (g 0))) pa tr mx td F) (fun _ _ _ => False) := by
  subst hx
  refine XCt.of hfl (by decide +kernel) (Nat.le_of_ble_eq_true rfl) ?_
  intro p' e' s' m' g' b' t' c' C hret hname hnt hmd
  refine XV.run C okM_hangs 2 (q := (2, ([some (.ref (213)), some (.int (nI i)), some (.int (q)), some (.int (0))], []))) rfl ?_
  have loop : ∀ (d j : Nat), j + d = 99 → XV G 4 p' l e' ({ frames := 1, cells := 0, slots := 0, locals := 22 } : Room) s' m' g' b' t' c' (XEnd G b' (fun r' n' h' => r' = none ∧ n' = n ∧ h' = setM h (putRow g i (rNew q (g 0))) pa tr mx td F) (fun _ _ _ => False) g' s' 0 0) 2 [some (.ref (213)), some (.int (nI i)), some (.int (q)), some (.int (nI j))] [] n (setM h (ovF g (hvF (g 0)) (10 + 99 * i) j) pa tr mx td F) 0 0 := by
    intro d
    induction d with
    | zero =>
      intro j hj
      refine XV.run C okM_hangs 2 (q := (5, ([some (.ref (213)), some (.int (nI i)), some (.int (q)), some (.int (nI j))], [.int (99), .int (nI j)]))) rfl ?_
      refine XV.icmp_ge C (tgt := 46) (xlk_ok okM_hangs rfl) rfl (fun _ => ?_) (fun hc => absurd (nI_le (a := 99) (by omega) (by omega)) hc)
      obtain rfl : 99 = j := by omega
      refine XV.run C okM_hangs 1 (q := (47, ([some (.ref (213)), some (.int (nI i)), some (.int (q)), some (.int (nI 99))], [.ref (213)]))) rfl ?_
      refine XV.getf C (ci := 5) (kf := 0) (v := .ref (214)) (xlk_ok okM_hangs rfl) rfl (by decide) wF_M_7 (by omega) (by omega) (mw_o) rfl ?_
      refine XV.run C okM_hangs 1 (q := (51, ([some (.ref (213)), some (.int (nI i)), some (.int (q)), some (.int (nI 99))], [.int (nI i), .ref (214)]))) rfl ?_
      refine XV.callS C (As := [.int (nI i)]) (rest := [.ref (214)]) (ct_M_row hfl (i := i) (rfl)) (xlk_ok okM_hangs rfl) rfl wM_M_59 wS_M_row wN_M wB_M_row hy_M_row (fun q => q.elim) ⟨Nat.le_of_ble_eq_true rfl, Nat.le_of_ble_eq_true rfl⟩ ⟨Nat.le_of_ble_eq_true rfl, Nat.le_of_ble_eq_true rfl⟩ (Nat.le_of_ble_eq_true rfl) (fun r n h hp => ?_) (fun _ _ _ q => q.elim)
      obtain ⟨rfl, rfl, rfl⟩ := hp
      refine XV.run C okM_hangs 3 (q := (57, ([some (.ref (213)), some (.int (nI i)), some (.int (q)), some (.int (nI 99))], [.int (q), .int ((nI (10 + 99 * i)) + 0), .ref (214)]))) rfl ?_
      refine XV.iastC C (N := 505) (f := (ovF g (hvF (g 0)) (10 + 99 * i) 99)) (a := (10 + 99 * i + 0)) (xlk_ok okM_hangs rfl) (by omega) (by omega) (mw_1) (by rw [show (0 : Int32) = nI 0 from rfl, nI_add]) (by omega) (by decide) ?_
      refine XV.cast (mw_u1 (upd (ovF g (hvF (g 0)) (10 + 99 * i) 99) (10 + 99 * i + 0) (q))) ?_
      refine XV.run C okM_hangs 1 (q := (59, ([some (.ref (213)), some (.int (nI i)), some (.int (q)), some (.int (nI 99))], [.ref (213)]))) rfl ?_
      refine XV.getf C (ci := 5) (kf := 0) (v := .ref (214)) (xlk_ok okM_hangs rfl) rfl (by decide) wF_M_7 (by omega) (by omega) (mw_o) rfl ?_
      refine XV.run C okM_hangs 1 (q := (63, ([some (.ref (213)), some (.int (nI i)), some (.int (q)), some (.int (nI 99))], [.int (nI i), .ref (214)]))) rfl ?_
      refine XV.callS C (As := [.int (nI i)]) (rest := [.ref (214)]) (ct_M_row hfl (i := i) (rfl)) (xlk_ok okM_hangs rfl) rfl wM_M_59 wS_M_row wN_M wB_M_row hy_M_row (fun q => q.elim) ⟨Nat.le_of_ble_eq_true rfl, Nat.le_of_ble_eq_true rfl⟩ ⟨Nat.le_of_ble_eq_true rfl, Nat.le_of_ble_eq_true rfl⟩ (Nat.le_of_ble_eq_true rfl) (fun r n h hp => ?_) (fun _ _ _ q => q.elim)
      obtain ⟨rfl, rfl, rfl⟩ := hp
      refine XV.run C okM_hangs 3 (q := (69, ([some (.ref (213)), some (.int (nI i)), some (.int (q)), some (.int (nI 99))], [.ref (213), .int ((nI (10 + 99 * i)) + 1), .ref (214)]))) rfl ?_
      refine XV.getf C (ci := 5) (kf := 0) (v := .ref (214)) (xlk_ok okM_hangs rfl) rfl (by decide) wF_M_7 (by omega) (by omega) (mw_o) rfl ?_
      refine XV.run C okM_hangs 1 (q := (73, ([some (.ref (213)), some (.int (nI i)), some (.int (q)), some (.int (nI 99))], [.int (0), .ref (214), .int ((nI (10 + 99 * i)) + 1), .ref (214)]))) rfl ?_
      refine XV.ialdC C (N := 505) (f := (upd (ovF g (hvF (g 0)) (10 + 99 * i) 99) (10 + 99 * i + 0) (q))) (a := 0) (xlk_ok okM_hangs rfl) (by omega) (by omega) (mw_1) (rfl) (by decide) (by decide) ?_
      refine XV.iastC C (N := 505) (f := (upd (ovF g (hvF (g 0)) (10 + 99 * i) 99) (10 + 99 * i + 0) (q))) (a := (10 + 99 * i + 1)) (xlk_ok okM_hangs rfl) (by omega) (by omega) (mw_1) (by rw [show (1 : Int32) = nI 1 from rfl, nI_add]) (by omega) (by decide) ?_
      refine XV.cast (mw_u1 (upd (upd (ovF g (hvF (g 0)) (10 + 99 * i) 99) (10 + 99 * i + 0) (q)) (10 + 99 * i + 1) ((upd (ovF g (hvF (g 0)) (10 + 99 * i) 99) (10 + 99 * i + 0) (q)) 0))) ?_
      exact XV.vret C (xlk_ok okM_hangs rfl) hret (Nat.le_of_ble_eq_true rfl) (Nat.le_of_ble_eq_true rfl) (⟨rfl, rfl, mw_gc (fun k _ => hang_eq g i q _ ((upd_ne (by omega)).trans (ovF_lo (by omega))) k)⟩)
    | succ d ih =>
      intro j hj
      refine XV.run C okM_hangs 2 (q := (5, ([some (.ref (213)), some (.int (nI i)), some (.int (q)), some (.int (nI j))], [.int (99), .int (nI j)]))) rfl ?_
      refine XV.icmp_ge C (tgt := 46) (xlk_ok okM_hangs rfl) rfl (fun hc => absurd hc (nI_ge (b := 99) (by omega) (by omega))) (fun _ => ?_)
      refine XV.run C okM_hangs 1 (q := (9, ([some (.ref (213)), some (.int (nI i)), some (.int (q)), some (.int (nI j))], [.ref (213)]))) rfl ?_
      refine XV.getf C (ci := 5) (kf := 0) (v := .ref (214)) (xlk_ok okM_hangs rfl) rfl (by decide) wF_M_7 (by omega) (by omega) (mw_o) rfl ?_
      refine XV.run C okM_hangs 1 (q := (13, ([some (.ref (213)), some (.int (nI i)), some (.int (q)), some (.int (nI j))], [.int (nI i), .ref (214)]))) rfl ?_
      refine XV.callS C (As := [.int (nI i)]) (rest := [.ref (214)]) (ct_M_row hfl (i := i) (rfl)) (xlk_ok okM_hangs rfl) rfl wM_M_59 wS_M_row wN_M wB_M_row hy_M_row (fun q => q.elim) ⟨Nat.le_of_ble_eq_true rfl, Nat.le_of_ble_eq_true rfl⟩ ⟨Nat.le_of_ble_eq_true rfl, Nat.le_of_ble_eq_true rfl⟩ (Nat.le_of_ble_eq_true rfl) (fun r n h hp => ?_) (fun _ _ _ q => q.elim)
      obtain ⟨rfl, rfl, rfl⟩ := hp
      refine XV.run C okM_hangs 5 (q := (23, ([some (.ref (213)), some (.int (nI i)), some (.int (q)), some (.int (nI j))], [.int (98), .int (75), .int (nI j), .int ((nI (10 + 99 * i)) + (nI j)), .ref (214)]))) rfl ?_
      refine XV.callS C (As := [.int (nI j), .int (75), .int (98)]) (rest := [.int ((nI (10 + 99 * i)) + (nI j)), .ref (214)]) (ct_M_in hfl (nI j) (75) (98)) (xlk_ok okM_hangs rfl) rfl wM_M_29 wS_M_in wN_M wB_M_in hy_M_in (fun q => q.elim) ⟨Nat.le_of_ble_eq_true rfl, Nat.le_of_ble_eq_true rfl⟩ ⟨Nat.le_of_ble_eq_true rfl, Nat.le_of_ble_eq_true rfl⟩ (Nat.le_of_ble_eq_true rfl) (fun r n h hp => ?_) (fun _ _ _ q => q.elim)
      obtain ⟨rfl, rfl, rfl⟩ := hp
      refine XV.if_eq C (tgt := 38) (xlk_ok okM_hangs rfl) rfl (fun c1 => ?_) (fun c1 => ?_)
      ·
        have ev : (0 : Int32) = hvF (g 0) j := hv_0 (by omega) (if1_0 c1)
        refine XV.run C okM_hangs 1 (q := (39, ([some (.ref (213)), some (.int (nI i)), some (.int (q)), some (.int (nI j))], [.int (0), .int ((nI (10 + 99 * i)) + (nI j)), .ref (214)]))) rfl ?_
        refine XV.iastC C (N := 505) (f := (ovF g (hvF (g 0)) (10 + 99 * i) j)) (a := (10 + 99 * i + j)) (xlk_ok okM_hangs rfl) (by omega) (by omega) (mw_1) (nI_add _ _) (by omega) (by decide) ?_
        refine XV.cast (mw_u1 (upd (ovF g (hvF (g 0)) (10 + 99 * i) j) (10 + 99 * i + j) (0))) ?_
        refine XV.run C okM_hangs 2 (q := (2, ([some (.ref (213)), some (.int (nI i)), some (.int (q)), some (.int ((nI j) + 1))], []))) rfl ?_
        rw [nI_1]
        refine XV.cast (congrArg (fun w => setM h w pa tr mx td F) ((congrArg (fun v => upd _ _ v) ev).trans (ovF_s g (hvF (g 0)) (10 + 99 * i) j))) ?_
        exact ih (j + 1) (by omega)
      ·
        have ev : (ovF g (hvF (g 0)) (10 + 99 * i) j) 0 = hvF (g 0) j := (ovF_lo (by omega)).trans (hv_1 (by omega) (if1_1 c1))
        refine XV.run C okM_hangs 1 (q := (30, ([some (.ref (213)), some (.int (nI i)), some (.int (q)), some (.int (nI j))], [.ref (213), .int ((nI (10 + 99 * i)) + (nI j)), .ref (214)]))) rfl ?_
        refine XV.getf C (ci := 5) (kf := 0) (v := .ref (214)) (xlk_ok okM_hangs rfl) rfl (by decide) wF_M_7 (by omega) (by omega) (mw_o) rfl ?_
        refine XV.run C okM_hangs 1 (q := (34, ([some (.ref (213)), some (.int (nI i)), some (.int (q)), some (.int (nI j))], [.int (0), .ref (214), .int ((nI (10 + 99 * i)) + (nI j)), .ref (214)]))) rfl ?_
        refine XV.ialdC C (N := 505) (f := (ovF g (hvF (g 0)) (10 + 99 * i) j)) (a := 0) (xlk_ok okM_hangs rfl) (by omega) (by omega) (mw_1) (rfl) (by decide) (by decide) ?_
        refine XV.run C okM_hangs 1 (q := (39, ([some (.ref (213)), some (.int (nI i)), some (.int (q)), some (.int (nI j))], [.int ((ovF g (hvF (g 0)) (10 + 99 * i) j) 0), .int ((nI (10 + 99 * i)) + (nI j)), .ref (214)]))) rfl ?_
        refine XV.iastC C (N := 505) (f := (ovF g (hvF (g 0)) (10 + 99 * i) j)) (a := (10 + 99 * i + j)) (xlk_ok okM_hangs rfl) (by omega) (by omega) (mw_1) (nI_add _ _) (by omega) (by decide) ?_
        refine XV.cast (mw_u1 (upd (ovF g (hvF (g 0)) (10 + 99 * i) j) (10 + 99 * i + j) ((ovF g (hvF (g 0)) (10 + 99 * i) j) 0))) ?_
        refine XV.run C okM_hangs 2 (q := (2, ([some (.ref (213)), some (.int (nI i)), some (.int (q)), some (.int ((nI j) + 1))], []))) rfl ?_
        rw [nI_1]
        refine XV.cast (congrArg (fun w => setM h w pa tr mx td F) ((congrArg (fun v => upd _ _ v) ev).trans (ovF_s g (hvF (g 0)) (10 + 99 * i) j))) ?_
        exact ih (j + 1) (by omega)
  refine XV.cast (h' := setM h (ovF g (hvF (g 0)) (10 + 99 * i) 0) pa tr mx td F) (by rw [ovF_0]) ?_
  exact loop 99 0 (by omega)
theorem putRow_at {g r : Nat → Int32} {i k : Nat} (hk : k < 99) : putRow g i r (10 + 99 * i + k) = r k := putRow_row (f := g) (i := i) (r := r) hk
theorem putRow_lo {g r : Nat → Int32} {i k : Nat} (hk : k < 10) : putRow g i r k = g k := if_neg (by omega)
theorem putRow_upd {g r : Nat → Int32} {i k : Nat} {v : Int32} (hk : k < 99) : upd (putRow g i r) (10 + 99 * i + k) v = putRow g i (upd r k v) := by
  funext j
  unfold upd putRow
  by_cases h : j = 10 + 99 * i + k
  · subst h
    rw [if_pos rfl, if_pos (by omega)]
    exact (if_pos (by omega)).symm
  · rw [if_neg h]
    by_cases h2 : 10 + 99 * i ≤ j ∧ j < 10 + 99 * i + 99
    · rw [if_pos h2, if_pos h2]
      exact (if_neg (by omega)).symm
    · rw [if_neg h2, if_neg h2]
theorem putRow_self (g : Nat → Int32) (i : Nat) : putRow g i (rowOf g i) = g := by
  funext k
  unfold putRow rowOf
  by_cases h : 10 + 99 * i ≤ k ∧ k < 10 + 99 * i + 99
  · rw [if_pos h, show 10 + 99 * i + (k - (10 + 99 * i)) = k by omega]
  · rw [if_neg h]
theorem brk_put {g r : Nat → Int32} {i s : Nat} (hs : s < 24) : brk (atF (putRow g i r) (10 + 99 * i)) s = brk r s := by
  show putRow g i r (10 + 99 * i + (3 + s)) / putRow g i r (10 + 99 * i + 0) = _
  rw [putRow_at (by omega), putRow_at (by omega)]
  rfl
set_option maxHeartbeats 4000000 in
set_option maxRecDepth 100000 in
theorem ct_M_inspects_n {l : Launch} (hfl : l.stackTraces = false) {G : XG} {n : Nat} {h : XH} {g pa tr mx td F : Nat → Int32} (hn : 215 ≤ n) {i : Nat} (hi : i < 5) {a v b : Nat} {x y u : Int32} (hx : x = nI (10 + 99 * i)) (hy : y = nI a) (hu : u = nI b) (hb : b < 24) (hv : a + v = b + 1) (hq : 0 < rowOf g i 0) : XCt l G False (Cond.code yM_inspects bM_inspects 6 none) yM_inspects 1 22 0 0 [.ref (213), .ref (214), .int (x), .int (y), .int (u)] n (setM h g pa tr mx td F) (fun r' n' h' => r' = none ∧ n' = n ∧ h' = setM h (putRow g i (rLook (rowOf g i) a v (g 0))) pa tr mx td F) (fun _ _ _ => False) := by
  subst hx; subst hy; subst hu
  refine XCt.of hfl (by decide +kernel) (Nat.le_of_ble_eq_true rfl) ?_
  intro p' e' s' m' g' b' t' c' C hret hname hnt hmd
  refine XV.run C okM_inspects 2 (q := (3, ([some (.ref (213)), some (.ref (214)), some (.int (nI (10 + 99 * i))), some (.int (nI a)), some (.int (nI b)), some (.int (nI a))], []))) rfl ?_
  have loop : ∀ (d j : Nat), j + d = v → XV G 6 p' l e' ({ frames := 1, cells := 0, slots := 0, locals := 22 } : Room) s' m' g' b' t' c' (XEnd G b' (fun r' n' h' => r' = none ∧ n' = n ∧ h' = setM h (putRow g i (rLook (rowOf g i) a v (g 0))) pa tr mx td F) (fun _ _ _ => False) g' s' 0 0) 3 [some (.ref (213)), some (.ref (214)), some (.int (nI (10 + 99 * i))), some (.int (nI a)), some (.int (nI b)), some (.int (nI (a + j)))] [] n (setM h (putRow g i (rLook (rowOf g i) a j (g 0))) pa tr mx td F) 0 0 := by
    intro d
    induction d with
    | zero =>
      intro j hj
      refine XV.run C okM_inspects 2 (q := (7, ([some (.ref (213)), some (.ref (214)), some (.int (nI (10 + 99 * i))), some (.int (nI a)), some (.int (nI b)), some (.int (nI (a + j)))], [.int (nI b), .int (nI (a + j))]))) rfl ?_
      refine XV.icmp_gt C (tgt := 65) (xlk_ok okM_inspects rfl) rfl (fun _ => ?_) (fun hc => absurd (nI_lt (by omega) (by omega)) hc)
      exact XV.vret C (xlk_ok okM_inspects rfl) hret (Nat.le_of_ble_eq_true rfl) (Nat.le_of_ble_eq_true rfl) (⟨rfl, rfl, by rw [show j = v by omega]⟩)
    | succ d ih =>
      intro j hj
      refine XV.run C okM_inspects 2 (q := (7, ([some (.ref (213)), some (.ref (214)), some (.int (nI (10 + 99 * i))), some (.int (nI a)), some (.int (nI b)), some (.int (nI (a + j)))], [.int (nI b), .int (nI (a + j))]))) rfl ?_
      refine XV.icmp_gt C (tgt := 65) (xlk_ok okM_inspects rfl) rfl (fun hc => absurd hc (nI_nlt (by omega) (by omega))) (fun _ => ?_)
      refine XV.run C okM_inspects 12 (q := (26, ([some (.ref (213)), some (.ref (214)), some (.int (nI (10 + 99 * i))), some (.int (nI a)), some (.int (nI b)), some (.int (nI (a + j)))], [.int (((nI (10 + 99 * i)) + 27) + (nI (a + j))), .ref (214), .int (((nI (10 + 99 * i)) + 51) + (nI (a + j))), .ref (214)]))) rfl ?_
      refine XV.ialdC C (N := 505) (f := (putRow g i (rLook (rowOf g i) a j (g 0)))) (a := (10 + 99 * i + (27 + (a + j)))) (xlk_ok okM_inspects rfl) (by omega) (by omega) (mw_1) (ix3 (10 + 99 * i) (a + j) (d := 27) rfl) (by omega) (by decide) ?_
      rw [show ((putRow g i (rLook (rowOf g i) a j (g 0))) (10 + 99 * i + (27 + (a + j))) : Int32) = (rLook (rowOf g i) a j (g 0)) (27 + (a + j)) from putRow_at (by omega)]
      refine XV.iastC C (N := 505) (f := (putRow g i (rLook (rowOf g i) a j (g 0)))) (a := (10 + 99 * i + (51 + (a + j)))) (xlk_ok okM_inspects rfl) (by omega) (by omega) (mw_1) (ix3 (10 + 99 * i) (a + j) (d := 51) rfl) (by omega) (by decide) ?_
      refine XV.cast ((mw_u1 _).trans (congrArg (fun w => setM h w pa tr mx td F) (putRow_upd (by omega)))) ?_
      refine XV.run C okM_inspects 9 (q := (40, ([some (.ref (213)), some (.ref (214)), some (.int (nI (10 + 99 * i))), some (.int (nI a)), some (.int (nI b)), some (.int (nI (a + j)))], [.int (nI (a + j)), .int (nI (10 + 99 * i)), .ref (214), .int (((nI (10 + 99 * i)) + 27) + (nI (a + j))), .ref (214)]))) rfl ?_
      refine XV.callS C (As := [.ref (214), .int (nI (10 + 99 * i)), .int (nI (a + j))]) (rest := [.int (((nI (10 + 99 * i)) + 27) + (nI (a + j))), .ref (214)]) (ct_M_broken hfl (X := 10 + 99 * i) (mw_1) (by omega) (by omega) (by decide) (by omega) (s := a + j) (rfl) (rfl) (by omega) (by rw [show putRow g i (upd (rLook (rowOf g i) a j (g 0)) (51 + (a + j)) ((rLook (rowOf g i) a j (g 0)) (27 + (a + j)))) (10 + 99 * i) = rowOf g i 0 from (putRow_at (k := 0) (by omega)).trans ((upd_ne (by omega)).trans (look0 _ _ _ _))]; exact ne_of_gt hq)) (xlk_ok okM_inspects rfl) rfl wM_M_40 wS_M_broken wN_M wB_M_broken hy_M_broken (fun q => q.elim) ⟨Nat.le_of_ble_eq_true rfl, Nat.le_of_ble_eq_true rfl⟩ ⟨Nat.le_of_ble_eq_true rfl, Nat.le_of_ble_eq_true rfl⟩ (Nat.le_of_ble_eq_true rfl) (fun r n h hp => ?_) (fun _ _ _ q => q.elim)
      obtain ⟨rfl, rfl, rfl⟩ := hp
      rw [show (brk (atF (putRow g i (upd (rLook (rowOf g i) a j (g 0)) (51 + (a + j)) ((rLook (rowOf g i) a j (g 0)) (27 + (a + j))))) (10 + 99 * i)) (a + j) : Int32) = brk (upd (rLook (rowOf g i) a j (g 0)) (51 + (a + j)) ((rLook (rowOf g i) a j (g 0)) (27 + (a + j)))) (a + j) from brk_put (by omega)]
      refine XV.iastC C (N := 505) (f := (putRow g i (upd (rLook (rowOf g i) a j (g 0)) (51 + (a + j)) ((rLook (rowOf g i) a j (g 0)) (27 + (a + j)))))) (a := (10 + 99 * i + (27 + (a + j)))) (xlk_ok okM_inspects rfl) (by omega) (by omega) (mw_1) (ix3 (10 + 99 * i) (a + j) (d := 27) rfl) (by omega) (by decide) ?_
      refine XV.cast ((mw_u1 _).trans (congrArg (fun w => setM h w pa tr mx td F) (putRow_upd (by omega)))) ?_
      refine XV.run C okM_inspects 7 (q := (53, ([some (.ref (213)), some (.ref (214)), some (.int (nI (10 + 99 * i))), some (.int (nI a)), some (.int (nI b)), some (.int (nI (a + j)))], [.ref (213), .int (((nI (10 + 99 * i)) + 75) + (nI (a + j))), .ref (214)]))) rfl ?_
      refine XV.getf C (ci := 5) (kf := 0) (v := .ref (214)) (xlk_ok okM_inspects rfl) rfl (by decide) wF_M_7 (by omega) (by omega) (mw_o) rfl ?_
      refine XV.run C okM_inspects 1 (q := (57, ([some (.ref (213)), some (.ref (214)), some (.int (nI (10 + 99 * i))), some (.int (nI a)), some (.int (nI b)), some (.int (nI (a + j)))], [.int (0), .ref (214), .int (((nI (10 + 99 * i)) + 75) + (nI (a + j))), .ref (214)]))) rfl ?_
      refine XV.ialdC C (N := 505) (f := (putRow g i (upd (upd (rLook (rowOf g i) a j (g 0)) (51 + (a + j)) ((rLook (rowOf g i) a j (g 0)) (27 + (a + j)))) (27 + (a + j)) (brk (upd (rLook (rowOf g i) a j (g 0)) (51 + (a + j)) ((rLook (rowOf g i) a j (g 0)) (27 + (a + j)))) (a + j))))) (a := 0) (xlk_ok okM_inspects rfl) (by omega) (by omega) (mw_1) (rfl) (by decide) (by decide) ?_
      rw [show ((putRow g i (upd (upd (rLook (rowOf g i) a j (g 0)) (51 + (a + j)) ((rLook (rowOf g i) a j (g 0)) (27 + (a + j)))) (27 + (a + j)) (brk (upd (rLook (rowOf g i) a j (g 0)) (51 + (a + j)) ((rLook (rowOf g i) a j (g 0)) (27 + (a + j)))) (a + j)))) 0 : Int32) = g 0 from putRow_lo (by decide)]
      refine XV.iastC C (N := 505) (f := (putRow g i (upd (upd (rLook (rowOf g i) a j (g 0)) (51 + (a + j)) ((rLook (rowOf g i) a j (g 0)) (27 + (a + j)))) (27 + (a + j)) (brk (upd (rLook (rowOf g i) a j (g 0)) (51 + (a + j)) ((rLook (rowOf g i) a j (g 0)) (27 + (a + j)))) (a + j))))) (a := (10 + 99 * i + (75 + (a + j)))) (xlk_ok okM_inspects rfl) (by omega) (by omega) (mw_1) (ix3 (10 + 99 * i) (a + j) (d := 75) rfl) (by omega) (by decide) ?_
      refine XV.cast ((mw_u1 _).trans (congrArg (fun w => setM h w pa tr mx td F) (putRow_upd (by omega)))) ?_
      refine XV.run C okM_inspects 2 (q := (3, ([some (.ref (213)), some (.ref (214)), some (.int (nI (10 + 99 * i))), some (.int (nI a)), some (.int (nI b)), some (.int ((nI (a + j)) + 1))], []))) rfl ?_
      rw [nI_1]
      refine XV.cast (congrArg (fun w => setM h (putRow g i w) pa tr mx td F) (rLook_s (rowOf g i) a j (g 0) (by omega))) ?_
      exact ih (j + 1) (by omega)
  refine XV.cast (h' := setM h (putRow g i (rLook (rowOf g i) a 0 (g 0))) pa tr mx td F) (by rw [rLook_0, putRow_self]) ?_
  exact loop v 0 (by omega)
theorem rBendT_of (r : Nat → Int32) (lo n : Nat) (t : Int32) : rBend (upd r 2 (r 2 + t)) lo n t = rBendT r lo n t := by
  funext k
  unfold rBend rBendT
  by_cases h : k = 2
  · subst h
    rw [if_neg (by omega), upd_eq, upd_eq]
  · rw [upd_ne h, upd_ne h]
    rfl
theorem putRow_of {g : Nat → Int32} {i : Nat} {w r : Nat → Int32} (h : rowOf w i = r) : w = putRow w i r := by
  rw [← h, putRow_self]
set_option maxHeartbeats 4000000 in
set_option maxRecDepth 100000 in
theorem ct_M_goes {l : Launch} (hfl : l.stackTraces = false) {G : XG} {n : Nat} {h : XH} {g pa tr mx td F : Nat → Int32} (hn : 215 ≤ n) {k : Nat} (hm : g 1 = nI k) (hk : k ≤ 5) {a b : Nat} {x y : Int32} (hx : x = nI a) (hy : y = nI b) (ha : a < 8) (hb : b < 8) (t : Int32) : XCt l G False (Cond.code yM_goes bM_goes 8 none) yM_goes 1 20 0 0 [.ref (213), .int (x), .int (y), .int (t)] n (setM h g pa tr mx td F) (fun r' n' h' => r' = none ∧ n' = n ∧ h' = setM h (travK g (min a b) (max a b) k t) pa tr mx td F) (fun _ _ _ => False) := by
  subst hx; subst hy
  refine XCt.of hfl (by decide +kernel) (Nat.le_of_ble_eq_true rfl) ?_
  intro p' e' s' m' g' b' t' c' C hret hname hnt hmd
  refine XV.run C okM_goes 2 (q := (2, ([some (.ref (213)), some (.int (nI a)), some (.int (nI b)), some (.int (t)), none, none, none, none], [.int (nI b), .int (nI a)]))) rfl ?_
  refine XV.icmp_ge C (tgt := 9) (xlk_ok okM_goes rfl) rfl (fun c2 => ?_) (fun c2 => ?_)
  ·
    have q2 : b ≤ a := (nI_leI (by omega) (by omega)).mp c2
    obtain ⟨e4, e5⟩ : b = min a b ∧ a = max a b := by omega
    refine XV.run C okM_goes 4 (q := (14, ([some (.ref (213)), some (.int (nI a)), some (.int (nI b)), some (.int (t)), some (.int (nI b)), none, none, none], [.int (nI b), .int (nI a)]))) rfl ?_
    refine XV.icmp_ge C (tgt := 21) (xlk_ok okM_goes rfl) rfl (fun _ => ?_) (fun hc => absurd (c2) hc)
    refine XV.run C okM_goes 4 (q := (27, ([some (.ref (213)), some (.int (nI a)), some (.int (nI b)), some (.int (t)), some (.int (nI b)), some (.int (nI a)), some (.int (0)), none], []))) rfl ?_
    refine XV.drop (ls' := [some (.ref (213)), none, none, some (.int (t)), some (.int (nI (min a b))), some (.int (nI (max a b))), some (.int (0)), none]) ?_ rfl ⟨rfl, rfl, congrArg (fun q => some (Value.int (nI q))) e4, congrArg (fun q => some (Value.int (nI q))) e5, rfl, trivial⟩
    have loop : ∀ (d j : Nat), j + d = k → XV G 8 p' l e' ({ frames := 1, cells := 0, slots := 0, locals := 20 } : Room) s' m' g' b' t' c' (XEnd G b' (fun r' n' h' => r' = none ∧ n' = n ∧ h' = setM h (travK g (min a b) (max a b) k t) pa tr mx td F) (fun _ _ _ => False) g' s' 0 0) 27 [some (.ref (213)), none, none, some (.int (t)), some (.int (nI (min a b))), some (.int (nI (max a b))), some (.int (nI j)), none] [] n (setM h (mapRows g (fun r => rBendT r (3 * min a b) (3 * max a b + 3 - 3 * min a b) t) j) pa tr mx td F) 0 0 := by
      intro d
      induction d with
      | zero =>
        intro j hj
        refine XV.run C okM_goes 2 (q := (30, ([some (.ref (213)), none, none, some (.int (t)), some (.int (nI (min a b))), some (.int (nI (max a b))), some (.int (nI j)), none], [.ref (213), .int (nI j)]))) rfl ?_
        refine XV.getf C (ci := 5) (kf := 0) (v := .ref (214)) (xlk_ok okM_goes rfl) rfl (by decide) wF_M_7 (by omega) (by omega) (mw_o) rfl ?_
        refine XV.run C okM_goes 1 (q := (34, ([some (.ref (213)), none, none, some (.int (t)), some (.int (nI (min a b))), some (.int (nI (max a b))), some (.int (nI j)), none], [.int (1), .ref (214), .int (nI j)]))) rfl ?_
        refine XV.ialdC C (N := 505) (f := (mapRows g (fun r => rBendT r (3 * min a b) (3 * max a b + 3 - 3 * min a b) t) j)) (a := 1) (xlk_ok okM_goes rfl) (by omega) (by omega) (mw_1) (rfl) (by decide) (by decide) ?_
        refine XV.icmp_ge C (tgt := 102) (xlk_ok okM_goes rfl) rfl (fun _ => ?_) (fun hc => absurd (by rw [mapRows_lo _ _ _ _ (by decide), hm]; exact nI_le (by omega) (by omega)) hc)
        obtain rfl : k = j := by omega
        refine XV.run C okM_goes 1 (q := (103, ([some (.ref (213)), none, none, some (.int (t)), some (.int (nI (min a b))), some (.int (nI (max a b))), some (.int (nI k)), none], [.ref (213)]))) rfl ?_
        refine XV.getf C (ci := 5) (kf := 0) (v := .ref (214)) (xlk_ok okM_goes rfl) rfl (by decide) wF_M_7 (by omega) (by omega) (mw_o) rfl ?_
        refine XV.run C okM_goes 2 (q := (109, ([some (.ref (213)), none, none, some (.int (t)), some (.int (nI (min a b))), some (.int (nI (max a b))), some (.int (nI k)), none], [.int (7), .ref (214), .int (7), .ref (214)]))) rfl ?_
        refine XV.ialdC C (N := 505) (f := (mapRows g (fun r => rBendT r (3 * min a b) (3 * max a b + 3 - 3 * min a b) t) k)) (a := 7) (xlk_ok okM_goes rfl) (by omega) (by omega) (mw_1) (rfl) (by decide) (by decide) ?_
        refine XV.run C okM_goes 2 (q := (112, ([some (.ref (213)), none, none, some (.int (t)), some (.int (nI (min a b))), some (.int (nI (max a b))), some (.int (nI k)), none], [.int (((mapRows g (fun r => rBendT r (3 * min a b) (3 * max a b + 3 - 3 * min a b) t) k) 7) + t), .int (7), .ref (214)]))) rfl ?_
        refine XV.iastC C (N := 505) (f := (mapRows g (fun r => rBendT r (3 * min a b) (3 * max a b + 3 - 3 * min a b) t) k)) (a := 7) (xlk_ok okM_goes rfl) (by omega) (by omega) (mw_1) (rfl) (by decide) (by decide) ?_
        refine XV.cast (mw_u1 (upd (mapRows g (fun r => rBendT r (3 * min a b) (3 * max a b + 3 - 3 * min a b) t) k) 7 (((mapRows g (fun r => rBendT r (3 * min a b) (3 * max a b + 3 - 3 * min a b) t) k) 7) + t))) ?_
        exact XV.vret C (xlk_ok okM_goes rfl) hret (Nat.le_of_ble_eq_true rfl) (Nat.le_of_ble_eq_true rfl) (⟨rfl, rfl, congrArg (fun q => setM h (upd (mapRows g (fun r => rBendT r (3 * min a b) (3 * max a b + 3 - 3 * min a b) t) k) 7 (q + t)) pa tr mx td F) (mapRows_lo _ _ _ _ (by decide))⟩)
      | succ d ih =>
        intro j hj
        refine XV.run C okM_goes 2 (q := (30, ([some (.ref (213)), none, none, some (.int (t)), some (.int (nI (min a b))), some (.int (nI (max a b))), some (.int (nI j)), none], [.ref (213), .int (nI j)]))) rfl ?_
        refine XV.getf C (ci := 5) (kf := 0) (v := .ref (214)) (xlk_ok okM_goes rfl) rfl (by decide) wF_M_7 (by omega) (by omega) (mw_o) rfl ?_
        refine XV.run C okM_goes 1 (q := (34, ([some (.ref (213)), none, none, some (.int (t)), some (.int (nI (min a b))), some (.int (nI (max a b))), some (.int (nI j)), none], [.int (1), .ref (214), .int (nI j)]))) rfl ?_
        refine XV.ialdC C (N := 505) (f := (mapRows g (fun r => rBendT r (3 * min a b) (3 * max a b + 3 - 3 * min a b) t) j)) (a := 1) (xlk_ok okM_goes rfl) (by omega) (by omega) (mw_1) (rfl) (by decide) (by decide) ?_
        refine XV.icmp_ge C (tgt := 102) (xlk_ok okM_goes rfl) rfl (fun hc => absurd hc (by rw [mapRows_lo _ _ _ _ (by decide), hm]; exact nI_ge (by omega) (by omega))) (fun _ => ?_)
        refine XV.run C okM_goes 1 (q := (39, ([some (.ref (213)), none, none, some (.int (t)), some (.int (nI (min a b))), some (.int (nI (max a b))), some (.int (nI j)), none], [.ref (213)]))) rfl ?_
        refine XV.getf C (ci := 5) (kf := 0) (v := .ref (214)) (xlk_ok okM_goes rfl) rfl (by decide) wF_M_7 (by omega) (by omega) (mw_o) rfl ?_
        refine XV.run C okM_goes 1 (q := (44, ([some (.ref (213)), none, none, some (.int (t)), some (.int (nI (min a b))), some (.int (nI (max a b))), some (.int (nI j)), none], [.int (nI j), .ref (214)]))) rfl ?_
        refine XV.callS C (As := [.int (nI j)]) (rest := [.ref (214)]) (ct_M_row hfl (i := j) (rfl)) (xlk_ok okM_goes rfl) rfl wM_M_59 wS_M_row wN_M wB_M_row hy_M_row (fun q => q.elim) ⟨Nat.le_of_ble_eq_true rfl, Nat.le_of_ble_eq_true rfl⟩ ⟨Nat.le_of_ble_eq_true rfl, Nat.le_of_ble_eq_true rfl⟩ (Nat.le_of_ble_eq_true rfl) (fun r n h hp => ?_) (fun _ _ _ q => q.elim)
        obtain ⟨rfl, rfl, rfl⟩ := hp
        refine XV.run C okM_goes 3 (q := (50, ([some (.ref (213)), none, none, some (.int (t)), some (.int (nI (min a b))), some (.int (nI (max a b))), some (.int (nI j)), none], [.int ((nI (10 + 99 * j)) + 2), .ref (214), .int ((nI (10 + 99 * j)) + 2), .ref (214)]))) rfl ?_
        refine XV.ialdC C (N := 505) (f := (mapRows g (fun r => rBendT r (3 * min a b) (3 * max a b + 3 - 3 * min a b) t) j)) (a := (10 + 99 * j + 2)) (xlk_ok okM_goes rfl) (by omega) (by omega) (mw_1) (by rw [show (2 : Int32) = nI 2 from rfl, nI_add]) (by omega) (by decide) ?_
        refine XV.run C okM_goes 2 (q := (53, ([some (.ref (213)), none, none, some (.int (t)), some (.int (nI (min a b))), some (.int (nI (max a b))), some (.int (nI j)), none], [.int (((mapRows g (fun r => rBendT r (3 * min a b) (3 * max a b + 3 - 3 * min a b) t) j) (10 + 99 * j + 2)) + t), .int ((nI (10 + 99 * j)) + 2), .ref (214)]))) rfl ?_
        refine XV.iastC C (N := 505) (f := (mapRows g (fun r => rBendT r (3 * min a b) (3 * max a b + 3 - 3 * min a b) t) j)) (a := (10 + 99 * j + 2)) (xlk_ok okM_goes rfl) (by omega) (by omega) (mw_1) (by rw [show (2 : Int32) = nI 2 from rfl, nI_add]) (by omega) (by decide) ?_
        have er : rowOf (mapRows g (fun r => rBendT r (3 * min a b) (3 * max a b + 3 - 3 * min a b) t) j) j = rowOf g j := mapRows_at _ _ _ _ (Nat.le_refl j)
        refine XV.cast ((mw_u1 _).trans (congrArg (fun w => setM h w pa tr mx td F) ((congrArg (fun w => upd w (10 + 99 * j + 2) ((mapRows g (fun r => rBendT r (3 * min a b) (3 * max a b + 3 - 3 * min a b) t) j) (10 + 99 * j + 2) + t)) (putRow_of (g := g) er)).trans ((putRow_upd (by decide)).trans (congrArg (fun v => putRow (mapRows g (fun r => rBendT r (3 * min a b) (3 * max a b + 3 - 3 * min a b) t) j) j (upd (rowOf g j) 2 (v + t))) (show (mapRows g (fun r => rBendT r (3 * min a b) (3 * max a b + 3 - 3 * min a b) t) j) (10 + 99 * j + 2) = rowOf g j 2 from congrFun er 2)))))) ?_
        refine XV.run C okM_goes 3 (q := (58, ([some (.ref (213)), none, none, some (.int (t)), some (.int (nI (min a b))), some (.int (nI (max a b))), some (.int (nI j)), none], [.int (3 * (nI (min a b)))]))) rfl ?_
        rw [show (3 * (nI (min a b)) : Int32) = nI (3 * min a b) from pk_mul 3 _]
        refine XV.run C okM_goes 1 (q := (60, ([some (.ref (213)), none, none, some (.int (t)), some (.int (nI (min a b))), some (.int (nI (max a b))), some (.int (nI j)), some (.int (nI (3 * min a b)))], []))) rfl ?_
        have loop2 : ∀ (e v : Nat), v + e = 3 * max a b + 3 - 3 * min a b → XV G 8 p' l e' ({ frames := 1, cells := 0, slots := 0, locals := 20 } : Room) s' m' g' b' t' c' (XEnd G b' (fun r' n' h' => r' = none ∧ n' = n ∧ h' = setM h (travK g (min a b) (max a b) k t) pa tr mx td F) (fun _ _ _ => False) g' s' 0 0) 60 [some (.ref (213)), none, none, some (.int (t)), some (.int (nI (min a b))), some (.int (nI (max a b))), some (.int (nI j)), some (.int (nI (3 * min a b + v)))] [] n (setM h (putRow (mapRows g (fun r => rBendT r (3 * min a b) (3 * max a b + 3 - 3 * min a b) t) j) j (rBend (upd (rowOf g j) 2 (rowOf g j 2 + t)) (3 * min a b) v t)) pa tr mx td F) 0 0 := by
          intro e
          induction e with
          | zero =>
            intro v hv2
            refine XV.run C okM_goes 6 (q := (68, ([some (.ref (213)), none, none, some (.int (t)), some (.int (nI (min a b))), some (.int (nI (max a b))), some (.int (nI j)), some (.int (nI (3 * min a b + v)))], [.int ((3 * (nI (max a b))) + 3), .int (nI (3 * min a b + v))]))) rfl ?_
            refine XV.icmp_ge C (tgt := 96) (xlk_ok okM_goes rfl) rfl (fun _ => ?_) (fun hc => absurd (by rw [show (3 : Int32) * nI (max a b) = nI (3 * max a b) from pk_mul 3 _, show (3 : Int32) = nI 3 from rfl, nI_add]; exact nI_le (by omega) (by omega)) hc)
            obtain rfl : 3 * max a b + 3 - 3 * min a b = v := by omega
            refine XV.cast (congrArg (fun w => setM h w pa tr mx td F) ((congrArg (fun w => putRow (mapRows g (fun r => rBendT r (3 * min a b) (3 * max a b + 3 - 3 * min a b) t) j) j w) (rBendT_of _ _ _ _)).trans (mapRows_s g (fun r => rBendT r (3 * min a b) (3 * max a b + 3 - 3 * min a b) t) j))) ?_
            refine XV.drop (ls' := [some (.ref (213)), none, none, some (.int (t)), some (.int (nI (min a b))), some (.int (nI (max a b))), some (.int (nI j)), none]) ?_ rfl (by simp [xle])
            refine XV.run C okM_goes 2 (q := (27, ([some (.ref (213)), none, none, some (.int (t)), some (.int (nI (min a b))), some (.int (nI (max a b))), some (.int ((nI j) + 1)), none], []))) rfl ?_
            rw [nI_1]
            exact XV.drop (ih (j + 1) (by omega)) rfl (by simp [xle])
          | succ e ih2 =>
            intro v hv2
            refine XV.run C okM_goes 6 (q := (68, ([some (.ref (213)), none, none, some (.int (t)), some (.int (nI (min a b))), some (.int (nI (max a b))), some (.int (nI j)), some (.int (nI (3 * min a b + v)))], [.int ((3 * (nI (max a b))) + 3), .int (nI (3 * min a b + v))]))) rfl ?_
            refine XV.icmp_ge C (tgt := 96) (xlk_ok okM_goes rfl) rfl (fun hc => absurd hc (by rw [show (3 : Int32) * nI (max a b) = nI (3 * max a b) from pk_mul 3 _, show (3 : Int32) = nI 3 from rfl, nI_add]; exact nI_ge (by omega) (by omega))) (fun _ => ?_)
            refine XV.run C okM_goes 1 (q := (72, ([some (.ref (213)), none, none, some (.int (t)), some (.int (nI (min a b))), some (.int (nI (max a b))), some (.int (nI j)), some (.int (nI (3 * min a b + v)))], [.ref (213)]))) rfl ?_
            refine XV.getf C (ci := 5) (kf := 0) (v := .ref (214)) (xlk_ok okM_goes rfl) rfl (by decide) wF_M_7 (by omega) (by omega) (mw_o) rfl ?_
            refine XV.run C okM_goes 1 (q := (77, ([some (.ref (213)), none, none, some (.int (t)), some (.int (nI (min a b))), some (.int (nI (max a b))), some (.int (nI j)), some (.int (nI (3 * min a b + v)))], [.int (nI j), .ref (214)]))) rfl ?_
            refine XV.callS C (As := [.int (nI j)]) (rest := [.ref (214)]) (ct_M_row hfl (i := j) (rfl)) (xlk_ok okM_goes rfl) rfl wM_M_59 wS_M_row wN_M wB_M_row hy_M_row (fun q => q.elim) ⟨Nat.le_of_ble_eq_true rfl, Nat.le_of_ble_eq_true rfl⟩ ⟨Nat.le_of_ble_eq_true rfl, Nat.le_of_ble_eq_true rfl⟩ (Nat.le_of_ble_eq_true rfl) (fun r n h hp => ?_) (fun _ _ _ q => q.elim)
            obtain ⟨rfl, rfl, rfl⟩ := hp
            refine XV.run C okM_goes 5 (q := (86, ([some (.ref (213)), none, none, some (.int (t)), some (.int (nI (min a b))), some (.int (nI (max a b))), some (.int (nI j)), some (.int (nI (3 * min a b + v)))], [.int (((nI (10 + 99 * j)) + 3) + (nI (3 * min a b + v))), .ref (214), .int (((nI (10 + 99 * j)) + 3) + (nI (3 * min a b + v))), .ref (214)]))) rfl ?_
            refine XV.ialdC C (N := 505) (f := (putRow (mapRows g (fun r => rBendT r (3 * min a b) (3 * max a b + 3 - 3 * min a b) t) j) j (rBend (upd (rowOf g j) 2 (rowOf g j 2 + t)) (3 * min a b) v t))) (a := (10 + 99 * j + (3 + (3 * min a b + v)))) (xlk_ok okM_goes rfl) (by omega) (by omega) (mw_1) (ix3 (10 + 99 * j) (3 * min a b + v) (d := 3) rfl) (by omega) (by decide) ?_
            refine XV.run C okM_goes 2 (q := (89, ([some (.ref (213)), none, none, some (.int (t)), some (.int (nI (min a b))), some (.int (nI (max a b))), some (.int (nI j)), some (.int (nI (3 * min a b + v)))], [.int (((putRow (mapRows g (fun r => rBendT r (3 * min a b) (3 * max a b + 3 - 3 * min a b) t) j) j (rBend (upd (rowOf g j) 2 (rowOf g j 2 + t)) (3 * min a b) v t)) (10 + 99 * j + (3 + (3 * min a b + v)))) + t), .int (((nI (10 + 99 * j)) + 3) + (nI (3 * min a b + v))), .ref (214)]))) rfl ?_
            rw [show (((putRow (mapRows g (fun r => rBendT r (3 * min a b) (3 * max a b + 3 - 3 * min a b) t) j) j (rBend (upd (rowOf g j) 2 (rowOf g j 2 + t)) (3 * min a b) v t)) (10 + 99 * j + (3 + (3 * min a b + v)))) + t : Int32) = (rBend (upd (rowOf g j) 2 (rowOf g j 2 + t)) (3 * min a b) v t) (3 + (3 * min a b + v)) + t from congrArg (fun q => q + t) (putRow_at (by omega))]
            refine XV.iastC C (N := 505) (f := (putRow (mapRows g (fun r => rBendT r (3 * min a b) (3 * max a b + 3 - 3 * min a b) t) j) j (rBend (upd (rowOf g j) 2 (rowOf g j 2 + t)) (3 * min a b) v t))) (a := (10 + 99 * j + (3 + (3 * min a b + v)))) (xlk_ok okM_goes rfl) (by omega) (by omega) (mw_1) (ix3 (10 + 99 * j) (3 * min a b + v) (d := 3) rfl) (by omega) (by decide) ?_
            refine XV.cast ((mw_u1 _).trans (congrArg (fun w => setM h w pa tr mx td F) ((putRow_upd (by omega)).trans (congrArg (fun w => putRow (mapRows g (fun r => rBendT r (3 * min a b) (3 * max a b + 3 - 3 * min a b) t) j) j w) (rBend_s (upd (rowOf g j) 2 (rowOf g j 2 + t)) (3 * min a b) v t))))) ?_
            refine XV.run C okM_goes 2 (q := (60, ([some (.ref (213)), none, none, some (.int (t)), some (.int (nI (min a b))), some (.int (nI (max a b))), some (.int (nI j)), some (.int ((nI (3 * min a b + v)) + 1))], []))) rfl ?_
            rw [nI_1]
            exact ih2 (v + 1) (by omega)
        refine XV.cast (h' := setM h (putRow (mapRows g (fun r => rBendT r (3 * min a b) (3 * max a b + 3 - 3 * min a b) t) j) j (rBend (upd (rowOf g j) 2 (rowOf g j 2 + t)) (3 * min a b) 0 t)) pa tr mx td F) (by rw [rBend_0]) ?_
        exact loop2 (3 * max a b + 3 - 3 * min a b) 0 (by omega)
    refine XV.cast (h' := setM h (mapRows g (fun r => rBendT r (3 * min a b) (3 * max a b + 3 - 3 * min a b) t) 0) pa tr mx td F) (by rw [mapRows_0]) ?_
    exact loop k 0 (by omega)
  ·
    have q2 : a < b := Nat.lt_of_not_le fun q => c2 (nI_le q (by omega))
    obtain ⟨e4, e5⟩ : a = min a b ∧ b = max a b := by omega
    refine XV.run C okM_goes 5 (q := (14, ([some (.ref (213)), some (.int (nI a)), some (.int (nI b)), some (.int (t)), some (.int (nI a)), none, none, none], [.int (nI b), .int (nI a)]))) rfl ?_
    refine XV.icmp_ge C (tgt := 21) (xlk_ok okM_goes rfl) rfl (fun hc => absurd hc (c2)) (fun _ => ?_)
    refine XV.run C okM_goes 5 (q := (27, ([some (.ref (213)), some (.int (nI a)), some (.int (nI b)), some (.int (t)), some (.int (nI a)), some (.int (nI b)), some (.int (0)), none], []))) rfl ?_
    refine XV.drop (ls' := [some (.ref (213)), none, none, some (.int (t)), some (.int (nI (min a b))), some (.int (nI (max a b))), some (.int (0)), none]) ?_ rfl ⟨rfl, rfl, congrArg (fun q => some (Value.int (nI q))) e4, congrArg (fun q => some (Value.int (nI q))) e5, rfl, trivial⟩
    have loop : ∀ (d j : Nat), j + d = k → XV G 8 p' l e' ({ frames := 1, cells := 0, slots := 0, locals := 20 } : Room) s' m' g' b' t' c' (XEnd G b' (fun r' n' h' => r' = none ∧ n' = n ∧ h' = setM h (travK g (min a b) (max a b) k t) pa tr mx td F) (fun _ _ _ => False) g' s' 0 0) 27 [some (.ref (213)), none, none, some (.int (t)), some (.int (nI (min a b))), some (.int (nI (max a b))), some (.int (nI j)), none] [] n (setM h (mapRows g (fun r => rBendT r (3 * min a b) (3 * max a b + 3 - 3 * min a b) t) j) pa tr mx td F) 0 0 := by
      intro d
      induction d with
      | zero =>
        intro j hj
        refine XV.run C okM_goes 2 (q := (30, ([some (.ref (213)), none, none, some (.int (t)), some (.int (nI (min a b))), some (.int (nI (max a b))), some (.int (nI j)), none], [.ref (213), .int (nI j)]))) rfl ?_
        refine XV.getf C (ci := 5) (kf := 0) (v := .ref (214)) (xlk_ok okM_goes rfl) rfl (by decide) wF_M_7 (by omega) (by omega) (mw_o) rfl ?_
        refine XV.run C okM_goes 1 (q := (34, ([some (.ref (213)), none, none, some (.int (t)), some (.int (nI (min a b))), some (.int (nI (max a b))), some (.int (nI j)), none], [.int (1), .ref (214), .int (nI j)]))) rfl ?_
        refine XV.ialdC C (N := 505) (f := (mapRows g (fun r => rBendT r (3 * min a b) (3 * max a b + 3 - 3 * min a b) t) j)) (a := 1) (xlk_ok okM_goes rfl) (by omega) (by omega) (mw_1) (rfl) (by decide) (by decide) ?_
        refine XV.icmp_ge C (tgt := 102) (xlk_ok okM_goes rfl) rfl (fun _ => ?_) (fun hc => absurd (by rw [mapRows_lo _ _ _ _ (by decide), hm]; exact nI_le (by omega) (by omega)) hc)
        obtain rfl : k = j := by omega
        refine XV.run C okM_goes 1 (q := (103, ([some (.ref (213)), none, none, some (.int (t)), some (.int (nI (min a b))), some (.int (nI (max a b))), some (.int (nI k)), none], [.ref (213)]))) rfl ?_
        refine XV.getf C (ci := 5) (kf := 0) (v := .ref (214)) (xlk_ok okM_goes rfl) rfl (by decide) wF_M_7 (by omega) (by omega) (mw_o) rfl ?_
        refine XV.run C okM_goes 2 (q := (109, ([some (.ref (213)), none, none, some (.int (t)), some (.int (nI (min a b))), some (.int (nI (max a b))), some (.int (nI k)), none], [.int (7), .ref (214), .int (7), .ref (214)]))) rfl ?_
        refine XV.ialdC C (N := 505) (f := (mapRows g (fun r => rBendT r (3 * min a b) (3 * max a b + 3 - 3 * min a b) t) k)) (a := 7) (xlk_ok okM_goes rfl) (by omega) (by omega) (mw_1) (rfl) (by decide) (by decide) ?_
        refine XV.run C okM_goes 2 (q := (112, ([some (.ref (213)), none, none, some (.int (t)), some (.int (nI (min a b))), some (.int (nI (max a b))), some (.int (nI k)), none], [.int (((mapRows g (fun r => rBendT r (3 * min a b) (3 * max a b + 3 - 3 * min a b) t) k) 7) + t), .int (7), .ref (214)]))) rfl ?_
        refine XV.iastC C (N := 505) (f := (mapRows g (fun r => rBendT r (3 * min a b) (3 * max a b + 3 - 3 * min a b) t) k)) (a := 7) (xlk_ok okM_goes rfl) (by omega) (by omega) (mw_1) (rfl) (by decide) (by decide) ?_
        refine XV.cast (mw_u1 (upd (mapRows g (fun r => rBendT r (3 * min a b) (3 * max a b + 3 - 3 * min a b) t) k) 7 (((mapRows g (fun r => rBendT r (3 * min a b) (3 * max a b + 3 - 3 * min a b) t) k) 7) + t))) ?_
        exact XV.vret C (xlk_ok okM_goes rfl) hret (Nat.le_of_ble_eq_true rfl) (Nat.le_of_ble_eq_true rfl) (⟨rfl, rfl, congrArg (fun q => setM h (upd (mapRows g (fun r => rBendT r (3 * min a b) (3 * max a b + 3 - 3 * min a b) t) k) 7 (q + t)) pa tr mx td F) (mapRows_lo _ _ _ _ (by decide))⟩)
      | succ d ih =>
        intro j hj
        refine XV.run C okM_goes 2 (q := (30, ([some (.ref (213)), none, none, some (.int (t)), some (.int (nI (min a b))), some (.int (nI (max a b))), some (.int (nI j)), none], [.ref (213), .int (nI j)]))) rfl ?_
        refine XV.getf C (ci := 5) (kf := 0) (v := .ref (214)) (xlk_ok okM_goes rfl) rfl (by decide) wF_M_7 (by omega) (by omega) (mw_o) rfl ?_
        refine XV.run C okM_goes 1 (q := (34, ([some (.ref (213)), none, none, some (.int (t)), some (.int (nI (min a b))), some (.int (nI (max a b))), some (.int (nI j)), none], [.int (1), .ref (214), .int (nI j)]))) rfl ?_
        refine XV.ialdC C (N := 505) (f := (mapRows g (fun r => rBendT r (3 * min a b) (3 * max a b + 3 - 3 * min a b) t) j)) (a := 1) (xlk_ok okM_goes rfl) (by omega) (by omega) (mw_1) (rfl) (by decide) (by decide) ?_
        refine XV.icmp_ge C (tgt := 102) (xlk_ok okM_goes rfl) rfl (fun hc => absurd hc (by rw [mapRows_lo _ _ _ _ (by decide), hm]; exact nI_ge (by omega) (by omega))) (fun _ => ?_)
        refine XV.run C okM_goes 1 (q := (39, ([some (.ref (213)), none, none, some (.int (t)), some (.int (nI (min a b))), some (.int (nI (max a b))), some (.int (nI j)), none], [.ref (213)]))) rfl ?_
        refine XV.getf C (ci := 5) (kf := 0) (v := .ref (214)) (xlk_ok okM_goes rfl) rfl (by decide) wF_M_7 (by omega) (by omega) (mw_o) rfl ?_
        refine XV.run C okM_goes 1 (q := (44, ([some (.ref (213)), none, none, some (.int (t)), some (.int (nI (min a b))), some (.int (nI (max a b))), some (.int (nI j)), none], [.int (nI j), .ref (214)]))) rfl ?_
        refine XV.callS C (As := [.int (nI j)]) (rest := [.ref (214)]) (ct_M_row hfl (i := j) (rfl)) (xlk_ok okM_goes rfl) rfl wM_M_59 wS_M_row wN_M wB_M_row hy_M_row (fun q => q.elim) ⟨Nat.le_of_ble_eq_true rfl, Nat.le_of_ble_eq_true rfl⟩ ⟨Nat.le_of_ble_eq_true rfl, Nat.le_of_ble_eq_true rfl⟩ (Nat.le_of_ble_eq_true rfl) (fun r n h hp => ?_) (fun _ _ _ q => q.elim)
        obtain ⟨rfl, rfl, rfl⟩ := hp
        refine XV.run C okM_goes 3 (q := (50, ([some (.ref (213)), none, none, some (.int (t)), some (.int (nI (min a b))), some (.int (nI (max a b))), some (.int (nI j)), none], [.int ((nI (10 + 99 * j)) + 2), .ref (214), .int ((nI (10 + 99 * j)) + 2), .ref (214)]))) rfl ?_
        refine XV.ialdC C (N := 505) (f := (mapRows g (fun r => rBendT r (3 * min a b) (3 * max a b + 3 - 3 * min a b) t) j)) (a := (10 + 99 * j + 2)) (xlk_ok okM_goes rfl) (by omega) (by omega) (mw_1) (by rw [show (2 : Int32) = nI 2 from rfl, nI_add]) (by omega) (by decide) ?_
        refine XV.run C okM_goes 2 (q := (53, ([some (.ref (213)), none, none, some (.int (t)), some (.int (nI (min a b))), some (.int (nI (max a b))), some (.int (nI j)), none], [.int (((mapRows g (fun r => rBendT r (3 * min a b) (3 * max a b + 3 - 3 * min a b) t) j) (10 + 99 * j + 2)) + t), .int ((nI (10 + 99 * j)) + 2), .ref (214)]))) rfl ?_
        refine XV.iastC C (N := 505) (f := (mapRows g (fun r => rBendT r (3 * min a b) (3 * max a b + 3 - 3 * min a b) t) j)) (a := (10 + 99 * j + 2)) (xlk_ok okM_goes rfl) (by omega) (by omega) (mw_1) (by rw [show (2 : Int32) = nI 2 from rfl, nI_add]) (by omega) (by decide) ?_
        have er : rowOf (mapRows g (fun r => rBendT r (3 * min a b) (3 * max a b + 3 - 3 * min a b) t) j) j = rowOf g j := mapRows_at _ _ _ _ (Nat.le_refl j)
        refine XV.cast ((mw_u1 _).trans (congrArg (fun w => setM h w pa tr mx td F) ((congrArg (fun w => upd w (10 + 99 * j + 2) ((mapRows g (fun r => rBendT r (3 * min a b) (3 * max a b + 3 - 3 * min a b) t) j) (10 + 99 * j + 2) + t)) (putRow_of (g := g) er)).trans ((putRow_upd (by decide)).trans (congrArg (fun v => putRow (mapRows g (fun r => rBendT r (3 * min a b) (3 * max a b + 3 - 3 * min a b) t) j) j (upd (rowOf g j) 2 (v + t))) (show (mapRows g (fun r => rBendT r (3 * min a b) (3 * max a b + 3 - 3 * min a b) t) j) (10 + 99 * j + 2) = rowOf g j 2 from congrFun er 2)))))) ?_
        refine XV.run C okM_goes 3 (q := (58, ([some (.ref (213)), none, none, some (.int (t)), some (.int (nI (min a b))), some (.int (nI (max a b))), some (.int (nI j)), none], [.int (3 * (nI (min a b)))]))) rfl ?_
        rw [show (3 * (nI (min a b)) : Int32) = nI (3 * min a b) from pk_mul 3 _]
        refine XV.run C okM_goes 1 (q := (60, ([some (.ref (213)), none, none, some (.int (t)), some (.int (nI (min a b))), some (.int (nI (max a b))), some (.int (nI j)), some (.int (nI (3 * min a b)))], []))) rfl ?_
        have loop2 : ∀ (e v : Nat), v + e = 3 * max a b + 3 - 3 * min a b → XV G 8 p' l e' ({ frames := 1, cells := 0, slots := 0, locals := 20 } : Room) s' m' g' b' t' c' (XEnd G b' (fun r' n' h' => r' = none ∧ n' = n ∧ h' = setM h (travK g (min a b) (max a b) k t) pa tr mx td F) (fun _ _ _ => False) g' s' 0 0) 60 [some (.ref (213)), none, none, some (.int (t)), some (.int (nI (min a b))), some (.int (nI (max a b))), some (.int (nI j)), some (.int (nI (3 * min a b + v)))] [] n (setM h (putRow (mapRows g (fun r => rBendT r (3 * min a b) (3 * max a b + 3 - 3 * min a b) t) j) j (rBend (upd (rowOf g j) 2 (rowOf g j 2 + t)) (3 * min a b) v t)) pa tr mx td F) 0 0 := by
          intro e
          induction e with
          | zero =>
            intro v hv2
            refine XV.run C okM_goes 6 (q := (68, ([some (.ref (213)), none, none, some (.int (t)), some (.int (nI (min a b))), some (.int (nI (max a b))), some (.int (nI j)), some (.int (nI (3 * min a b + v)))], [.int ((3 * (nI (max a b))) + 3), .int (nI (3 * min a b + v))]))) rfl ?_
            refine XV.icmp_ge C (tgt := 96) (xlk_ok okM_goes rfl) rfl (fun _ => ?_) (fun hc => absurd (by rw [show (3 : Int32) * nI (max a b) = nI (3 * max a b) from pk_mul 3 _, show (3 : Int32) = nI 3 from rfl, nI_add]; exact nI_le (by omega) (by omega)) hc)
            obtain rfl : 3 * max a b + 3 - 3 * min a b = v := by omega
            refine XV.cast (congrArg (fun w => setM h w pa tr mx td F) ((congrArg (fun w => putRow (mapRows g (fun r => rBendT r (3 * min a b) (3 * max a b + 3 - 3 * min a b) t) j) j w) (rBendT_of _ _ _ _)).trans (mapRows_s g (fun r => rBendT r (3 * min a b) (3 * max a b + 3 - 3 * min a b) t) j))) ?_
            refine XV.drop (ls' := [some (.ref (213)), none, none, some (.int (t)), some (.int (nI (min a b))), some (.int (nI (max a b))), some (.int (nI j)), none]) ?_ rfl (by simp [xle])
            refine XV.run C okM_goes 2 (q := (27, ([some (.ref (213)), none, none, some (.int (t)), some (.int (nI (min a b))), some (.int (nI (max a b))), some (.int ((nI j) + 1)), none], []))) rfl ?_
            rw [nI_1]
            exact XV.drop (ih (j + 1) (by omega)) rfl (by simp [xle])
          | succ e ih2 =>
            intro v hv2
            refine XV.run C okM_goes 6 (q := (68, ([some (.ref (213)), none, none, some (.int (t)), some (.int (nI (min a b))), some (.int (nI (max a b))), some (.int (nI j)), some (.int (nI (3 * min a b + v)))], [.int ((3 * (nI (max a b))) + 3), .int (nI (3 * min a b + v))]))) rfl ?_
            refine XV.icmp_ge C (tgt := 96) (xlk_ok okM_goes rfl) rfl (fun hc => absurd hc (by rw [show (3 : Int32) * nI (max a b) = nI (3 * max a b) from pk_mul 3 _, show (3 : Int32) = nI 3 from rfl, nI_add]; exact nI_ge (by omega) (by omega))) (fun _ => ?_)
            refine XV.run C okM_goes 1 (q := (72, ([some (.ref (213)), none, none, some (.int (t)), some (.int (nI (min a b))), some (.int (nI (max a b))), some (.int (nI j)), some (.int (nI (3 * min a b + v)))], [.ref (213)]))) rfl ?_
            refine XV.getf C (ci := 5) (kf := 0) (v := .ref (214)) (xlk_ok okM_goes rfl) rfl (by decide) wF_M_7 (by omega) (by omega) (mw_o) rfl ?_
            refine XV.run C okM_goes 1 (q := (77, ([some (.ref (213)), none, none, some (.int (t)), some (.int (nI (min a b))), some (.int (nI (max a b))), some (.int (nI j)), some (.int (nI (3 * min a b + v)))], [.int (nI j), .ref (214)]))) rfl ?_
            refine XV.callS C (As := [.int (nI j)]) (rest := [.ref (214)]) (ct_M_row hfl (i := j) (rfl)) (xlk_ok okM_goes rfl) rfl wM_M_59 wS_M_row wN_M wB_M_row hy_M_row (fun q => q.elim) ⟨Nat.le_of_ble_eq_true rfl, Nat.le_of_ble_eq_true rfl⟩ ⟨Nat.le_of_ble_eq_true rfl, Nat.le_of_ble_eq_true rfl⟩ (Nat.le_of_ble_eq_true rfl) (fun r n h hp => ?_) (fun _ _ _ q => q.elim)
            obtain ⟨rfl, rfl, rfl⟩ := hp
            refine XV.run C okM_goes 5 (q := (86, ([some (.ref (213)), none, none, some (.int (t)), some (.int (nI (min a b))), some (.int (nI (max a b))), some (.int (nI j)), some (.int (nI (3 * min a b + v)))], [.int (((nI (10 + 99 * j)) + 3) + (nI (3 * min a b + v))), .ref (214), .int (((nI (10 + 99 * j)) + 3) + (nI (3 * min a b + v))), .ref (214)]))) rfl ?_
            refine XV.ialdC C (N := 505) (f := (putRow (mapRows g (fun r => rBendT r (3 * min a b) (3 * max a b + 3 - 3 * min a b) t) j) j (rBend (upd (rowOf g j) 2 (rowOf g j 2 + t)) (3 * min a b) v t))) (a := (10 + 99 * j + (3 + (3 * min a b + v)))) (xlk_ok okM_goes rfl) (by omega) (by omega) (mw_1) (ix3 (10 + 99 * j) (3 * min a b + v) (d := 3) rfl) (by omega) (by decide) ?_
            refine XV.run C okM_goes 2 (q := (89, ([some (.ref (213)), none, none, some (.int (t)), some (.int (nI (min a b))), some (.int (nI (max a b))), some (.int (nI j)), some (.int (nI (3 * min a b + v)))], [.int (((putRow (mapRows g (fun r => rBendT r (3 * min a b) (3 * max a b + 3 - 3 * min a b) t) j) j (rBend (upd (rowOf g j) 2 (rowOf g j 2 + t)) (3 * min a b) v t)) (10 + 99 * j + (3 + (3 * min a b + v)))) + t), .int (((nI (10 + 99 * j)) + 3) + (nI (3 * min a b + v))), .ref (214)]))) rfl ?_
            rw [show (((putRow (mapRows g (fun r => rBendT r (3 * min a b) (3 * max a b + 3 - 3 * min a b) t) j) j (rBend (upd (rowOf g j) 2 (rowOf g j 2 + t)) (3 * min a b) v t)) (10 + 99 * j + (3 + (3 * min a b + v)))) + t : Int32) = (rBend (upd (rowOf g j) 2 (rowOf g j 2 + t)) (3 * min a b) v t) (3 + (3 * min a b + v)) + t from congrArg (fun q => q + t) (putRow_at (by omega))]
            refine XV.iastC C (N := 505) (f := (putRow (mapRows g (fun r => rBendT r (3 * min a b) (3 * max a b + 3 - 3 * min a b) t) j) j (rBend (upd (rowOf g j) 2 (rowOf g j 2 + t)) (3 * min a b) v t))) (a := (10 + 99 * j + (3 + (3 * min a b + v)))) (xlk_ok okM_goes rfl) (by omega) (by omega) (mw_1) (ix3 (10 + 99 * j) (3 * min a b + v) (d := 3) rfl) (by omega) (by decide) ?_
            refine XV.cast ((mw_u1 _).trans (congrArg (fun w => setM h w pa tr mx td F) ((putRow_upd (by omega)).trans (congrArg (fun w => putRow (mapRows g (fun r => rBendT r (3 * min a b) (3 * max a b + 3 - 3 * min a b) t) j) j w) (rBend_s (upd (rowOf g j) 2 (rowOf g j 2 + t)) (3 * min a b) v t))))) ?_
            refine XV.run C okM_goes 2 (q := (60, ([some (.ref (213)), none, none, some (.int (t)), some (.int (nI (min a b))), some (.int (nI (max a b))), some (.int (nI j)), some (.int ((nI (3 * min a b + v)) + 1))], []))) rfl ?_
            rw [nI_1]
            exact ih2 (v + 1) (by omega)
        refine XV.cast (h' := setM h (putRow (mapRows g (fun r => rBendT r (3 * min a b) (3 * max a b + 3 - 3 * min a b) t) j) j (rBend (upd (rowOf g j) 2 (rowOf g j 2 + t)) (3 * min a b) 0 t)) pa tr mx td F) (by rw [rBend_0]) ?_
        exact loop2 (3 * max a b + 3 - 3 * min a b) 0 (by omega)
    refine XV.cast (h' := setM h (mapRows g (fun r => rBendT r (3 * min a b) (3 * max a b + 3 - 3 * min a b) t) 0) pa tr mx td F) (by rw [mapRows_0]) ?_
    exact loop k 0 (by omega)
