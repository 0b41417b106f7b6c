/-! RopeThreads$Elevator: the writes -/
theorem mx_le {a b : Nat} (h : a ≤ b) (hb : b < 2 ^ 31) : (if nI a < nI b then nI b else nI a) = nI b := by
  by_cases q : a = b
  · subst q
    split <;> rfl
  · rw [if_pos (nI_lt (by omega) hb)]
set_option maxHeartbeats 4000000 in
set_option maxRecDepth 100000 in
theorem ct_E_travel {l : Launch} (hfl : l.stackTraces = false) {G : XG} {n : Nat} {h : XH} {e : Nat} {f : Nat → Int32} (hE : IsElev h e f) (e4 : 4 ≤ e) (en : e + 28 ≤ n + 4) {k : Nat} (hm : f 1 = nI k) (hk : k ≤ 5) (hl : ∀ i, i < k → 0 < rowOf f i 0) {x y : Int32} {a b lo hi : Nat} (t : Int32) (hx : x = nI a) (hy : y = nI b) (ha : a ≤ 7) (hb : b ≤ 7) (hlo : (lo = a ∧ hi = b ∧ a ≤ b) ∨ (lo = b ∧ hi = a ∧ b < a)) : XCt l G False (Cond.code yE_travel bE_travel 8 none) yE_travel 1 24 0 0 [.ref (e), .int (x), .int (y), .int (t)] n h (fun r' n' h' => r' = none ∧ n' = n ∧ h' = setElev h e (travK f lo hi k t)) (fun _ _ _ => False) := by
  subst hx; subst hy
  have hlh : lo ≤ hi ∧ hi ≤ 7 := by omega
  refine XCt.of hfl (by decide +kernel) (Nat.le_of_ble_eq_true rfl) ?_
  intro p' e' s' m' g' b' t' c' C hret hname hnt hmd
  refine XV.cast (setElev_self hE).symm ?_
  refine XV.run C okE_travel 3 (q := (3, ([some (.ref (e)), some (.int (nI a)), some (.int (nI b)), some (.int (t)), none, none, none, none], [.int (nI b), .int (nI a), .int (3)]))) rfl ?_
  refine XV.mmin C (xlk_ok okE_travel rfl) wM_E_59 (Nat.le_of_ble_eq_true rfl) (Nat.le_of_ble_eq_true rfl) (Nat.le_of_ble_eq_true rfl) (Nat.le_of_ble_eq_true rfl) ?_
  refine XV.run C okE_travel 1 (q := (7, ([some (.ref (e)), some (.int (nI a)), some (.int (nI b)), some (.int (t)), none, none, none, none], [.int (3 * (if nI b < nI a then nI b else nI a))]))) rfl ?_
  rw [show (3 * (if nI b < nI a then nI b else nI a) : Int32) = nI (3 * lo) from by rcases hlo with ⟨rfl, rfl, q⟩ | ⟨rfl, rfl, q⟩ <;> first | (rw [if_neg (nI_nlt q (by omega))]; exact pk_mul 3 _) | (rw [if_pos (nI_lt q (by omega))]; exact pk_mul 3 _)]
  refine XV.run C okE_travel 4 (q := (12, ([some (.ref (e)), some (.int (nI a)), some (.int (nI b)), some (.int (t)), some (.int (nI (3 * lo))), none, none, none], [.int (nI b), .int (nI a), .int (3)]))) rfl ?_
  refine XV.mmax C (xlk_ok okE_travel rfl) wM_E_65 (Nat.le_of_ble_eq_true rfl) (Nat.le_of_ble_eq_true rfl) (Nat.le_of_ble_eq_true rfl) (Nat.le_of_ble_eq_true rfl) ?_
  refine XV.run C okE_travel 5 (q := (20, ([some (.ref (e)), some (.int (nI a)), some (.int (nI b)), some (.int (t)), some (.int (nI (3 * lo))), none, none, none], [.int (((3 * (if nI a < nI b then nI b else nI a)) + 3) - 1)]))) rfl ?_
  rw [show (((3 * (if nI a < nI b then nI b else nI a)) + 3) - 1 : Int32) = nI (3 * hi + 2) from by rcases hlo with ⟨rfl, rfl, q⟩ | ⟨rfl, rfl, q⟩ <;> first | (rw [mx_le q (by omega), show (3 : Int32) * nI hi = nI (3 * hi) from pk_mul 3 _, show (3 : Int32) = nI 3 from rfl, nI_add]; exact nI_m1 (by omega)) | (rw [if_neg (nI_nlt (Nat.le_of_lt q) (by omega)), show (3 : Int32) * nI hi = nI (3 * hi) from pk_mul 3 _, show (3 : Int32) = nI 3 from rfl, nI_add]; exact nI_m1 (by omega))]
  refine XV.run C okE_travel 3 (q := (25, ([some (.ref (e)), some (.int (nI a)), some (.int (nI b)), some (.int (t)), some (.int (nI (3 * lo))), some (.int (nI (3 * hi + 2))), some (.int (0)), none], []))) rfl ?_
  have loop : ∀ (d j : Nat), j + d = k → XV G 8 p' l e' ({ frames := 1, cells := 0, slots := 0, locals := 24 } : Room) s' m' g' b' t' c' (XEnd G b' (fun r' n' h' => r' = none ∧ n' = n ∧ h' = setElev h e (travK f lo hi k t)) (fun _ _ _ => False) g' s' 0 0) 25 [some (.ref (e)), some (.int (nI a)), some (.int (nI b)), some (.int (t)), some (.int (nI (3 * lo))), some (.int (nI (3 * hi + 2))), some (.int (nI j)), none] [] n (setElev h e (mapRows f (fun r => rBendT r (3 * lo) (3 * hi + 3 - 3 * lo) t) j)) 0 0 := by
    intro d
    induction d with
    | zero =>
      intro j hj
      refine XV.run C okE_travel 2 (q := (28, ([some (.ref (e)), some (.int (nI a)), some (.int (nI b)), some (.int (t)), some (.int (nI (3 * lo))), some (.int (nI (3 * hi + 2))), some (.int (nI j)), none], [.ref (e), .int (nI j)]))) rfl ?_
      refine XV.getf C (ci := 0) (kf := 2) (v := .int ((mapRows f (fun r => rBendT r (3 * lo) (3 * hi + 3 - 3 * lo) t) j) 1)) (xlk_ok okE_travel rfl) rfl (by decide) wF_E_21 (by omega) (by omega) ((blk_is h e 28 (elevC e (mapRows f (fun r => rBendT r (3 * lo) (3 * hi + 3 - 3 * lo) t) j))) 0 (by decide)) rfl ?_
      refine XV.icmp_ge C (tgt := 63) (xlk_ok okE_travel rfl) rfl (fun _ => ?_) (fun hc => absurd (by rw [mapRows_lo _ _ _ _ (by decide), hm]; exact nI_le (by omega) (by omega)) hc)
      refine XV.run C okE_travel 2 (q := (65, ([some (.ref (e)), some (.int (nI a)), some (.int (nI b)), some (.int (t)), some (.int (nI (3 * lo))), some (.int (nI (3 * hi + 2))), some (.int (nI j)), none], [.ref (e), .ref (e)]))) rfl ?_
      refine XV.getf C (ci := 0) (kf := 4) (v := .int ((mapRows f (fun r => rBendT r (3 * lo) (3 * hi + 3 - 3 * lo) t) j) 7)) (xlk_ok okE_travel rfl) rfl (by decide) wF_E_28 (by omega) (by omega) ((blk_is h e 28 (elevC e (mapRows f (fun r => rBendT r (3 * lo) (3 * hi + 3 - 3 * lo) t) j))) 0 (by decide)) rfl ?_
      refine XV.run C okE_travel 2 (q := (70, ([some (.ref (e)), some (.int (nI a)), some (.int (nI b)), some (.int (t)), some (.int (nI (3 * lo))), some (.int (nI (3 * hi + 2))), some (.int (nI j)), none], [.int (((mapRows f (fun r => rBendT r (3 * lo) (3 * hi + 3 - 3 * lo) t) j) 7) + t), .ref (e)]))) rfl ?_
      refine XV.putf C (ci := 0) (kf := 4) (ty := .int) (xlk_ok okE_travel rfl) rfl (by decide) wF_E_28 (by omega) (by omega) ((blk_is h e 28 (elevC e (mapRows f (fun r => rBendT r (3 * lo) (3 * hi + 3 - 3 * lo) t) j))) 0 (by decide)) rfl rfl rfl rfl (Nat.le_of_ble_eq_true rfl) ?_
      refine XV.cast (setElev_f4 _ e _ (((mapRows f (fun r => rBendT r (3 * lo) (3 * hi + 3 - 3 * lo) t) j) 7) + t)) ?_
      exact XV.vret C (xlk_ok okE_travel rfl) hret (Nat.le_of_ble_eq_true rfl) (Nat.le_of_ble_eq_true rfl) (⟨rfl, rfl, by rw [show j = k by omega, mapRows_lo _ _ _ 7 (by decide)]; rfl⟩)
    | succ d ih =>
      intro j hj
      refine XV.run C okE_travel 2 (q := (28, ([some (.ref (e)), some (.int (nI a)), some (.int (nI b)), some (.int (t)), some (.int (nI (3 * lo))), some (.int (nI (3 * hi + 2))), some (.int (nI j)), none], [.ref (e), .int (nI j)]))) rfl ?_
      refine XV.getf C (ci := 0) (kf := 2) (v := .int ((mapRows f (fun r => rBendT r (3 * lo) (3 * hi + 3 - 3 * lo) t) j) 1)) (xlk_ok okE_travel rfl) rfl (by decide) wF_E_21 (by omega) (by omega) ((blk_is h e 28 (elevC e (mapRows f (fun r => rBendT r (3 * lo) (3 * hi + 3 - 3 * lo) t) j))) 0 (by decide)) rfl ?_
      refine XV.icmp_ge C (tgt := 63) (xlk_ok okE_travel rfl) rfl (fun hc => absurd hc (by rw [mapRows_lo _ _ _ _ (by decide), hm]; exact nI_ge (by omega) (by omega))) (fun _ => ?_)
      refine XV.run C okE_travel 2 (q := (37, ([some (.ref (e)), some (.int (nI a)), some (.int (nI b)), some (.int (t)), some (.int (nI (3 * lo))), some (.int (nI (3 * hi + 2))), some (.int (nI j)), none], [.int (nI j), .ref (e)]))) rfl ?_
      refine XV.callV C (As := [.int (nI j)]) (rest := []) (ci := 0) (ct_E_ropeAt hfl (blk_is h e 28 (elevC e (mapRows f (fun r => rBendT r (3 * lo) (3 * hi + 3 - 3 * lo) t) j))) (by omega) (by omega) (i := j) (rfl) (by rw [mapRows_lo _ _ _ _ (by decide)]; exact hm) (by omega) (by omega)) (xlk_ok okE_travel rfl) rfl (by omega) (by omega) rfl ((blk_is h e 28 (elevC e (mapRows f (fun r => rBendT r (3 * lo) (3 * hi + 3 - 3 * lo) t) j))) 0 (by decide)) rfl wM_E_51 wI_E_ropeAt wV_E_ropeAt wN_E wB_E_ropeAt hy_E_ropeAt (fun q => q.elim) ⟨Nat.le_of_ble_eq_true rfl, Nat.le_of_ble_eq_true rfl⟩ ⟨Nat.le_of_ble_eq_true rfl, Nat.le_of_ble_eq_true rfl⟩ (Nat.le_of_ble_eq_true rfl) (fun r n h hp => ?_) (fun _ _ _ q => q.elim)
      obtain ⟨rfl, rfl, rfl⟩ := hp
      refine XV.run C okE_travel 2 (q := (44, ([some (.ref (e)), some (.int (nI a)), some (.int (nI b)), some (.int (t)), some (.int (nI (3 * lo))), some (.int (nI (3 * hi + 2))), some (.int (nI j)), some (.ref (e + 3 + 5 * j))], [.ref (e + 3 + 5 * j)]))) rfl ?_
      refine XV.null_r C (xlk_ok okE_travel rfl) ?_
      refine XV.run C okE_travel 4 (q := (54, ([some (.ref (e)), some (.int (nI a)), some (.int (nI b)), some (.int (t)), some (.int (nI (3 * lo))), some (.int (nI (3 * hi + 2))), some (.int (nI j)), some (.ref (e + 3 + 5 * j))], [.int (t), .int (nI (3 * hi + 2)), .int (nI (3 * lo)), .ref (e + 3 + 5 * j)]))) rfl ?_
      refine XV.callV C (As := [.int (nI (3 * lo)), .int (nI (3 * hi + 2)), .int (t)]) (rest := []) (ci := 2) (ct_R_bend hfl (IsRope.of_eq (elev_ropeL (blk_is h e 28 (elevC e (mapRows f (fun r => rBendT r (3 * lo) (3 * hi + 3 - 3 * lo) t) j))) (i := j) (by omega) (by rw [mapRows_at f _ j j (Nat.le_refl j)]; exact hl j (by omega))) (mapRows_at f (fun r => rBendT r (3 * lo) (3 * hi + 3 - 3 * lo) t) j j (Nat.le_refl j))) (by omega) (by omega) (i := 3 * lo) (w := 3 * hi + 3 - 3 * lo) (b := 3 * hi + 2) (rfl) (rfl) (by omega) (by omega) (t)) (xlk_ok okE_travel rfl) rfl (by omega) (by omega) rfl ((IsRope.of_eq (elev_ropeL (blk_is h e 28 (elevC e (mapRows f (fun r => rBendT r (3 * lo) (3 * hi + 3 - 3 * lo) t) j))) (i := j) (by omega) (by rw [mapRows_at f _ j j (Nat.le_refl j)]; exact hl j (by omega))) (mapRows_at f (fun r => rBendT r (3 * lo) (3 * hi + 3 - 3 * lo) t) j j (Nat.le_refl j))) 0 (by decide)) rfl wM_E_68 wI_R_bend wV_R_bend wN_R wB_R_bend hy_R_bend (fun q => q.elim) ⟨Nat.le_of_ble_eq_true rfl, Nat.le_of_ble_eq_true rfl⟩ ⟨Nat.le_of_ble_eq_true rfl, Nat.le_of_ble_eq_true rfl⟩ (Nat.le_of_ble_eq_true rfl) (fun r n h hp => ?_) (fun _ _ _ q => q.elim)
      obtain ⟨rfl, rfl, rfl⟩ := hp
      refine XV.cast (setElev_put _ e _ j _ (by omega) (by rw [rBendT_0]; exact ne_of_gt (hl j (by omega)))) ?_
      refine XV.cast (congrArg (setElev h e) (mapRows_s f (fun r => rBendT r (3 * lo) (3 * hi + 3 - 3 * lo) t) j)) ?_
      refine XV.run C okE_travel 2 (q := (25, ([some (.ref (e)), some (.int (nI a)), some (.int (nI b)), some (.int (t)), some (.int (nI (3 * lo))), some (.int (nI (3 * hi + 2))), some (.int ((nI j) + 1)), some (.ref (e + 3 + 5 * j))], []))) rfl ?_
      rw [nI_1]
      exact XV.drop (ih (j + 1) (by omega)) rfl (by simp [xle])
  refine XV.cast (by rw [mapRows_0]) (h' := setElev h e (mapRows f (fun r => rBendT r (3 * lo) (3 * hi + 3 - 3 * lo) t) 0)) ?_
  exact loop k 0 (by omega)
set_option maxHeartbeats 4000000 in
set_option maxRecDepth 100000 in
theorem ct_E_copyFrom {l : Launch} (hfl : l.stackTraces = false) {G : XG} {n : Nat} {h : XH} {e : Nat} {f : Nat → Int32} (hE : IsElev h e f) (e4 : 4 ≤ e) (en : e + 28 ≤ n + 4) {e2 : Nat} {g : Nat → Int32} (hE2 : IsElev h e2 g) (e24 : 4 ≤ e2) (e2n : e2 + 28 ≤ n + 4) (hd : e2 + 28 ≤ e ∨ e + 28 ≤ e2) : XCt l G False (Cond.code yE_copyFrom bE_copyFrom 5 none) yE_copyFrom 2 47 0 0 [.ref (e), .ref (e2)] n h (fun r' n' h' => r' = none ∧ n' = n ∧ h' = setElev h e (g)) (fun _ _ _ => False) := by
  refine XCt.of hfl (by decide +kernel) (Nat.le_of_ble_eq_true rfl) ?_
  intro p' e' s' m' g' b' t' c' C hret hname hnt hmd
  refine XV.cast (setElev_self hE).symm ?_
  refine XV.run C okE_copyFrom 1 (q := (1, ([some (.ref (e)), some (.ref (e2)), none, none, none], [.ref (e2)]))) rfl ?_
  refine XV.getf C (ci := 0) (kf := 0) (v := .ref (e2 + 1)) (xlk_ok okE_copyFrom rfl) rfl (by decide) wF_E_9 (by omega) (by omega) ((hE2.out hd) 0 (by decide)) rfl ?_
  refine XV.run C okE_copyFrom 2 (q := (6, ([some (.ref (e)), some (.ref (e2)), none, none, none], [.ref (e), .int (0), .ref (e2 + 1)]))) rfl ?_
  refine XV.getf C (ci := 0) (kf := 0) (v := .ref (e + 1)) (xlk_ok okE_copyFrom rfl) rfl (by decide) wF_E_9 (by omega) (by omega) ((blk_is h e 28 (elevC e (f))) 0 (by decide)) rfl ?_
  refine XV.run C okE_copyFrom 2 (q := (11, ([some (.ref (e)), some (.ref (e2)), none, none, none], [.int (5), .int (0), .ref (e + 1), .int (0), .ref (e2 + 1)]))) rfl ?_
  refine XV.copyC C (N := 5) (f := (fun i => g (2 + i))) (g := (fun i => f (2 + i))) (xlk_ok okE_copyFrom rfl) wM_E_41 (by omega) (by omega) (by omega) (by omega) ((hE2.out hd) 1 (by decide)) ((blk_is h e 28 (elevC e (f))) 1 (by decide)) rfl (by decide) (Nat.le_of_ble_eq_true rfl) (Nat.le_of_ble_eq_true rfl) ?_
  refine XV.cast (setElev_c0 _ e _ g) ?_
  refine XV.run C okE_copyFrom 2 (q := (16, ([some (.ref (e)), some (.ref (e2)), some (.int (0)), none, none], []))) rfl ?_
  have loop : ∀ (d j : Nat), j + d = 5 → XV G 5 p' l e' ({ frames := 2, cells := 0, slots := 0, locals := 47 } : Room) s' m' g' b' t' c' (XEnd G b' (fun r' n' h' => r' = none ∧ n' = n ∧ h' = setElev h e (g)) (fun _ _ _ => False) g' s' 0 0) 16 [some (.ref (e)), some (.ref (e2)), some (.int (nI j)), none, none] [] n (setElev h e (copyK f g j)) 0 0 := by
    intro d
    induction d with
    | zero =>
      intro j hj
      refine XV.run C okE_copyFrom 2 (q := (18, ([some (.ref (e)), some (.ref (e2)), some (.int (nI j)), none, none], [.int (5), .int (nI j)]))) rfl ?_
      refine XV.icmp_ge C (tgt := 57) (xlk_ok okE_copyFrom rfl) rfl (fun _ => ?_) (fun hc => absurd (nI_le (a := 5) (by omega) (by omega)) hc)
      refine XV.run C okE_copyFrom 2 (q := (59, ([some (.ref (e)), some (.ref (e2)), some (.int (nI j)), none, none], [.ref (e2), .ref (e)]))) rfl ?_
      refine XV.getf C (ci := 0) (kf := 2) (v := .int (g 1)) (xlk_ok okE_copyFrom rfl) rfl (by decide) wF_E_21 (by omega) (by omega) ((hE2.out hd) 0 (by decide)) rfl ?_
      refine XV.putf C (ci := 0) (kf := 2) (ty := .int) (xlk_ok okE_copyFrom rfl) rfl (by decide) wF_E_21 (by omega) (by omega) ((blk_is h e 28 (elevC e (copyK f g j))) 0 (by decide)) rfl rfl rfl rfl (Nat.le_of_ble_eq_true rfl) ?_
      refine XV.cast (setElev_f2 _ e _ (g 1)) ?_
      refine XV.run C okE_copyFrom 2 (q := (67, ([some (.ref (e)), some (.ref (e2)), some (.int (nI j)), none, none], [.ref (e2), .ref (e)]))) rfl ?_
      refine XV.getf C (ci := 0) (kf := 3) (v := .int (g 0)) (xlk_ok okE_copyFrom rfl) rfl (by decide) wF_E_25 (by omega) (by omega) ((hE2.out hd) 0 (by decide)) rfl ?_
      refine XV.putf C (ci := 0) (kf := 3) (ty := .int) (xlk_ok okE_copyFrom rfl) rfl (by decide) wF_E_25 (by omega) (by omega) ((blk_is h e 28 (elevC e (upd (copyK f g j) 1 (g 1)))) 0 (by decide)) rfl rfl rfl rfl (Nat.le_of_ble_eq_true rfl) ?_
      refine XV.cast (setElev_f3 _ e _ (g 0)) ?_
      refine XV.run C okE_copyFrom 2 (q := (75, ([some (.ref (e)), some (.ref (e2)), some (.int (nI j)), none, none], [.ref (e2), .ref (e)]))) rfl ?_
      refine XV.getf C (ci := 0) (kf := 4) (v := .int (g 7)) (xlk_ok okE_copyFrom rfl) rfl (by decide) wF_E_28 (by omega) (by omega) ((hE2.out hd) 0 (by decide)) rfl ?_
      refine XV.putf C (ci := 0) (kf := 4) (ty := .int) (xlk_ok okE_copyFrom rfl) rfl (by decide) wF_E_28 (by omega) (by omega) ((blk_is h e 28 (elevC e (upd (upd (copyK f g j) 1 (g 1)) 0 (g 0)))) 0 (by decide)) rfl rfl rfl rfl (Nat.le_of_ble_eq_true rfl) ?_
      refine XV.cast (setElev_f4 _ e _ (g 7)) ?_
      refine XV.run C okE_copyFrom 2 (q := (83, ([some (.ref (e)), some (.ref (e2)), some (.int (nI j)), none, none], [.ref (e2), .ref (e)]))) rfl ?_
      refine XV.getf C (ci := 0) (kf := 5) (v := .int (g 8)) (xlk_ok okE_copyFrom rfl) rfl (by decide) wF_E_31 (by omega) (by omega) ((hE2.out hd) 0 (by decide)) rfl ?_
      refine XV.putf C (ci := 0) (kf := 5) (ty := .int) (xlk_ok okE_copyFrom rfl) rfl (by decide) wF_E_31 (by omega) (by omega) ((blk_is h e 28 (elevC e (upd (upd (upd (copyK f g j) 1 (g 1)) 0 (g 0)) 7 (g 7)))) 0 (by decide)) rfl rfl rfl rfl (Nat.le_of_ble_eq_true rfl) ?_
      refine XV.cast (setElev_f5 _ e _ (g 8)) ?_
      refine XV.run C okE_copyFrom 2 (q := (91, ([some (.ref (e)), some (.ref (e2)), some (.int (nI j)), none, none], [.ref (e2), .ref (e)]))) rfl ?_
      refine XV.getf C (ci := 0) (kf := 6) (v := .int (g 9)) (xlk_ok okE_copyFrom rfl) rfl (by decide) wF_E_34 (by omega) (by omega) ((hE2.out hd) 0 (by decide)) rfl ?_
      refine XV.putf C (ci := 0) (kf := 6) (ty := .int) (xlk_ok okE_copyFrom rfl) rfl (by decide) wF_E_34 (by omega) (by omega) ((blk_is h e 28 (elevC e (upd (upd (upd (upd (copyK f g j) 1 (g 1)) 0 (g 0)) 7 (g 7)) 8 (g 8)))) 0 (by decide)) rfl rfl rfl rfl (Nat.le_of_ble_eq_true rfl) ?_
      refine XV.cast (setElev_f6 _ e _ (g 9)) ?_
      exact XV.vret C (xlk_ok okE_copyFrom rfl) hret (Nat.le_of_ble_eq_true rfl) (Nat.le_of_ble_eq_true rfl) (⟨rfl, rfl, by rw [show j = 5 by omega]; exact setElev_congr (copyK_all f g)⟩)
    | succ d ih =>
      intro j hj
      refine XV.run C okE_copyFrom 2 (q := (18, ([some (.ref (e)), some (.ref (e2)), some (.int (nI j)), none, none], [.int (5), .int (nI j)]))) rfl ?_
      refine XV.icmp_ge C (tgt := 57) (xlk_ok okE_copyFrom rfl) rfl (fun hc => absurd hc (nI_ge (b := 5) (by omega) (by omega))) (fun _ => ?_)
      refine XV.run C okE_copyFrom 1 (q := (22, ([some (.ref (e)), some (.ref (e2)), some (.int (nI j)), none, none], [.ref (e)]))) rfl ?_
      refine XV.getf C (ci := 0) (kf := 1) (v := .ref (e + 2)) (xlk_ok okE_copyFrom rfl) rfl (by decide) wF_E_17 (by omega) (by omega) ((blk_is h e 28 (elevC e (copyK f g j))) 0 (by decide)) rfl ?_
      refine XV.run C okE_copyFrom 1 (q := (26, ([some (.ref (e)), some (.ref (e2)), some (.int (nI j)), none, none], [.int (nI j), .ref (e + 2)]))) rfl ?_
      refine XV.aaldS C (N := 5) (t := 3) (a := j) (o := e + 3 + 5 * j) (f := (fun i => if i < 5 then some (e + 3 + 5 * i) else none)) (xlk_ok okE_copyFrom rfl) (by omega) (by omega) ((blk_is h e 28 (elevC e (copyK f g j))) 2 (by decide)) rfl (rfl) (by omega) (by decide) (if_pos (by omega)) ?_
      refine XV.run C okE_copyFrom 2 (q := (29, ([some (.ref (e)), some (.ref (e2)), some (.int (nI j)), some (.ref (e + 3 + 5 * j)), none], [.ref (e2)]))) rfl ?_
      refine XV.getf C (ci := 0) (kf := 1) (v := .ref (e2 + 2)) (xlk_ok okE_copyFrom rfl) rfl (by decide) wF_E_17 (by omega) (by omega) ((hE2.out hd) 0 (by decide)) rfl ?_
      refine XV.run C okE_copyFrom 1 (q := (33, ([some (.ref (e)), some (.ref (e2)), some (.int (nI j)), some (.ref (e + 3 + 5 * j)), none], [.int (nI j), .ref (e2 + 2)]))) rfl ?_
      refine XV.aaldS C (N := 5) (t := 3) (a := j) (o := e2 + 3 + 5 * j) (f := (fun i => if i < 5 then some (e2 + 3 + 5 * i) else none)) (xlk_ok okE_copyFrom rfl) (by omega) (by omega) ((hE2.out hd) 2 (by decide)) rfl (rfl) (by omega) (by decide) (if_pos (by omega)) ?_
      refine XV.run C okE_copyFrom 2 (q := (37, ([some (.ref (e)), some (.ref (e2)), some (.int (nI j)), some (.ref (e + 3 + 5 * j)), some (.ref (e2 + 3 + 5 * j))], [.ref (e + 3 + 5 * j)]))) rfl ?_
      refine XV.null_r C (xlk_ok okE_copyFrom rfl) ?_
      refine XV.run C okE_copyFrom 1 (q := (42, ([some (.ref (e)), some (.ref (e2)), some (.int (nI j)), some (.ref (e + 3 + 5 * j)), some (.ref (e2 + 3 + 5 * j))], [.ref (e2 + 3 + 5 * j)]))) rfl ?_
      refine XV.null_r C (xlk_ok okE_copyFrom rfl) ?_
      refine XV.run C okE_copyFrom 2 (q := (48, ([some (.ref (e)), some (.ref (e2)), some (.int (nI j)), some (.ref (e + 3 + 5 * j)), some (.ref (e2 + 3 + 5 * j))], [.ref (e2 + 3 + 5 * j), .ref (e + 3 + 5 * j)]))) rfl ?_
      refine XV.callV C (As := [.ref (e2 + 3 + 5 * j)]) (rest := []) (ci := 2) (ct_R_copyFrom hfl (elev_rope (blk_is h e 28 (elevC e (copyK f g j))) (by omega)) (by omega) (by omega) (elev_rope (hE2.out hd) (by omega)) (by omega) (by omega) (by omega)) (xlk_ok okE_copyFrom rfl) rfl (by omega) (by omega) rfl ((elev_rope (blk_is h e 28 (elevC e (copyK f g j))) (by omega)) 0 (by decide)) rfl wM_E_47 wI_R_copyFrom wV_R_copyFrom wN_R wB_R_copyFrom hy_R_copyFrom (fun q => q.elim) ⟨Nat.le_of_ble_eq_true rfl, Nat.le_of_ble_eq_true rfl⟩ ⟨Nat.le_of_ble_eq_true rfl, Nat.le_of_ble_eq_true rfl⟩ (Nat.le_of_ble_eq_true rfl) (fun r n h hp => ?_) (fun _ _ _ q => q.elim)
      obtain ⟨rfl, rfl, rfl⟩ := hp
      refine XV.cast (setElev_cs h e f g j (by omega)) ?_
      refine XV.run C okE_copyFrom 2 (q := (16, ([some (.ref (e)), some (.ref (e2)), some (.int ((nI j) + 1)), some (.ref (e + 3 + 5 * j)), some (.ref (e2 + 3 + 5 * j))], []))) rfl ?_
      rw [nI_1]
      exact XV.drop (ih (j + 1) (by omega)) rfl (by simp [xle])
  exact loop 5 0 (by omega)
set_option maxHeartbeats 4000000 in
set_option maxRecDepth 100000 in
theorem ct_E_addRope {l : Launch} (hfl : l.stackTraces = false) {G : XG} {n : Nat} {h : XH} {e : Nat} {f : Nat → Int32} (hE : IsElev h e f) (e4 : 4 ≤ e) (en : e + 28 ≤ n + 4) {k : Nat} (hm : f 1 = nI k) (hk : k < 5) (q : Int32) (hq : 0 < q) : XCt l G False (Cond.code yE_addRope bE_addRope 3 none) yE_addRope 2 45 0 0 [.ref (e), .int (q)] n h (fun r' n' h' => r' = none ∧ n' = n ∧ h' = setElev h e (putRow (upd f 1 (f 1 + 1)) k (rNew q (f 0)))) (fun _ _ _ => False) := by
  refine XCt.of hfl (by decide +kernel) (Nat.le_of_ble_eq_true rfl) ?_
  intro p' e' s' m' g' b' t' c' C hret hname hnt hmd
  refine XV.cast (setElev_self hE).symm ?_
  refine XV.run C okE_addRope 1 (q := (1, ([some (.ref (e)), some (.int (q)), none], [.ref (e)]))) rfl ?_
  refine XV.getf C (ci := 0) (kf := 2) (v := .int (f 1)) (xlk_ok okE_addRope rfl) rfl (by decide) wF_E_21 (by omega) (by omega) ((blk_is h e 28 (elevC e (f))) 0 (by decide)) rfl ?_
  refine XV.run C okE_addRope 1 (q := (5, ([some (.ref (e)), some (.int (q)), none], [.int (5), .int (f 1)]))) rfl ?_
  refine XV.icmp_ge C (tgt := 42) (xlk_ok okE_addRope rfl) rfl (fun hc => absurd hc (by rw [hm]; exact nI_ge (b := 5) (by omega) (by omega))) (fun _ => ?_)
  refine XV.run C okE_addRope 2 (q := (10, ([some (.ref (e)), some (.int (q)), none], [.ref (e), .ref (e)]))) rfl ?_
  refine XV.getf C (ci := 0) (kf := 2) (v := .int (f 1)) (xlk_ok okE_addRope rfl) rfl (by decide) wF_E_21 (by omega) (by omega) ((blk_is h e 28 (elevC e (f))) 0 (by decide)) rfl ?_
  refine XV.run C okE_addRope 2 (q := (15, ([some (.ref (e)), some (.int (q)), none], [.int ((f 1) + 1), .ref (e)]))) rfl ?_
  refine XV.putf C (ci := 0) (kf := 2) (ty := .int) (xlk_ok okE_addRope rfl) rfl (by decide) wF_E_21 (by omega) (by omega) ((blk_is h e 28 (elevC e (f))) 0 (by decide)) rfl rfl rfl rfl (Nat.le_of_ble_eq_true rfl) ?_
  refine XV.cast (setElev_f2 _ e _ ((f 1) + 1)) ?_
  refine XV.run C okE_addRope 2 (q := (20, ([some (.ref (e)), some (.int (q)), none], [.ref (e), .ref (e)]))) rfl ?_
  refine XV.getf C (ci := 0) (kf := 2) (v := .int ((upd (f) 1 ((f 1) + 1)) 1)) (xlk_ok okE_addRope rfl) rfl (by decide) wF_E_21 (by omega) (by omega) ((blk_is h e 28 (elevC e (upd (f) 1 ((f 1) + 1)))) 0 (by decide)) rfl ?_
  refine XV.run C okE_addRope 2 (q := (25, ([some (.ref (e)), some (.int (q)), none], [.int (((upd (f) 1 ((f 1) + 1)) 1) - 1), .ref (e)]))) rfl ?_
  refine XV.callV C (As := [.int (((upd (f) 1 ((f 1) + 1)) 1) - 1)]) (rest := []) (ci := 0) (ct_E_ropeAt hfl (blk_is h e 28 (elevC e (upd (f) 1 ((f 1) + 1)))) (by omega) (by omega) (i := k) (by rw [upd_eq, hm, nI_1]; exact nI_m1 (by omega)) (by rw [upd_eq, hm, nI_1]) (by omega) (by omega)) (xlk_ok okE_addRope rfl) rfl (by omega) (by omega) rfl ((blk_is h e 28 (elevC e (upd (f) 1 ((f 1) + 1)))) 0 (by decide)) rfl wM_E_51 wI_E_ropeAt wV_E_ropeAt wN_E wB_E_ropeAt hy_E_ropeAt (fun q => q.elim) ⟨Nat.le_of_ble_eq_true rfl, Nat.le_of_ble_eq_true rfl⟩ ⟨Nat.le_of_ble_eq_true rfl, Nat.le_of_ble_eq_true rfl⟩ (Nat.le_of_ble_eq_true rfl) (fun r n h hp => ?_) (fun _ _ _ q => q.elim)
  obtain ⟨rfl, rfl, rfl⟩ := hp
  refine XV.run C okE_addRope 2 (q := (30, ([some (.ref (e)), some (.int (q)), some (.ref (e + 3 + 5 * k))], [.ref (e + 3 + 5 * k)]))) rfl ?_
  refine XV.null_r C (xlk_ok okE_addRope rfl) ?_
  refine XV.run C okE_addRope 3 (q := (36, ([some (.ref (e)), some (.int (q)), some (.ref (e + 3 + 5 * k))], [.ref (e), .int (q), .ref (e + 3 + 5 * k)]))) rfl ?_
  refine XV.getf C (ci := 0) (kf := 3) (v := .int ((upd (f) 1 ((f 1) + 1)) 0)) (xlk_ok okE_addRope rfl) rfl (by decide) wF_E_25 (by omega) (by omega) ((blk_is h e 28 (elevC e (upd (f) 1 ((f 1) + 1)))) 0 (by decide)) rfl ?_
  refine XV.callV C (As := [.int (q), .int ((upd (f) 1 ((f 1) + 1)) 0)]) (rest := []) (ci := 2) (ct_R_renew hfl (elev_rope (blk_is h e 28 (elevC e (upd (f) 1 ((f 1) + 1)))) (by omega)) (by omega) (by omega) (q) ((upd (f) 1 ((f 1) + 1)) 0)) (xlk_ok okE_addRope rfl) rfl (by omega) (by omega) rfl ((elev_rope (blk_is h e 28 (elevC e (upd (f) 1 ((f 1) + 1)))) (by omega)) 0 (by decide)) rfl wM_E_55 wI_R_renew wV_R_renew wN_R wB_R_renew hy_R_renew (fun q => q.elim) ⟨Nat.le_of_ble_eq_true rfl, Nat.le_of_ble_eq_true rfl⟩ ⟨Nat.le_of_ble_eq_true rfl, Nat.le_of_ble_eq_true rfl⟩ (Nat.le_of_ble_eq_true rfl) (fun r n h hp => ?_) (fun _ _ _ q => q.elim)
  obtain ⟨rfl, rfl, rfl⟩ := hp
  refine XV.cast (setElev_put _ e _ k _ (by omega) (ne_of_gt hq)) ?_
  exact XV.vret C (xlk_ok okE_addRope rfl) hret (Nat.le_of_ble_eq_true rfl) (Nat.le_of_ble_eq_true rfl) (⟨rfl, rfl, rfl⟩)
set_option maxHeartbeats 4000000 in
set_option maxRecDepth 100000 in
theorem ct_E_removeRope {l : Launch} (hfl : l.stackTraces = false) {G : XG} {n : Nat} {h : XH} {e : Nat} {f : Nat → Int32} (hE : IsElev h e f) (e4 : 4 ≤ e) (en : e + 28 ≤ n + 4) {x : Int32} {i k : Nat} (hx : x = nI i) (hm : f 1 = nI k) (hk : k ≤ 5) (hi : i < k) : XCt l G False (Cond.code yE_removeRope bE_removeRope 5 none) yE_removeRope 2 47 0 0 [.ref (e), .int (x)] n h (fun r' n' h' => r' = none ∧ n' = n ∧ h' = setElev h e (upd (shiftK f i (k - 1 - i)) 1 (f 1 - 1))) (fun _ _ _ => False) := by
  subst hx
  refine XCt.of hfl (by decide +kernel) (Nat.le_of_ble_eq_true rfl) ?_
  intro p' e' s' m' g' b' t' c' C hret hname hnt hmd
  refine XV.cast (setElev_self hE).symm ?_
  refine XV.run C okE_removeRope 2 (q := (2, ([some (.ref (e)), some (.int (nI i)), some (.int (nI i)), none, none], []))) rfl ?_
  have loop : ∀ (d j : Nat), j + d = k - 1 - i → XV G 5 p' l e' ({ frames := 2, cells := 0, slots := 0, locals := 47 } : Room) s' m' g' b' t' c' (XEnd G b' (fun r' n' h' => r' = none ∧ n' = n ∧ h' = setElev h e (upd (shiftK f i (k - 1 - i)) 1 (f 1 - 1))) (fun _ _ _ => False) g' s' 0 0) 2 [some (.ref (e)), some (.int (nI i)), some (.int (nI (i + j))), none, none] [] n (setElev h e (shiftK f i j)) 0 0 := by
    intro d
    induction d with
    | zero =>
      intro j hj
      refine XV.run C okE_removeRope 4 (q := (6, ([some (.ref (e)), some (.int (nI i)), some (.int (nI (i + j))), none, none], [.ref (e), .int ((nI (i + j)) + 1)]))) rfl ?_
      refine XV.getf C (ci := 0) (kf := 2) (v := .int ((shiftK f i j) 1)) (xlk_ok okE_removeRope rfl) rfl (by decide) wF_E_21 (by omega) (by omega) ((blk_is h e 28 (elevC e (shiftK f i j))) 0 (by decide)) rfl ?_
      refine XV.icmp_ge C (tgt := 48) (xlk_ok okE_removeRope rfl) rfl (fun _ => ?_) (fun hc => absurd (by rw [shiftK_lo _ _ _ _ (by decide), hm, nI_1]; exact nI_le (by omega) (by omega)) hc)
      refine XV.run C okE_removeRope 2 (q := (50, ([some (.ref (e)), some (.int (nI i)), some (.int (nI (i + j))), none, none], [.ref (e), .ref (e)]))) rfl ?_
      refine XV.getf C (ci := 0) (kf := 2) (v := .int ((shiftK f i j) 1)) (xlk_ok okE_removeRope rfl) rfl (by decide) wF_E_21 (by omega) (by omega) ((blk_is h e 28 (elevC e (shiftK f i j))) 0 (by decide)) rfl ?_
      refine XV.run C okE_removeRope 2 (q := (55, ([some (.ref (e)), some (.int (nI i)), some (.int (nI (i + j))), none, none], [.int (((shiftK f i j) 1) - 1), .ref (e)]))) rfl ?_
      refine XV.putf C (ci := 0) (kf := 2) (ty := .int) (xlk_ok okE_removeRope rfl) rfl (by decide) wF_E_21 (by omega) (by omega) ((blk_is h e 28 (elevC e (shiftK f i j))) 0 (by decide)) rfl rfl rfl rfl (Nat.le_of_ble_eq_true rfl) ?_
      refine XV.cast (setElev_f2 _ e _ (((shiftK f i j) 1) - 1)) ?_
      exact XV.vret C (xlk_ok okE_removeRope rfl) hret (Nat.le_of_ble_eq_true rfl) (Nat.le_of_ble_eq_true rfl) (⟨rfl, rfl, by rw [show j = k - 1 - i by omega, shiftK_lo _ _ _ 1 (by decide)]⟩)
    | succ d ih =>
      intro j hj
      refine XV.run C okE_removeRope 4 (q := (6, ([some (.ref (e)), some (.int (nI i)), some (.int (nI (i + j))), none, none], [.ref (e), .int ((nI (i + j)) + 1)]))) rfl ?_
      refine XV.getf C (ci := 0) (kf := 2) (v := .int ((shiftK f i j) 1)) (xlk_ok okE_removeRope rfl) rfl (by decide) wF_E_21 (by omega) (by omega) ((blk_is h e 28 (elevC e (shiftK f i j))) 0 (by decide)) rfl ?_
      refine XV.icmp_ge C (tgt := 48) (xlk_ok okE_removeRope rfl) rfl (fun hc => absurd hc (by rw [shiftK_lo _ _ _ _ (by decide), hm, nI_1]; exact nI_ge (by omega) (by omega))) (fun _ => ?_)
      refine XV.run C okE_removeRope 2 (q := (14, ([some (.ref (e)), some (.int (nI i)), some (.int (nI (i + j))), none, none], [.int (nI (i + j)), .ref (e)]))) rfl ?_
      refine XV.callV C (As := [.int (nI (i + j))]) (rest := []) (ci := 0) (ct_E_ropeAt hfl (blk_is h e 28 (elevC e (shiftK f i j))) (by omega) (by omega) (i := i + j) (rfl) (by rw [shiftK_lo _ _ _ _ (by decide)]; exact hm) (by omega) (by omega)) (xlk_ok okE_removeRope rfl) rfl (by omega) (by omega) rfl ((blk_is h e 28 (elevC e (shiftK f i j))) 0 (by decide)) rfl wM_E_51 wI_E_ropeAt wV_E_ropeAt wN_E wB_E_ropeAt hy_E_ropeAt (fun q => q.elim) ⟨Nat.le_of_ble_eq_true rfl, Nat.le_of_ble_eq_true rfl⟩ ⟨Nat.le_of_ble_eq_true rfl, Nat.le_of_ble_eq_true rfl⟩ (Nat.le_of_ble_eq_true rfl) (fun r n h hp => ?_) (fun _ _ _ q => q.elim)
      obtain ⟨rfl, rfl, rfl⟩ := hp
      refine XV.run C okE_removeRope 5 (q := (22, ([some (.ref (e)), some (.int (nI i)), some (.int (nI (i + j))), some (.ref (e + 3 + 5 * (i + j))), none], [.int ((nI (i + j)) + 1), .ref (e)]))) rfl ?_
      refine XV.callV C (As := [.int ((nI (i + j)) + 1)]) (rest := []) (ci := 0) (ct_E_ropeAt hfl (blk_is h e 28 (elevC e (shiftK f i j))) (by omega) (by omega) (i := i + j + 1) (nI_1 _) (by rw [shiftK_lo _ _ _ _ (by decide)]; exact hm) (by omega) (by omega)) (xlk_ok okE_removeRope rfl) rfl (by omega) (by omega) rfl ((blk_is h e 28 (elevC e (shiftK f i j))) 0 (by decide)) rfl wM_E_51 wI_E_ropeAt wV_E_ropeAt wN_E wB_E_ropeAt hy_E_ropeAt (fun q => q.elim) ⟨Nat.le_of_ble_eq_true rfl, Nat.le_of_ble_eq_true rfl⟩ ⟨Nat.le_of_ble_eq_true rfl, Nat.le_of_ble_eq_true rfl⟩ (Nat.le_of_ble_eq_true rfl) (fun r n h hp => ?_) (fun _ _ _ q => q.elim)
      obtain ⟨rfl, rfl, rfl⟩ := hp
      refine XV.run C okE_removeRope 2 (q := (28, ([some (.ref (e)), some (.int (nI i)), some (.int (nI (i + j))), some (.ref (e + 3 + 5 * (i + j))), some (.ref (e + 3 + 5 * (i + j + 1)))], [.ref (e + 3 + 5 * (i + j))]))) rfl ?_
      refine XV.null_r C (xlk_ok okE_removeRope rfl) ?_
      refine XV.run C okE_removeRope 1 (q := (33, ([some (.ref (e)), some (.int (nI i)), some (.int (nI (i + j))), some (.ref (e + 3 + 5 * (i + j))), some (.ref (e + 3 + 5 * (i + j + 1)))], [.ref (e + 3 + 5 * (i + j + 1))]))) rfl ?_
      refine XV.null_r C (xlk_ok okE_removeRope rfl) ?_
      refine XV.run C okE_removeRope 2 (q := (39, ([some (.ref (e)), some (.int (nI i)), some (.int (nI (i + j))), some (.ref (e + 3 + 5 * (i + j))), some (.ref (e + 3 + 5 * (i + j + 1)))], [.ref (e + 3 + 5 * (i + j + 1)), .ref (e + 3 + 5 * (i + j))]))) rfl ?_
      refine XV.callV C (As := [.ref (e + 3 + 5 * (i + j + 1))]) (rest := []) (ci := 2) (ct_R_copyFrom hfl (elev_rope (blk_is h e 28 (elevC e (shiftK f i j))) (by omega)) (by omega) (by omega) (IsRope.of_eq (elev_rope (blk_is h e 28 (elevC e (shiftK f i j))) (i := i + j + 1) (by omega)) (congrArg qfix (shiftK_at f i j (i + j + 1) (by omega)))) (by omega) (by omega) (by omega)) (xlk_ok okE_removeRope rfl) rfl (by omega) (by omega) rfl ((elev_rope (blk_is h e 28 (elevC e (shiftK f i j))) (by omega)) 0 (by decide)) rfl wM_E_47 wI_R_copyFrom wV_R_copyFrom wN_R wB_R_copyFrom hy_R_copyFrom (fun q => q.elim) ⟨Nat.le_of_ble_eq_true rfl, Nat.le_of_ble_eq_true rfl⟩ ⟨Nat.le_of_ble_eq_true rfl, Nat.le_of_ble_eq_true rfl⟩ (Nat.le_of_ble_eq_true rfl) (fun r n h hp => ?_) (fun _ _ _ q => q.elim)
      obtain ⟨rfl, rfl, rfl⟩ := hp
      refine XV.cast (setElev_sh h e f i j (by omega)) ?_
      refine XV.run C okE_removeRope 2 (q := (2, ([some (.ref (e)), some (.int (nI i)), some (.int ((nI (i + j)) + 1)), some (.ref (e + 3 + 5 * (i + j))), some (.ref (e + 3 + 5 * (i + j + 1)))], []))) rfl ?_
      rw [nI_1]
      exact XV.drop (ih (j + 1) (by omega)) rfl (by simp [xle, Nat.add_assoc])
  refine XV.cast (by rw [shiftK_0]) (h' := setElev h e (shiftK f i 0)) ?_
  exact loop (k - 1 - i) 0 (by omega)
