/-! the constructors -/
def blkL (h : XH) (a : Nat) (L : List XC) : XH := blk h a L.length (fun i => L.getD i (.inr (0, [])))
theorem blkL_1 (h : XH) (a : Nat) (c : XC) : xup h a c = blkL h a [c] := by
  funext j
  unfold xup blkL blk
  by_cases hj : j = a
  · subst hj
    rw [if_pos rfl, if_pos (by simp)]
    simp
  · rw [if_neg hj, if_neg (by simp; omega)]
theorem blkL_new {h : XH} {a b : Nat} {L : List XC} {c : XC} (hb : b = a + L.length) : xup (blkL h a L) b c = blkL h a (L ++ [c]) := by
  subst hb
  funext j
  unfold xup blkL blk
  by_cases hj : j = a + L.length
  · subst hj
    rw [if_pos rfl, if_pos (by simp)]
    simp
  · rw [if_neg hj]
    by_cases h2 : a ≤ j ∧ j < a + L.length
    · rw [if_pos h2, if_pos (by simp; omega)]
      dsimp only
      rw [List.getD_eq_getElem?_getD, List.getD_eq_getElem?_getD, List.getElem?_append_left (by omega)]
    · rw [if_neg h2, if_neg (by simp; omega)]
theorem blkL_up {h : XH} {a b i : Nat} {L : List XC} {c : XC} (hb : b = a + i) (hi : i < L.length) : xup (blkL h a L) b c = blkL h a (L.set i c) := by
  subst hb
  funext j
  unfold xup blkL blk
  by_cases hj : j = a + i
  · subst hj
    rw [if_pos rfl, if_pos (by simp; omega)]
    simp [hi]
  · rw [if_neg hj]
    by_cases h2 : a ≤ j ∧ j < a + L.length
    · rw [if_pos h2, if_pos (by simp; omega)]
      dsimp only
      rw [List.getD_eq_getElem?_getD, List.getD_eq_getElem?_getD, List.getElem?_set_ne (by omega)]
    · rw [if_neg h2, if_neg (by simp; omega)]
theorem blkL_get {h : XH} {a b i : Nat} {L : List XC} {c : XC} (hb : b = a + i) (hc : L[i]? = some c) : blkL h a L b = c := by
  subst hb
  have hi : i < L.length := (List.getElem?_eq_some_iff.mp hc).1
  unfold blkL blk
  rw [if_pos (by omega), show a + i - a = i by omega]
  show L.getD i _ = c
  rw [List.getD_eq_getElem?_getD, hc]
  rfl
theorem blkL_blk {h : XH} {a N : Nat} {L : List XC} {c : Nat → XC} (hN : L.length = N) (hc : ∀ j, j < N → L[j]? = some (c j)) : blkL h a L = blk h a N c := by
  subst hN
  refine blk_eq fun j hj => ?_
  rw [List.getD_eq_getElem?_getD, hc j hj]
  rfl
theorem XV.num {G : XG} {nL : Nat} {p : Program} {l : Launch} {e : Env} {R : Room} {s : State} {m : MethodId} {args : Array Value} {below : List Frame} {meth : Method} {c : Code} {Q : State → Prop} {pc : Nat} {ls : List (Option Value)} {st : List Value} {n n' : Nat} {h h' : XH} {k ks k' ks' : Nat} (hh : h = h') (hn : n = n') (hk : k = k') (hks : ks = ks') (kk : XV G nL p l e R s m args below meth c Q pc ls st n' h' k' ks') : XV G nL p l e R s m args below meth c Q pc ls st n h k ks := by
  subst hh hn hk hks
  exact kk
def rI : Nat → Int32 := fun k => if k = 0 then 1 else 0
set_option maxHeartbeats 4000000 in
set_option maxRecDepth 100000 in
theorem ct_R_init {l : Launch} (hfl : l.stackTraces = false) {G : XG} {m : Nat} {h : XH} : XCt l G True (Cond.code yR_init bR_init 1 none) yR_init 1 20 4 96 [.ref (m + 4)] (m + 1) (blkL h (m + 4) [.inr (2, [.null, .null, .null, .null, .int (0), .int (0), .int (0)])]) (fun r' n' h' => r' = none ∧ n' = m + 5 ∧ h' = setRope h (m + 4) rI) (fun _ _ _ => False) := by
  have hmd2 : True := trivial
  refine XCt.of hfl (by decide +kernel) (Nat.le_of_ble_eq_true rfl) ?_
  intro p' e' s' m' g' b' t' c' C hret hname hnt hmd
  have hex := hmd trivial
  have hAO := (show xEnv G s' from (id C).2.2.2.2.2.2.1).2.2.2.2.2.2.2.2
  refine XV.run C okR_init 1 (q := (1, ([some (.ref (m + 4))], [.ref (m + 4)]))) rfl ?_
  refine XV.objInit C (xlk_ok okR_init rfl) wM_R_3 (Nat.le_of_ble_eq_true rfl) (Nat.le_of_ble_eq_true rfl) ?_
  refine XV.run C okR_init 2 (q := (7, ([some (.ref (m + 4))], [.int (24), .ref (m + 4)]))) rfl ?_
  refine XV.newI C (N := 24) (xlk_ok okR_init rfl) wR_74 rfl (by decide) (by omega) (Nat.le_of_ble_eq_true rfl) (Nat.le_of_ble_eq_true rfl) ?_
  refine XV.cast ((congrArg (fun w => xup _ _ w) (xar_0 24)).trans (blkL_new rfl)) ?_
  show XV G 1 p' l e' ({ frames := 1, cells := 4, slots := 96, locals := 20 } : Room) s' m' g' b' t' c' (XEnd G b' (fun r' n' h' => r' = none ∧ n' = m + 5 ∧ h' = setRope h (m + 4) rI) (fun _ _ _ => False) g' s' 4 96) 9 [some (.ref (m + 4))] [.ref (m + 4 + 1), .ref (m + 4)] (m + 1 + 1) (blkL h (m + 4) [.inr (2, [.null, .null, .null, .null, .int (0), .int (0), .int (0)]), xar 24 (fun _ => 0)]) (0 + 1) (0 + 24)
  refine XV.putF C (ci := 2) (kf := 0) hname (xlk_ok okR_init rfl) rfl (by decide) wF_R_9 (by omega) (by omega) (blkL_get (i := 0) rfl rfl) rfl rfl rfl rfl rfl (Nat.le_of_ble_eq_true rfl) ?_
  refine XV.cast (blkL_up (i := 0) rfl (Nat.le_of_ble_eq_true rfl)) ?_
  show XV G 1 p' l e' ({ frames := 1, cells := 4, slots := 96, locals := 20 } : Room) s' m' g' b' t' c' (XEnd G b' (fun r' n' h' => r' = none ∧ n' = m + 5 ∧ h' = setRope h (m + 4) rI) (fun _ _ _ => False) g' s' 4 96) 12 [some (.ref (m + 4))] [] (m + 1 + 1) (blkL h (m + 4) [.inr (2, [.ref (m + 4 + 1), .null, .null, .null, .int (0), .int (0), .int (0)]), xar 24 (fun _ => 0)]) (0 + 1) (0 + 24)
  refine XV.run C okR_init 2 (q := (15, ([some (.ref (m + 4))], [.int (24), .ref (m + 4)]))) rfl ?_
  refine XV.newI C (N := 24) (xlk_ok okR_init rfl) wR_74 rfl (by decide) (by omega) (Nat.le_of_ble_eq_true rfl) (Nat.le_of_ble_eq_true rfl) ?_
  refine XV.cast ((congrArg (fun w => xup _ _ w) (xar_0 24)).trans (blkL_new rfl)) ?_
  show XV G 1 p' l e' ({ frames := 1, cells := 4, slots := 96, locals := 20 } : Room) s' m' g' b' t' c' (XEnd G b' (fun r' n' h' => r' = none ∧ n' = m + 5 ∧ h' = setRope h (m + 4) rI) (fun _ _ _ => False) g' s' 4 96) 17 [some (.ref (m + 4))] [.ref (m + 4 + 2), .ref (m + 4)] (m + 1 + 2) (blkL h (m + 4) [.inr (2, [.ref (m + 4 + 1), .null, .null, .null, .int (0), .int (0), .int (0)]), xar 24 (fun _ => 0), xar 24 (fun _ => 0)]) ((0 + 1) + 1) ((0 + 24) + 24)
  refine XV.putF C (ci := 2) (kf := 1) hname (xlk_ok okR_init rfl) rfl (by decide) wF_R_15 (by omega) (by omega) (blkL_get (i := 0) rfl rfl) rfl rfl rfl rfl rfl (Nat.le_of_ble_eq_true rfl) ?_
  refine XV.cast (blkL_up (i := 0) rfl (Nat.le_of_ble_eq_true rfl)) ?_
  show XV G 1 p' l e' ({ frames := 1, cells := 4, slots := 96, locals := 20 } : Room) s' m' g' b' t' c' (XEnd G b' (fun r' n' h' => r' = none ∧ n' = m + 5 ∧ h' = setRope h (m + 4) rI) (fun _ _ _ => False) g' s' 4 96) 20 [some (.ref (m + 4))] [] (m + 1 + 2) (blkL h (m + 4) [.inr (2, [.ref (m + 4 + 1), .ref (m + 4 + 2), .null, .null, .int (0), .int (0), .int (0)]), xar 24 (fun _ => 0), xar 24 (fun _ => 0)]) ((0 + 1) + 1) ((0 + 24) + 24)
  refine XV.run C okR_init 2 (q := (23, ([some (.ref (m + 4))], [.int (24), .ref (m + 4)]))) rfl ?_
  refine XV.newI C (N := 24) (xlk_ok okR_init rfl) wR_74 rfl (by decide) (by omega) (Nat.le_of_ble_eq_true rfl) (Nat.le_of_ble_eq_true rfl) ?_
  refine XV.cast ((congrArg (fun w => xup _ _ w) (xar_0 24)).trans (blkL_new rfl)) ?_
  show XV G 1 p' l e' ({ frames := 1, cells := 4, slots := 96, locals := 20 } : Room) s' m' g' b' t' c' (XEnd G b' (fun r' n' h' => r' = none ∧ n' = m + 5 ∧ h' = setRope h (m + 4) rI) (fun _ _ _ => False) g' s' 4 96) 25 [some (.ref (m + 4))] [.ref (m + 4 + 3), .ref (m + 4)] (m + 1 + 3) (blkL h (m + 4) [.inr (2, [.ref (m + 4 + 1), .ref (m + 4 + 2), .null, .null, .int (0), .int (0), .int (0)]), xar 24 (fun _ => 0), xar 24 (fun _ => 0), xar 24 (fun _ => 0)]) (((0 + 1) + 1) + 1) (((0 + 24) + 24) + 24)
  refine XV.putF C (ci := 2) (kf := 2) hname (xlk_ok okR_init rfl) rfl (by decide) wF_R_18 (by omega) (by omega) (blkL_get (i := 0) rfl rfl) rfl rfl rfl rfl rfl (Nat.le_of_ble_eq_true rfl) ?_
  refine XV.cast (blkL_up (i := 0) rfl (Nat.le_of_ble_eq_true rfl)) ?_
  show XV G 1 p' l e' ({ frames := 1, cells := 4, slots := 96, locals := 20 } : Room) s' m' g' b' t' c' (XEnd G b' (fun r' n' h' => r' = none ∧ n' = m + 5 ∧ h' = setRope h (m + 4) rI) (fun _ _ _ => False) g' s' 4 96) 28 [some (.ref (m + 4))] [] (m + 1 + 3) (blkL h (m + 4) [.inr (2, [.ref (m + 4 + 1), .ref (m + 4 + 2), .ref (m + 4 + 3), .null, .int (0), .int (0), .int (0)]), xar 24 (fun _ => 0), xar 24 (fun _ => 0), xar 24 (fun _ => 0)]) (((0 + 1) + 1) + 1) (((0 + 24) + 24) + 24)
  refine XV.run C okR_init 2 (q := (31, ([some (.ref (m + 4))], [.int (24), .ref (m + 4)]))) rfl ?_
  refine XV.newI C (N := 24) (xlk_ok okR_init rfl) wR_74 rfl (by decide) (by omega) (Nat.le_of_ble_eq_true rfl) (Nat.le_of_ble_eq_true rfl) ?_
  refine XV.cast ((congrArg (fun w => xup _ _ w) (xar_0 24)).trans (blkL_new rfl)) ?_
  show XV G 1 p' l e' ({ frames := 1, cells := 4, slots := 96, locals := 20 } : Room) s' m' g' b' t' c' (XEnd G b' (fun r' n' h' => r' = none ∧ n' = m + 5 ∧ h' = setRope h (m + 4) rI) (fun _ _ _ => False) g' s' 4 96) 33 [some (.ref (m + 4))] [.ref (m + 4 + 4), .ref (m + 4)] (m + 1 + 4) (blkL h (m + 4) [.inr (2, [.ref (m + 4 + 1), .ref (m + 4 + 2), .ref (m + 4 + 3), .null, .int (0), .int (0), .int (0)]), xar 24 (fun _ => 0), xar 24 (fun _ => 0), xar 24 (fun _ => 0), xar 24 (fun _ => 0)]) ((((0 + 1) + 1) + 1) + 1) ((((0 + 24) + 24) + 24) + 24)
  refine XV.putF C (ci := 2) (kf := 3) hname (xlk_ok okR_init rfl) rfl (by decide) wF_R_21 (by omega) (by omega) (blkL_get (i := 0) rfl rfl) rfl rfl rfl rfl rfl (Nat.le_of_ble_eq_true rfl) ?_
  refine XV.cast (blkL_up (i := 0) rfl (Nat.le_of_ble_eq_true rfl)) ?_
  show XV G 1 p' l e' ({ frames := 1, cells := 4, slots := 96, locals := 20 } : Room) s' m' g' b' t' c' (XEnd G b' (fun r' n' h' => r' = none ∧ n' = m + 5 ∧ h' = setRope h (m + 4) rI) (fun _ _ _ => False) g' s' 4 96) 36 [some (.ref (m + 4))] [] (m + 1 + 4) (blkL h (m + 4) [.inr (2, [.ref (m + 4 + 1), .ref (m + 4 + 2), .ref (m + 4 + 3), .ref (m + 4 + 4), .int (0), .int (0), .int (0)]), xar 24 (fun _ => 0), xar 24 (fun _ => 0), xar 24 (fun _ => 0), xar 24 (fun _ => 0)]) ((((0 + 1) + 1) + 1) + 1) ((((0 + 24) + 24) + 24) + 24)
  refine XV.run C okR_init 2 (q := (38, ([some (.ref (m + 4))], [.int (1), .ref (m + 4)]))) rfl ?_
  refine XV.putf C (ci := 2) (kf := 4) (xlk_ok okR_init rfl) rfl (by decide) wF_R_24 (by omega) (by omega) (blkL_get (i := 0) rfl rfl) rfl rfl rfl rfl (Nat.le_of_ble_eq_true rfl) ?_
  refine XV.cast (blkL_up (i := 0) rfl (Nat.le_of_ble_eq_true rfl)) ?_
  show XV G 1 p' l e' ({ frames := 1, cells := 4, slots := 96, locals := 20 } : Room) s' m' g' b' t' c' (XEnd G b' (fun r' n' h' => r' = none ∧ n' = m + 5 ∧ h' = setRope h (m + 4) rI) (fun _ _ _ => False) g' s' 4 96) 41 [some (.ref (m + 4))] [] (m + 1 + 4) (blkL h (m + 4) [.inr (2, [.ref (m + 4 + 1), .ref (m + 4 + 2), .ref (m + 4 + 3), .ref (m + 4 + 4), .int (1), .int (0), .int (0)]), xar 24 (fun _ => 0), xar 24 (fun _ => 0), xar 24 (fun _ => 0), xar 24 (fun _ => 0)]) ((((0 + 1) + 1) + 1) + 1) ((((0 + 24) + 24) + 24) + 24)
  refine XV.run C okR_init 2 (q := (43, ([some (.ref (m + 4))], [.int (0), .ref (m + 4)]))) rfl ?_
  refine XV.putf C (ci := 2) (kf := 5) (xlk_ok okR_init rfl) rfl (by decide) wF_R_28 (by omega) (by omega) (blkL_get (i := 0) rfl rfl) rfl rfl rfl rfl (Nat.le_of_ble_eq_true rfl) ?_
  refine XV.cast (blkL_up (i := 0) rfl (Nat.le_of_ble_eq_true rfl)) ?_
  show XV G 1 p' l e' ({ frames := 1, cells := 4, slots := 96, locals := 20 } : Room) s' m' g' b' t' c' (XEnd G b' (fun r' n' h' => r' = none ∧ n' = m + 5 ∧ h' = setRope h (m + 4) rI) (fun _ _ _ => False) g' s' 4 96) 46 [some (.ref (m + 4))] [] (m + 1 + 4) (blkL h (m + 4) [.inr (2, [.ref (m + 4 + 1), .ref (m + 4 + 2), .ref (m + 4 + 3), .ref (m + 4 + 4), .int (1), .int (0), .int (0)]), xar 24 (fun _ => 0), xar 24 (fun _ => 0), xar 24 (fun _ => 0), xar 24 (fun _ => 0)]) ((((0 + 1) + 1) + 1) + 1) ((((0 + 24) + 24) + 24) + 24)
  refine XV.run C okR_init 2 (q := (48, ([some (.ref (m + 4))], [.int (0), .ref (m + 4)]))) rfl ?_
  refine XV.putf C (ci := 2) (kf := 6) (xlk_ok okR_init rfl) rfl (by decide) wF_R_31 (by omega) (by omega) (blkL_get (i := 0) rfl rfl) rfl rfl rfl rfl (Nat.le_of_ble_eq_true rfl) ?_
  refine XV.cast (blkL_up (i := 0) rfl (Nat.le_of_ble_eq_true rfl)) ?_
  show XV G 1 p' l e' ({ frames := 1, cells := 4, slots := 96, locals := 20 } : Room) s' m' g' b' t' c' (XEnd G b' (fun r' n' h' => r' = none ∧ n' = m + 5 ∧ h' = setRope h (m + 4) rI) (fun _ _ _ => False) g' s' 4 96) 51 [some (.ref (m + 4))] [] (m + 1 + 4) (blkL h (m + 4) [.inr (2, [.ref (m + 4 + 1), .ref (m + 4 + 2), .ref (m + 4 + 3), .ref (m + 4 + 4), .int (1), .int (0), .int (0)]), xar 24 (fun _ => 0), xar 24 (fun _ => 0), xar 24 (fun _ => 0), xar 24 (fun _ => 0)]) ((((0 + 1) + 1) + 1) + 1) ((((0 + 24) + 24) + 24) + 24)
  exact XV.vret C (xlk_ok okR_init rfl) hret (Nat.le_of_ble_eq_true rfl) (Nat.le_of_ble_eq_true rfl) (⟨rfl, rfl, blkL_blk rfl (fun j hj => by rcases (show j = 0 ∨ j = 1 ∨ j = 2 ∨ j = 3 ∨ j = 4 by omega) with rfl | rfl | rfl | rfl | rfl <;> first | rfl | (refine congrArg some (xar_eq fun s hs => ?_); unfold rI; rw [if_neg (by omega)]))⟩)
set_option maxHeartbeats 4000000 in
set_option maxRecDepth 100000 in
theorem ct_T_init {l : Launch} (hfl : l.stackTraces = false) {G : XG} {m : Nat} {h : XH} : XCt l G True (Cond.code yT_init bT_init 1 none) yT_init 1 20 4 105 [.ref (m + 4)] (m + 1) (blkL h (m + 4) [.inr (3, [.null, .null, .null, .null, .int (0), .int (0)])]) (fun r' n' h' => r' = none ∧ n' = m + 5 ∧ h' = setText h (m + 4) (fun _ => 0) 0 (fun _ => 0, (fun _ => 0, (fun _ => 0, 0)))) (fun _ _ _ => False) := by
  have hmd2 : True := trivial
  refine XCt.of hfl (by decide +kernel) (Nat.le_of_ble_eq_true rfl) ?_
  intro p' e' s' m' g' b' t' c' C hret hname hnt hmd
  have hex := hmd trivial
  have hAO := (show xEnv G s' from (id C).2.2.2.2.2.2.1).2.2.2.2.2.2.2.2
  refine XV.run C okT_init 1 (q := (1, ([some (.ref (m + 4))], [.ref (m + 4)]))) rfl ?_
  refine XV.objInit C (xlk_ok okT_init rfl) wM_T_3 (Nat.le_of_ble_eq_true rfl) (Nat.le_of_ble_eq_true rfl) ?_
  refine XV.run C okT_init 2 (q := (7, ([some (.ref (m + 4))], [.int (60), .ref (m + 4)]))) rfl ?_
  refine XV.newI C (N := 60) (xlk_ok okT_init rfl) wR_74 rfl (by decide) (by omega) (Nat.le_of_ble_eq_true rfl) (Nat.le_of_ble_eq_true rfl) ?_
  refine XV.cast ((congrArg (fun w => xup _ _ w) (xar_0 60)).trans (blkL_new rfl)) ?_
  show XV G 1 p' l e' ({ frames := 1, cells := 4, slots := 105, locals := 20 } : Room) s' m' g' b' t' c' (XEnd G b' (fun r' n' h' => r' = none ∧ n' = m + 5 ∧ h' = setText h (m + 4) (fun _ => 0) 0 (fun _ => 0, (fun _ => 0, (fun _ => 0, 0)))) (fun _ _ _ => False) g' s' 4 105) 9 [some (.ref (m + 4))] [.ref (m + 4 + 1), .ref (m + 4)] (m + 1 + 1) (blkL h (m + 4) [.inr (3, [.null, .null, .null, .null, .int (0), .int (0)]), xar 60 (fun _ => 0)]) (0 + 1) (0 + 60)
  refine XV.putF C (ci := 3) (kf := 0) hname (xlk_ok okT_init rfl) rfl (by decide) wF_T_9 (by omega) (by omega) (blkL_get (i := 0) rfl rfl) rfl rfl rfl rfl rfl (Nat.le_of_ble_eq_true rfl) ?_
  refine XV.cast (blkL_up (i := 0) rfl (Nat.le_of_ble_eq_true rfl)) ?_
  show XV G 1 p' l e' ({ frames := 1, cells := 4, slots := 105, locals := 20 } : Room) s' m' g' b' t' c' (XEnd G b' (fun r' n' h' => r' = none ∧ n' = m + 5 ∧ h' = setText h (m + 4) (fun _ => 0) 0 (fun _ => 0, (fun _ => 0, (fun _ => 0, 0)))) (fun _ _ _ => False) g' s' 4 105) 12 [some (.ref (m + 4))] [] (m + 1 + 1) (blkL h (m + 4) [.inr (3, [.ref (m + 4 + 1), .null, .null, .null, .int (0), .int (0)]), xar 60 (fun _ => 0)]) (0 + 1) (0 + 60)
  refine XV.run C okT_init 2 (q := (15, ([some (.ref (m + 4))], [.int (15), .ref (m + 4)]))) rfl ?_
  refine XV.newI C (N := 15) (xlk_ok okT_init rfl) wR_74 rfl (by decide) (by omega) (Nat.le_of_ble_eq_true rfl) (Nat.le_of_ble_eq_true rfl) ?_
  refine XV.cast ((congrArg (fun w => xup _ _ w) (xar_0 15)).trans (blkL_new rfl)) ?_
  show XV G 1 p' l e' ({ frames := 1, cells := 4, slots := 105, locals := 20 } : Room) s' m' g' b' t' c' (XEnd G b' (fun r' n' h' => r' = none ∧ n' = m + 5 ∧ h' = setText h (m + 4) (fun _ => 0) 0 (fun _ => 0, (fun _ => 0, (fun _ => 0, 0)))) (fun _ _ _ => False) g' s' 4 105) 17 [some (.ref (m + 4))] [.ref (m + 4 + 2), .ref (m + 4)] (m + 1 + 2) (blkL h (m + 4) [.inr (3, [.ref (m + 4 + 1), .null, .null, .null, .int (0), .int (0)]), xar 60 (fun _ => 0), xar 15 (fun _ => 0)]) ((0 + 1) + 1) ((0 + 60) + 15)
  refine XV.putF C (ci := 3) (kf := 1) hname (xlk_ok okT_init rfl) rfl (by decide) wF_T_15 (by omega) (by omega) (blkL_get (i := 0) rfl rfl) rfl rfl rfl rfl rfl (Nat.le_of_ble_eq_true rfl) ?_
  refine XV.cast (blkL_up (i := 0) rfl (Nat.le_of_ble_eq_true rfl)) ?_
  show XV G 1 p' l e' ({ frames := 1, cells := 4, slots := 105, locals := 20 } : Room) s' m' g' b' t' c' (XEnd G b' (fun r' n' h' => r' = none ∧ n' = m + 5 ∧ h' = setText h (m + 4) (fun _ => 0) 0 (fun _ => 0, (fun _ => 0, (fun _ => 0, 0)))) (fun _ _ _ => False) g' s' 4 105) 20 [some (.ref (m + 4))] [] (m + 1 + 2) (blkL h (m + 4) [.inr (3, [.ref (m + 4 + 1), .ref (m + 4 + 2), .null, .null, .int (0), .int (0)]), xar 60 (fun _ => 0), xar 15 (fun _ => 0)]) ((0 + 1) + 1) ((0 + 60) + 15)
  refine XV.run C okT_init 2 (q := (23, ([some (.ref (m + 4))], [.int (15), .ref (m + 4)]))) rfl ?_
  refine XV.newI C (N := 15) (xlk_ok okT_init rfl) wR_74 rfl (by decide) (by omega) (Nat.le_of_ble_eq_true rfl) (Nat.le_of_ble_eq_true rfl) ?_
  refine XV.cast ((congrArg (fun w => xup _ _ w) (xar_0 15)).trans (blkL_new rfl)) ?_
  show XV G 1 p' l e' ({ frames := 1, cells := 4, slots := 105, locals := 20 } : Room) s' m' g' b' t' c' (XEnd G b' (fun r' n' h' => r' = none ∧ n' = m + 5 ∧ h' = setText h (m + 4) (fun _ => 0) 0 (fun _ => 0, (fun _ => 0, (fun _ => 0, 0)))) (fun _ _ _ => False) g' s' 4 105) 25 [some (.ref (m + 4))] [.ref (m + 4 + 3), .ref (m + 4)] (m + 1 + 3) (blkL h (m + 4) [.inr (3, [.ref (m + 4 + 1), .ref (m + 4 + 2), .null, .null, .int (0), .int (0)]), xar 60 (fun _ => 0), xar 15 (fun _ => 0), xar 15 (fun _ => 0)]) (((0 + 1) + 1) + 1) (((0 + 60) + 15) + 15)
  refine XV.putF C (ci := 3) (kf := 2) hname (xlk_ok okT_init rfl) rfl (by decide) wF_T_18 (by omega) (by omega) (blkL_get (i := 0) rfl rfl) rfl rfl rfl rfl rfl (Nat.le_of_ble_eq_true rfl) ?_
  refine XV.cast (blkL_up (i := 0) rfl (Nat.le_of_ble_eq_true rfl)) ?_
  show XV G 1 p' l e' ({ frames := 1, cells := 4, slots := 105, locals := 20 } : Room) s' m' g' b' t' c' (XEnd G b' (fun r' n' h' => r' = none ∧ n' = m + 5 ∧ h' = setText h (m + 4) (fun _ => 0) 0 (fun _ => 0, (fun _ => 0, (fun _ => 0, 0)))) (fun _ _ _ => False) g' s' 4 105) 28 [some (.ref (m + 4))] [] (m + 1 + 3) (blkL h (m + 4) [.inr (3, [.ref (m + 4 + 1), .ref (m + 4 + 2), .ref (m + 4 + 3), .null, .int (0), .int (0)]), xar 60 (fun _ => 0), xar 15 (fun _ => 0), xar 15 (fun _ => 0)]) (((0 + 1) + 1) + 1) (((0 + 60) + 15) + 15)
  refine XV.run C okT_init 2 (q := (31, ([some (.ref (m + 4))], [.int (15), .ref (m + 4)]))) rfl ?_
  refine XV.newI C (N := 15) (xlk_ok okT_init rfl) wR_74 rfl (by decide) (by omega) (Nat.le_of_ble_eq_true rfl) (Nat.le_of_ble_eq_true rfl) ?_
  refine XV.cast ((congrArg (fun w => xup _ _ w) (xar_0 15)).trans (blkL_new rfl)) ?_
  show XV G 1 p' l e' ({ frames := 1, cells := 4, slots := 105, locals := 20 } : Room) s' m' g' b' t' c' (XEnd G b' (fun r' n' h' => r' = none ∧ n' = m + 5 ∧ h' = setText h (m + 4) (fun _ => 0) 0 (fun _ => 0, (fun _ => 0, (fun _ => 0, 0)))) (fun _ _ _ => False) g' s' 4 105) 33 [some (.ref (m + 4))] [.ref (m + 4 + 4), .ref (m + 4)] (m + 1 + 4) (blkL h (m + 4) [.inr (3, [.ref (m + 4 + 1), .ref (m + 4 + 2), .ref (m + 4 + 3), .null, .int (0), .int (0)]), xar 60 (fun _ => 0), xar 15 (fun _ => 0), xar 15 (fun _ => 0), xar 15 (fun _ => 0)]) ((((0 + 1) + 1) + 1) + 1) ((((0 + 60) + 15) + 15) + 15)
  refine XV.putF C (ci := 3) (kf := 3) hname (xlk_ok okT_init rfl) rfl (by decide) wF_T_21 (by omega) (by omega) (blkL_get (i := 0) rfl rfl) rfl rfl rfl rfl rfl (Nat.le_of_ble_eq_true rfl) ?_
  refine XV.cast (blkL_up (i := 0) rfl (Nat.le_of_ble_eq_true rfl)) ?_
  show XV G 1 p' l e' ({ frames := 1, cells := 4, slots := 105, locals := 20 } : Room) s' m' g' b' t' c' (XEnd G b' (fun r' n' h' => r' = none ∧ n' = m + 5 ∧ h' = setText h (m + 4) (fun _ => 0) 0 (fun _ => 0, (fun _ => 0, (fun _ => 0, 0)))) (fun _ _ _ => False) g' s' 4 105) 36 [some (.ref (m + 4))] [] (m + 1 + 4) (blkL h (m + 4) [.inr (3, [.ref (m + 4 + 1), .ref (m + 4 + 2), .ref (m + 4 + 3), .ref (m + 4 + 4), .int (0), .int (0)]), xar 60 (fun _ => 0), xar 15 (fun _ => 0), xar 15 (fun _ => 0), xar 15 (fun _ => 0)]) ((((0 + 1) + 1) + 1) + 1) ((((0 + 60) + 15) + 15) + 15)
  refine XV.run C okT_init 2 (q := (38, ([some (.ref (m + 4))], [.int (0), .ref (m + 4)]))) rfl ?_
  refine XV.putf C (ci := 3) (kf := 4) (xlk_ok okT_init rfl) rfl (by decide) wF_T_24 (by omega) (by omega) (blkL_get (i := 0) rfl rfl) rfl rfl rfl rfl (Nat.le_of_ble_eq_true rfl) ?_
  refine XV.cast (blkL_up (i := 0) rfl (Nat.le_of_ble_eq_true rfl)) ?_
  show XV G 1 p' l e' ({ frames := 1, cells := 4, slots := 105, locals := 20 } : Room) s' m' g' b' t' c' (XEnd G b' (fun r' n' h' => r' = none ∧ n' = m + 5 ∧ h' = setText h (m + 4) (fun _ => 0) 0 (fun _ => 0, (fun _ => 0, (fun _ => 0, 0)))) (fun _ _ _ => False) g' s' 4 105) 41 [some (.ref (m + 4))] [] (m + 1 + 4) (blkL h (m + 4) [.inr (3, [.ref (m + 4 + 1), .ref (m + 4 + 2), .ref (m + 4 + 3), .ref (m + 4 + 4), .int (0), .int (0)]), xar 60 (fun _ => 0), xar 15 (fun _ => 0), xar 15 (fun _ => 0), xar 15 (fun _ => 0)]) ((((0 + 1) + 1) + 1) + 1) ((((0 + 60) + 15) + 15) + 15)
  refine XV.run C okT_init 2 (q := (43, ([some (.ref (m + 4))], [.int (0), .ref (m + 4)]))) rfl ?_
  refine XV.putf C (ci := 3) (kf := 5) (xlk_ok okT_init rfl) rfl (by decide) wF_T_28 (by omega) (by omega) (blkL_get (i := 0) rfl rfl) rfl rfl rfl rfl (Nat.le_of_ble_eq_true rfl) ?_
  refine XV.cast (blkL_up (i := 0) rfl (Nat.le_of_ble_eq_true rfl)) ?_
  show XV G 1 p' l e' ({ frames := 1, cells := 4, slots := 105, locals := 20 } : Room) s' m' g' b' t' c' (XEnd G b' (fun r' n' h' => r' = none ∧ n' = m + 5 ∧ h' = setText h (m + 4) (fun _ => 0) 0 (fun _ => 0, (fun _ => 0, (fun _ => 0, 0)))) (fun _ _ _ => False) g' s' 4 105) 46 [some (.ref (m + 4))] [] (m + 1 + 4) (blkL h (m + 4) [.inr (3, [.ref (m + 4 + 1), .ref (m + 4 + 2), .ref (m + 4 + 3), .ref (m + 4 + 4), .int (0), .int (0)]), xar 60 (fun _ => 0), xar 15 (fun _ => 0), xar 15 (fun _ => 0), xar 15 (fun _ => 0)]) ((((0 + 1) + 1) + 1) + 1) ((((0 + 60) + 15) + 15) + 15)
  exact XV.vret C (xlk_ok okT_init rfl) hret (Nat.le_of_ble_eq_true rfl) (Nat.le_of_ble_eq_true rfl) (⟨rfl, rfl, blkL_blk rfl (fun j hj => by rcases (show j = 0 ∨ j = 1 ∨ j = 2 ∨ j = 3 ∨ j = 4 by omega) with rfl | rfl | rfl | rfl | rfl <;> rfl)⟩)
def f0K : Nat → Int32 := fun k => if k = 2 then 4 else if k = 3 then 8 else if k = 4 then 20 else if k = 5 then 5 else if k = 6 then 3 else 0
theorem f0K_hi {k : Nat} (h : 7 ≤ k) : f0K k = 0 := by
  unfold f0K
  rw [if_neg (by omega), if_neg (by omega), if_neg (by omega), if_neg (by omega), if_neg (by omega)]
def sK (j : Nat) : Nat → Int32 := fun s => if s < j then (XSA 3).2 s else 0
theorem sK_s (j : Nat) : upd (sK j) j ((XSA 3).2 j) = sK (j + 1) := by
  funext s
  unfold upd sK
  by_cases h : s = j
  · subst h
    rw [if_pos rfl, if_pos (by omega)]
  · rw [if_neg h]
    by_cases h2 : s < j
    · rw [if_pos h2, if_pos (by omega)]
    · rw [if_neg h2, if_neg (by omega)]
def eIn (a j : Nat) : Nat → XC := fun i => match i with
  | 0 => .inr (0, [.ref (a + 1), .ref (a + 2), .int 0, .int 0, .int 0, .int 0, .int 0])
  | 1 => xar 5 (sK 5)
  | 2 => .inl (3, (5, .inr (.inr (fun i => if i < j then some (a + 3 + 5 * i) else none))))
  | i + 3 => ropeC (a + 3 + 5 * (i / 5)) rI (i % 5)
theorem up_next {a b d j : Nat} : va_up (fun i => if i < j then some (a + b + d * i) else none) j (some (a + b + d * j)) = fun i => if i < j + 1 then some (a + b + d * i) else none := by
  funext i
  unfold va_up
  by_cases h : i = j
  · subst h
    rw [if_pos rfl, if_pos (by omega)]
  · rw [if_neg h]
    show (if i < j then _ else _) = _
    by_cases h2 : i < j
    · rw [if_pos h2, if_pos (by omega)]
    · rw [if_neg h2, if_neg (by omega)]
theorem eIn_s {h : XH} {a j : Nat} : xup (blk (blk h a (3 + 5 * j) (eIn a j)) (a + 3 + 5 * j) 5 (ropeC (a + 3 + 5 * j) rI)) (a + 2) (.inl (3, (5, .inr (.inr (va_up (fun i => if i < j then some (a + 3 + 5 * i) else none) j (some (a + 3 + 5 * j))))))) = blk h a (3 + 5 * (j + 1)) (eIn a (j + 1)) := by
  rw [up_next]
  funext q
  unfold xup blk
  by_cases h2 : q = a + 2
  · subst h2
    rw [if_pos rfl, if_pos (by omega), show a + 2 - a = 2 by omega]
    rfl
  rw [if_neg h2]
  by_cases h3 : a + 3 + 5 * j ≤ q ∧ q < a + 3 + 5 * j + 5
  · rw [if_pos h3, if_pos (by omega)]
    obtain ⟨t, rfl, ht⟩ : ∃ t, q = a + 3 + 5 * j + t ∧ t < 5 := ⟨q - (a + 3 + 5 * j), by omega, by omega⟩
    rw [show a + 3 + 5 * j + t - (a + 3 + 5 * j) = t by omega, show a + 3 + 5 * j + t - a = (5 * j + t) + 3 by omega]
    show _ = ropeC (a + 3 + 5 * ((5 * j + t) / 5)) rI ((5 * j + t) % 5)
    rw [show (5 * j + t) / 5 = j by omega, show (5 * j + t) % 5 = t by omega]
  rw [if_neg h3]
  by_cases h4 : a ≤ q ∧ q < a + (3 + 5 * j)
  · rw [if_pos h4, if_pos (by omega)]
    obtain ⟨t, rfl⟩ : ∃ t, q = a + t := ⟨q - a, by omega⟩
    rw [show a + t - a = t by omega]
    match t, h2 with
    | 0, _ => rfl
    | 1, _ => rfl
    | 2, h2 => exact absurd rfl h2
    | t + 3, _ => rfl
  · rw [if_neg h4, if_neg (by omega)]
theorem eIn_0 {h : XH} {a : Nat} : blkL h a [.inr (0, [.ref (a + 1), .ref (a + 2), .int 0, .int 0, .int 0, .int 0, .int 0]), xar 5 (sK 5), .inl (3, (5, .inr (.inr (fun _ => none))))] = blk h a (3 + 5 * 0) (eIn a 0) := by
  refine blkL_blk rfl fun j hj => ?_
  rcases (show j = 0 ∨ j = 1 ∨ j = 2 by omega) with rfl | rfl | rfl
  · rfl
  · rfl
  · show some _ = some _
    refine congrArg some ?_
    show (Sum.inl (3, (5, .inr (.inr (fun _ => none)))) : XC) = .inl (3, (5, .inr (.inr (fun i => if i < 0 then some (a + 3 + 5 * i) else none))))
    congr 4
theorem eIn_5 {h : XH} {a : Nat} : blk h a (3 + 5 * 5) (eIn a 5) = setElev h a f0K := by
  refine blk_eq fun i hi => ?_
  match i, hi with
  | 0, _ => rfl
  | 1, _ =>
    refine xar_eq fun s hs => ?_
    rcases (show s = 0 ∨ s = 1 ∨ s = 2 ∨ s = 3 ∨ s = 4 by omega) with rfl | rfl | rfl | rfl | rfl <;> rfl
  | 2, _ => rfl
  | i + 3, _ =>
    show ropeC _ rI _ = ropeC _ (qfix (rowOf f0K (i / 5))) _
    refine ropeC_congr (fun k hk => ?_) _
    unfold rI qfix rowOf
    rw [f0K_hi (by omega), f0K_hi (by omega), if_pos rfl]
theorem blk_o2 {h : XH} {a N q : Nat} {c : Nat → XC} (hq : q < a ∨ a + N ≤ q) : blk h a N c q = h q := by
  unfold blk
  rw [if_neg (by omega)]
theorem blk_i2 {h : XH} {a N q j : Nat} {c : Nat → XC} (hq : q = a + j) (hj : j < N) : blk h a N c q = c j := by
  subst hq
  exact blk_is h a N c j hj
set_option maxHeartbeats 4000000 in
set_option maxRecDepth 100000 in
theorem ct_E_init {l : Launch} (hfl : l.stackTraces = false) {G : XG} {m : Nat} {h : XH} : XCt l G True (Cond.code yE_init bE_init 2 none) yE_init 2 40 27 525 [.ref (m + 4)] (m + 1) (blkL h (m + 4) [.inr (0, [.null, .null, .int (0), .int (0), .int (0), .int (0), .int (0)])]) (fun r' n' h' => r' = none ∧ n' = m + 28 ∧ h' = setElev h (m + 4) f0K) (fun _ _ _ => False) := by
  have hmd2 : True := trivial
  refine XCt.of hfl (by decide +kernel) (Nat.le_of_ble_eq_true rfl) ?_
  intro p' e' s' m' g' b' t' c' C hret hname hnt hmd
  have hex := hmd trivial
  have hAO := (show xEnv G s' from (id C).2.2.2.2.2.2.1).2.2.2.2.2.2.2.2
  refine XV.run C okE_init 1 (q := (1, ([some (.ref (m + 4)), none], [.ref (m + 4)]))) rfl ?_
  refine XV.objInit C (xlk_ok okE_init rfl) wM_E_3 (Nat.le_of_ble_eq_true rfl) (Nat.le_of_ble_eq_true rfl) ?_
  refine XV.run C okE_init 2 (q := (6, ([some (.ref (m + 4)), none], [.int (5), .ref (m + 4)]))) rfl ?_
  refine XV.newI C (N := 5) (xlk_ok okE_init rfl) wR_74 rfl (by decide) (by omega) (Nat.le_of_ble_eq_true rfl) (Nat.le_of_ble_eq_true rfl) ?_
  refine XV.cast ((congrArg (fun w => xup _ _ w) (xar_0 5)).trans (blkL_new rfl)) ?_
  show XV G 2 p' l e' ({ frames := 2, cells := 27, slots := 525, locals := 40 } : Room) s' m' g' b' t' c' (XEnd G b' (fun r' n' h' => r' = none ∧ n' = m + 28 ∧ h' = setElev h (m + 4) f0K) (fun _ _ _ => False) g' s' 27 525) 8 [some (.ref (m + 4)), none] [.ref (m + 4 + 1), .ref (m + 4)] (m + 1 + 1) (blkL h (m + 4) [.inr (0, [.null, .null, .int (0), .int (0), .int (0), .int (0), .int (0)]), xar 5 (fun _ => 0)]) (0 + 1) (0 + 5)
  refine XV.putF C (ci := 0) (kf := 0) hname (xlk_ok okE_init rfl) rfl (by decide) wF_E_9 (by omega) (by omega) (blkL_get (i := 0) rfl rfl) rfl rfl rfl rfl rfl (Nat.le_of_ble_eq_true rfl) ?_
  refine XV.cast (blkL_up (i := 0) rfl (Nat.le_of_ble_eq_true rfl)) ?_
  show XV G 2 p' l e' ({ frames := 2, cells := 27, slots := 525, locals := 40 } : Room) s' m' g' b' t' c' (XEnd G b' (fun r' n' h' => r' = none ∧ n' = m + 28 ∧ h' = setElev h (m + 4) f0K) (fun _ _ _ => False) g' s' 27 525) 11 [some (.ref (m + 4)), none] [] (m + 1 + 1) (blkL h (m + 4) [.inr (0, [.ref (m + 4 + 1), .null, .int (0), .int (0), .int (0), .int (0), .int (0)]), xar 5 (fun _ => 0)]) (0 + 1) (0 + 5)
  refine XV.run C okE_init 2 (q := (13, ([some (.ref (m + 4)), none], [.int (5), .ref (m + 4)]))) rfl ?_
  refine XV.newA C (N := 5) (t := 3) (xlk_ok okE_init rfl) wC_E_15 hAO.1 rfl rfl (by decide) (by omega) (Nat.le_of_ble_eq_true rfl) (Nat.le_of_ble_eq_true rfl) ?_
  refine XV.cast (blkL_new rfl) ?_
  show XV G 2 p' l e' ({ frames := 2, cells := 27, slots := 525, locals := 40 } : Room) s' m' g' b' t' c' (XEnd G b' (fun r' n' h' => r' = none ∧ n' = m + 28 ∧ h' = setElev h (m + 4) f0K) (fun _ _ _ => False) g' s' 27 525) 16 [some (.ref (m + 4)), none] [.ref (m + 4 + 2), .ref (m + 4)] (m + 1 + 2) (blkL h (m + 4) [.inr (0, [.ref (m + 4 + 1), .null, .int (0), .int (0), .int (0), .int (0), .int (0)]), xar 5 (fun _ => 0), .inl (3, (5, .inr (.inr (fun _ => none))))]) ((0 + 1) + 1) ((0 + 5) + 5)
  refine XV.putF C (ci := 0) (kf := 1) hname (xlk_ok okE_init rfl) rfl (by decide) wF_E_17 (by omega) (by omega) (blkL_get (i := 0) rfl rfl) rfl rfl rfl rfl rfl (Nat.le_of_ble_eq_true rfl) ?_
  refine XV.cast (blkL_up (i := 0) rfl (Nat.le_of_ble_eq_true rfl)) ?_
  show XV G 2 p' l e' ({ frames := 2, cells := 27, slots := 525, locals := 40 } : Room) s' m' g' b' t' c' (XEnd G b' (fun r' n' h' => r' = none ∧ n' = m + 28 ∧ h' = setElev h (m + 4) f0K) (fun _ _ _ => False) g' s' 27 525) 19 [some (.ref (m + 4)), none] [] (m + 1 + 2) (blkL h (m + 4) [.inr (0, [.ref (m + 4 + 1), .ref (m + 4 + 2), .int (0), .int (0), .int (0), .int (0), .int (0)]), xar 5 (fun _ => 0), .inl (3, (5, .inr (.inr (fun _ => none))))]) ((0 + 1) + 1) ((0 + 5) + 5)
  refine XV.run C okE_init 2 (q := (21, ([some (.ref (m + 4)), none], [.int (0), .ref (m + 4)]))) rfl ?_
  refine XV.putf C (ci := 0) (kf := 2) (xlk_ok okE_init rfl) rfl (by decide) wF_E_21 (by omega) (by omega) (blkL_get (i := 0) rfl rfl) rfl rfl rfl rfl (Nat.le_of_ble_eq_true rfl) ?_
  refine XV.cast (blkL_up (i := 0) rfl (Nat.le_of_ble_eq_true rfl)) ?_
  show XV G 2 p' l e' ({ frames := 2, cells := 27, slots := 525, locals := 40 } : Room) s' m' g' b' t' c' (XEnd G b' (fun r' n' h' => r' = none ∧ n' = m + 28 ∧ h' = setElev h (m + 4) f0K) (fun _ _ _ => False) g' s' 27 525) 24 [some (.ref (m + 4)), none] [] (m + 1 + 2) (blkL h (m + 4) [.inr (0, [.ref (m + 4 + 1), .ref (m + 4 + 2), .int (0), .int (0), .int (0), .int (0), .int (0)]), xar 5 (fun _ => 0), .inl (3, (5, .inr (.inr (fun _ => none))))]) ((0 + 1) + 1) ((0 + 5) + 5)
  refine XV.run C okE_init 2 (q := (26, ([some (.ref (m + 4)), none], [.int (0), .ref (m + 4)]))) rfl ?_
  refine XV.putf C (ci := 0) (kf := 3) (xlk_ok okE_init rfl) rfl (by decide) wF_E_25 (by omega) (by omega) (blkL_get (i := 0) rfl rfl) rfl rfl rfl rfl (Nat.le_of_ble_eq_true rfl) ?_
  refine XV.cast (blkL_up (i := 0) rfl (Nat.le_of_ble_eq_true rfl)) ?_
  show XV G 2 p' l e' ({ frames := 2, cells := 27, slots := 525, locals := 40 } : Room) s' m' g' b' t' c' (XEnd G b' (fun r' n' h' => r' = none ∧ n' = m + 28 ∧ h' = setElev h (m + 4) f0K) (fun _ _ _ => False) g' s' 27 525) 29 [some (.ref (m + 4)), none] [] (m + 1 + 2) (blkL h (m + 4) [.inr (0, [.ref (m + 4 + 1), .ref (m + 4 + 2), .int (0), .int (0), .int (0), .int (0), .int (0)]), xar 5 (fun _ => 0), .inl (3, (5, .inr (.inr (fun _ => none))))]) ((0 + 1) + 1) ((0 + 5) + 5)
  refine XV.run C okE_init 2 (q := (31, ([some (.ref (m + 4)), none], [.int (0), .ref (m + 4)]))) rfl ?_
  refine XV.putf C (ci := 0) (kf := 4) (xlk_ok okE_init rfl) rfl (by decide) wF_E_28 (by omega) (by omega) (blkL_get (i := 0) rfl rfl) rfl rfl rfl rfl (Nat.le_of_ble_eq_true rfl) ?_
  refine XV.cast (blkL_up (i := 0) rfl (Nat.le_of_ble_eq_true rfl)) ?_
  show XV G 2 p' l e' ({ frames := 2, cells := 27, slots := 525, locals := 40 } : Room) s' m' g' b' t' c' (XEnd G b' (fun r' n' h' => r' = none ∧ n' = m + 28 ∧ h' = setElev h (m + 4) f0K) (fun _ _ _ => False) g' s' 27 525) 34 [some (.ref (m + 4)), none] [] (m + 1 + 2) (blkL h (m + 4) [.inr (0, [.ref (m + 4 + 1), .ref (m + 4 + 2), .int (0), .int (0), .int (0), .int (0), .int (0)]), xar 5 (fun _ => 0), .inl (3, (5, .inr (.inr (fun _ => none))))]) ((0 + 1) + 1) ((0 + 5) + 5)
  refine XV.run C okE_init 2 (q := (36, ([some (.ref (m + 4)), none], [.int (0), .ref (m + 4)]))) rfl ?_
  refine XV.putf C (ci := 0) (kf := 5) (xlk_ok okE_init rfl) rfl (by decide) wF_E_31 (by omega) (by omega) (blkL_get (i := 0) rfl rfl) rfl rfl rfl rfl (Nat.le_of_ble_eq_true rfl) ?_
  refine XV.cast (blkL_up (i := 0) rfl (Nat.le_of_ble_eq_true rfl)) ?_
  show XV G 2 p' l e' ({ frames := 2, cells := 27, slots := 525, locals := 40 } : Room) s' m' g' b' t' c' (XEnd G b' (fun r' n' h' => r' = none ∧ n' = m + 28 ∧ h' = setElev h (m + 4) f0K) (fun _ _ _ => False) g' s' 27 525) 39 [some (.ref (m + 4)), none] [] (m + 1 + 2) (blkL h (m + 4) [.inr (0, [.ref (m + 4 + 1), .ref (m + 4 + 2), .int (0), .int (0), .int (0), .int (0), .int (0)]), xar 5 (fun _ => 0), .inl (3, (5, .inr (.inr (fun _ => none))))]) ((0 + 1) + 1) ((0 + 5) + 5)
  refine XV.run C okE_init 2 (q := (41, ([some (.ref (m + 4)), none], [.int (0), .ref (m + 4)]))) rfl ?_
  refine XV.putf C (ci := 0) (kf := 6) (xlk_ok okE_init rfl) rfl (by decide) wF_E_34 (by omega) (by omega) (blkL_get (i := 0) rfl rfl) rfl rfl rfl rfl (Nat.le_of_ble_eq_true rfl) ?_
  refine XV.cast (blkL_up (i := 0) rfl (Nat.le_of_ble_eq_true rfl)) ?_
  show XV G 2 p' l e' ({ frames := 2, cells := 27, slots := 525, locals := 40 } : Room) s' m' g' b' t' c' (XEnd G b' (fun r' n' h' => r' = none ∧ n' = m + 28 ∧ h' = setElev h (m + 4) f0K) (fun _ _ _ => False) g' s' 27 525) 44 [some (.ref (m + 4)), none] [] (m + 1 + 2) (blkL h (m + 4) [.inr (0, [.ref (m + 4 + 1), .ref (m + 4 + 2), .int (0), .int (0), .int (0), .int (0), .int (0)]), xar 5 (fun _ => 0), .inl (3, (5, .inr (.inr (fun _ => none))))]) ((0 + 1) + 1) ((0 + 5) + 5)
  refine XV.run C okE_init 2 (q := (46, ([some (.ref (m + 4)), some (.int (0))], []))) rfl ?_
  have loop : ∀ (d j : Nat), j + d = 5 → XV G 2 p' l e' ({ frames := 2, cells := 27, slots := 525, locals := 40 } : Room) s' m' g' b' t' c' (XEnd G b' (fun r' n' h' => r' = none ∧ n' = m + 28 ∧ h' = setElev h (m + 4) f0K) (fun _ _ _ => False) g' s' 27 525) 46 [some (.ref (m + 4)), some (.int (nI j))] [] (m + 1 + 2) (blkL h (m + 4) [.inr (0, [.ref (m + 4 + 1), .ref (m + 4 + 2), .int (0), .int (0), .int (0), .int (0), .int (0)]), xar 5 (sK j), .inl (3, (5, .inr (.inr (fun _ => none))))]) ((0 + 1) + 1) ((0 + 5) + 5) := by
    intro d
    induction d with
    | zero =>
      intro j hj
      refine XV.run C okE_init 2 (q := (48, ([some (.ref (m + 4)), some (.int (nI j))], [.int (5), .int (nI j)]))) rfl ?_
      refine XV.icmp_ge C (tgt := 68) (xlk_ok okE_init rfl) rfl (fun _ => ?_) (fun hc => absurd (nI_le (a := 5) (by omega) (by omega)) hc)
      obtain rfl : 5 = j := by omega
      refine XV.run C okE_init 2 (q := (70, ([some (.ref (m + 4)), some (.int (0))], []))) rfl ?_
      have loop : ∀ (d j : Nat), j + d = 5 → XV G 2 p' l e' ({ frames := 2, cells := 27, slots := 525, locals := 40 } : Room) s' m' g' b' t' c' (XEnd G b' (fun r' n' h' => r' = none ∧ n' = m + 28 ∧ h' = setElev h (m + 4) f0K) (fun _ _ _ => False) g' s' 27 525) 70 [some (.ref (m + 4)), some (.int (nI j))] [] (m + 3 + 5 * j) (blk h (m + 4) (3 + 5 * j) (eIn (m + 4) j)) (2 + 5 * j) (10 + 103 * j) := by
        intro d
        induction d with
        | zero =>
          intro j hj
          refine XV.run C okE_init 2 (q := (72, ([some (.ref (m + 4)), some (.int (nI j))], [.int (5), .int (nI j)]))) rfl ?_
          refine XV.icmp_ge C (tgt := 94) (xlk_ok okE_init rfl) rfl (fun _ => ?_) (fun hc => absurd (nI_le (a := 5) (by omega) (by omega)) hc)
          obtain rfl : 5 = j := by omega
          exact XV.vret C (xlk_ok okE_init rfl) hret (Nat.le_of_ble_eq_true rfl) (Nat.le_of_ble_eq_true rfl) (⟨rfl, rfl, eIn_5⟩)
        | succ d ih =>
          intro j hj
          refine XV.run C okE_init 2 (q := (72, ([some (.ref (m + 4)), some (.int (nI j))], [.int (5), .int (nI j)]))) rfl ?_
          refine XV.icmp_ge C (tgt := 94) (xlk_ok okE_init rfl) rfl (fun hc => absurd hc (nI_ge (b := 5) (by omega) (by omega))) (fun _ => ?_)
          refine XV.run C okE_init 1 (q := (76, ([some (.ref (m + 4)), some (.int (nI j))], [.ref (m + 4)]))) rfl ?_
          refine XV.getf C (ci := 0) (kf := 1) (v := .ref (m + 4 + 2)) (xlk_ok okE_init rfl) rfl (by decide) wF_E_17 (by omega) (by omega) (show (blk h (m + 4) (3 + 5 * j) (eIn (m + 4) j)) (m + 4) = .inr (0, [.ref (m + 4 + 1), .ref (m + 4 + 2), .int (0), .int (0), .int (0), .int (0), .int (0)]) from blk_i2 (j := 0) rfl (by omega)) rfl ?_
          refine XV.run C okE_init 1 (q := (80, ([some (.ref (m + 4)), some (.int (nI j))], [.int (nI j), .ref (m + 4 + 2)]))) rfl ?_
          refine XV.new C (ci := 2) (fs := [.null, .null, .null, .null, .int 0, .int 0, .int 0]) (xlk_ok okE_init rfl) rfl wC_E_15 wA_R wN_R (by intro j ty hj hp; rcases (show j = 0 ∨ j = 1 ∨ j = 2 ∨ j = 3 ∨ j = 4 ∨ j = 5 ∨ j = 6 by have : j < 7 := hj; omega) with rfl | rfl | rfl | rfl | rfl | rfl | rfl <;> (cases hp; rfl)) (by omega) (by show 2 + 5 * j + 1 ≤ 27; omega) (by show 10 + 103 * j + 7 ≤ 525; omega) ?_
          refine XV.cast (blkL_1 _ _ _) ?_
          refine XV.run C okE_init 1 (q := (84, ([some (.ref (m + 4)), some (.int (nI j))], [.ref (m + 3 + 5 * j + 4), .ref (m + 3 + 5 * j + 4), .int (nI j), .ref (m + 4 + 2)]))) rfl ?_
          refine XV.callIN C (As := []) (rest := [.ref (m + 3 + 5 * j + 4), .int (nI j), .ref (m + 4 + 2)]) (ct_R_init hfl (m := m + 3 + 5 * j) (h := blk h (m + 4) (3 + 5 * j) (eIn (m + 4) j))) (xlk_ok okE_init rfl) rfl (List.mem_of_getElem? (i := 20) rfl) wI_R_init wN_R wB_R_init rfl hy_R_init (fun _ => by omega) ⟨Nat.le_of_ble_eq_true rfl, Nat.le_of_ble_eq_true rfl⟩ ⟨by show 2 + 5 * j + 1 + 4 ≤ 27; omega, by show 10 + 103 * j + 7 + 96 ≤ 525; omega⟩ (Nat.le_of_ble_eq_true rfl) (fun r n h hp => ?_) (fun _ _ _ q => q.elim)
          obtain ⟨rfl, rfl, rfl⟩ := hp
          refine XV.aast C (N := 5) (t := 3) (a := j) (o := m + 3 + 5 * j + 4) (ci := 2) (f := (fun i => if i < j then some (m + 4 + 3 + 5 * i) else none)) (xlk_ok okE_init rfl) (by omega) (by omega) ((blk_o2 (by omega)).trans (blk_i2 (j := 2) rfl (by omega))) rfl (by omega) (by omega) rfl (blk_i2 (j := 0) rfl (by decide)) rfl (by omega) (by decide) ?_
          rw [show m + 3 + 5 * j + 4 = m + 4 + 3 + 5 * j by omega]
          refine XV.cast eIn_s ?_
          refine XV.run C okE_init 2 (q := (70, ([some (.ref (m + 4)), some (.int ((nI j) + 1))], []))) rfl ?_
          rw [nI_1]
          exact XV.num rfl (by omega) (by omega) (by show 10 + 103 * j + 7 + 96 = 10 + 103 * (j + 1); omega) (ih (j + 1) (by omega))
      exact XV.num eIn_0 rfl rfl rfl (loop 5 0 (by omega))
    | succ d ih =>
      intro j hj
      refine XV.run C okE_init 2 (q := (48, ([some (.ref (m + 4)), some (.int (nI j))], [.int (5), .int (nI j)]))) rfl ?_
      refine XV.icmp_ge C (tgt := 68) (xlk_ok okE_init rfl) rfl (fun hc => absurd hc (nI_ge (b := 5) (by omega) (by omega))) (fun _ => ?_)
      refine XV.run C okE_init 1 (q := (52, ([some (.ref (m + 4)), some (.int (nI j))], [.ref (m + 4)]))) rfl ?_
      refine XV.getf C (ci := 0) (kf := 0) (v := .ref (m + 4 + 1)) (xlk_ok okE_init rfl) rfl (by decide) wF_E_9 (by omega) (by omega) (blkL_get (i := 0) rfl rfl) rfl ?_
      refine XV.run C okE_init 1 (q := (56, ([some (.ref (m + 4)), some (.int (nI j))], [.int (nI j), .ref (m + 4 + 1)]))) rfl ?_
      refine XV.getsN C (i := 3) (xlk_ok okE_init rfl) (by decide) (by decide) (List.mem_of_getElem? (i := 9) rfl) ?_
      refine XV.run C okE_init 1 (q := (60, ([some (.ref (m + 4)), some (.int (nI j))], [.int (nI j), .ref (3), .int (nI j), .ref (m + 4 + 1)]))) rfl ?_
      refine XV.tald C (i := 3) (a := j) (xlk_ok okE_init rfl) (by decide) (by decide) (rfl) (by omega) ?_
      refine XV.iastC C (N := 5) (f := (sK j)) (a := j) (xlk_ok okE_init rfl) (by omega) (by omega) (blkL_get (i := 1) rfl rfl) rfl (by omega) (by decide) ?_
      refine XV.cast ((blkL_up (i := 1) rfl (Nat.le_of_ble_eq_true rfl)).trans (congrArg (fun w => blkL h (m + 4) (List.set [.inr (0, [.ref (m + 4 + 1), .ref (m + 4 + 2), .int (0), .int (0), .int (0), .int (0), .int (0)]), xar 5 (sK j), .inl (3, (5, .inr (.inr (fun _ => none))))] 1 (xar 5 w))) (sK_s j))) ?_
      refine XV.run C okE_init 2 (q := (46, ([some (.ref (m + 4)), some (.int ((nI j) + 1))], []))) rfl ?_
      rw [nI_1]
      exact ih (j + 1) (by omega)
  exact XV.cast (by rfl) (loop 5 0 (by omega))
def hIn (a j : Nat) : Nat → XC := fun i => match i with
  | 0 => .inr (1, [.ref (a + 1), .int 0, .int 0])
  | 1 => .inl (2, (6, .inr (.inr (fun i => if i < j then some (a + 2 + 28 * i) else none))))
  | i + 2 => elevC (a + 2 + 28 * (i / 28)) f0K (i % 28)
theorem hIn_s {h : XH} {a j : Nat} : xup (blk (blk h a (2 + 28 * j) (hIn a j)) (a + 2 + 28 * j) 28 (elevC (a + 2 + 28 * j) f0K)) (a + 1) (.inl (2, (6, .inr (.inr (va_up (fun i => if i < j then some (a + 2 + 28 * i) else none) j (some (a + 2 + 28 * j))))))) = blk h a (2 + 28 * (j + 1)) (hIn a (j + 1)) := by
  rw [up_next]
  funext q
  unfold xup blk
  by_cases h2 : q = a + 1
  · subst h2
    rw [if_pos rfl, if_pos (by omega), show a + 1 - a = 1 by omega]
    rfl
  rw [if_neg h2]
  by_cases h3 : a + 2 + 28 * j ≤ q ∧ q < a + 2 + 28 * j + 28
  · rw [if_pos h3, if_pos (by omega)]
    obtain ⟨t, rfl, ht⟩ : ∃ t, q = a + 2 + 28 * j + t ∧ t < 28 := ⟨q - (a + 2 + 28 * j), by omega, by omega⟩
    rw [show a + 2 + 28 * j + t - (a + 2 + 28 * j) = t by omega, show a + 2 + 28 * j + t - a = (28 * j + t) + 2 by omega]
    show _ = elevC (a + 2 + 28 * ((28 * j + t) / 28)) f0K ((28 * j + t) % 28)
    rw [show (28 * j + t) / 28 = j by omega, show (28 * j + t) % 28 = t by omega]
  rw [if_neg h3]
  by_cases h4 : a ≤ q ∧ q < a + (2 + 28 * j)
  · rw [if_pos h4, if_pos (by omega)]
    obtain ⟨t, rfl⟩ : ∃ t, q = a + t := ⟨q - a, by omega⟩
    rw [show a + t - a = t by omega]
    match t, h2 with
    | 0, _ => rfl
    | 1, h2 => exact absurd rfl h2
    | t + 2, _ => rfl
  · rw [if_neg h4, if_neg (by omega)]
theorem hIn_0 {h : XH} {a : Nat} : blkL h a [.inr (1, [.ref (a + 1), .int 0, .int 0]), .inl (2, (6, .inr (.inr (fun _ => none))))] = blk h a (2 + 28 * 0) (hIn a 0) := by
  refine blkL_blk rfl fun j hj => ?_
  rcases (show j = 0 ∨ j = 1 by omega) with rfl | rfl
  · rfl
  · show some _ = some _
    refine congrArg some ?_
    show (Sum.inl (2, (6, .inr (.inr (fun _ => none)))) : XC) = .inl (2, (6, .inr (.inr (fun i => if i < 0 then some (a + 2 + 28 * i) else none))))
    congr 4
theorem hIn_6 {h : XH} {a : Nat} : blk h a (2 + 28 * 6) (hIn a 6) = setHist h a 0 0 (fun _ => f0K) := by
  refine blk_eq fun i hi => ?_
  match i, hi with
  | 0, _ => rfl
  | 1, _ => rfl
  | i + 2, _ => rfl
set_option maxHeartbeats 4000000 in
set_option maxRecDepth 100000 in
theorem ct_H_init {l : Launch} (hfl : l.stackTraces = false) {G : XG} {m : Nat} {h : XH} : XCt l G True (Cond.code yH_init bH_init 2 none) yH_init 3 61 169 3198 [.ref (m + 4)] (m + 1) (blkL h (m + 4) [.inr (1, [.null, .int (0), .int (0)])]) (fun r' n' h' => r' = none ∧ n' = m + 170 ∧ h' = setHist h (m + 4) 0 0 (fun _ => f0K)) (fun _ _ _ => False) := by
  have hmd2 : True := trivial
  refine XCt.of hfl (by decide +kernel) (Nat.le_of_ble_eq_true rfl) ?_
  intro p' e' s' m' g' b' t' c' C hret hname hnt hmd
  have hex := hmd trivial
  have hAO := (show xEnv G s' from (id C).2.2.2.2.2.2.1).2.2.2.2.2.2.2.2
  refine XV.run C okH_init 1 (q := (1, ([some (.ref (m + 4)), none], [.ref (m + 4)]))) rfl ?_
  refine XV.objInit C (xlk_ok okH_init rfl) wM_H_3 (Nat.le_of_ble_eq_true rfl) (Nat.le_of_ble_eq_true rfl) ?_
  refine XV.run C okH_init 2 (q := (7, ([some (.ref (m + 4)), none], [.int (6), .ref (m + 4)]))) rfl ?_
  refine XV.newA C (N := 6) (t := 2) (xlk_ok okH_init rfl) wC_H_9 hAO.2 rfl rfl (by decide) (by omega) (Nat.le_of_ble_eq_true rfl) (Nat.le_of_ble_eq_true rfl) ?_
  refine XV.cast (blkL_new rfl) ?_
  show XV G 2 p' l e' ({ frames := 3, cells := 169, slots := 3198, locals := 61 } : Room) s' m' g' b' t' c' (XEnd G b' (fun r' n' h' => r' = none ∧ n' = m + 170 ∧ h' = setHist h (m + 4) 0 0 (fun _ => f0K)) (fun _ _ _ => False) g' s' 169 3198) 10 [some (.ref (m + 4)), none] [.ref (m + 4 + 1), .ref (m + 4)] (m + 1 + 1) (blkL h (m + 4) [.inr (1, [.null, .int (0), .int (0)]), .inl (2, (6, .inr (.inr (fun _ => none))))]) (0 + 1) (0 + 6)
  refine XV.putF C (ci := 1) (kf := 0) hname (xlk_ok okH_init rfl) rfl (by decide) wF_H_11 (by omega) (by omega) (blkL_get (i := 0) rfl rfl) rfl rfl rfl rfl rfl (Nat.le_of_ble_eq_true rfl) ?_
  refine XV.cast (blkL_up (i := 0) rfl (Nat.le_of_ble_eq_true rfl)) ?_
  show XV G 2 p' l e' ({ frames := 3, cells := 169, slots := 3198, locals := 61 } : Room) s' m' g' b' t' c' (XEnd G b' (fun r' n' h' => r' = none ∧ n' = m + 170 ∧ h' = setHist h (m + 4) 0 0 (fun _ => f0K)) (fun _ _ _ => False) g' s' 169 3198) 13 [some (.ref (m + 4)), none] [] (m + 1 + 1) (blkL h (m + 4) [.inr (1, [.ref (m + 4 + 1), .int (0), .int (0)]), .inl (2, (6, .inr (.inr (fun _ => none))))]) (0 + 1) (0 + 6)
  refine XV.run C okH_init 2 (q := (15, ([some (.ref (m + 4)), none], [.int (0), .ref (m + 4)]))) rfl ?_
  refine XV.putf C (ci := 1) (kf := 1) (xlk_ok okH_init rfl) rfl (by decide) wF_H_17 (by omega) (by omega) (blkL_get (i := 0) rfl rfl) rfl rfl rfl rfl (Nat.le_of_ble_eq_true rfl) ?_
  refine XV.cast (blkL_up (i := 0) rfl (Nat.le_of_ble_eq_true rfl)) ?_
  show XV G 2 p' l e' ({ frames := 3, cells := 169, slots := 3198, locals := 61 } : Room) s' m' g' b' t' c' (XEnd G b' (fun r' n' h' => r' = none ∧ n' = m + 170 ∧ h' = setHist h (m + 4) 0 0 (fun _ => f0K)) (fun _ _ _ => False) g' s' 169 3198) 18 [some (.ref (m + 4)), none] [] (m + 1 + 1) (blkL h (m + 4) [.inr (1, [.ref (m + 4 + 1), .int (0), .int (0)]), .inl (2, (6, .inr (.inr (fun _ => none))))]) (0 + 1) (0 + 6)
  refine XV.run C okH_init 2 (q := (20, ([some (.ref (m + 4)), none], [.int (0), .ref (m + 4)]))) rfl ?_
  refine XV.putf C (ci := 1) (kf := 2) (xlk_ok okH_init rfl) rfl (by decide) wF_H_21 (by omega) (by omega) (blkL_get (i := 0) rfl rfl) rfl rfl rfl rfl (Nat.le_of_ble_eq_true rfl) ?_
  refine XV.cast (blkL_up (i := 0) rfl (Nat.le_of_ble_eq_true rfl)) ?_
  show XV G 2 p' l e' ({ frames := 3, cells := 169, slots := 3198, locals := 61 } : Room) s' m' g' b' t' c' (XEnd G b' (fun r' n' h' => r' = none ∧ n' = m + 170 ∧ h' = setHist h (m + 4) 0 0 (fun _ => f0K)) (fun _ _ _ => False) g' s' 169 3198) 23 [some (.ref (m + 4)), none] [] (m + 1 + 1) (blkL h (m + 4) [.inr (1, [.ref (m + 4 + 1), .int (0), .int (0)]), .inl (2, (6, .inr (.inr (fun _ => none))))]) (0 + 1) (0 + 6)
  refine XV.run C okH_init 2 (q := (25, ([some (.ref (m + 4)), some (.int (0))], []))) rfl ?_
  have loop : ∀ (d j : Nat), j + d = 6 → XV G 2 p' l e' ({ frames := 3, cells := 169, slots := 3198, locals := 61 } : Room) s' m' g' b' t' c' (XEnd G b' (fun r' n' h' => r' = none ∧ n' = m + 170 ∧ h' = setHist h (m + 4) 0 0 (fun _ => f0K)) (fun _ _ _ => False) g' s' 169 3198) 25 [some (.ref (m + 4)), some (.int (nI j))] [] (m + 2 + 28 * j) (blk h (m + 4) (2 + 28 * j) (hIn (m + 4) j)) (1 + 28 * j) (6 + 532 * j) := by
    intro d
    induction d with
    | zero =>
      intro j hj
      refine XV.run C okH_init 2 (q := (28, ([some (.ref (m + 4)), some (.int (nI j))], [.int (6), .int (nI j)]))) rfl ?_
      refine XV.icmp_ge C (tgt := 50) (xlk_ok okH_init rfl) rfl (fun _ => ?_) (fun hc => absurd (nI_le (a := 6) (by omega) (by omega)) hc)
      obtain rfl : 6 = j := by omega
      exact XV.vret C (xlk_ok okH_init rfl) hret (Nat.le_of_ble_eq_true rfl) (Nat.le_of_ble_eq_true rfl) (⟨rfl, rfl, hIn_6⟩)
    | succ d ih =>
      intro j hj
      refine XV.run C okH_init 2 (q := (28, ([some (.ref (m + 4)), some (.int (nI j))], [.int (6), .int (nI j)]))) rfl ?_
      refine XV.icmp_ge C (tgt := 50) (xlk_ok okH_init rfl) rfl (fun hc => absurd hc (nI_ge (b := 6) (by omega) (by omega))) (fun _ => ?_)
      refine XV.run C okH_init 1 (q := (32, ([some (.ref (m + 4)), some (.int (nI j))], [.ref (m + 4)]))) rfl ?_
      refine XV.getf C (ci := 1) (kf := 0) (v := .ref (m + 4 + 1)) (xlk_ok okH_init rfl) rfl (by decide) wF_H_11 (by omega) (by omega) (show (blk h (m + 4) (2 + 28 * j) (hIn (m + 4) j)) (m + 4) = .inr (1, [.ref (m + 4 + 1), .int (0), .int (0)]) from blk_i2 (j := 0) rfl (by omega)) rfl ?_
      refine XV.run C okH_init 1 (q := (36, ([some (.ref (m + 4)), some (.int (nI j))], [.int (nI j), .ref (m + 4 + 1)]))) rfl ?_
      refine XV.new C (ci := 0) (fs := [.null, .null, .int 0, .int 0, .int 0, .int 0, .int 0]) (xlk_ok okH_init rfl) rfl wC_H_9 wA_E wN_E (by intro j ty hj hp; rcases (show j = 0 ∨ j = 1 ∨ j = 2 ∨ j = 3 ∨ j = 4 ∨ j = 5 ∨ j = 6 by have : j < 7 := hj; omega) with rfl | rfl | rfl | rfl | rfl | rfl | rfl <;> (cases hp; rfl)) (by omega) (by show 1 + 28 * j + 1 ≤ 169; omega) (by show 6 + 532 * j + 7 ≤ 3198; omega) ?_
      refine XV.cast (blkL_1 _ _ _) ?_
      refine XV.run C okH_init 1 (q := (40, ([some (.ref (m + 4)), some (.int (nI j))], [.ref (m + 2 + 28 * j + 4), .ref (m + 2 + 28 * j + 4), .int (nI j), .ref (m + 4 + 1)]))) rfl ?_
      refine XV.callI C (As := []) (rest := [.ref (m + 2 + 28 * j + 4), .int (nI j), .ref (m + 4 + 1)]) (ct_E_init hfl (m := m + 2 + 28 * j) (h := blk h (m + 4) (2 + 28 * j) (hIn (m + 4) j))) (xlk_ok okH_init rfl) rfl wM_H_24 wI_E_init wN_E wB_E_init rfl hy_E_init (fun _ => by omega) ⟨Nat.le_of_ble_eq_true rfl, Nat.le_of_ble_eq_true rfl⟩ ⟨by show 1 + 28 * j + 1 + 27 ≤ 169; omega, by show 6 + 532 * j + 7 + 525 ≤ 3198; omega⟩ (Nat.le_of_ble_eq_true rfl) (fun r n h hp => ?_) (fun _ _ _ q => q.elim)
      obtain ⟨rfl, rfl, rfl⟩ := hp
      refine XV.aast C (N := 6) (t := 2) (a := j) (o := m + 2 + 28 * j + 4) (ci := 0) (f := (fun i => if i < j then some (m + 4 + 2 + 28 * i) else none)) (xlk_ok okH_init rfl) (by omega) (by omega) ((blk_o2 (by omega)).trans (blk_i2 (j := 1) rfl (by omega))) rfl (by omega) (by omega) rfl (blk_i2 (j := 0) rfl (by decide)) rfl (by omega) (by decide) ?_
      rw [show m + 2 + 28 * j + 4 = m + 4 + 2 + 28 * j by omega]
      refine XV.cast hIn_s ?_
      refine XV.run C okH_init 2 (q := (25, ([some (.ref (m + 4)), some (.int ((nI j) + 1))], []))) rfl ?_
      rw [nI_1]
      exact XV.num rfl (by omega) (by omega) (by show 6 + 532 * j + 7 + 525 = 6 + 532 * (j + 1); omega) (ih (j + 1) (by omega))
  exact XV.num hIn_0 rfl rfl rfl (loop 6 0 (by omega))
theorem cIn {h : XH} {o0 o1 o2 o3 : XC} {a b c d : Nat} (ha : a = 5) (hb : b = 33) (hc : c = 203) (hd : d = 208) : xup (setRope (xup (setText (xup (setHist (xup (setElev (blkL h 4 [o0]) a f0K) 4 o1) b 0 0 (fun _ => f0K)) 4 o2) c (fun _ => 0) 0 (fun _ => 0, (fun _ => 0, (fun _ => 0, 0)))) 4 o3) d rI) 4 (.inr (4, [.ref 5, .ref 33, .ref 203, .ref 208])) = setCW h f0K 0 0 (fun _ => f0K) (fun _ => 0) 0 (fun _ => 0, (fun _ => 0, (fun _ => 0, 0))) rI := by
  subst ha hb hc hd
  funext q
  unfold setCW blkL setElev setHist setText setRope xup blk
  by_cases h4 : q = 4
  · subst h4
    rfl
  simp only [if_neg h4]
  by_cases hR : 208 ≤ q ∧ q < 213
  · rw [if_pos (show 208 ≤ q ∧ q < 208 + 5 by omega), if_pos (show 4 ≤ q ∧ q < 4 + 209 by omega)]
    unfold cwC
    rw [if_neg (by omega), if_neg (by omega), if_neg (by omega), if_neg (by omega), show q - 208 = q - 4 - 204 by omega]
  rw [if_neg (show ¬ (208 ≤ q ∧ q < 208 + 5) by omega)]
  by_cases hT : 203 ≤ q ∧ q < 208
  · rw [if_pos (show 203 ≤ q ∧ q < 203 + 5 by omega), if_pos (show 4 ≤ q ∧ q < 4 + 209 by omega)]
    unfold cwC
    rw [if_neg (by omega), if_neg (by omega), if_neg (by omega), if_pos (by omega), show q - 203 = q - 4 - 199 by omega]
  rw [if_neg (show ¬ (203 ≤ q ∧ q < 203 + 5) by omega)]
  by_cases hH : 33 ≤ q ∧ q < 203
  · rw [if_pos (show 33 ≤ q ∧ q < 33 + 170 by omega), if_pos (show 4 ≤ q ∧ q < 4 + 209 by omega)]
    unfold cwC
    rw [if_neg (by omega), if_neg (by omega), if_pos (by omega), show q - 33 = q - 4 - 29 by omega]
  rw [if_neg (show ¬ (33 ≤ q ∧ q < 33 + 170) by omega)]
  by_cases hE : 5 ≤ q ∧ q < 33
  · rw [if_pos (show 5 ≤ q ∧ q < 5 + 28 by omega), if_pos (show 4 ≤ q ∧ q < 4 + 209 by omega)]
    unfold cwC
    rw [if_neg (by omega), if_pos (by omega), show q - 5 = q - 4 - 1 by omega]
  rw [if_neg (show ¬ (5 ≤ q ∧ q < 5 + 28) by omega), if_neg (show ¬ (4 ≤ q ∧ q < 4 + 209) by omega), if_neg (show ¬ (4 ≤ q ∧ q < 4 + [o0].length) by simp; omega)]
set_option maxHeartbeats 4000000 in
set_option maxRecDepth 100000 in
theorem ct_C_init {l : Launch} (hfl : l.stackTraces = false) {G : XG} {h : XH} : XCt l G True (Cond.code yC_init bC_init 1 none) yC_init 4 82 208 3947 [.ref (4)] 1 (blkL h 4 [.inr (4, [.null, .null, .null, .null])]) (fun r' n' h' => r' = none ∧ n' = 209 ∧ h' = setCW h f0K 0 0 (fun _ => f0K) (fun _ => 0) 0 (fun _ => 0, (fun _ => 0, (fun _ => 0, 0))) rI) (fun _ _ _ => False) := by
  refine XCt.of hfl (by decide +kernel) (Nat.le_of_ble_eq_true rfl) ?_
  intro p' e' s' m' g' b' t' c' C hret hname hnt hmd
  have hex := hmd trivial
  have hAO := (show xEnv G s' from (id C).2.2.2.2.2.2.1).2.2.2.2.2.2.2.2
  refine XV.run C okC_init 1 (q := (1, ([some (.ref (4))], [.ref (4)]))) rfl ?_
  refine XV.objInit C (xlk_ok okC_init rfl) wM_C_1 (Nat.le_of_ble_eq_true rfl) (Nat.le_of_ble_eq_true rfl) ?_
  refine XV.run C okC_init 1 (q := (5, ([some (.ref (4))], [.ref (4)]))) rfl ?_
  refine XV.new C (ci := 0) (fs := [.null, .null, .int 0, .int 0, .int 0, .int 0, .int 0]) (xlk_ok okC_init rfl) rfl wC_C_7 wA_E wN_E (by intro j ty hj hp; rcases (show j = 0 ∨ j = 1 ∨ j = 2 ∨ j = 3 ∨ j = 4 ∨ j = 5 ∨ j = 6 by have : j < 7 := hj; omega) with rfl | rfl | rfl | rfl | rfl | rfl | rfl <;> (cases hp; rfl)) (by omega) (Nat.le_of_ble_eq_true rfl) (Nat.le_of_ble_eq_true rfl) ?_
  refine XV.cast (blkL_1 _ _ _) ?_
  show XV G 1 p' l e' ({ frames := 4, cells := 208, slots := 3947, locals := 82 } : Room) s' m' g' b' t' c' (XEnd G b' (fun r' n' h' => r' = none ∧ n' = 209 ∧ h' = setCW h f0K 0 0 (fun _ => f0K) (fun _ => 0) 0 (fun _ => 0, (fun _ => 0, (fun _ => 0, 0))) rI) (fun _ _ _ => False) g' s' 208 3947) 8 [some (.ref (4))] [.ref (5), .ref (4)] 2 (blkL (blkL h 4 [.inr (4, [.null, .null, .null, .null])]) (5) [.inr (0, [.null, .null, .int 0, .int 0, .int 0, .int 0, .int 0])]) 1 7
  refine XV.run C okC_init 1 (q := (9, ([some (.ref (4))], [.ref (5), .ref (5), .ref (4)]))) rfl ?_
  refine XV.callI C (As := []) (rest := [.ref (5), .ref (4)]) (ct_E_init hfl (m := 1) (h := blkL h 4 [.inr (4, [.null, .null, .null, .null])])) (xlk_ok okC_init rfl) rfl wM_C_9 wI_E_init wN_E wB_E_init rfl hy_E_init (fun _ => by omega) ⟨Nat.le_of_ble_eq_true rfl, Nat.le_of_ble_eq_true rfl⟩ ⟨Nat.le_of_ble_eq_true rfl, Nat.le_of_ble_eq_true rfl⟩ (Nat.le_of_ble_eq_true rfl) (fun r n h hp => ?_) (fun _ _ _ q => q.elim)
  obtain ⟨rfl, rfl, rfl⟩ := hp
  show XV G 1 p' l e' ({ frames := 4, cells := 208, slots := 3947, locals := 82 } : Room) s' m' g' b' t' c' (XEnd G b' (fun r' n' h' => r' = none ∧ n' = 209 ∧ h' = setCW h f0K 0 0 (fun _ => f0K) (fun _ => 0) 0 (fun _ => 0, (fun _ => 0, (fun _ => 0, 0))) rI) (fun _ _ _ => False) g' s' 208 3947) 12 [some (.ref (4))] [.ref (5), .ref (4)] 29 (setElev (blkL h 4 [.inr (4, [.null, .null, .null, .null])]) (5) f0K) 28 532
  refine XV.putF C (ci := 4) (kf := 0) hname (xlk_ok okC_init rfl) rfl (by decide) wF_C_10 (by decide) (by decide) (show (setElev (blkL h 4 [.inr (4, [.null, .null, .null, .null])]) (5) f0K) 4 = .inr (4, [.null, .null, .null, .null]) from by first | rfl | (rw [blk_o2 (by decide)]; rfl)) rfl rfl rfl rfl rfl (Nat.le_of_ble_eq_true rfl) ?_
  refine XV.run C okC_init 1 (q := (16, ([some (.ref (4))], [.ref (4)]))) rfl ?_
  refine XV.new C (ci := 1) (fs := [.null, .int 0, .int 0]) (xlk_ok okC_init rfl) rfl wC_C_16 wA_H wN_H (by intro j ty hj hp; rcases (show j = 0 ∨ j = 1 ∨ j = 2 by have : j < 3 := hj; omega) with rfl | rfl | rfl <;> (cases hp; rfl)) (by omega) (Nat.le_of_ble_eq_true rfl) (Nat.le_of_ble_eq_true rfl) ?_
  refine XV.cast (blkL_1 _ _ _) ?_
  show XV G 1 p' l e' ({ frames := 4, cells := 208, slots := 3947, locals := 82 } : Room) s' m' g' b' t' c' (XEnd G b' (fun r' n' h' => r' = none ∧ n' = 209 ∧ h' = setCW h f0K 0 0 (fun _ => f0K) (fun _ => 0) 0 (fun _ => 0, (fun _ => 0, (fun _ => 0, 0))) rI) (fun _ _ _ => False) g' s' 208 3947) 19 [some (.ref (4))] [.ref (33), .ref (4)] 30 (blkL (xup (setElev (blkL h 4 [.inr (4, [.null, .null, .null, .null])]) (5) f0K) 4 (.inr (4, [.ref (5), .null, .null, .null]))) (33) [.inr (1, [.null, .int 0, .int 0])]) 29 535
  refine XV.run C okC_init 1 (q := (20, ([some (.ref (4))], [.ref (33), .ref (33), .ref (4)]))) rfl ?_
  refine XV.callI C (As := []) (rest := [.ref (33), .ref (4)]) (ct_H_init hfl (m := 29) (h := xup (setElev (blkL h 4 [.inr (4, [.null, .null, .null, .null])]) (5) f0K) 4 (.inr (4, [.ref (5), .null, .null, .null])))) (xlk_ok okC_init rfl) rfl wM_C_18 wI_H_init wN_H wB_H_init rfl hy_H_init (fun _ => by omega) ⟨Nat.le_of_ble_eq_true rfl, Nat.le_of_ble_eq_true rfl⟩ ⟨Nat.le_of_ble_eq_true rfl, Nat.le_of_ble_eq_true rfl⟩ (Nat.le_of_ble_eq_true rfl) (fun r n h hp => ?_) (fun _ _ _ q => q.elim)
  obtain ⟨rfl, rfl, rfl⟩ := hp
  show XV G 1 p' l e' ({ frames := 4, cells := 208, slots := 3947, locals := 82 } : Room) s' m' g' b' t' c' (XEnd G b' (fun r' n' h' => r' = none ∧ n' = 209 ∧ h' = setCW h f0K 0 0 (fun _ => f0K) (fun _ => 0) 0 (fun _ => 0, (fun _ => 0, (fun _ => 0, 0))) rI) (fun _ _ _ => False) g' s' 208 3947) 23 [some (.ref (4))] [.ref (33), .ref (4)] 199 (setHist (xup (setElev (blkL h 4 [.inr (4, [.null, .null, .null, .null])]) (5) f0K) 4 (.inr (4, [.ref (5), .null, .null, .null]))) (33) 0 0 (fun _ => f0K)) 198 3733
  refine XV.putF C (ci := 4) (kf := 1) hname (xlk_ok okC_init rfl) rfl (by decide) wF_C_19 (by decide) (by decide) (show (setHist (xup (setElev (blkL h 4 [.inr (4, [.null, .null, .null, .null])]) (5) f0K) 4 (.inr (4, [.ref (5), .null, .null, .null]))) (33) 0 0 (fun _ => f0K)) 4 = .inr (4, [.ref (5), .null, .null, .null]) from by first | rfl | (rw [blk_o2 (by decide)]; rfl)) rfl rfl rfl rfl rfl (Nat.le_of_ble_eq_true rfl) ?_
  refine XV.run C okC_init 1 (q := (27, ([some (.ref (4))], [.ref (4)]))) rfl ?_
  refine XV.new C (ci := 3) (fs := [.null, .null, .null, .null, .int 0, .int 0]) (xlk_ok okC_init rfl) rfl wC_C_23 wA_T wN_T (by intro j ty hj hp; rcases (show j = 0 ∨ j = 1 ∨ j = 2 ∨ j = 3 ∨ j = 4 ∨ j = 5 by have : j < 6 := hj; omega) with rfl | rfl | rfl | rfl | rfl | rfl <;> (cases hp; rfl)) (by omega) (Nat.le_of_ble_eq_true rfl) (Nat.le_of_ble_eq_true rfl) ?_
  refine XV.cast (blkL_1 _ _ _) ?_
  show XV G 1 p' l e' ({ frames := 4, cells := 208, slots := 3947, locals := 82 } : Room) s' m' g' b' t' c' (XEnd G b' (fun r' n' h' => r' = none ∧ n' = 209 ∧ h' = setCW h f0K 0 0 (fun _ => f0K) (fun _ => 0) 0 (fun _ => 0, (fun _ => 0, (fun _ => 0, 0))) rI) (fun _ _ _ => False) g' s' 208 3947) 30 [some (.ref (4))] [.ref (203), .ref (4)] 200 (blkL (xup (setHist (xup (setElev (blkL h 4 [.inr (4, [.null, .null, .null, .null])]) (5) f0K) 4 (.inr (4, [.ref (5), .null, .null, .null]))) (33) 0 0 (fun _ => f0K)) 4 (.inr (4, [.ref (5), .ref (33), .null, .null]))) (203) [.inr (3, [.null, .null, .null, .null, .int 0, .int 0])]) 199 3739
  refine XV.run C okC_init 1 (q := (31, ([some (.ref (4))], [.ref (203), .ref (203), .ref (4)]))) rfl ?_
  refine XV.callIN C (As := []) (rest := [.ref (203), .ref (4)]) (ct_T_init hfl (m := 199) (h := xup (setHist (xup (setElev (blkL h 4 [.inr (4, [.null, .null, .null, .null])]) (5) f0K) 4 (.inr (4, [.ref (5), .null, .null, .null]))) (33) 0 0 (fun _ => f0K)) 4 (.inr (4, [.ref (5), .ref (33), .null, .null])))) (xlk_ok okC_init rfl) rfl (List.mem_of_getElem? (i := 21) rfl) wI_T_init wN_T wB_T_init rfl hy_T_init (fun _ => by omega) ⟨Nat.le_of_ble_eq_true rfl, Nat.le_of_ble_eq_true rfl⟩ ⟨Nat.le_of_ble_eq_true rfl, Nat.le_of_ble_eq_true rfl⟩ (Nat.le_of_ble_eq_true rfl) (fun r n h hp => ?_) (fun _ _ _ q => q.elim)
  obtain ⟨rfl, rfl, rfl⟩ := hp
  show XV G 1 p' l e' ({ frames := 4, cells := 208, slots := 3947, locals := 82 } : Room) s' m' g' b' t' c' (XEnd G b' (fun r' n' h' => r' = none ∧ n' = 209 ∧ h' = setCW h f0K 0 0 (fun _ => f0K) (fun _ => 0) 0 (fun _ => 0, (fun _ => 0, (fun _ => 0, 0))) rI) (fun _ _ _ => False) g' s' 208 3947) 34 [some (.ref (4))] [.ref (203), .ref (4)] 204 (setText (xup (setHist (xup (setElev (blkL h 4 [.inr (4, [.null, .null, .null, .null])]) (5) f0K) 4 (.inr (4, [.ref (5), .null, .null, .null]))) (33) 0 0 (fun _ => f0K)) 4 (.inr (4, [.ref (5), .ref (33), .null, .null]))) (203) (fun _ => 0) 0 (fun _ => 0, (fun _ => 0, (fun _ => 0, 0)))) 203 3844
  refine XV.putF C (ci := 4) (kf := 2) hname (xlk_ok okC_init rfl) rfl (by decide) wF_C_26 (by decide) (by decide) (show (setText (xup (setHist (xup (setElev (blkL h 4 [.inr (4, [.null, .null, .null, .null])]) (5) f0K) 4 (.inr (4, [.ref (5), .null, .null, .null]))) (33) 0 0 (fun _ => f0K)) 4 (.inr (4, [.ref (5), .ref (33), .null, .null]))) (203) (fun _ => 0) 0 (fun _ => 0, (fun _ => 0, (fun _ => 0, 0)))) 4 = .inr (4, [.ref (5), .ref (33), .null, .null]) from by first | rfl | (rw [blk_o2 (by decide)]; rfl)) rfl rfl rfl rfl rfl (Nat.le_of_ble_eq_true rfl) ?_
  refine XV.run C okC_init 1 (q := (38, ([some (.ref (4))], [.ref (4)]))) rfl ?_
  refine XV.new C (ci := 2) (fs := [.null, .null, .null, .null, .int 0, .int 0, .int 0]) (xlk_ok okC_init rfl) rfl wC_C_30 wA_R wN_R (by intro j ty hj hp; rcases (show j = 0 ∨ j = 1 ∨ j = 2 ∨ j = 3 ∨ j = 4 ∨ j = 5 ∨ j = 6 by have : j < 7 := hj; omega) with rfl | rfl | rfl | rfl | rfl | rfl | rfl <;> (cases hp; rfl)) (by omega) (Nat.le_of_ble_eq_true rfl) (Nat.le_of_ble_eq_true rfl) ?_
  refine XV.cast (blkL_1 _ _ _) ?_
  show XV G 1 p' l e' ({ frames := 4, cells := 208, slots := 3947, locals := 82 } : Room) s' m' g' b' t' c' (XEnd G b' (fun r' n' h' => r' = none ∧ n' = 209 ∧ h' = setCW h f0K 0 0 (fun _ => f0K) (fun _ => 0) 0 (fun _ => 0, (fun _ => 0, (fun _ => 0, 0))) rI) (fun _ _ _ => False) g' s' 208 3947) 41 [some (.ref (4))] [.ref (208), .ref (4)] 205 (blkL (xup (setText (xup (setHist (xup (setElev (blkL h 4 [.inr (4, [.null, .null, .null, .null])]) (5) f0K) 4 (.inr (4, [.ref (5), .null, .null, .null]))) (33) 0 0 (fun _ => f0K)) 4 (.inr (4, [.ref (5), .ref (33), .null, .null]))) (203) (fun _ => 0) 0 (fun _ => 0, (fun _ => 0, (fun _ => 0, 0)))) 4 (.inr (4, [.ref (5), .ref (33), .ref (203), .null]))) (208) [.inr (2, [.null, .null, .null, .null, .int 0, .int 0, .int 0])]) 204 3851
  refine XV.run C okC_init 1 (q := (42, ([some (.ref (4))], [.ref (208), .ref (208), .ref (4)]))) rfl ?_
  refine XV.callIN C (As := []) (rest := [.ref (208), .ref (4)]) (ct_R_init hfl (m := 204) (h := xup (setText (xup (setHist (xup (setElev (blkL h 4 [.inr (4, [.null, .null, .null, .null])]) (5) f0K) 4 (.inr (4, [.ref (5), .null, .null, .null]))) (33) 0 0 (fun _ => f0K)) 4 (.inr (4, [.ref (5), .ref (33), .null, .null]))) (203) (fun _ => 0) 0 (fun _ => 0, (fun _ => 0, (fun _ => 0, 0)))) 4 (.inr (4, [.ref (5), .ref (33), .ref (203), .null])))) (xlk_ok okC_init rfl) rfl (List.mem_of_getElem? (i := 22) rfl) wI_R_init wN_R wB_R_init rfl hy_R_init (fun _ => by omega) ⟨Nat.le_of_ble_eq_true rfl, Nat.le_of_ble_eq_true rfl⟩ ⟨Nat.le_of_ble_eq_true rfl, Nat.le_of_ble_eq_true rfl⟩ (Nat.le_of_ble_eq_true rfl) (fun r n h hp => ?_) (fun _ _ _ q => q.elim)
  obtain ⟨rfl, rfl, rfl⟩ := hp
  show XV G 1 p' l e' ({ frames := 4, cells := 208, slots := 3947, locals := 82 } : Room) s' m' g' b' t' c' (XEnd G b' (fun r' n' h' => r' = none ∧ n' = 209 ∧ h' = setCW h f0K 0 0 (fun _ => f0K) (fun _ => 0) 0 (fun _ => 0, (fun _ => 0, (fun _ => 0, 0))) rI) (fun _ _ _ => False) g' s' 208 3947) 45 [some (.ref (4))] [.ref (208), .ref (4)] 209 (setRope (xup (setText (xup (setHist (xup (setElev (blkL h 4 [.inr (4, [.null, .null, .null, .null])]) (5) f0K) 4 (.inr (4, [.ref (5), .null, .null, .null]))) (33) 0 0 (fun _ => f0K)) 4 (.inr (4, [.ref (5), .ref (33), .null, .null]))) (203) (fun _ => 0) 0 (fun _ => 0, (fun _ => 0, (fun _ => 0, 0)))) 4 (.inr (4, [.ref (5), .ref (33), .ref (203), .null]))) (208) rI) 208 3947
  refine XV.putF C (ci := 4) (kf := 3) hname (xlk_ok okC_init rfl) rfl (by decide) wF_C_33 (by decide) (by decide) (show (setRope (xup (setText (xup (setHist (xup (setElev (blkL h 4 [.inr (4, [.null, .null, .null, .null])]) (5) f0K) 4 (.inr (4, [.ref (5), .null, .null, .null]))) (33) 0 0 (fun _ => f0K)) 4 (.inr (4, [.ref (5), .ref (33), .null, .null]))) (203) (fun _ => 0) 0 (fun _ => 0, (fun _ => 0, (fun _ => 0, 0)))) 4 (.inr (4, [.ref (5), .ref (33), .ref (203), .null]))) (208) rI) 4 = .inr (4, [.ref (5), .ref (33), .ref (203), .null]) from by first | rfl | (rw [blk_o2 (by decide)]; rfl)) rfl rfl rfl rfl rfl (Nat.le_of_ble_eq_true rfl) ?_
  exact XV.vret C (xlk_ok okC_init rfl) hret (Nat.le_of_ble_eq_true rfl) (Nat.le_of_ble_eq_true rfl) (⟨rfl, rfl, cIn rfl rfl rfl rfl⟩)
