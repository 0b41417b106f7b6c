/-! the constructors -/
def blkL (h : XH) (a : Nat) (L : List XC) : XH := blk h a L.length (fun i => L.getD i (.inr (0, [])))
theorem blkL_1 (h : XH) (a : Nat) (c : XC) : xup h a c = blkL h a [c] := by
  funext j
  unfold xup blkL blk
  by_cases hj : j = a
  · subst hj
    rw [if_pos rfl, if_pos (by simp)]
    simp
  · rw [if_neg hj, if_neg (by simp; omega)]
theorem blkL_new {h : XH} {a b : Nat} {L : List XC} {c : XC} (hb : b = a + L.length) : xup (blkL h a L) b c = blkL h a (L ++ [c]) := by
  subst hb
  funext j
  unfold xup blkL blk
  by_cases hj : j = a + L.length
  · subst hj
    rw [if_pos rfl, if_pos (by simp)]
    simp
  · rw [if_neg hj]
    by_cases h2 : a ≤ j ∧ j < a + L.length
    · rw [if_pos h2, if_pos (by simp; omega)]
      rw [List.getD_eq_getElem?_getD, List.getD_eq_getElem?_getD, List.getElem?_append_left (by omega)]
    · rw [if_neg h2, if_neg (by simp; omega)]
theorem blkL_up {h : XH} {a b i : Nat} {L : List XC} {c : XC} (hb : b = a + i) (hi : i < L.length) : xup (blkL h a L) b c = blkL h a (L.set i c) := by
  subst hb
  funext j
  unfold xup blkL blk
  by_cases hj : j = a + i
  · subst hj
    rw [if_pos rfl, if_pos (by simp; omega)]
    simp [hi]
  · rw [if_neg hj]
    by_cases h2 : a ≤ j ∧ j < a + L.length
    · rw [if_pos h2, if_pos (by simp; omega)]
      rw [List.getD_eq_getElem?_getD, List.getD_eq_getElem?_getD, List.getElem?_set_ne (by omega)]
    · rw [if_neg h2, if_neg (by simp; omega)]
theorem blkL_get {h : XH} {a b i : Nat} {L : List XC} {c : XC} (hb : b = a + i) (hc : L[i]? = some c) : blkL h a L b = c := by
  subst hb
  have hi : i < L.length := (List.getElem?_eq_some_iff.mp hc).1
  unfold blkL blk
  rw [if_pos (by omega), show a + i - a = i by omega, List.getD_eq_getElem?_getD, hc]
  rfl
theorem blkL_blk {h : XH} {a N : Nat} {L : List XC} {c : Nat → XC} (hN : L.length = N) (hc : ∀ j, j < N → L[j]? = some (c j)) : blkL h a L = blk h a N c := by
  subst hN
  refine blk_eq fun j hj => ?_
  rw [List.getD_eq_getElem?_getD, hc j hj]
  rfl
theorem XV.num {G : XG} {nL : Nat} {p : Program} {l : Launch} {e : Env} {R : Room} {s : State} {m : MethodId} {args : Array Value} {below : List Frame} {meth : Method} {c : Code} {Q : State → Prop} {pc : Nat} {ls : List (Option Value)} {st : List Value} {n n' : Nat} {h h' : XH} {k ks k' ks' : Nat} (hh : h = h') (hn : n = n') (hk : k = k') (hks : ks = ks') (kk : XV G nL p l e R s m args below meth c Q pc ls st n' h' k' ks') : XV G nL p l e R s m args below meth c Q pc ls st n h k ks := by
  subst hh hn hk hks
  exact kk
def rI : Nat → Int32 := fun k => if k = 0 then 1 else 0
set_option maxHeartbeats 4000000 in
set_option maxRecDepth 100000 in
theorem ct_R_init {l : Launch} (hfl : l.stackTraces = false) {G : XG} {m : Nat} {h : XH} : XCt l G True (Cond.code yR_init bR_init 1 none) yR_init 1 20 4 96 [.ref (m + 4)] (m + 1) (blkL h (m + 4) [.inr (2, [.null, .null, .null, .null, .int (0), .int (0), .int (0)])]) (fun r' n' h' => r' = none ∧ n' = m + 5 ∧ h' = setRope h (m + 4) rI) (fun _ _ _ => False) := by
  have hmd2 : True := trivial
  refine XCt.of hfl (by decide +kernel) (Nat.le_of_ble_eq_true rfl) ?_
  intro p' e' s' m' g' b' t' c' C hret hname hnt hmd
  have hex := hmd trivial
  refine XV.run C okR_init 1 (q := (1, ([some (.ref (m + 4))], [.ref (m + 4)]))) rfl ?_
  refine XV.objInit C (xlk_ok okR_init rfl) wM_R_3 (Nat.le_of_ble_eq_true rfl) (Nat.le_of_ble_eq_true rfl) ?_
  refine XV.run C okR_init 2 (q := (7, ([some (.ref (m + 4))], [.int (24), .ref (m + 4)]))) rfl ?_
  refine XV.newI C (N := 24) (xlk_ok okR_init rfl) wR_110 rfl (by decide) (by omega) (Nat.le_of_ble_eq_true rfl) (Nat.le_of_ble_eq_true rfl) ?_
  refine XV.cast ((congrArg (fun w => xup _ _ w) (xar_0 24)).trans (blkL_new rfl)) ?_
  show XV G 1 p' l e' ({ frames := 1, cells := 4, slots := 96, locals := 20 } : Room) s' m' g' b' t' c' (XEnd G b' (fun r' n' h' => r' = none ∧ n' = m + 5 ∧ h' = setRope h (m + 4) rI) (fun _ _ _ => False) g' s' 4 96) 9 [some (.ref (m + 4))] [.ref (m + 4 + 1), .ref (m + 4)] (m + 1 + 1) (blkL h (m + 4) [.inr (2, [.null, .null, .null, .null, .int (0), .int (0), .int (0)]), xar 24 (fun _ => 0)]) (0 + 1) (0 + 24)
  refine XV.putF C (ci := 2) (kf := 0) hname (xlk_ok okR_init rfl) rfl (by decide) wF_R_9 (by omega) (by omega) (blkL_get (i := 0) rfl rfl) rfl rfl rfl rfl rfl (Nat.le_of_ble_eq_true rfl) ?_
  refine XV.cast (blkL_up (i := 0) rfl (Nat.le_of_ble_eq_true rfl)) ?_
  show XV G 1 p' l e' ({ frames := 1, cells := 4, slots := 96, locals := 20 } : Room) s' m' g' b' t' c' (XEnd G b' (fun r' n' h' => r' = none ∧ n' = m + 5 ∧ h' = setRope h (m + 4) rI) (fun _ _ _ => False) g' s' 4 96) 12 [some (.ref (m + 4))] [] (m + 1 + 1) (blkL h (m + 4) [.inr (2, [.ref (m + 4 + 1), .null, .null, .null, .int (0), .int (0), .int (0)]), xar 24 (fun _ => 0)]) (0 + 1) (0 + 24)
  refine XV.run C okR_init 2 (q := (15, ([some (.ref (m + 4))], [.int (24), .ref (m + 4)]))) rfl ?_
  refine XV.newI C (N := 24) (xlk_ok okR_init rfl) wR_110 rfl (by decide) (by omega) (Nat.le_of_ble_eq_true rfl) (Nat.le_of_ble_eq_true rfl) ?_
  refine XV.cast ((congrArg (fun w => xup _ _ w) (xar_0 24)).trans (blkL_new rfl)) ?_
  show XV G 1 p' l e' ({ frames := 1, cells := 4, slots := 96, locals := 20 } : Room) s' m' g' b' t' c' (XEnd G b' (fun r' n' h' => r' = none ∧ n' = m + 5 ∧ h' = setRope h (m + 4) rI) (fun _ _ _ => False) g' s' 4 96) 17 [some (.ref (m + 4))] [.ref (m + 4 + 2), .ref (m + 4)] (m + 1 + 2) (blkL h (m + 4) [.inr (2, [.ref (m + 4 + 1), .null, .null, .null, .int (0), .int (0), .int (0)]), xar 24 (fun _ => 0), xar 24 (fun _ => 0)]) ((0 + 1) + 1) ((0 + 24) + 24)
  refine XV.putF C (ci := 2) (kf := 1) hname (xlk_ok okR_init rfl) rfl (by decide) wF_R_15 (by omega) (by omega) (blkL_get (i := 0) rfl rfl) rfl rfl rfl rfl rfl (Nat.le_of_ble_eq_true rfl) ?_
  refine XV.cast (blkL_up (i := 0) rfl (Nat.le_of_ble_eq_true rfl)) ?_
  show XV G 1 p' l e' ({ frames := 1, cells := 4, slots := 96, locals := 20 } : Room) s' m' g' b' t' c' (XEnd G b' (fun r' n' h' => r' = none ∧ n' = m + 5 ∧ h' = setRope h (m + 4) rI) (fun _ _ _ => False) g' s' 4 96) 20 [some (.ref (m + 4))] [] (m + 1 + 2) (blkL h (m + 4) [.inr (2, [.ref (m + 4 + 1), .ref (m + 4 + 2), .null, .null, .int (0), .int (0), .int (0)]), xar 24 (fun _ => 0), xar 24 (fun _ => 0)]) ((0 + 1) + 1) ((0 + 24) + 24)
  refine XV.run C okR_init 2 (q := (23, ([some (.ref (m + 4))], [.int (24), .ref (m + 4)]))) rfl ?_
  refine XV.newI C (N := 24) (xlk_ok okR_init rfl) wR_110 rfl (by decide) (by omega) (Nat.le_of_ble_eq_true rfl) (Nat.le_of_ble_eq_true rfl) ?_
  refine XV.cast ((congrArg (fun w => xup _ _ w) (xar_0 24)).trans (blkL_new rfl)) ?_
  show XV G 1 p' l e' ({ frames := 1, cells := 4, slots := 96, locals := 20 } : Room) s' m' g' b' t' c' (XEnd G b' (fun r' n' h' => r' = none ∧ n' = m + 5 ∧ h' = setRope h (m + 4) rI) (fun _ _ _ => False) g' s' 4 96) 25 [some (.ref (m + 4))] [.ref (m + 4 + 3), .ref (m + 4)] (m + 1 + 3) (blkL h (m + 4) [.inr (2, [.ref (m + 4 + 1), .ref (m + 4 + 2), .null, .null, .int (0), .int (0), .int (0)]), xar 24 (fun _ => 0), xar 24 (fun _ => 0), xar 24 (fun _ => 0)]) (((0 + 1) + 1) + 1) (((0 + 24) + 24) + 24)
  refine XV.putF C (ci := 2) (kf := 2) hname (xlk_ok okR_init rfl) rfl (by decide) wF_R_18 (by omega) (by omega) (blkL_get (i := 0) rfl rfl) rfl rfl rfl rfl rfl (Nat.le_of_ble_eq_true rfl) ?_
  refine XV.cast (blkL_up (i := 0) rfl (Nat.le_of_ble_eq_true rfl)) ?_
  show XV G 1 p' l e' ({ frames := 1, cells := 4, slots := 96, locals := 20 } : Room) s' m' g' b' t' c' (XEnd G b' (fun r' n' h' => r' = none ∧ n' = m + 5 ∧ h' = setRope h (m + 4) rI) (fun _ _ _ => False) g' s' 4 96) 28 [some (.ref (m + 4))] [] (m + 1 + 3) (blkL h (m + 4) [.inr (2, [.ref (m + 4 + 1), .ref (m + 4 + 2), .ref (m + 4 + 3), .null, .int (0), .int (0), .int (0)]), xar 24 (fun _ => 0), xar 24 (fun _ => 0), xar 24 (fun _ => 0)]) (((0 + 1) + 1) + 1) (((0 + 24) + 24) + 24)
  refine XV.run C okR_init 2 (q := (31, ([some (.ref (m + 4))], [.int (24), .ref (m + 4)]))) rfl ?_
  refine XV.newI C (N := 24) (xlk_ok okR_init rfl) wR_110 rfl (by decide) (by omega) (Nat.le_of_ble_eq_true rfl) (Nat.le_of_ble_eq_true rfl) ?_
  refine XV.cast ((congrArg (fun w => xup _ _ w) (xar_0 24)).trans (blkL_new rfl)) ?_
  show XV G 1 p' l e' ({ frames := 1, cells := 4, slots := 96, locals := 20 } : Room) s' m' g' b' t' c' (XEnd G b' (fun r' n' h' => r' = none ∧ n' = m + 5 ∧ h' = setRope h (m + 4) rI) (fun _ _ _ => False) g' s' 4 96) 33 [some (.ref (m + 4))] [.ref (m + 4 + 4), .ref (m + 4)] (m + 1 + 4) (blkL h (m + 4) [.inr (2, [.ref (m + 4 + 1), .ref (m + 4 + 2), .ref (m + 4 + 3), .null, .int (0), .int (0), .int (0)]), xar 24 (fun _ => 0), xar 24 (fun _ => 0), xar 24 (fun _ => 0), xar 24 (fun _ => 0)]) ((((0 + 1) + 1) + 1) + 1) ((((0 + 24) + 24) + 24) + 24)
  refine XV.putF C (ci := 2) (kf := 3) hname (xlk_ok okR_init rfl) rfl (by decide) wF_R_21 (by omega) (by omega) (blkL_get (i := 0) rfl rfl) rfl rfl rfl rfl rfl (Nat.le_of_ble_eq_true rfl) ?_
  refine XV.cast (blkL_up (i := 0) rfl (Nat.le_of_ble_eq_true rfl)) ?_
  show XV G 1 p' l e' ({ frames := 1, cells := 4, slots := 96, locals := 20 } : Room) s' m' g' b' t' c' (XEnd G b' (fun r' n' h' => r' = none ∧ n' = m + 5 ∧ h' = setRope h (m + 4) rI) (fun _ _ _ => False) g' s' 4 96) 36 [some (.ref (m + 4))] [] (m + 1 + 4) (blkL h (m + 4) [.inr (2, [.ref (m + 4 + 1), .ref (m + 4 + 2), .ref (m + 4 + 3), .ref (m + 4 + 4), .int (0), .int (0), .int (0)]), xar 24 (fun _ => 0), xar 24 (fun _ => 0), xar 24 (fun _ => 0), xar 24 (fun _ => 0)]) ((((0 + 1) + 1) + 1) + 1) ((((0 + 24) + 24) + 24) + 24)
  refine XV.run C okR_init 2 (q := (38, ([some (.ref (m + 4))], [.int (1), .ref (m + 4)]))) rfl ?_
  refine XV.putf C (ci := 2) (kf := 4) (xlk_ok okR_init rfl) rfl (by decide) wF_R_24 (by omega) (by omega) (blkL_get (i := 0) rfl rfl) rfl rfl rfl rfl (Nat.le_of_ble_eq_true rfl) ?_
  refine XV.cast (blkL_up (i := 0) rfl (Nat.le_of_ble_eq_true rfl)) ?_
  show XV G 1 p' l e' ({ frames := 1, cells := 4, slots := 96, locals := 20 } : Room) s' m' g' b' t' c' (XEnd G b' (fun r' n' h' => r' = none ∧ n' = m + 5 ∧ h' = setRope h (m + 4) rI) (fun _ _ _ => False) g' s' 4 96) 41 [some (.ref (m + 4))] [] (m + 1 + 4) (blkL h (m + 4) [.inr (2, [.ref (m + 4 + 1), .ref (m + 4 + 2), .ref (m + 4 + 3), .ref (m + 4 + 4), .int (1), .int (0), .int (0)]), xar 24 (fun _ => 0), xar 24 (fun _ => 0), xar 24 (fun _ => 0), xar 24 (fun _ => 0)]) ((((0 + 1) + 1) + 1) + 1) ((((0 + 24) + 24) + 24) + 24)
  refine XV.run C okR_init 2 (q := (43, ([some (.ref (m + 4))], [.int (0), .ref (m + 4)]))) rfl ?_
  refine XV.putf C (ci := 2) (kf := 5) (xlk_ok okR_init rfl) rfl (by decide) wF_R_28 (by omega) (by omega) (blkL_get (i := 0) rfl rfl) rfl rfl rfl rfl (Nat.le_of_ble_eq_true rfl) ?_
  refine XV.cast (blkL_up (i := 0) rfl (Nat.le_of_ble_eq_true rfl)) ?_
  show XV G 1 p' l e' ({ frames := 1, cells := 4, slots := 96, locals := 20 } : Room) s' m' g' b' t' c' (XEnd G b' (fun r' n' h' => r' = none ∧ n' = m + 5 ∧ h' = setRope h (m + 4) rI) (fun _ _ _ => False) g' s' 4 96) 46 [some (.ref (m + 4))] [] (m + 1 + 4) (blkL h (m + 4) [.inr (2, [.ref (m + 4 + 1), .ref (m + 4 + 2), .ref (m + 4 + 3), .ref (m + 4 + 4), .int (1), .int (0), .int (0)]), xar 24 (fun _ => 0), xar 24 (fun _ => 0), xar 24 (fun _ => 0), xar 24 (fun _ => 0)]) ((((0 + 1) + 1) + 1) + 1) ((((0 + 24) + 24) + 24) + 24)
  refine XV.run C okR_init 2 (q := (48, ([some (.ref (m + 4))], [.int (0), .ref (m + 4)]))) rfl ?_
  refine XV.putf C (ci := 2) (kf := 6) (xlk_ok okR_init rfl) rfl (by decide) wF_R_31 (by omega) (by omega) (blkL_get (i := 0) rfl rfl) rfl rfl rfl rfl (Nat.le_of_ble_eq_true rfl) ?_
  refine XV.cast (blkL_up (i := 0) rfl (Nat.le_of_ble_eq_true rfl)) ?_
  show XV G 1 p' l e' ({ frames := 1, cells := 4, slots := 96, locals := 20 } : Room) s' m' g' b' t' c' (XEnd G b' (fun r' n' h' => r' = none ∧ n' = m + 5 ∧ h' = setRope h (m + 4) rI) (fun _ _ _ => False) g' s' 4 96) 51 [some (.ref (m + 4))] [] (m + 1 + 4) (blkL h (m + 4) [.inr (2, [.ref (m + 4 + 1), .ref (m + 4 + 2), .ref (m + 4 + 3), .ref (m + 4 + 4), .int (1), .int (0), .int (0)]), xar 24 (fun _ => 0), xar 24 (fun _ => 0), xar 24 (fun _ => 0), xar 24 (fun _ => 0)]) ((((0 + 1) + 1) + 1) + 1) ((((0 + 24) + 24) + 24) + 24)
  exact XV.vret C (xlk_ok okR_init rfl) hret (Nat.le_of_ble_eq_true rfl) (Nat.le_of_ble_eq_true rfl) (⟨rfl, rfl, blkL_blk rfl (fun j hj => by rcases (show j = 0 ∨ j = 1 ∨ j = 2 ∨ j = 3 ∨ j = 4 by omega) with rfl | rfl | rfl | rfl | rfl <;> first | rfl | (refine congrArg some (xar_eq fun s hs => ?_); unfold rI; rw [if_neg (by omega)]))⟩)
set_option maxHeartbeats 4000000 in
set_option maxRecDepth 100000 in
theorem ct_T_init {l : Launch} (hfl : l.stackTraces = false) {G : XG} {m : Nat} {h : XH} : XCt l G True (Cond.code yT_init bT_init 1 none) yT_init 1 20 4 105 [.ref (m + 4)] (m + 1) (blkL h (m + 4) [.inr (3, [.null, .null, .null, .null, .int (0), .int (0)])]) (fun r' n' h' => r' = none ∧ n' = m + 5 ∧ h' = setText h (m + 4) (fun _ => 0) 0 (fun _ => 0, (fun _ => 0, (fun _ => 0, 0)))) (fun _ _ _ => False) := by
  have hmd2 : True := trivial
  refine XCt.of hfl (by decide +kernel) (Nat.le_of_ble_eq_true rfl) ?_
  intro p' e' s' m' g' b' t' c' C hret hname hnt hmd
  have hex := hmd trivial
  refine XV.run C okT_init 1 (q := (1, ([some (.ref (m + 4))], [.ref (m + 4)]))) rfl ?_
  refine XV.objInit C (xlk_ok okT_init rfl) wM_T_3 (Nat.le_of_ble_eq_true rfl) (Nat.le_of_ble_eq_true rfl) ?_
  refine XV.run C okT_init 2 (q := (7, ([some (.ref (m + 4))], [.int (60), .ref (m + 4)]))) rfl ?_
  refine XV.newI C (N := 60) (xlk_ok okT_init rfl) wR_110 rfl (by decide) (by omega) (Nat.le_of_ble_eq_true rfl) (Nat.le_of_ble_eq_true rfl) ?_
  refine XV.cast ((congrArg (fun w => xup _ _ w) (xar_0 60)).trans (blkL_new rfl)) ?_
  show XV G 1 p' l e' ({ frames := 1, cells := 4, slots := 105, locals := 20 } : Room) s' m' g' b' t' c' (XEnd G b' (fun r' n' h' => r' = none ∧ n' = m + 5 ∧ h' = setText h (m + 4) (fun _ => 0) 0 (fun _ => 0, (fun _ => 0, (fun _ => 0, 0)))) (fun _ _ _ => False) g' s' 4 105) 9 [some (.ref (m + 4))] [.ref (m + 4 + 1), .ref (m + 4)] (m + 1 + 1) (blkL h (m + 4) [.inr (3, [.null, .null, .null, .null, .int (0), .int (0)]), xar 60 (fun _ => 0)]) (0 + 1) (0 + 60)
  refine XV.putF C (ci := 3) (kf := 0) hname (xlk_ok okT_init rfl) rfl (by decide) wF_T_9 (by omega) (by omega) (blkL_get (i := 0) rfl rfl) rfl rfl rfl rfl rfl (Nat.le_of_ble_eq_true rfl) ?_
  refine XV.cast (blkL_up (i := 0) rfl (Nat.le_of_ble_eq_true rfl)) ?_
  show XV G 1 p' l e' ({ frames := 1, cells := 4, slots := 105, locals := 20 } : Room) s' m' g' b' t' c' (XEnd G b' (fun r' n' h' => r' = none ∧ n' = m + 5 ∧ h' = setText h (m + 4) (fun _ => 0) 0 (fun _ => 0, (fun _ => 0, (fun _ => 0, 0)))) (fun _ _ _ => False) g' s' 4 105) 12 [some (.ref (m + 4))] [] (m + 1 + 1) (blkL h (m + 4) [.inr (3, [.ref (m + 4 + 1), .null, .null, .null, .int (0), .int (0)]), xar 60 (fun _ => 0)]) (0 + 1) (0 + 60)
  refine XV.run C okT_init 2 (q := (15, ([some (.ref (m + 4))], [.int (15), .ref (m + 4)]))) rfl ?_
  refine XV.newI C (N := 15) (xlk_ok okT_init rfl) wR_110 rfl (by decide) (by omega) (Nat.le_of_ble_eq_true rfl) (Nat.le_of_ble_eq_true rfl) ?_
  refine XV.cast ((congrArg (fun w => xup _ _ w) (xar_0 15)).trans (blkL_new rfl)) ?_
  show XV G 1 p' l e' ({ frames := 1, cells := 4, slots := 105, locals := 20 } : Room) s' m' g' b' t' c' (XEnd G b' (fun r' n' h' => r' = none ∧ n' = m + 5 ∧ h' = setText h (m + 4) (fun _ => 0) 0 (fun _ => 0, (fun _ => 0, (fun _ => 0, 0)))) (fun _ _ _ => False) g' s' 4 105) 17 [some (.ref (m + 4))] [.ref (m + 4 + 2), .ref (m + 4)] (m + 1 + 2) (blkL h (m + 4) [.inr (3, [.ref (m + 4 + 1), .null, .null, .null, .int (0), .int (0)]), xar 60 (fun _ => 0), xar 15 (fun _ => 0)]) ((0 + 1) + 1) ((0 + 60) + 15)
  refine XV.putF C (ci := 3) (kf := 1) hname (xlk_ok okT_init rfl) rfl (by decide) wF_T_15 (by omega) (by omega) (blkL_get (i := 0) rfl rfl) rfl rfl rfl rfl rfl (Nat.le_of_ble_eq_true rfl) ?_
  refine XV.cast (blkL_up (i := 0) rfl (Nat.le_of_ble_eq_true rfl)) ?_
  show XV G 1 p' l e' ({ frames := 1, cells := 4, slots := 105, locals := 20 } : Room) s' m' g' b' t' c' (XEnd G b' (fun r' n' h' => r' = none ∧ n' = m + 5 ∧ h' = setText h (m + 4) (fun _ => 0) 0 (fun _ => 0, (fun _ => 0, (fun _ => 0, 0)))) (fun _ _ _ => False) g' s' 4 105) 20 [some (.ref (m + 4))] [] (m + 1 + 2) (blkL h (m + 4) [.inr (3, [.ref (m + 4 + 1), .ref (m + 4 + 2), .null, .null, .int (0), .int (0)]), xar 60 (fun _ => 0), xar 15 (fun _ => 0)]) ((0 + 1) + 1) ((0 + 60) + 15)
  refine XV.run C okT_init 2 (q := (23, ([some (.ref (m + 4))], [.int (15), .ref (m + 4)]))) rfl ?_
  refine XV.newI C (N := 15) (xlk_ok okT_init rfl) wR_110 rfl (by decide) (by omega) (Nat.le_of_ble_eq_true rfl) (Nat.le_of_ble_eq_true rfl) ?_
  refine XV.cast ((congrArg (fun w => xup _ _ w) (xar_0 15)).trans (blkL_new rfl)) ?_
  show XV G 1 p' l e' ({ frames := 1, cells := 4, slots := 105, locals := 20 } : Room) s' m' g' b' t' c' (XEnd G b' (fun r' n' h' => r' = none ∧ n' = m + 5 ∧ h' = setText h (m + 4) (fun _ => 0) 0 (fun _ => 0, (fun _ => 0, (fun _ => 0, 0)))) (fun _ _ _ => False) g' s' 4 105) 25 [some (.ref (m + 4))] [.ref (m + 4 + 3), .ref (m + 4)] (m + 1 + 3) (blkL h (m + 4) [.inr (3, [.ref (m + 4 + 1), .ref (m + 4 + 2), .null, .null, .int (0), .int (0)]), xar 60 (fun _ => 0), xar 15 (fun _ => 0), xar 15 (fun _ => 0)]) (((0 + 1) + 1) + 1) (((0 + 60) + 15) + 15)
  refine XV.putF C (ci := 3) (kf := 2) hname (xlk_ok okT_init rfl) rfl (by decide) wF_T_18 (by omega) (by omega) (blkL_get (i := 0) rfl rfl) rfl rfl rfl rfl rfl (Nat.le_of_ble_eq_true rfl) ?_
  refine XV.cast (blkL_up (i := 0) rfl (Nat.le_of_ble_eq_true rfl)) ?_
  show XV G 1 p' l e' ({ frames := 1, cells := 4, slots := 105, locals := 20 } : Room) s' m' g' b' t' c' (XEnd G b' (fun r' n' h' => r' = none ∧ n' = m + 5 ∧ h' = setText h (m + 4) (fun _ => 0) 0 (fun _ => 0, (fun _ => 0, (fun _ => 0, 0)))) (fun _ _ _ => False) g' s' 4 105) 28 [some (.ref (m + 4))] [] (m + 1 + 3) (blkL h (m + 4) [.inr (3, [.ref (m + 4 + 1), .ref (m + 4 + 2), .ref (m + 4 + 3), .null, .int (0), .int (0)]), xar 60 (fun _ => 0), xar 15 (fun _ => 0), xar 15 (fun _ => 0)]) (((0 + 1) + 1) + 1) (((0 + 60) + 15) + 15)
  refine XV.run C okT_init 2 (q := (31, ([some (.ref (m + 4))], [.int (15), .ref (m + 4)]))) rfl ?_
  refine XV.newI C (N := 15) (xlk_ok okT_init rfl) wR_110 rfl (by decide) (by omega) (Nat.le_of_ble_eq_true rfl) (Nat.le_of_ble_eq_true rfl) ?_
  refine XV.cast ((congrArg (fun w => xup _ _ w) (xar_0 15)).trans (blkL_new rfl)) ?_
  show XV G 1 p' l e' ({ frames := 1, cells := 4, slots := 105, locals := 20 } : Room) s' m' g' b' t' c' (XEnd G b' (fun r' n' h' => r' = none ∧ n' = m + 5 ∧ h' = setText h (m + 4) (fun _ => 0) 0 (fun _ => 0, (fun _ => 0, (fun _ => 0, 0)))) (fun _ _ _ => False) g' s' 4 105) 33 [some (.ref (m + 4))] [.ref (m + 4 + 4), .ref (m + 4)] (m + 1 + 4) (blkL h (m + 4) [.inr (3, [.ref (m + 4 + 1), .ref (m + 4 + 2), .ref (m + 4 + 3), .null, .int (0), .int (0)]), xar 60 (fun _ => 0), xar 15 (fun _ => 0), xar 15 (fun _ => 0), xar 15 (fun _ => 0)]) ((((0 + 1) + 1) + 1) + 1) ((((0 + 60) + 15) + 15) + 15)
  refine XV.putF C (ci := 3) (kf := 3) hname (xlk_ok okT_init rfl) rfl (by decide) wF_T_21 (by omega) (by omega) (blkL_get (i := 0) rfl rfl) rfl rfl rfl rfl rfl (Nat.le_of_ble_eq_true rfl) ?_
  refine XV.cast (blkL_up (i := 0) rfl (Nat.le_of_ble_eq_true rfl)) ?_
  show XV G 1 p' l e' ({ frames := 1, cells := 4, slots := 105, locals := 20 } : Room) s' m' g' b' t' c' (XEnd G b' (fun r' n' h' => r' = none ∧ n' = m + 5 ∧ h' = setText h (m + 4) (fun _ => 0) 0 (fun _ => 0, (fun _ => 0, (fun _ => 0, 0)))) (fun _ _ _ => False) g' s' 4 105) 36 [some (.ref (m + 4))] [] (m + 1 + 4) (blkL h (m + 4) [.inr (3, [.ref (m + 4 + 1), .ref (m + 4 + 2), .ref (m + 4 + 3), .ref (m + 4 + 4), .int (0), .int (0)]), xar 60 (fun _ => 0), xar 15 (fun _ => 0), xar 15 (fun _ => 0), xar 15 (fun _ => 0)]) ((((0 + 1) + 1) + 1) + 1) ((((0 + 60) + 15) + 15) + 15)
  refine XV.run C okT_init 2 (q := (38, ([some (.ref (m + 4))], [.int (0), .ref (m + 4)]))) rfl ?_
  refine XV.putf C (ci := 3) (kf := 4) (xlk_ok okT_init rfl) rfl (by decide) wF_T_24 (by omega) (by omega) (blkL_get (i := 0) rfl rfl) rfl rfl rfl rfl (Nat.le_of_ble_eq_true rfl) ?_
  refine XV.cast (blkL_up (i := 0) rfl (Nat.le_of_ble_eq_true rfl)) ?_
  show XV G 1 p' l e' ({ frames := 1, cells := 4, slots := 105, locals := 20 } : Room) s' m' g' b' t' c' (XEnd G b' (fun r' n' h' => r' = none ∧ n' = m + 5 ∧ h' = setText h (m + 4) (fun _ => 0) 0 (fun _ => 0, (fun _ => 0, (fun _ => 0, 0)))) (fun _ _ _ => False) g' s' 4 105) 41 [some (.ref (m + 4))] [] (m + 1 + 4) (blkL h (m + 4) [.inr (3, [.ref (m + 4 + 1), .ref (m + 4 + 2), .ref (m + 4 + 3), .ref (m + 4 + 4), .int (0), .int (0)]), xar 60 (fun _ => 0), xar 15 (fun _ => 0), xar 15 (fun _ => 0), xar 15 (fun _ => 0)]) ((((0 + 1) + 1) + 1) + 1) ((((0 + 60) + 15) + 15) + 15)
  refine XV.run C okT_init 2 (q := (43, ([some (.ref (m + 4))], [.int (0), .ref (m + 4)]))) rfl ?_
  refine XV.putf C (ci := 3) (kf := 5) (xlk_ok okT_init rfl) rfl (by decide) wF_T_28 (by omega) (by omega) (blkL_get (i := 0) rfl rfl) rfl rfl rfl rfl (Nat.le_of_ble_eq_true rfl) ?_
  refine XV.cast (blkL_up (i := 0) rfl (Nat.le_of_ble_eq_true rfl)) ?_
  show XV G 1 p' l e' ({ frames := 1, cells := 4, slots := 105, locals := 20 } : Room) s' m' g' b' t' c' (XEnd G b' (fun r' n' h' => r' = none ∧ n' = m + 5 ∧ h' = setText h (m + 4) (fun _ => 0) 0 (fun _ => 0, (fun _ => 0, (fun _ => 0, 0)))) (fun _ _ _ => False) g' s' 4 105) 46 [some (.ref (m + 4))] [] (m + 1 + 4) (blkL h (m + 4) [.inr (3, [.ref (m + 4 + 1), .ref (m + 4 + 2), .ref (m + 4 + 3), .ref (m + 4 + 4), .int (0), .int (0)]), xar 60 (fun _ => 0), xar 15 (fun _ => 0), xar 15 (fun _ => 0), xar 15 (fun _ => 0)]) ((((0 + 1) + 1) + 1) + 1) ((((0 + 60) + 15) + 15) + 15)
  exact XV.vret C (xlk_ok okT_init rfl) hret (Nat.le_of_ble_eq_true rfl) (Nat.le_of_ble_eq_true rfl) (⟨rfl, rfl, blkL_blk rfl (fun j hj => by rcases (show j = 0 ∨ j = 1 ∨ j = 2 ∨ j = 3 ∨ j = 4 by omega) with rfl | rfl | rfl | rfl | rfl <;> rfl)⟩)
