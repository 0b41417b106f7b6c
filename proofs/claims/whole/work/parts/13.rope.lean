/-! RopeThreads$Rope: the reads -/
theorem ne_of_gt {x : Int32} (h : 0 < x) : ¬ x = 0 := fun e => by rw [e] at h; exact absurd h (by decide)
set_option maxHeartbeats 4000000 in
set_option maxRecDepth 100000 in
theorem ct_R_broken {l : Launch} (hfl : l.stackTraces = false) {G : XG} {n : Nat} {h : XH} {a : Nat} {r : Nat → Int32} (hR : IsRope h a r) (h4 : 4 ≤ a) (hn : a + 5 ≤ n + 4) {i : Nat} (hi : i < 24) (hq : 0 < r 0) : XCt l G False (Cond.code yR_broken bR_broken 2 (some .int)) yR_broken 0 0 0 0 [.ref (a), .int (nI i)] n h (fun r' n' h' => r' = some (.int (brk r i)) ∧ n' = n ∧ h' = h) (fun _ _ _ => False) := by
  refine XCt.of hfl (by decide +kernel) (Nat.le_of_ble_eq_true rfl) ?_
  intro p e s m args below meth c C hret hname hnt hmd
  refine XV.run C okR_broken 1 (q := (1, ([some (.ref (a)), some (.int (nI i))], [.int (nI i)]))) rfl ?_
  refine XV.if_lt C (tgt := 17) (xlk_ok okR_broken rfl) rfl (fun hc => absurd hc (nI_pos (by omega))) (fun _ => ?_)
  refine XV.run C okR_broken 2 (q := (7, ([some (.ref (a)), some (.int (nI i))], [.int (24), .int (nI i)]))) rfl ?_
  refine XV.icmp_ge C (tgt := 17) (xlk_ok okR_broken rfl) rfl (fun hc => absurd hc (nI_ge (b := 24) (by omega) (by omega))) (fun _ => ?_)
  refine XV.run C okR_broken 1 (q := (11, ([some (.ref (a)), some (.int (nI i))], [.ref (a)]))) rfl ?_
  refine XV.getf C (ci := 2) (kf := 4) (v := .int (r 0)) (xlk_ok okR_broken rfl) rfl (by decide) wF_R_24 (by omega) (by omega) (hR 0 (by decide)) rfl ?_
  refine XV.if_gt C (tgt := 19) (xlk_ok okR_broken rfl) rfl (fun _ => ?_) (fun hc => absurd (hq) hc)
  refine XV.run C okR_broken 1 (q := (20, ([some (.ref (a)), some (.int (nI i))], [.ref (a)]))) rfl ?_
  refine XV.getf C (ci := 2) (kf := 0) (v := .ref (a + 1)) (xlk_ok okR_broken rfl) rfl (by decide) wF_R_9 (by omega) (by omega) (hR 0 (by decide)) rfl ?_
  refine XV.run C okR_broken 1 (q := (24, ([some (.ref (a)), some (.int (nI i))], [.int (nI i), .ref (a + 1)]))) rfl ?_
  refine XV.ialdC C (N := 24) (f := (fun s => r (3 + s))) (a := i) (xlk_ok okR_broken rfl) (by omega) (by omega) (hR 1 (by decide)) (rfl) (by omega) (by decide) ?_
  refine XV.run C okR_broken 1 (q := (26, ([some (.ref (a)), some (.int (nI i))], [.ref (a), .int (r (3 + i))]))) rfl ?_
  refine XV.getf C (ci := 2) (kf := 4) (v := .int (r 0)) (xlk_ok okR_broken rfl) rfl (by decide) wF_R_24 (by omega) (by omega) (hR 0 (by decide)) rfl ?_
  refine XV.idiv C (xlk_ok okR_broken rfl) (ne_of_gt hq) ?_
  exact XV.iret C (xlk_ok okR_broken rfl) hret rfl (Nat.le_of_ble_eq_true rfl) (Nat.le_of_ble_eq_true rfl) (⟨rfl, rfl, rfl⟩)
