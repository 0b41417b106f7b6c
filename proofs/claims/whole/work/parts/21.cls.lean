/-! RopeThreads: what the calls require, the calls -/
set_option maxHeartbeats 4000000 in
set_option maxRecDepth 100000 in
theorem ct_C_requireIndex {l : Launch} (hfl : l.stackTraces = false) {G : XG} {n : Nat} {h : XH} (x y : Int32) : XCt l G False (Cond.code yC_requireIndex bC_requireIndex 2 none) yC_requireIndex 6 90 1 6 [.int (x), .int (y)] n h (fun r' n' h' => r' = none ∧ (¬ x < 0 ∧ x < y) ∧ n' = n ∧ h' = h) (fun E n' h' => (E = XIOB ∧ (x < 0 ∨ ¬ x < y)) ∧ n' = n ∧ h' = h) := by
  refine XCt.of hfl (by decide +kernel) (Nat.le_of_ble_eq_true rfl) ?_
  intro p' e' s' m' g' b' t' c' C hret hname hnt hmd
  refine XV.run C okC_requireIndex 1 (q := (1, ([some (.int (x)), some (.int (y))], [.int (x)]))) rfl ?_
  refine XV.if_lt C (tgt := 9) (xlk_ok okC_requireIndex rfl) rfl (fun c1 => ?_) (fun c1 => ?_)
  ·
    refine XV.throwS C hnt (E := XIOB) (Or.inr (Or.inr ⟨rfl, rfl, rfl⟩)) (List.mem_of_getElem? (i := 3) rfl) (xlk_ok okC_requireIndex (pc := 9) rfl) (xlk_ok okC_requireIndex (pc := 12) rfl) (xlk_ok okC_requireIndex (pc := 13) rfl) (xlk_ok okC_requireIndex (pc := 15) rfl) (xlk_ok okC_requireIndex (pc := 18) rfl) (Nat.le_of_ble_eq_true rfl) (Nat.le_of_ble_eq_true rfl) (Nat.le_of_ble_eq_true rfl) (Nat.le_of_ble_eq_true rfl) (Nat.le_of_ble_eq_true rfl) (Nat.le_of_ble_eq_true rfl) ?_
    exact ⟨⟨rfl, by first | exact Or.inl c1 | exact Or.inr c2⟩, rfl, rfl⟩
  ·
    refine XV.run C okC_requireIndex 2 (q := (6, ([some (.int (x)), some (.int (y))], [.int (y), .int (x)]))) rfl ?_
    refine XV.icmp_lt C (tgt := 19) (xlk_ok okC_requireIndex rfl) rfl (fun c2 => ?_) (fun c2 => ?_)
    ·
      exact XV.vret C (xlk_ok okC_requireIndex rfl) hret (Nat.le_of_ble_eq_true rfl) (Nat.le_of_ble_eq_true rfl) (⟨rfl, ⟨c1, c2⟩, rfl, rfl⟩)
    ·
      refine XV.throwS C hnt (E := XIOB) (Or.inr (Or.inr ⟨rfl, rfl, rfl⟩)) (List.mem_of_getElem? (i := 3) rfl) (xlk_ok okC_requireIndex (pc := 9) rfl) (xlk_ok okC_requireIndex (pc := 12) rfl) (xlk_ok okC_requireIndex (pc := 13) rfl) (xlk_ok okC_requireIndex (pc := 15) rfl) (xlk_ok okC_requireIndex (pc := 18) rfl) (Nat.le_of_ble_eq_true rfl) (Nat.le_of_ble_eq_true rfl) (Nat.le_of_ble_eq_true rfl) (Nat.le_of_ble_eq_true rfl) (Nat.le_of_ble_eq_true rfl) (Nat.le_of_ble_eq_true rfl) ?_
      exact ⟨⟨rfl, by first | exact Or.inl c1 | exact Or.inr c2⟩, rfl, rfl⟩
set_option maxHeartbeats 4000000 in
set_option maxRecDepth 100000 in
theorem ct_C_requireRange {l : Launch} (hfl : l.stackTraces = false) {G : XG} {n : Nat} {h : XH} (x a b : Int32) : XCt l G False (Cond.code yC_requireRange bC_requireRange 3 none) yC_requireRange 6 90 1 6 [.int (x), .int (a), .int (b)] n h (fun r' n' h' => r' = none ∧ (¬ x < a ∧ x ≤ b) ∧ n' = n ∧ h' = h) (fun E n' h' => (E = XIAE ∧ (x < a ∨ ¬ x ≤ b)) ∧ n' = n ∧ h' = h) := by
  refine XCt.of hfl (by decide +kernel) (Nat.le_of_ble_eq_true rfl) ?_
  intro p' e' s' m' g' b' t' c' C hret hname hnt hmd
  refine XV.run C okC_requireRange 2 (q := (2, ([some (.int (x)), some (.int (a)), some (.int (b))], [.int (a), .int (x)]))) rfl ?_
  refine XV.icmp_lt C (tgt := 10) (xlk_ok okC_requireRange rfl) rfl (fun c1 => ?_) (fun c1 => ?_)
  ·
    refine XV.throwS C hnt (E := XIAE) (Or.inr (Or.inl ⟨rfl, rfl, rfl⟩)) (List.mem_of_getElem? (i := 0) rfl) (xlk_ok okC_requireRange (pc := 10) rfl) (xlk_ok okC_requireRange (pc := 13) rfl) (xlk_ok okC_requireRange (pc := 14) rfl) (xlk_ok okC_requireRange (pc := 16) rfl) (xlk_ok okC_requireRange (pc := 19) rfl) (Nat.le_of_ble_eq_true rfl) (Nat.le_of_ble_eq_true rfl) (Nat.le_of_ble_eq_true rfl) (Nat.le_of_ble_eq_true rfl) (Nat.le_of_ble_eq_true rfl) (Nat.le_of_ble_eq_true rfl) ?_
    exact ⟨⟨rfl, by first | exact Or.inl c1 | exact Or.inr c2⟩, rfl, rfl⟩
  ·
    refine XV.run C okC_requireRange 2 (q := (7, ([some (.int (x)), some (.int (a)), some (.int (b))], [.int (b), .int (x)]))) rfl ?_
    refine XV.icmp_le C (tgt := 20) (xlk_ok okC_requireRange rfl) rfl (fun c2 => ?_) (fun c2 => ?_)
    ·
      exact XV.vret C (xlk_ok okC_requireRange rfl) hret (Nat.le_of_ble_eq_true rfl) (Nat.le_of_ble_eq_true rfl) (⟨rfl, ⟨c1, c2⟩, rfl, rfl⟩)
    ·
      refine XV.throwS C hnt (E := XIAE) (Or.inr (Or.inl ⟨rfl, rfl, rfl⟩)) (List.mem_of_getElem? (i := 0) rfl) (xlk_ok okC_requireRange (pc := 10) rfl) (xlk_ok okC_requireRange (pc := 13) rfl) (xlk_ok okC_requireRange (pc := 14) rfl) (xlk_ok okC_requireRange (pc := 16) rfl) (xlk_ok okC_requireRange (pc := 19) rfl) (Nat.le_of_ble_eq_true rfl) (Nat.le_of_ble_eq_true rfl) (Nat.le_of_ble_eq_true rfl) (Nat.le_of_ble_eq_true rfl) (Nat.le_of_ble_eq_true rfl) (Nat.le_of_ble_eq_true rfl) ?_
      exact ⟨⟨rfl, by first | exact Or.inl c1 | exact Or.inr c2⟩, rfl, rfl⟩
