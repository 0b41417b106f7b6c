/-! the class's calls where their arguments are in range -/
theorem XCt.mono {l : Launch} {G : XG} {md : Prop} {w : Cond} {y : MethodName} {fr lo mc ms : Nat} {av : List Value} {n : Nat} {h : XH} {post post' : Option Value → Nat → XH → Prop} {px px' : String → Nat → XH → Prop} (H : XCt l G md w y fr lo mc ms av n h post px) (h1 : ∀ r n h, post r n h → post' r n h) (h2 : ∀ E n h, px E n h → px' E n h) : XCt l G md w y fr lo mc ms av n h post' px' := by
  refine MetFree.mono H (fun _ _ q => q) (fun _ _ _ _ _ q => q) (fun a s o s' _ q => ?_)
  rcases q with ⟨⟨r, n', h', q1, q2, q3⟩, q4⟩ | ⟨q, hq, q1⟩
  · exact Or.inl ⟨⟨r, n', h', q1, h1 _ _ _ q2, q3⟩, q4⟩
  · refine Or.inr ⟨q, hq, ?_⟩
    obtain ⟨E, ce, L, ⟨n', h', q5, q6⟩, q7⟩ := q1
    exact ⟨E, ce, L, ⟨n', h', h2 _ _ _ q5, q6⟩, q7⟩
theorem nI_teq {x : Int32} {i : Nat} (h : x = nI i) (hi : i < 2147483648) : x.toInt = (i : Int) := by rw [h]; exact nI_tI hi
theorem tc_4 : (4 : Int32).toInt = 4 := by decide
theorem tc_5 : (5 : Int32).toInt = 5 := by decide
theorem tc_8 : (8 : Int32).toInt = 8 := by decide
theorem tc_9 : (9 : Int32).toInt = 9 := by decide
theorem tc_12 : (12 : Int32).toInt = 12 := by decide
theorem tc_23 : (23 : Int32).toInt = 23 := by decide
theorem tc_24 : (24 : Int32).toInt = 24 := by decide
theorem tc_60 : (60 : Int32).toInt = 60 := by decide
theorem tc_99 : (99 : Int32).toInt = 99 := by decide
theorem tc_999 : (999 : Int32).toInt = 999 := by decide
theorem tc_2000 : (2000 : Int32).toInt = 2000 := by decide
theorem tc_99999 : (99999 : Int32).toInt = 99999 := by decide
theorem ct_D_rope {l : Launch} (hfl : l.stackTraces = false) {G : XG} {n : Nat} {h : XH} {f : Nat → Int32} {o kp : Nat} {P : Nat → Nat → Int32} {tx : Nat → Int32} {len : Nat} {p : PT} {ρ : Nat → Int32} {k m tt z : Nat} (hn : 209 ≤ n) (hO : OKf f k m tt) (hz : f 2 = nI z) (z1 : 1 ≤ z) (z2 : z ≤ 12) (ho : o < 6) (hkp : kp ≤ 6) {i : Nat} {w : Nat} (hi : i < k) (hw : w ≤ 9) : XCt l G False (Cond.code yC_rope bC_rope 4 (some .int)) yC_rope 7 112 2 12 [.ref (4), .int (nI i), .int (nI w)] n (setCW h f o kp P tx len p ρ) (fun r' n' h' => r' = some (.int (ropeFigK f (rowOf f i) z w)) ∧ n' = n ∧ h' = setCW h f o kp P tx len p ρ) (fun _ _ _ => False) := by
  have hk := hO.2.1
  have kI : (nI k).toInt = (k : Int) := nI_tI (by omega)
  have ti : (nI i).toInt = (i : Int) := nI_tI (by omega)
  have tw : (nI w).toInt = (w : Int) := nI_tI (by omega)
  refine XCt.mono (ct_C_rope hfl hn hO.1 hO.2.1 hO.live hz z1 z2 (nI i) (nI w)) (fun r1 n1 h1 hp => ?_) (fun E n1 h1 hx => ?_)
  · obtain ⟨i1, w1, ⟨e1, g1, e2, g2⟩, rfl, rfl, rfl⟩ := hp
    obtain rfl : i = i1 := (nI_eq (by omega) (by omega)).mp e1
    obtain rfl : w = w1 := (nI_eq (by omega) (by omega)).mp e2
    exact ⟨rfl, rfl, rfl⟩
  · obtain ⟨hx, -, -⟩ := hx
    rcases hx with ⟨-, hb⟩ | ⟨-, hb⟩
    all_goals first | (simp only [le_tI, lt_tI, tI_0, tI_1, tc_4, tc_5, tc_8, tc_9, tc_12, tc_23, tc_24, tc_60, tc_99, tc_999, tc_2000, tc_99999, kI, ti, tw] at hb; omega) | omega
theorem ct_D_section {l : Launch} (hfl : l.stackTraces = false) {G : XG} {n : Nat} {h : XH} {f : Nat → Int32} {o kp : Nat} {P : Nat → Nat → Int32} {tx : Nat → Int32} {len : Nat} {p : PT} {ρ : Nat → Int32} {k m tt z : Nat} (hn : 209 ≤ n) (hO : OKf f k m tt) (hz : f 2 = nI z) (z1 : 1 ≤ z) (z2 : z ≤ 12) (ho : o < 6) (hkp : kp ≤ 6) {i : Nat} {s : Nat} {w : Nat} (hi : i < k) (hs : s < 24) (hw : w ≤ 4) : XCt l G False (Cond.code yC_section bC_section 5 (some .int)) yC_section 7 112 3 18 [.ref (4), .int (nI i), .int (nI s), .int (nI w)] n (setCW h f o kp P tx len p ρ) (fun r' n' h' => r' = some (.int (secF (rowOf f i) s w)) ∧ n' = n ∧ h' = setCW h f o kp P tx len p ρ) (fun _ _ _ => False) := by
  have hk := hO.2.1
  have kI : (nI k).toInt = (k : Int) := nI_tI (by omega)
  have ti : (nI i).toInt = (i : Int) := nI_tI (by omega)
  have ts : (nI s).toInt = (s : Int) := nI_tI (by omega)
  have tw : (nI w).toInt = (w : Int) := nI_tI (by omega)
  refine XCt.mono (ct_C_section hfl hn hO.1 hO.2.1 hO.live (nI i) (nI s) (nI w)) (fun r1 n1 h1 hp => ?_) (fun E n1 h1 hx => ?_)
  · obtain ⟨i1, s1, w1, ⟨e1, g1, e2, g2, e3, g3⟩, rfl, rfl, rfl⟩ := hp
    obtain rfl : i = i1 := (nI_eq (by omega) (by omega)).mp e1
    obtain rfl : s = s1 := (nI_eq (by omega) (by omega)).mp e2
    obtain rfl : w = w1 := (nI_eq (by omega) (by omega)).mp e3
    exact ⟨rfl, rfl, rfl⟩
  · obtain ⟨hx, -, -⟩ := hx
    rcases hx with ⟨-, hb⟩ | ⟨-, hb⟩ | ⟨-, hb⟩
    all_goals first | (simp only [le_tI, lt_tI, tI_0, tI_1, tc_4, tc_5, tc_8, tc_9, tc_12, tc_23, tc_24, tc_60, tc_99, tc_999, tc_2000, tc_99999, kI, ti, ts, tw] at hb; omega) | omega
theorem ct_D_window {l : Launch} (hfl : l.stackTraces = false) {G : XG} {n : Nat} {h : XH} {f : Nat → Int32} {o kp : Nat} {P : Nat → Nat → Int32} {tx : Nat → Int32} {len : Nat} {p : PT} {ρ : Nat → Int32} {k m tt z : Nat} (hn : 209 ≤ n) (hO : OKf f k m tt) (hz : f 2 = nI z) (z1 : 1 ≤ z) (z2 : z ≤ 12) (ho : o < 6) (hkp : kp ≤ 6) {i : Nat} {j : Nat} {w : Nat} (hi : i < k) (hj : j < 25 - z) (hw : w ≤ 1) : XCt l G False (Cond.code yC_window bC_window 5 (some .int)) yC_window 7 112 3 18 [.ref (4), .int (nI i), .int (nI j), .int (nI w)] n (setCW h f o kp P tx len p ρ) (fun r' n' h' => r' = some (.int (winS (rowOf f i) (decide (w = 1)) z j)) ∧ n' = n ∧ h' = setCW h f o kp P tx len p ρ) (fun _ _ _ => False) := by
  have hk := hO.2.1
  have kI : (nI k).toInt = (k : Int) := nI_tI (by omega)
  have ti : (nI i).toInt = (i : Int) := nI_tI (by omega)
  have tj : (nI j).toInt = (j : Int) := nI_tI (by omega)
  have tw : (nI w).toInt = (w : Int) := nI_tI (by omega)
  have t25 : (nI (25 - z)).toInt = ((25 - z : Nat) : Int) := nI_tI (by omega)
  refine XCt.mono (ct_C_window hfl hn hO.1 hO.2.1 hO.live hz z1 z2 (nI i) (nI j) (nI w)) (fun r1 n1 h1 hp => ?_) (fun E n1 h1 hx => ?_)
  · obtain ⟨i1, j1, w1, ⟨e1, g1, e2, g2, e3, g3⟩, rfl, rfl, rfl⟩ := hp
    obtain rfl : i = i1 := (nI_eq (by omega) (by omega)).mp e1
    obtain rfl : j = j1 := (nI_eq (by omega) (by omega)).mp e2
    obtain rfl : w = w1 := (nI_eq (by omega) (by omega)).mp e3
    exact ⟨rfl, rfl, rfl⟩
  · obtain ⟨hx, -, -⟩ := hx
    rcases hx with ⟨-, hb⟩ | ⟨-, hb⟩ | ⟨-, hb⟩
    all_goals first | (simp only [le_tI, lt_tI, tI_0, tI_1, tc_4, tc_5, tc_8, tc_9, tc_12, tc_23, tc_24, tc_60, tc_99, tc_999, tc_2000, tc_99999, kI, t25, ti, tj, tw] at hb; omega) | omega
theorem ct_D_count {l : Launch} (hfl : l.stackTraces = false) {G : XG} {n : Nat} {h : XH} {f : Nat → Int32} {o kp : Nat} {P : Nat → Nat → Int32} {tx : Nat → Int32} {len : Nat} {p : PT} {ρ : Nat → Int32} {k m tt z : Nat} (hn : 209 ≤ n) (hO : OKf f k m tt) (hz : f 2 = nI z) (z1 : 1 ≤ z) (z2 : z ≤ 12) (ho : o < 6) (hkp : kp ≤ 6) {w : Nat} (hw : w ≤ 8) : XCt l G False (Cond.code yC_count bC_count 2 (some .int)) yC_count 7 149 1 6 [.ref (4), .int (nI w)] n (setCW h f o kp P tx len p ρ) (fun r' n' h' => r' = some (.int (countFigK f z k kp w)) ∧ n' = n ∧ h' = setCW h f o kp P tx len p ρ) (fun _ _ _ => False) := by
  have hk := hO.2.1
  have kI : (nI k).toInt = (k : Int) := nI_tI (by omega)
  have tw : (nI w).toInt = (w : Int) := nI_tI (by omega)
  refine XCt.mono (ct_C_count hfl hn hO.1 hO.2.1 hO.live hz z1 z2 ho hkp (nI w)) (fun r1 n1 h1 hp => ?_) (fun E n1 h1 hx => ?_)
  · obtain ⟨w1, ⟨e2, g2⟩, rfl, rfl, rfl⟩ := hp
    obtain rfl : w = w1 := (nI_eq (by omega) (by omega)).mp e2
    exact ⟨rfl, rfl, rfl⟩
  · obtain ⟨hx, -, -⟩ := hx
    obtain ⟨-, hb⟩ := hx
    all_goals first | (simp only [le_tI, lt_tI, tI_0, tI_1, tc_4, tc_5, tc_8, tc_9, tc_12, tc_23, tc_24, tc_60, tc_99, tc_999, tc_2000, tc_99999, kI, tw] at hb; omega) | omega
theorem ct_D_setting {l : Launch} (hfl : l.stackTraces = false) {G : XG} {n : Nat} {h : XH} {f : Nat → Int32} {o kp : Nat} {P : Nat → Nat → Int32} {tx : Nat → Int32} {len : Nat} {p : PT} {ρ : Nat → Int32} {k m tt z : Nat} (hn : 209 ≤ n) (hO : OKf f k m tt) (hz : f 2 = nI z) (z1 : 1 ≤ z) (z2 : z ≤ 12) (ho : o < 6) (hkp : kp ≤ 6) {i : Nat} (hi : i < 5) : XCt l G False (Cond.code yC_setting bC_setting 2 (some .int)) yC_setting 7 111 1 6 [.ref (4), .int (nI i)] n (setCW h f o kp P tx len p ρ) (fun r' n' h' => r' = some (.int (f (2 + i))) ∧ n' = n ∧ h' = setCW h f o kp P tx len p ρ) (fun _ _ _ => False) := by
  have hk := hO.2.1
  have kI : (nI k).toInt = (k : Int) := nI_tI (by omega)
  have ti : (nI i).toInt = (i : Int) := nI_tI (by omega)
  refine XCt.mono (ct_C_setting hfl hn (nI i)) (fun r1 n1 h1 hp => ?_) (fun E n1 h1 hx => ?_)
  · obtain ⟨i1, ⟨e1, g1⟩, rfl, rfl, rfl⟩ := hp
    obtain rfl : i = i1 := (nI_eq (by omega) (by omega)).mp e1
    exact ⟨rfl, rfl, rfl⟩
  · obtain ⟨hx, -, -⟩ := hx
    obtain ⟨-, hb⟩ := hx
    all_goals first | (simp only [le_tI, lt_tI, tI_0, tI_1, tc_4, tc_5, tc_8, tc_9, tc_12, tc_23, tc_24, tc_60, tc_99, tc_999, tc_2000, tc_99999, kI, ti] at hb; omega) | omega
theorem ct_D_ifInspected {l : Launch} (hfl : l.stackTraces = false) {G : XG} {n : Nat} {h : XH} {f : Nat → Int32} {o kp : Nat} {P : Nat → Nat → Int32} {tx : Nat → Int32} {len : Nat} {p : PT} {ρ : Nat → Int32} {k m tt z : Nat} (hn : 209 ≤ n) (hO : OKf f k m tt) (hz : f 2 = nI z) (z1 : 1 ≤ z) (z2 : z ≤ 12) (ho : o < 6) (hkp : kp ≤ 6) {i : Nat} (hi : i < k) : XCt l G False (Cond.code yC_ifInspected bC_ifInspected 5 (some .int)) yC_ifInspected 8 132 4 24 [.ref (4), .int (nI i), .int (0), .int (23)] n (setCW h f o kp P tx len p ρ) (fun r' n' h' => r' = some (.int (reasonK f (lookR f (rowOf f i)) z)) ∧ n' = n ∧ ∃ ρ', h' = setCW h f o kp P tx len p ρ') (fun _ _ _ => False) := by
  have hk := hO.2.1
  have kI : (nI k).toInt = (k : Int) := nI_tI (by omega)
  have ti : (nI i).toInt = (i : Int) := nI_tI (by omega)
  refine XCt.mono (ct_C_ifInspected hfl hn hO.1 hO.2.1 hO.live hz z1 z2 (nI i) 0 23) (fun r1 n1 h1 hp => ?_) (fun E n1 h1 hx => ?_)
  · obtain ⟨i1, a1, b1, ⟨e1, g1, e2, e3, g2, g3⟩, rfl, rfl, ρ1, rfl⟩ := hp
    obtain rfl : i = i1 := (nI_eq (by omega) (by omega)).mp e1
    obtain rfl : 0 = a1 := (nI_eq (by omega) (by omega)).mp ((nI_0).trans e2)
    obtain rfl : 23 = b1 := (nI_eq (by omega) (by omega)).mp ((rfl : nI 23 = 23).trans e3)
    exact ⟨rfl, rfl, _, rfl⟩
  · obtain ⟨hx, -, -⟩ := hx
    rcases hx with ⟨-, hb⟩ | ⟨-, hb⟩ | ⟨-, hb⟩
    all_goals first | (simp only [le_tI, lt_tI, tI_0, tI_1, tc_4, tc_5, tc_8, tc_9, tc_12, tc_23, tc_24, tc_60, tc_99, tc_999, tc_2000, tc_99999, kI, ti] at hb; omega) | omega
theorem ct_D_tripsLeft {l : Launch} (hfl : l.stackTraces = false) {G : XG} {n : Nat} {h : XH} {f : Nat → Int32} {o kp : Nat} {P : Nat → Nat → Int32} {tx : Nat → Int32} {len : Nat} {p : PT} {ρ : Nat → Int32} {k m tt z : Nat} (hn : 209 ≤ n) (hO : OKf f k m tt) (hz : f 2 = nI z) (z1 : 1 ≤ z) (z2 : z ≤ 12) (ho : o < 6) (hkp : kp ≤ 6) {i : Nat} (hi : i < k) : XCt l G False (Cond.code yC_tripsLeft bC_tripsLeft 2 (some .int)) yC_tripsLeft 7 115 1 6 [.ref (4), .int (nI i)] n (setCW h f o kp P tx len p ρ) (fun r' n' h' => r' = some (.int (tlK f (rowOf f i) z 32 0 (f 3 * rowOf f i 0))) ∧ n' = n ∧ ∃ ρ', h' = setCW h f o kp P tx len p ρ') (fun _ _ _ => False) := by
  have hk := hO.2.1
  have kI : (nI k).toInt = (k : Int) := nI_tI (by omega)
  have ti : (nI i).toInt = (i : Int) := nI_tI (by omega)
  refine XCt.mono (ct_C_tripsLeft hfl hn hO.1 hO.2.1 hO.live hz z1 z2 (nI i)) (fun r1 n1 h1 hp => ?_) (fun E n1 h1 hx => ?_)
  · obtain ⟨i1, ⟨e1, g1⟩, rfl, rfl, ρ1, rfl⟩ := hp
    obtain rfl : i = i1 := (nI_eq (by omega) (by omega)).mp e1
    exact ⟨rfl, rfl, ρ1, rfl⟩
  · obtain ⟨hx, -, -⟩ := hx
    obtain ⟨-, hb⟩ := hx
    all_goals first | (simp only [le_tI, lt_tI, tI_0, tI_1, tc_4, tc_5, tc_8, tc_9, tc_12, tc_23, tc_24, tc_60, tc_99, tc_999, tc_2000, tc_99999, kI, ti] at hb; omega) | omega
theorem ct_D_cut {l : Launch} (hfl : l.stackTraces = false) {G : XG} {n : Nat} {h : XH} {f : Nat → Int32} {o kp : Nat} {P : Nat → Nat → Int32} {tx : Nat → Int32} {len : Nat} {p : PT} {ρ : Nat → Int32} {k m tt z : Nat} (hn : 209 ≤ n) (hO : OKf f k m tt) (hz : f 2 = nI z) (z1 : 1 ≤ z) (z2 : z ≤ 12) (ho : o < 6) (hkp : kp ≤ 6) {i : Nat} (hi : i < k) : XCt l G False (Cond.code yC_cut bC_cut 2 (some .int)) yC_cut 7 112 1 6 [.ref (4), .int (nI i)] n (setCW h f o kp P tx len p ρ) (fun r' n' h' => r' = some (.int (nI (k - 1))) ∧ n' = n ∧ h' = setCW h (upd (shiftK f i (k - 1 - i)) 1 (f 1 - 1)) (kO o kp) (kK kp) (kP o kp P f) tx len p ρ) (fun _ _ _ => False) := by
  have hk := hO.2.1
  have kI : (nI k).toInt = (k : Int) := nI_tI (by omega)
  have ti : (nI i).toInt = (i : Int) := nI_tI (by omega)
  refine XCt.mono (ct_C_cut hfl hn hO.1 hO.2.1 hO.live ho hkp (nI i)) (fun r1 n1 h1 hp => ?_) (fun E n1 h1 hx => ?_)
  · obtain ⟨i1, ⟨e1, g1⟩, rfl, rfl, rfl⟩ := hp
    obtain rfl : i = i1 := (nI_eq (by omega) (by omega)).mp e1
    exact ⟨rfl, rfl, rfl⟩
  · obtain ⟨hx, -, -⟩ := hx
    obtain ⟨-, hb⟩ := hx
    all_goals first | (simp only [le_tI, lt_tI, tI_0, tI_1, tc_4, tc_5, tc_8, tc_9, tc_12, tc_23, tc_24, tc_60, tc_99, tc_999, tc_2000, tc_99999, kI, ti] at hb; omega) | omega
theorem ct_D_swap {l : Launch} (hfl : l.stackTraces = false) {G : XG} {n : Nat} {h : XH} {f : Nat → Int32} {o kp : Nat} {P : Nat → Nat → Int32} {tx : Nat → Int32} {len : Nat} {p : PT} {ρ : Nat → Int32} {k m tt z : Nat} (hn : 209 ≤ n) (hO : OKf f k m tt) (hz : f 2 = nI z) (z1 : 1 ≤ z) (z2 : z ≤ 12) (ho : o < 6) (hkp : kp ≤ 6) {i : Nat} {q : Nat} (hi : i < k) (q1 : 1 ≤ q) (q2 : q ≤ 99) : XCt l G False (Cond.code yC_swap bC_swap 5 (some .int)) yC_swap 7 112 2 12 [.ref (4), .int (nI i), .int (nI q)] n (setCW h f o kp P tx len p ρ) (fun r' n' h' => r' = some (.int (sumN (colR (rowOf f i) true) 0 24)) ∧ n' = n ∧ h' = setCW h (upd (putRow f i (rNew (nI q) (f 0))) 9 (putRow f i (rNew (nI q) (f 0)) 9 + 1)) (kO o kp) (kK kp) (kP o kp P f) tx len p ρ) (fun _ _ _ => False) := by
  have hk := hO.2.1
  have kI : (nI k).toInt = (k : Int) := nI_tI (by omega)
  have ti : (nI i).toInt = (i : Int) := nI_tI (by omega)
  have tq : (nI q).toInt = (q : Int) := nI_tI (by omega)
  refine XCt.mono (ct_C_swap hfl hn hO.1 hO.2.1 hO.live ho hkp (nI i) (nI q)) (fun r1 n1 h1 hp => ?_) (fun E n1 h1 hx => ?_)
  · obtain ⟨i1, ⟨e1, g1, -⟩, rfl, rfl, rfl⟩ := hp
    obtain rfl : i = i1 := (nI_eq (by omega) (by omega)).mp e1
    exact ⟨rfl, rfl, rfl⟩
  · obtain ⟨hx, -, -⟩ := hx
    rcases hx with ⟨-, hb⟩ | ⟨-, hb⟩
    all_goals first | (simp only [le_tI, lt_tI, tI_0, tI_1, tc_4, tc_5, tc_8, tc_9, tc_12, tc_23, tc_24, tc_60, tc_99, tc_999, tc_2000, tc_99999, kI, ti, tq] at hb; omega) | omega
theorem ct_D_inspect {l : Launch} (hfl : l.stackTraces = false) {G : XG} {n : Nat} {h : XH} {f : Nat → Int32} {o kp : Nat} {P : Nat → Nat → Int32} {tx : Nat → Int32} {len : Nat} {p : PT} {ρ : Nat → Int32} {k m tt z : Nat} (hn : 209 ≤ n) (hO : OKf f k m tt) (hz : f 2 = nI z) (z1 : 1 ≤ z) (z2 : z ≤ 12) (ho : o < 6) (hkp : kp ≤ 6) {i : Nat} {a : Nat} {b : Nat} (hi : i < k) (hab : a ≤ b) (hb24 : b < 24) : XCt l G False (Cond.code yC_inspect bC_inspect 6 (some .int)) yC_inspect 8 132 4 24 [.ref (4), .int (nI i), .int (nI a), .int (nI b)] n (setCW h f o kp P tx len p ρ) (fun r' n' h' => r' = some (.int (sumN (colR (rLook (rowOf f i) a (b + 1 - a) (f 0)) false) 0 24 - sumN (colR (rowOf f i) false) 0 24)) ∧ n' = n ∧ h' = setCW h (upd (putRow f i (rLook (rowOf f i) a (b + 1 - a) (f 0))) 8 (putRow f i (rLook (rowOf f i) a (b + 1 - a) (f 0)) 8 + (nI b - nI a + 1))) (kO o kp) (kK kp) (kP o kp P f) tx len p ρ) (fun _ _ _ => False) := by
  have hk := hO.2.1
  have kI : (nI k).toInt = (k : Int) := nI_tI (by omega)
  have ti : (nI i).toInt = (i : Int) := nI_tI (by omega)
  have ta : (nI a).toInt = (a : Int) := nI_tI (by omega)
  have tb : (nI b).toInt = (b : Int) := nI_tI (by omega)
  refine XCt.mono (ct_C_inspect hfl hn hO.1 hO.2.1 hO.live ho hkp (nI i) (nI a) (nI b)) (fun r1 n1 h1 hp => ?_) (fun E n1 h1 hx => ?_)
  · obtain ⟨i1, a1, b1, ⟨e1, g1, e2, e3, g2, g3⟩, rfl, rfl, rfl⟩ := hp
    obtain rfl : i = i1 := (nI_eq (by omega) (by omega)).mp e1
    obtain rfl : a = a1 := (nI_eq (by omega) (by omega)).mp e2
    obtain rfl : b = b1 := (nI_eq (by omega) (by omega)).mp e3
    have er : sumN (colR (rowOf (upd (putRow f i (rLook (rowOf f i) a (b + 1 - a) (f 0))) 8 (putRow f i (rLook (rowOf f i) a (b + 1 - a) (f 0)) 8 + (nI b - nI a + 1))) i) false) 0 24 = sumN (colR (rLook (rowOf f i) a (b + 1 - a) (f 0)) false) 0 24 := sumN_congr (fun s h1 h2 => by show rowOf (upd (putRow f i (rLook (rowOf f i) a (b + 1 - a) (f 0))) 8 (putRow f i (rLook (rowOf f i) a (b + 1 - a) (f 0)) 8 + (nI b - nI a + 1))) i (27 + s) = _; rw [rowUpd_lo (by omega), putRow_row (by omega)]; rfl)
    exact ⟨by rw [er], rfl, rfl⟩
  · obtain ⟨hx, -, -⟩ := hx
    rcases hx with ⟨-, hb⟩ | ⟨-, hb⟩ | ⟨-, hb⟩
    all_goals first | (simp only [le_tI, lt_tI, tI_0, tI_1, tc_4, tc_5, tc_8, tc_9, tc_12, tc_23, tc_24, tc_60, tc_99, tc_999, tc_2000, tc_99999, kI, ti, ta, tb] at hb; omega) | omega
theorem ct_D_pass {l : Launch} (hfl : l.stackTraces = false) {G : XG} {n : Nat} {h : XH} {f : Nat → Int32} {o kp : Nat} {P : Nat → Nat → Int32} {tx : Nat → Int32} {len : Nat} {p : PT} {ρ : Nat → Int32} {k m tt z : Nat} (hn : 209 ≤ n) (hO : OKf f k m tt) (hz : f 2 = nI z) (z1 : 1 ≤ z) (z2 : z ≤ 12) (ho : o < 6) (hkp : kp ≤ 6) {q : Nat} (q1 : 1 ≤ q) (q2 : q ≤ 24) (hm2 : m + q ≤ 2000) : XCt l G False (Cond.code yC_pass bC_pass 2 (some .int)) yC_pass 7 112 2 12 [.ref (4), .int (nI q)] n (setCW h f o kp P tx len p ρ) (fun r' n' h' => r' = some (.int (nI (retK (upd f 0 (f 0 + nI q)) z k))) ∧ n' = n ∧ h' = setCW h (upd f 0 (f 0 + nI q)) (kO o kp) (kK kp) (kP o kp P f) tx len p ρ) (fun _ _ _ => False) := by
  have hk := hO.2.1
  have kI : (nI k).toInt = (k : Int) := nI_tI (by omega)
  have tq : (nI q).toInt = (q : Int) := nI_tI (by omega)
  have t0 : (f 0 + nI q).toInt = ((m + q : Nat) : Int) := by rw [hO.2.2.1, nI_add]; exact nI_tI (by omega)
  refine XCt.mono (ct_C_pass hfl hn hO.1 hO.2.1 hO.live hz z1 z2 ho hkp (nI q)) (fun r1 n1 h1 hp => ?_) (fun E n1 h1 hx => ?_)
  · obtain ⟨⟨-, -⟩, rfl, rfl, rfl⟩ := hp
    exact ⟨rfl, rfl, rfl⟩
  · obtain ⟨hx, -, -⟩ := hx
    rcases hx with ⟨-, hb⟩ | ⟨-, hb⟩
    all_goals first | (simp only [le_tI, lt_tI, tI_0, tI_1, tc_4, tc_5, tc_8, tc_9, tc_12, tc_23, tc_24, tc_60, tc_99, tc_999, tc_2000, tc_99999, kI, t0, tq] at hb; omega) | omega
theorem set_most {q : Nat} (hq : q ≤ 12) : ∀ j, j < 5 → nI q ≤ (XSA 2).2 j := by
  intro j hj
  have h : ∀ d : Nat, 12 ≤ d → d < 1000 → nI q ≤ nI d := fun d h1 h2 => nI_le (by omega) (by omega)
  rcases (show j = 0 ∨ j = 1 ∨ j = 2 ∨ j = 3 ∨ j = 4 by omega) with rfl | rfl | rfl | rfl | rfl
  · exact h 12 (by omega) (by omega)
  · exact h 99 (by omega) (by omega)
  · exact h 999 (by omega) (by omega)
  · exact h 99 (by omega) (by omega)
  · exact h 60 (by omega) (by omega)
theorem ct_D_set {l : Launch} (hfl : l.stackTraces = false) {G : XG} {n : Nat} {h : XH} {f : Nat → Int32} {o kp : Nat} {P : Nat → Nat → Int32} {tx : Nat → Int32} {len : Nat} {p : PT} {ρ : Nat → Int32} {k m tt z : Nat} (hn : 209 ≤ n) (hO : OKf f k m tt) (hz : f 2 = nI z) (z1 : 1 ≤ z) (z2 : z ≤ 12) (ho : o < 6) (hkp : kp ≤ 6) {i : Nat} {q : Nat} (hi : i < 5) (q1 : 1 ≤ q) (q2 : q ≤ 12) : XCt l G False (Cond.code yC_set bC_set 4 (some .int)) yC_set 7 112 2 12 [.ref (4), .int (nI i), .int (nI q)] n (setCW h f o kp P tx len p ρ) (fun r' n' h' => r' = some (.int (f (2 + i))) ∧ n' = n ∧ h' = setCW h (upd f (2 + i) (nI q)) (kO o kp) (kK kp) (kP o kp P f) tx len p ρ) (fun _ _ _ => False) := by
  have hk := hO.2.1
  have kI : (nI k).toInt = (k : Int) := nI_tI (by omega)
  have ti : (nI i).toInt = (i : Int) := nI_tI (by omega)
  have tq : (nI q).toInt = (q : Int) := nI_tI (by omega)
  have hmx : ∀ j, j < 5 → nI q ≤ (XSA 2).2 j := set_most q2
  refine XCt.mono (ct_C_set hfl hn ho hkp (nI i) (nI q)) (fun r1 n1 h1 hp => ?_) (fun E n1 h1 hx => ?_)
  · obtain ⟨i1, ⟨e1, g1, -⟩, rfl, rfl, rfl⟩ := hp
    obtain rfl : i = i1 := (nI_eq (by omega) (by omega)).mp e1
    exact ⟨rfl, rfl, rfl⟩
  · obtain ⟨hx, -, -⟩ := hx
    rcases hx with ⟨-, hb⟩ | ⟨-, hb⟩
    rotate_left
    obtain ⟨j, -, g1, hb⟩ := hb
    have g3 := hmx j g1
    simp only [le_tI, lt_tI, tI_1] at hb g3
    try omega
    all_goals first | (simp only [le_tI, lt_tI, tI_0, tI_1, tc_4, tc_5, tc_8, tc_9, tc_12, tc_23, tc_24, tc_60, tc_99, tc_999, tc_2000, tc_99999, kI, ti, tq] at hb; omega) | omega
