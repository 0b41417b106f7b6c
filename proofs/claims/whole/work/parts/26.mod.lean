/-! RopeThreadsModel: its methods -/
theorem nbool (b : Bool) : narrow .boolean (.int (if b then 1 else 0)) = .int (if b then 1 else 0) := by cases b <;> rfl
theorem ix3 (X s : Nat) {c : Int32} {d : Nat} (hc : c = nI d) : nI X + c + nI s = nI (X + (d + s)) := by rw [hc, nI_add, nI_add, Nat.add_assoc]
set_option maxHeartbeats 4000000 in
set_option maxRecDepth 100000 in
theorem ct_M_in {l : Launch} (hfl : l.stackTraces = false) {G : XG} {n : Nat} {h : XH} (x y u : Int32) : XCt l G False (Cond.code yM_in bM_in 3 (some .boolean)) yM_in 0 0 0 0 [.int (x), .int (y), .int (u)] n h (fun r' n' h' => r' = some (.int (if inK x y u then 1 else 0)) ∧ n' = n ∧ h' = h) (fun _ _ _ => False) := by
  refine XCt.of hfl (by decide +kernel) (Nat.le_of_ble_eq_true rfl) ?_
  intro p' e' s' m' g' b' t' c' C hret hname hnt hmd
  refine XV.run C okM_in 2 (q := (2, ([some (.int (x)), some (.int (y)), some (.int (u))], [.int (y), .int (x)]))) rfl ?_
  refine XV.icmp_lt C (tgt := 14) (xlk_ok okM_in rfl) rfl (fun c1 => ?_) (fun c1 => ?_)
  ·
    refine XV.run C okM_in 1 (q := (15, ([some (.int (x)), some (.int (y)), some (.int (u))], [.int (0)]))) rfl ?_
    exact XV.iret C (xlk_ok okM_in rfl) hret (rfl) (Nat.le_of_ble_eq_true rfl) (Nat.le_of_ble_eq_true rfl) (⟨by first | (rw [inK_f1 c1]; rfl) | (rw [inK_f2 c2]; rfl), rfl, rfl⟩)
  ·
    refine XV.run C okM_in 2 (q := (7, ([some (.int (x)), some (.int (y)), some (.int (u))], [.int (u), .int (x)]))) rfl ?_
    refine XV.icmp_gt C (tgt := 14) (xlk_ok okM_in rfl) rfl (fun c2 => ?_) (fun c2 => ?_)
    ·
      refine XV.run C okM_in 1 (q := (15, ([some (.int (x)), some (.int (y)), some (.int (u))], [.int (0)]))) rfl ?_
      exact XV.iret C (xlk_ok okM_in rfl) hret (rfl) (Nat.le_of_ble_eq_true rfl) (Nat.le_of_ble_eq_true rfl) (⟨by first | (rw [inK_f1 c1]; rfl) | (rw [inK_f2 c2]; rfl), rfl, rfl⟩)
    ·
      refine XV.run C okM_in 2 (q := (15, ([some (.int (x)), some (.int (y)), some (.int (u))], [.int (1)]))) rfl ?_
      exact XV.iret C (xlk_ok okM_in rfl) hret (rfl) (Nat.le_of_ble_eq_true rfl) (Nat.le_of_ble_eq_true rfl) (⟨by rw [inK_t c1 c2]; rfl, rfl, rfl⟩)
set_option maxHeartbeats 4000000 in
set_option maxRecDepth 100000 in
theorem ct_M_isSection {l : Launch} (hfl : l.stackTraces = false) {G : XG} {n : Nat} {h : XH} (x : Int32) : XCt l G False (Cond.code yM_isSection bM_isSection 1 (some .boolean)) yM_isSection 1 22 0 0 [.int (x)] n h (fun r' n' h' => r' = some (.int (if inK x 0 23 then 1 else 0)) ∧ n' = n ∧ h' = h) (fun _ _ _ => False) := by
  refine XCt.of hfl (by decide +kernel) (Nat.le_of_ble_eq_true rfl) ?_
  intro p' e' s' m' g' b' t' c' C hret hname hnt hmd
  refine XV.run C okM_isSection 3 (q := (4, ([some (.int (x))], [.int (23), .int (0), .int (x)]))) rfl ?_
  refine XV.callS C (As := [.int (x), .int (0), .int (23)]) (rest := []) (ct_M_in hfl (x) (0) (23)) (xlk_ok okM_isSection rfl) rfl wM_M_29 wS_M_in wN_M wB_M_in hy_M_in (fun q => q.elim) ⟨Nat.le_of_ble_eq_true rfl, Nat.le_of_ble_eq_true rfl⟩ ⟨Nat.le_of_ble_eq_true rfl, Nat.le_of_ble_eq_true rfl⟩ (Nat.le_of_ble_eq_true rfl) (fun r n h hp => ?_) (fun _ _ _ q => q.elim)
  obtain ⟨rfl, rfl, rfl⟩ := hp
  exact XV.iret C (xlk_ok okM_isSection rfl) hret (nbool _) (Nat.le_of_ble_eq_true rfl) (Nat.le_of_ble_eq_true rfl) (⟨rfl, rfl, rfl⟩)
set_option maxHeartbeats 4000000 in
set_option maxRecDepth 100000 in
theorem ct_M_isQuality {l : Launch} (hfl : l.stackTraces = false) {G : XG} {n : Nat} {h : XH} (x : Int32) : XCt l G False (Cond.code yM_isQuality bM_isQuality 1 (some .boolean)) yM_isQuality 1 22 0 0 [.int (x)] n h (fun r' n' h' => r' = some (.int (if inK x 1 99 then 1 else 0)) ∧ n' = n ∧ h' = h) (fun _ _ _ => False) := by
  refine XCt.of hfl (by decide +kernel) (Nat.le_of_ble_eq_true rfl) ?_
  intro p' e' s' m' g' b' t' c' C hret hname hnt hmd
  refine XV.run C okM_isQuality 3 (q := (4, ([some (.int (x))], [.int (99), .int (1), .int (x)]))) rfl ?_
  refine XV.callS C (As := [.int (x), .int (1), .int (99)]) (rest := []) (ct_M_in hfl (x) (1) (99)) (xlk_ok okM_isQuality rfl) rfl wM_M_29 wS_M_in wN_M wB_M_in hy_M_in (fun q => q.elim) ⟨Nat.le_of_ble_eq_true rfl, Nat.le_of_ble_eq_true rfl⟩ ⟨Nat.le_of_ble_eq_true rfl, Nat.le_of_ble_eq_true rfl⟩ (Nat.le_of_ble_eq_true rfl) (fun r n h hp => ?_) (fun _ _ _ q => q.elim)
  obtain ⟨rfl, rfl, rfl⟩ := hp
  exact XV.iret C (xlk_ok okM_isQuality rfl) hret (nbool _) (Nat.le_of_ble_eq_true rfl) (Nat.le_of_ble_eq_true rfl) (⟨rfl, rfl, rfl⟩)
set_option maxHeartbeats 4000000 in
set_option maxRecDepth 100000 in
theorem ct_M_isRope {l : Launch} (hfl : l.stackTraces = false) {G : XG} {n : Nat} {h : XH} {g pa tr mx td F : Nat → Int32} (hn : 215 ≤ n) (x : Int32) : XCt l G False (Cond.code yM_isRope bM_isRope 2 (some .boolean)) yM_isRope 1 22 0 0 [.ref (213), .int (x)] n (setM h g pa tr mx td F) (fun r' n' h' => r' = some (.int (if inK x 0 (g 1 - 1) then 1 else 0)) ∧ n' = n ∧ h' = setM h g pa tr mx td F) (fun _ _ _ => False) := by
  refine XCt.of hfl (by decide +kernel) (Nat.le_of_ble_eq_true rfl) ?_
  intro p' e' s' m' g' b' t' c' C hret hname hnt hmd
  refine XV.run C okM_isRope 3 (q := (3, ([some (.ref (213)), some (.int (x))], [.ref (213), .int (0), .int (x)]))) rfl ?_
  refine XV.getf C (ci := 5) (kf := 0) (v := .ref (214)) (xlk_ok okM_isRope rfl) rfl (by decide) wF_M_7 (by omega) (by omega) (mw_o) rfl ?_
  refine XV.run C okM_isRope 1 (q := (7, ([some (.ref (213)), some (.int (x))], [.int (1), .ref (214), .int (0), .int (x)]))) rfl ?_
  refine XV.ialdC C (N := 505) (f := g) (a := 1) (xlk_ok okM_isRope rfl) (by omega) (by omega) (mw_1) (rfl) (by decide) (by decide) ?_
  refine XV.run C okM_isRope 2 (q := (10, ([some (.ref (213)), some (.int (x))], [.int ((g 1) - 1), .int (0), .int (x)]))) rfl ?_
  refine XV.callS C (As := [.int (x), .int (0), .int ((g 1) - 1)]) (rest := []) (ct_M_in hfl (x) (0) ((g 1) - 1)) (xlk_ok okM_isRope rfl) rfl wM_M_29 wS_M_in wN_M wB_M_in hy_M_in (fun q => q.elim) ⟨Nat.le_of_ble_eq_true rfl, Nat.le_of_ble_eq_true rfl⟩ ⟨Nat.le_of_ble_eq_true rfl, Nat.le_of_ble_eq_true rfl⟩ (Nat.le_of_ble_eq_true rfl) (fun r n h hp => ?_) (fun _ _ _ q => q.elim)
  obtain ⟨rfl, rfl, rfl⟩ := hp
  exact XV.iret C (xlk_ok okM_isRope rfl) hret (nbool _) (Nat.le_of_ble_eq_true rfl) (Nat.le_of_ble_eq_true rfl) (⟨rfl, rfl, rfl⟩)
set_option maxHeartbeats 4000000 in
set_option maxRecDepth 100000 in
theorem ct_M_row {l : Launch} (hfl : l.stackTraces = false) {G : XG} {n : Nat} {h : XH} {x : Int32} {i : Nat} (hx : x = nI i) : XCt l G False (Cond.code yM_row bM_row 1 (some .int)) yM_row 0 0 0 0 [.int (x)] n h (fun r' n' h' => r' = some (.int (nI (10 + 99 * i))) ∧ n' = n ∧ h' = h) (fun _ _ _ => False) := by
  subst hx
  refine XCt.of hfl (by decide +kernel) (Nat.le_of_ble_eq_true rfl) ?_
  intro p' e' s' m' g' b' t' c' C hret hname hnt hmd
  refine XV.run C okM_row 5 (q := (7, ([some (.int (nI i))], [.int (10 + (99 * (nI i)))]))) rfl ?_
  exact XV.iret C (xlk_ok okM_row rfl) hret rfl (Nat.le_of_ble_eq_true rfl) (Nat.le_of_ble_eq_true rfl) (⟨by rw [show (99 : Int32) * nI i = nI (99 * i) from pk_mul 99 _, show (10 : Int32) = nI 10 from rfl, nI_add], rfl, rfl⟩)
set_option maxHeartbeats 4000000 in
set_option maxRecDepth 100000 in
theorem ct_M_thrown {l : Launch} (hfl : l.stackTraces = false) {G : XG} {n : Nat} {h : XH} {g pa tr mx td F : Nat → Int32} (hn : 215 ≤ n) : XCt l G False (Cond.code yM_thrown bM_thrown 1 (some .int)) yM_thrown 0 0 0 0 [.ref (213)] n (setM h g pa tr mx td F) (fun r' n' h' => r' = some (.int (F 6)) ∧ n' = n ∧ h' = setM h g pa tr mx td F) (fun _ _ _ => False) := by
  refine XCt.of hfl (by decide +kernel) (Nat.le_of_ble_eq_true rfl) ?_
  intro p' e' s' m' g' b' t' c' C hret hname hnt hmd
  refine XV.run C okM_thrown 1 (q := (1, ([some (.ref (213))], [.ref (213)]))) rfl ?_
  refine XV.getf C (ci := 5) (kf := 6) (v := .int (F 6)) (xlk_ok okM_thrown rfl) rfl (by decide) wF_M_25 (by omega) (by omega) (mw_o) rfl ?_
  exact XV.iret C (xlk_ok okM_thrown rfl) hret rfl (Nat.le_of_ble_eq_true rfl) (Nat.le_of_ble_eq_true rfl) (⟨rfl, rfl, rfl⟩)
set_option maxHeartbeats 4000000 in
set_option maxRecDepth 100000 in
theorem ct_M_fails {l : Launch} (hfl : l.stackTraces = false) {G : XG} {n : Nat} {h : XH} {g pa tr mx td F : Nat → Int32} (hn : 215 ≤ n) (x : Int32) : XCt l G False (Cond.code yM_fails bM_fails 2 (some .int)) yM_fails 0 0 0 0 [.ref (213), .int (x)] n (setM h g pa tr mx td F) (fun r' n' h' => r' = some (.int 0) ∧ n' = n ∧ h' = setM h g pa tr mx td (upd F 6 x)) (fun _ _ _ => False) := by
  refine XCt.of hfl (by decide +kernel) (Nat.le_of_ble_eq_true rfl) ?_
  intro p' e' s' m' g' b' t' c' C hret hname hnt hmd
  refine XV.run C okM_fails 2 (q := (2, ([some (.ref (213)), some (.int (x))], [.int (x), .ref (213)]))) rfl ?_
  refine XV.putf C (ci := 5) (kf := 6) (ty := .int) (xlk_ok okM_fails rfl) rfl (by decide) wF_M_25 (by omega) (by omega) (mw_o) rfl rfl rfl rfl (Nat.le_of_ble_eq_true rfl) ?_
  refine XV.cast (mw_f (upd F 6 (x))) ?_
  refine XV.run C okM_fails 1 (q := (6, ([some (.ref (213)), some (.int (x))], [.int (0)]))) rfl ?_
  exact XV.iret C (xlk_ok okM_fails rfl) hret rfl (Nat.le_of_ble_eq_true rfl) (Nat.le_of_ble_eq_true rfl) (⟨rfl, rfl, rfl⟩)
set_option maxHeartbeats 4000000 in
set_option maxRecDepth 100000 in
theorem ct_M_broken {l : Launch} (hfl : l.stackTraces = false) {G : XG} {n : Nat} {h : XH} {a N X : Nat} {w : Nat → Int32} (hw : h a = xar N w) (a4 : 4 ≤ a) (an : a < n + 4) (hN : N < 2 ^ 31) (hX : X + 99 ≤ N) {x y : Int32} {s : Nat} (hx : x = nI X) (hy : y = nI s) (hs : s < 24) (hq : ¬ w X = 0) : XCt l G False (Cond.code yM_broken bM_broken 3 (some .int)) yM_broken 0 0 0 0 [.ref (a), .int (x), .int (y)] n h (fun r' n' h' => r' = some (.int (brk (atF w X) s)) ∧ n' = n ∧ h' = h) (fun _ _ _ => False) := by
  subst hx; subst hy
  refine XCt.of hfl (by decide +kernel) (Nat.le_of_ble_eq_true rfl) ?_
  intro p' e' s' m' g' b' t' c' C hret hname hnt hmd
  refine XV.run C okM_broken 6 (q := (6, ([some (.ref (a)), some (.int (nI X)), some (.int (nI s))], [.int (((nI X) + 3) + (nI s)), .ref (a)]))) rfl ?_
  refine XV.ialdC C (N := N) (f := w) (a := (X + (3 + s))) (xlk_ok okM_broken rfl) (a4) (an) (hw) (ix3 X s (d := 3) rfl) (by omega) (hN) ?_
  refine XV.run C okM_broken 4 (q := (11, ([some (.ref (a)), some (.int (nI X)), some (.int (nI s))], [.int ((nI X) + 0), .ref (a), .int (w (X + (3 + s)))]))) rfl ?_
  refine XV.ialdC C (N := N) (f := w) (a := (X + 0)) (xlk_ok okM_broken rfl) (a4) (an) (hw) (by rw [show (0 : Int32) = nI 0 from rfl, nI_add]) (by omega) (hN) ?_
  refine XV.idiv C (xlk_ok okM_broken rfl) (hq) ?_
  exact XV.iret C (xlk_ok okM_broken rfl) hret rfl (Nat.le_of_ble_eq_true rfl) (Nat.le_of_ble_eq_true rfl) (⟨rfl, rfl, rfl⟩)
set_option maxHeartbeats 4000000 in
set_option maxRecDepth 100000 in
theorem ct_M_sumOf {l : Launch} (hfl : l.stackTraces = false) {G : XG} {n : Nat} {h : XH} {a N X : Nat} {w : Nat → Int32} (hw : h a = xar N w) (a4 : 4 ≤ a) (an : a < n + 4) (hN : N < 2 ^ 31) (hX : X + 99 ≤ N) {x y u : Int32} {i v : Nat} (B : Bool) (hx : x = nI X) (hy : y = nI i) (hu : u = nI v) (hiv : i + v ≤ 24) (hq : B = true → ¬ w X = 0) : XCt l G False (Cond.code yM_sumOf bM_sumOf 7 (some .int)) yM_sumOf 1 22 0 0 [.ref (a), .int (x), .int (y), .int (u), .int (if B then 1 else 0)] n h (fun r' n' h' => r' = some (.int (sumN (colR (atF w X) B) i v)) ∧ n' = n ∧ h' = h) (fun _ _ _ => False) := by
  subst hx; subst hy; subst hu
  refine XCt.of hfl (by decide +kernel) (Nat.le_of_ble_eq_true rfl) ?_
  intro p' e' s' m' g' b' t' c' C hret hname hnt hmd
  refine XV.run C okM_sumOf 4 (q := (6, ([some (.ref (a)), some (.int (nI X)), some (.int (nI i)), some (.int (nI v)), some (.int (if B then 1 else 0)), some (.int (0)), some (.int (nI i))], []))) rfl ?_
  have loop : ∀ (d j : Nat), j + d = v → XV G 7 p' l e' ({ frames := 1, cells := 0, slots := 0, locals := 22 } : Room) s' m' g' b' t' c' (XEnd G b' (fun r' n' h' => r' = some (.int (sumN (colR (atF w X) B) i v)) ∧ n' = n ∧ h' = h) (fun _ _ _ => False) g' s' 0 0) 6 [some (.ref (a)), some (.int (nI X)), some (.int (nI i)), some (.int (nI v)), some (.int (if B then 1 else 0)), some (.int (sumN (colR (atF w X) B) i j)), some (.int (nI (i + j)))] [] n h 0 0 := by
    intro d
    induction d with
    | zero =>
      intro j hj
      refine XV.run C okM_sumOf 4 (q := (11, ([some (.ref (a)), some (.int (nI X)), some (.int (nI i)), some (.int (nI v)), some (.int (if B then 1 else 0)), some (.int (sumN (colR (atF w X) B) i j)), some (.int (nI (i + j)))], [.int ((nI i) + (nI v)), .int (nI (i + j))]))) rfl ?_
      refine XV.icmp_ge C (tgt := 49) (xlk_ok okM_sumOf rfl) rfl (fun _ => ?_) (fun hc => absurd (by rw [nI_add]; exact nI_le (by omega) (by omega)) hc)
      refine XV.run C okM_sumOf 1 (q := (51, ([some (.ref (a)), some (.int (nI X)), some (.int (nI i)), some (.int (nI v)), some (.int (if B then 1 else 0)), some (.int (sumN (colR (atF w X) B) i j)), some (.int (nI (i + j)))], [.int (sumN (colR (atF w X) B) i j)]))) rfl ?_
      exact XV.iret C (xlk_ok okM_sumOf rfl) hret rfl (Nat.le_of_ble_eq_true rfl) (Nat.le_of_ble_eq_true rfl) (⟨by rw [show j = v by omega], rfl, rfl⟩)
    | succ d ih =>
      intro j hj
      refine XV.run C okM_sumOf 4 (q := (11, ([some (.ref (a)), some (.int (nI X)), some (.int (nI i)), some (.int (nI v)), some (.int (if B then 1 else 0)), some (.int (sumN (colR (atF w X) B) i j)), some (.int (nI (i + j)))], [.int ((nI i) + (nI v)), .int (nI (i + j))]))) rfl ?_
      refine XV.icmp_ge C (tgt := 49) (xlk_ok okM_sumOf rfl) rfl (fun hc => absurd hc (by rw [nI_add]; exact nI_ge (by omega) (by omega))) (fun _ => ?_)
      refine XV.run C okM_sumOf 2 (q := (18, ([some (.ref (a)), some (.int (nI X)), some (.int (nI i)), some (.int (nI v)), some (.int (if B then 1 else 0)), some (.int (sumN (colR (atF w X) B) i j)), some (.int (nI (i + j)))], [.int (if B then 1 else 0), .int (sumN (colR (atF w X) B) i j)]))) rfl ?_
      refine XV.if_eq C (tgt := 31) (xlk_ok okM_sumOf rfl) rfl (fun c1 => ?_) (fun c1 => ?_)
      ·
        have hb := if1_0 c1
        have e : sumN (colR (atF w X) B) i (j + 1) = sumN (colR (atF w X) B) i j + w (X + (27 + (i + j))) := by rw [hb]; rfl
        refine XV.run C okM_sumOf 6 (q := (39, ([some (.ref (a)), some (.int (nI X)), some (.int (nI i)), some (.int (nI v)), some (.int (if B then 1 else 0)), some (.int (sumN (colR (atF w X) B) i j)), some (.int (nI (i + j)))], [.int (((nI X) + 27) + (nI (i + j))), .ref (a), .int (sumN (colR (atF w X) B) i j)]))) rfl ?_
        refine XV.ialdC C (N := N) (f := w) (a := (X + (27 + (i + j)))) (xlk_ok okM_sumOf rfl) (a4) (an) (hw) (ix3 X (i + j) (d := 27) rfl) (by omega) (hN) ?_
        refine XV.run C okM_sumOf 4 (q := (6, ([some (.ref (a)), some (.int (nI X)), some (.int (nI i)), some (.int (nI v)), some (.int (if B then 1 else 0)), some (.int ((sumN (colR (atF w X) B) i j) + (w (X + (27 + (i + j)))))), some (.int ((nI (i + j)) + 1))], []))) rfl ?_
        rw [nI_1, ← e]
        exact ih (j + 1) (by omega)
      ·
        have hb := if1_1 c1
        have e : sumN (colR (atF w X) B) i (j + 1) = sumN (colR (atF w X) B) i j + brk (atF w X) (i + j) := by rw [hb]; rfl
        refine XV.run C okM_sumOf 3 (q := (25, ([some (.ref (a)), some (.int (nI X)), some (.int (nI i)), some (.int (nI v)), some (.int (if B then 1 else 0)), some (.int (sumN (colR (atF w X) B) i j)), some (.int (nI (i + j)))], [.int (nI (i + j)), .int (nI X), .ref (a), .int (sumN (colR (atF w X) B) i j)]))) rfl ?_
        refine XV.callS C (As := [.ref (a), .int (nI X), .int (nI (i + j))]) (rest := [.int (sumN (colR (atF w X) B) i j)]) (ct_M_broken hfl (X := X) (hw) (a4) (an) (hN) (by omega) (s := i + j) (rfl) (rfl) (by omega) (hq hb)) (xlk_ok okM_sumOf rfl) rfl wM_M_40 wS_M_broken wN_M wB_M_broken hy_M_broken (fun q => q.elim) ⟨Nat.le_of_ble_eq_true rfl, Nat.le_of_ble_eq_true rfl⟩ ⟨Nat.le_of_ble_eq_true rfl, Nat.le_of_ble_eq_true rfl⟩ (Nat.le_of_ble_eq_true rfl) (fun r n h hp => ?_) (fun _ _ _ q => q.elim)
        obtain ⟨rfl, rfl, rfl⟩ := hp
        refine XV.run C okM_sumOf 5 (q := (6, ([some (.ref (a)), some (.int (nI X)), some (.int (nI i)), some (.int (nI v)), some (.int (if B then 1 else 0)), some (.int ((sumN (colR (atF w X) B) i j) + (brk (atF w X) (i + j)))), some (.int ((nI (i + j)) + 1))], []))) rfl ?_
        rw [nI_1, ← e]
        exact ih (j + 1) (by omega)
  exact loop v 0 (by omega)
set_option maxHeartbeats 4000000 in
set_option maxRecDepth 100000 in
theorem ct_M_windows {l : Launch} (hfl : l.stackTraces = false) {G : XG} {n : Nat} {h : XH} {g pa tr mx td F : Nat → Int32} (hn : 215 ≤ n) {z : Nat} (hz : g 2 = nI z) (z1 : 1 ≤ z) (z2 : z ≤ 12) : XCt l G False (Cond.code yM_windows bM_windows 1 (some .int)) yM_windows 0 0 0 0 [.ref (213)] n (setM h g pa tr mx td F) (fun r' n' h' => r' = some (.int (nI (25 - z))) ∧ n' = n ∧ h' = setM h g pa tr mx td F) (fun _ _ _ => False) := by
  refine XCt.of hfl (by decide +kernel) (Nat.le_of_ble_eq_true rfl) ?_
  intro p' e' s' m' g' b' t' c' C hret hname hnt hmd
  refine XV.run C okM_windows 2 (q := (3, ([some (.ref (213))], [.ref (213), .int (25)]))) rfl ?_
  refine XV.getf C (ci := 5) (kf := 0) (v := .ref (214)) (xlk_ok okM_windows rfl) rfl (by decide) wF_M_7 (by omega) (by omega) (mw_o) rfl ?_
  refine XV.run C okM_windows 1 (q := (7, ([some (.ref (213))], [.int (2), .ref (214), .int (25)]))) rfl ?_
  refine XV.ialdC C (N := 505) (f := g) (a := 2) (xlk_ok okM_windows rfl) (by omega) (by omega) (mw_1) (rfl) (by decide) (by decide) ?_
  refine XV.run C okM_windows 1 (q := (9, ([some (.ref (213))], [.int (25 - (g 2))]))) rfl ?_
  exact XV.iret C (xlk_ok okM_windows rfl) hret rfl (Nat.le_of_ble_eq_true rfl) (Nat.le_of_ble_eq_true rfl) (⟨by rw [hz, show (25 : Int32) = nI 25 from rfl, pk_sub (by omega)], rfl, rfl⟩)
set_option maxHeartbeats 4000000 in
set_option maxRecDepth 100000 in
theorem ct_M_greatest {l : Launch} (hfl : l.stackTraces = false) {G : XG} {n : Nat} {h : XH} {g pa tr mx td F : Nat → Int32} (hn : 215 ≤ n) {a N X : Nat} {w : Nat → Int32} (hw : (setM h g pa tr mx td F) a = xar N w) (a4 : 4 ≤ a) (an : a < n + 4) (hN : N < 2 ^ 31) (hX : X + 99 ≤ N) {z : Nat} (hz : g 2 = nI z) (z1 : 1 ≤ z) (z2 : z ≤ 12) (B : Bool) {x : Int32} (hx : x = nI X) (hq : B = true → ¬ w X = 0) : XCt l G False (Cond.code yM_greatest bM_greatest 7 (some .int)) yM_greatest 2 48 0 0 [.ref (213), .ref (a), .int (x), .int (if B then 1 else 0)] n (setM h g pa tr mx td F) (fun r' n' h' => r' = some (.int (nI (gwin (atF w X) B z))) ∧ n' = n ∧ h' = setM h g pa tr mx td F) (fun _ _ _ => False) := by
  subst hx
  refine XCt.of hfl (by decide +kernel) (Nat.le_of_ble_eq_true rfl) ?_
  intro p' e' s' m' g' b' t' c' C hret hname hnt hmd
  refine XV.run C okM_greatest 4 (q := (6, ([some (.ref (213)), some (.ref (a)), some (.int (nI X)), some (.int (if B then 1 else 0)), some (.int (0)), some (.int (1)), none], []))) rfl ?_
  have loop : ∀ (d k : Nat), k + d = 24 - z → XV G 7 p' l e' ({ frames := 2, cells := 0, slots := 0, locals := 48 } : Room) s' m' g' b' t' c' (XEnd G b' (fun r' n' h' => r' = some (.int (nI (gwin (atF w X) B z))) ∧ n' = n ∧ h' = setM h g pa tr mx td F) (fun _ _ _ => False) g' s' 0 0) 6 [some (.ref (213)), some (.ref (a)), some (.int (nI X)), some (.int (if B then 1 else 0)), some (.int (nI (amax (winS (atF w X) B z) k))), some (.int (nI (k + 1))), none] [] n (setM h g pa tr mx td F) 0 0 := by
    intro d
    induction d with
    | zero =>
      intro k hk
      refine XV.run C okM_greatest 2 (q := (9, ([some (.ref (213)), some (.ref (a)), some (.int (nI X)), some (.int (if B then 1 else 0)), some (.int (nI (amax (winS (atF w X) B z) k))), some (.int (nI (k + 1))), none], [.ref (213), .int (nI (k + 1))]))) rfl ?_
      refine XV.callV C (As := []) (rest := [.int (nI (k + 1))]) (ci := 5) (ct_M_windows hfl hn hz z1 z2) (xlk_ok okM_greatest rfl) rfl (by omega) (by omega) rfl (mw_o) rfl wM_M_44 wI_M_windows wV_M_windows wN_M wB_M_windows hy_M_windows (fun q => q.elim) ⟨Nat.le_of_ble_eq_true rfl, Nat.le_of_ble_eq_true rfl⟩ ⟨Nat.le_of_ble_eq_true rfl, Nat.le_of_ble_eq_true rfl⟩ (Nat.le_of_ble_eq_true rfl) (fun r n h hp => ?_) (fun _ _ _ q => q.elim)
      obtain ⟨rfl, rfl, rfl⟩ := hp
      refine XV.icmp_ge C (tgt := 73) (xlk_ok okM_greatest rfl) rfl (fun _ => ?_) (fun hc => absurd (nI_le (by omega) (by omega)) hc)
      refine XV.run C okM_greatest 1 (q := (75, ([some (.ref (213)), some (.ref (a)), some (.int (nI X)), some (.int (if B then 1 else 0)), some (.int (nI (amax (winS (atF w X) B z) k))), some (.int (nI (k + 1))), none], [.int (nI (amax (winS (atF w X) B z) k))]))) rfl ?_
      exact XV.iret C (xlk_ok okM_greatest rfl) hret rfl (Nat.le_of_ble_eq_true rfl) (Nat.le_of_ble_eq_true rfl) (⟨by rw [show k = 24 - z by omega]; rfl, rfl, rfl⟩)
    | succ d ih =>
      intro k hk
      have hak := amax_le (winS (atF w X) B z) k
      refine XV.run C okM_greatest 2 (q := (9, ([some (.ref (213)), some (.ref (a)), some (.int (nI X)), some (.int (if B then 1 else 0)), some (.int (nI (amax (winS (atF w X) B z) k))), some (.int (nI (k + 1))), none], [.ref (213), .int (nI (k + 1))]))) rfl ?_
      refine XV.callV C (As := []) (rest := [.int (nI (k + 1))]) (ci := 5) (ct_M_windows hfl hn hz z1 z2) (xlk_ok okM_greatest rfl) rfl (by omega) (by omega) rfl (mw_o) rfl wM_M_44 wI_M_windows wV_M_windows wN_M wB_M_windows hy_M_windows (fun q => q.elim) ⟨Nat.le_of_ble_eq_true rfl, Nat.le_of_ble_eq_true rfl⟩ ⟨Nat.le_of_ble_eq_true rfl, Nat.le_of_ble_eq_true rfl⟩ (Nat.le_of_ble_eq_true rfl) (fun r n h hp => ?_) (fun _ _ _ q => q.elim)
      obtain ⟨rfl, rfl, rfl⟩ := hp
      refine XV.icmp_ge C (tgt := 73) (xlk_ok okM_greatest rfl) rfl (fun hc => absurd hc (nI_ge (by omega) (by omega))) (fun _ => ?_)
      refine XV.run C okM_greatest 4 (q := (20, ([some (.ref (213)), some (.ref (a)), some (.int (nI X)), some (.int (if B then 1 else 0)), some (.int (nI (amax (winS (atF w X) B z) k))), some (.int (nI (k + 1))), none], [.ref (213), .int (nI (k + 1)), .int (nI X), .ref (a)]))) rfl ?_
      refine XV.getf C (ci := 5) (kf := 0) (v := .ref (214)) (xlk_ok okM_greatest rfl) rfl (by decide) wF_M_7 (by omega) (by omega) (mw_o) rfl ?_
      refine XV.run C okM_greatest 1 (q := (24, ([some (.ref (213)), some (.ref (a)), some (.int (nI X)), some (.int (if B then 1 else 0)), some (.int (nI (amax (winS (atF w X) B z) k))), some (.int (nI (k + 1))), none], [.int (2), .ref (214), .int (nI (k + 1)), .int (nI X), .ref (a)]))) rfl ?_
      refine XV.ialdC C (N := 505) (f := g) (a := 2) (xlk_ok okM_greatest rfl) (by omega) (by omega) (mw_1) (rfl) (by decide) (by decide) ?_
      refine XV.run C okM_greatest 1 (q := (26, ([some (.ref (213)), some (.ref (a)), some (.int (nI X)), some (.int (if B then 1 else 0)), some (.int (nI (amax (winS (atF w X) B z) k))), some (.int (nI (k + 1))), none], [.int (if B then 1 else 0), .int (g 2), .int (nI (k + 1)), .int (nI X), .ref (a)]))) rfl ?_
      refine XV.callS C (As := [.ref (a), .int (nI X), .int (nI (k + 1)), .int (g 2), .int (if B then 1 else 0)]) (rest := []) (ct_M_sumOf hfl (X := X) (hw) (a4) (an) (hN) (by omega) (i := k + 1) (v := z) B (rfl) (rfl) (hz) (by omega) (hq)) (xlk_ok okM_greatest rfl) rfl wM_M_48 wS_M_sumOf wN_M wB_M_sumOf hy_M_sumOf (fun q => q.elim) ⟨Nat.le_of_ble_eq_true rfl, Nat.le_of_ble_eq_true rfl⟩ ⟨Nat.le_of_ble_eq_true rfl, Nat.le_of_ble_eq_true rfl⟩ (Nat.le_of_ble_eq_true rfl) (fun r n h hp => ?_) (fun _ _ _ q => q.elim)
      obtain ⟨rfl, rfl, rfl⟩ := hp
      refine XV.run C okM_greatest 4 (q := (34, ([some (.ref (213)), some (.ref (a)), some (.int (nI X)), some (.int (if B then 1 else 0)), some (.int (nI (amax (winS (atF w X) B z) k))), some (.int (nI (k + 1))), none], [.ref (213), .int (nI (amax (winS (atF w X) B z) k)), .int (nI X), .ref (a), .int (winS (atF w X) B z (k + 1))]))) rfl ?_
      refine XV.getf C (ci := 5) (kf := 0) (v := .ref (214)) (xlk_ok okM_greatest rfl) rfl (by decide) wF_M_7 (by omega) (by omega) (mw_o) rfl ?_
      refine XV.run C okM_greatest 1 (q := (38, ([some (.ref (213)), some (.ref (a)), some (.int (nI X)), some (.int (if B then 1 else 0)), some (.int (nI (amax (winS (atF w X) B z) k))), some (.int (nI (k + 1))), none], [.int (2), .ref (214), .int (nI (amax (winS (atF w X) B z) k)), .int (nI X), .ref (a), .int (winS (atF w X) B z (k + 1))]))) rfl ?_
      refine XV.ialdC C (N := 505) (f := g) (a := 2) (xlk_ok okM_greatest rfl) (by omega) (by omega) (mw_1) (rfl) (by decide) (by decide) ?_
      refine XV.run C okM_greatest 1 (q := (40, ([some (.ref (213)), some (.ref (a)), some (.int (nI X)), some (.int (if B then 1 else 0)), some (.int (nI (amax (winS (atF w X) B z) k))), some (.int (nI (k + 1))), none], [.int (if B then 1 else 0), .int (g 2), .int (nI (amax (winS (atF w X) B z) k)), .int (nI X), .ref (a), .int (winS (atF w X) B z (k + 1))]))) rfl ?_
      refine XV.callS C (As := [.ref (a), .int (nI X), .int (nI (amax (winS (atF w X) B z) k)), .int (g 2), .int (if B then 1 else 0)]) (rest := [.int (winS (atF w X) B z (k + 1))]) (ct_M_sumOf hfl (X := X) (hw) (a4) (an) (hN) (by omega) (i := amax (winS (atF w X) B z) k) (v := z) B (rfl) (rfl) (hz) (by omega) (hq)) (xlk_ok okM_greatest rfl) rfl wM_M_48 wS_M_sumOf wN_M wB_M_sumOf hy_M_sumOf (fun q => q.elim) ⟨Nat.le_of_ble_eq_true rfl, Nat.le_of_ble_eq_true rfl⟩ ⟨Nat.le_of_ble_eq_true rfl, Nat.le_of_ble_eq_true rfl⟩ (Nat.le_of_ble_eq_true rfl) (fun r n h hp => ?_) (fun _ _ _ q => q.elim)
      obtain ⟨rfl, rfl, rfl⟩ := hp
      refine XV.icmp_le C (tgt := 50) (xlk_ok okM_greatest rfl) rfl (fun c => ?_) (fun c => ?_)
      ·
        have e : amax (winS (atF w X) B z) (k + 1) = amax (winS (atF w X) B z) k := if_neg (i_nlt c)
        refine XV.run C okM_greatest 3 (q := (55, ([some (.ref (213)), some (.ref (a)), some (.int (nI X)), some (.int (if B then 1 else 0)), some (.int (nI (amax (winS (atF w X) B z) k))), some (.int (nI (k + 1))), some (.int (0))], [.int (0)]))) rfl ?_
        refine XV.if_eq C (tgt := 63) (xlk_ok okM_greatest rfl) rfl (fun _ => ?_) (fun hc => absurd (rfl) hc)
        refine XV.run C okM_greatest 4 (q := (6, ([some (.ref (213)), some (.ref (a)), some (.int (nI X)), some (.int (if B then 1 else 0)), some (.int (nI (amax (winS (atF w X) B z) k))), some (.int ((nI (k + 1)) + 1)), some (.int (0))], []))) rfl ?_
        rw [nI_1]
        have w2 := ih (k + 1) (by omega)
        rw [e] at w2
        exact XV.drop w2 rfl (by simp [xle])
      ·
        have e : amax (winS (atF w X) B z) (k + 1) = k + 1 := if_pos (i_lt c)
        refine XV.run C okM_greatest 4 (q := (55, ([some (.ref (213)), some (.ref (a)), some (.int (nI X)), some (.int (if B then 1 else 0)), some (.int (nI (amax (winS (atF w X) B z) k))), some (.int (nI (k + 1))), some (.int (1))], [.int (1)]))) rfl ?_
        refine XV.if_eq C (tgt := 63) (xlk_ok okM_greatest rfl) rfl (fun hc => absurd hc (by decide)) (fun _ => ?_)
        refine XV.run C okM_greatest 5 (q := (6, ([some (.ref (213)), some (.ref (a)), some (.int (nI X)), some (.int (if B then 1 else 0)), some (.int (nI (k + 1))), some (.int ((nI (k + 1)) + 1)), some (.int (1))], []))) rfl ?_
        rw [nI_1]
        have w2 := ih (k + 1) (by omega)
        rw [e] at w2
        exact XV.drop w2 rfl (by simp [xle])
  exact loop (24 - z) 0 (by omega)
set_option maxHeartbeats 4000000 in
set_option maxRecDepth 100000 in
theorem ct_M_most {l : Launch} (hfl : l.stackTraces = false) {G : XG} {n : Nat} {h : XH} {g pa tr mx td F : Nat → Int32} (hn : 215 ≤ n) {a N X : Nat} {w : Nat → Int32} (hw : (setM h g pa tr mx td F) a = xar N w) (a4 : 4 ≤ a) (an : a < n + 4) (hN : N < 2 ^ 31) (hX : X + 99 ≤ N) {z : Nat} (hz : g 2 = nI z) (z1 : 1 ≤ z) (z2 : z ≤ 12) (B : Bool) {x : Int32} (hx : x = nI X) (hq : B = true → ¬ w X = 0) : XCt l G False (Cond.code yM_most bM_most 4 (some .int)) yM_most 3 74 0 0 [.ref (213), .ref (a), .int (x), .int (if B then 1 else 0)] n (setM h g pa tr mx td F) (fun r' n' h' => r' = some (.int (gmost (atF w X) B z)) ∧ n' = n ∧ h' = setM h g pa tr mx td F) (fun _ _ _ => False) := by
  subst hx
  have hg := amax_le (winS (atF w X) B z) (24 - z)
  rw [show amax (winS (atF w X) B z) (24 - z) = gwin (atF w X) B z from rfl] at hg
  refine XCt.of hfl (by decide +kernel) (Nat.le_of_ble_eq_true rfl) ?_
  intro p' e' s' m' g' b' t' c' C hret hname hnt hmd
  refine XV.run C okM_most 6 (q := (6, ([some (.ref (213)), some (.ref (a)), some (.int (nI X)), some (.int (if B then 1 else 0))], [.int (if B then 1 else 0), .int (nI X), .ref (a), .ref (213), .int (nI X), .ref (a)]))) rfl ?_
  refine XV.callV C (As := [.ref (a), .int (nI X), .int (if B then 1 else 0)]) (rest := [.int (nI X), .ref (a)]) (ci := 5) (ct_M_greatest hfl hn (X := X) (hw) (a4) (an) (hN) (by omega) hz z1 z2 B rfl hq) (xlk_ok okM_most rfl) rfl (by omega) (by omega) rfl (mw_o) rfl wM_M_52 wI_M_greatest wV_M_greatest wN_M wB_M_greatest hy_M_greatest (fun q => q.elim) ⟨Nat.le_of_ble_eq_true rfl, Nat.le_of_ble_eq_true rfl⟩ ⟨Nat.le_of_ble_eq_true rfl, Nat.le_of_ble_eq_true rfl⟩ (Nat.le_of_ble_eq_true rfl) (fun r n h hp => ?_) (fun _ _ _ q => q.elim)
  obtain ⟨rfl, rfl, rfl⟩ := hp
  refine XV.run C okM_most 1 (q := (10, ([some (.ref (213)), some (.ref (a)), some (.int (nI X)), some (.int (if B then 1 else 0))], [.ref (213), .int (nI (gwin (atF w X) B z)), .int (nI X), .ref (a)]))) rfl ?_
  refine XV.getf C (ci := 5) (kf := 0) (v := .ref (214)) (xlk_ok okM_most rfl) rfl (by decide) wF_M_7 (by omega) (by omega) (mw_o) rfl ?_
  refine XV.run C okM_most 1 (q := (14, ([some (.ref (213)), some (.ref (a)), some (.int (nI X)), some (.int (if B then 1 else 0))], [.int (2), .ref (214), .int (nI (gwin (atF w X) B z)), .int (nI X), .ref (a)]))) rfl ?_
  refine XV.ialdC C (N := 505) (f := g) (a := 2) (xlk_ok okM_most rfl) (by omega) (by omega) (mw_1) (rfl) (by decide) (by decide) ?_
  refine XV.run C okM_most 1 (q := (16, ([some (.ref (213)), some (.ref (a)), some (.int (nI X)), some (.int (if B then 1 else 0))], [.int (if B then 1 else 0), .int (g 2), .int (nI (gwin (atF w X) B z)), .int (nI X), .ref (a)]))) rfl ?_
  refine XV.callS C (As := [.ref (a), .int (nI X), .int (nI (gwin (atF w X) B z)), .int (g 2), .int (if B then 1 else 0)]) (rest := []) (ct_M_sumOf hfl (X := X) (hw) (a4) (an) (hN) (by omega) (i := gwin (atF w X) B z) (v := z) B (rfl) (rfl) (hz) (by omega) (hq)) (xlk_ok okM_most rfl) rfl wM_M_48 wS_M_sumOf wN_M wB_M_sumOf hy_M_sumOf (fun q => q.elim) ⟨Nat.le_of_ble_eq_true rfl, Nat.le_of_ble_eq_true rfl⟩ ⟨Nat.le_of_ble_eq_true rfl, Nat.le_of_ble_eq_true rfl⟩ (Nat.le_of_ble_eq_true rfl) (fun r n h hp => ?_) (fun _ _ _ q => q.elim)
  obtain ⟨rfl, rfl, rfl⟩ := hp
  exact XV.iret C (xlk_ok okM_most rfl) hret rfl (Nat.le_of_ble_eq_true rfl) (Nat.le_of_ble_eq_true rfl) (⟨rfl, rfl, rfl⟩)
def groK (g r : Nat → Int32) : Nat → Bool := fun s => decide (g 5 ≤ r (27 + s) - r (51 + s))
def latK (g r : Nat → Int32) : Nat → Bool := fun s => decide (g 6 < g 0 - r (75 + s))
theorem anyN_s (P : Nat → Bool) (n : Nat) : anyN P (n + 1) = (anyN P n || P n) := rfl
theorem any_l {P : Nat → Bool} {n : Nat} (h : anyN P n = true) : anyN P (n + 1) = true := by rw [anyN_s, h]; rfl
theorem any_r {P : Nat → Bool} {n : Nat} (h : anyN P n = false) {b : Bool} (h2 : P n = b) : anyN P (n + 1) = b := by rw [anyN_s, h, h2]; rfl
def reasonM (g r : Nat → Int32) (z : Nat) : Int32 := if g 3 ≤ gmost r false z then 1 else if g 4 ≤ sumN (colR r false) 0 24 then 2 else if anyN (groK g r) 24 then 3 else if anyN (latK g r) 24 then 4 else 0
set_option maxHeartbeats 4000000 in
set_option maxRecDepth 100000 in
theorem ct_M_reason {l : Launch} (hfl : l.stackTraces = false) {G : XG} {n : Nat} {h : XH} {g pa tr mx td F : Nat → Int32} (hn : 215 ≤ n) {a N X : Nat} {w : Nat → Int32} (hw : (setM h g pa tr mx td F) a = xar N w) (a4 : 4 ≤ a) (an : a < n + 4) (hN : N < 2 ^ 31) (hX : X + 99 ≤ N) {z : Nat} (hz : g 2 = nI z) (z1 : 1 ≤ z) (z2 : z ≤ 12) {x : Int32} (hx : x = nI X) : XCt l G False (Cond.code yM_reason bM_reason 6 (some .int)) yM_reason 4 97 0 0 [.ref (213), .ref (a), .int (x)] n (setM h g pa tr mx td F) (fun r' n' h' => r' = some (.int (reasonM g (atF w X) z)) ∧ n' = n ∧ h' = setM h g pa tr mx td F) (fun _ _ _ => False) := by
  subst hx
  refine XCt.of hfl (by decide +kernel) (Nat.le_of_ble_eq_true rfl) ?_
  intro p' e' s' m' g' b' t' c' C hret hname hnt hmd
  refine XV.run C okM_reason 4 (q := (4, ([some (.ref (213)), some (.ref (a)), some (.int (nI X)), none, none, none], [.int (0), .int (nI X), .ref (a), .ref (213)]))) rfl ?_
  refine XV.callV C (As := [.ref (a), .int (nI X), .int (0)]) (rest := []) (ci := 5) (ct_M_most hfl hn (X := X) (hw) (a4) (an) (hN) (by omega) hz z1 z2 false rfl (fun q => Bool.noConfusion q)) (xlk_ok okM_reason rfl) rfl (by omega) (by omega) rfl (mw_o) rfl wM_M_56 wI_M_most wV_M_most wN_M wB_M_most hy_M_most (fun q => q.elim) ⟨Nat.le_of_ble_eq_true rfl, Nat.le_of_ble_eq_true rfl⟩ ⟨Nat.le_of_ble_eq_true rfl, Nat.le_of_ble_eq_true rfl⟩ (Nat.le_of_ble_eq_true rfl) (fun r n h hp => ?_) (fun _ _ _ q => q.elim)
  obtain ⟨rfl, rfl, rfl⟩ := hp
  refine XV.run C okM_reason 1 (q := (8, ([some (.ref (213)), some (.ref (a)), some (.int (nI X)), none, none, none], [.ref (213), .int (gmost (atF w X) false z)]))) rfl ?_
  refine XV.getf C (ci := 5) (kf := 0) (v := .ref (214)) (xlk_ok okM_reason rfl) rfl (by decide) wF_M_7 (by omega) (by omega) (mw_o) rfl ?_
  refine XV.run C okM_reason 1 (q := (12, ([some (.ref (213)), some (.ref (a)), some (.int (nI X)), none, none, none], [.int (3), .ref (214), .int (gmost (atF w X) false z)]))) rfl ?_
  refine XV.ialdC C (N := 505) (f := g) (a := 3) (xlk_ok okM_reason rfl) (by omega) (by omega) (mw_1) (rfl) (by decide) (by decide) ?_
  refine XV.icmp_lt C (tgt := 18) (xlk_ok okM_reason rfl) rfl (fun a1 => ?_) (fun a1 => ?_)
  ·
    refine XV.run C okM_reason 5 (q := (24, ([some (.ref (213)), some (.ref (a)), some (.int (nI X)), none, none, none], [.int (0), .int (24), .int (0), .int (nI X), .ref (a)]))) rfl ?_
    refine XV.callS C (As := [.ref (a), .int (nI X), .int (0), .int (24), .int (0)]) (rest := []) (ct_M_sumOf hfl (X := X) (hw) (a4) (an) (hN) (by omega) (i := 0) (v := 24) false (rfl) (rfl) (rfl) (by omega) (fun q => Bool.noConfusion q)) (xlk_ok okM_reason rfl) rfl wM_M_48 wS_M_sumOf wN_M wB_M_sumOf hy_M_sumOf (fun q => q.elim) ⟨Nat.le_of_ble_eq_true rfl, Nat.le_of_ble_eq_true rfl⟩ ⟨Nat.le_of_ble_eq_true rfl, Nat.le_of_ble_eq_true rfl⟩ (Nat.le_of_ble_eq_true rfl) (fun r n h hp => ?_) (fun _ _ _ q => q.elim)
    obtain ⟨rfl, rfl, rfl⟩ := hp
    refine XV.run C okM_reason 1 (q := (28, ([some (.ref (213)), some (.ref (a)), some (.int (nI X)), none, none, none], [.ref (213), .int (sumN (colR (atF w X) false) 0 24)]))) rfl ?_
    refine XV.getf C (ci := 5) (kf := 0) (v := .ref (214)) (xlk_ok okM_reason rfl) rfl (by decide) wF_M_7 (by omega) (by omega) (mw_o) rfl ?_
    refine XV.run C okM_reason 1 (q := (32, ([some (.ref (213)), some (.ref (a)), some (.int (nI X)), none, none, none], [.int (4), .ref (214), .int (sumN (colR (atF w X) false) 0 24)]))) rfl ?_
    refine XV.ialdC C (N := 505) (f := g) (a := 4) (xlk_ok okM_reason rfl) (by omega) (by omega) (mw_1) (rfl) (by decide) (by decide) ?_
    refine XV.icmp_lt C (tgt := 38) (xlk_ok okM_reason rfl) rfl (fun a2 => ?_) (fun a2 => ?_)
    ·
      refine XV.run C okM_reason 6 (q := (46, ([some (.ref (213)), some (.ref (a)), some (.int (nI X)), some (.int (0)), some (.int (0)), some (.int (0))], []))) rfl ?_
      have loop : ∀ (d j : Nat), j + d = 24 → XV G 6 p' l e' ({ frames := 4, cells := 0, slots := 0, locals := 97 } : Room) s' m' g' b' t' c' (XEnd G b' (fun r' n' h' => r' = some (.int (reasonM g (atF w X) z)) ∧ n' = n ∧ h' = setM h g pa tr mx td F) (fun _ _ _ => False) g' s' 0 0) 46 [some (.ref (213)), some (.ref (a)), some (.int (nI X)), some (.int (if anyN (groK g (atF w X)) j then 1 else 0)), some (.int (if anyN (latK g (atF w X)) j then 1 else 0)), some (.int (nI j))] [] n (setM h g pa tr mx td F) 0 0 := by
        intro d
        induction d with
        | zero =>
          intro j hj
          refine XV.run C okM_reason 2 (q := (50, ([some (.ref (213)), some (.ref (a)), some (.int (nI X)), some (.int (if anyN (groK g (atF w X)) j then 1 else 0)), some (.int (if anyN (latK g (atF w X)) j then 1 else 0)), some (.int (nI j))], [.int (24), .int (nI j)]))) rfl ?_
          refine XV.icmp_ge C (tgt := 135) (xlk_ok okM_reason rfl) rfl (fun _ => ?_) (fun hc => absurd (nI_le (a := 24) (by omega) (by omega)) hc)
          obtain rfl : 24 = j := by omega
          refine XV.run C okM_reason 1 (q := (136, ([some (.ref (213)), some (.ref (a)), some (.int (nI X)), some (.int (if anyN (groK g (atF w X)) 24 then 1 else 0)), some (.int (if anyN (latK g (atF w X)) 24 then 1 else 0)), some (.int (nI 24))], [.int (if anyN (groK g (atF w X)) 24 then 1 else 0)]))) rfl ?_
          refine XV.if_eq C (tgt := 143) (xlk_ok okM_reason rfl) rfl (fun d1 => ?_) (fun d1 => ?_)
          ·
            have y1 := if1_0 d1
            refine XV.run C okM_reason 1 (q := (145, ([some (.ref (213)), some (.ref (a)), some (.int (nI X)), some (.int (if anyN (groK g (atF w X)) 24 then 1 else 0)), some (.int (if anyN (latK g (atF w X)) 24 then 1 else 0)), some (.int (nI 24))], [.int (if anyN (latK g (atF w X)) 24 then 1 else 0)]))) rfl ?_
            refine XV.if_eq C (tgt := 152) (xlk_ok okM_reason rfl) rfl (fun d2 => ?_) (fun d2 => ?_)
            ·
              have y2 := if1_0 d2
              refine XV.run C okM_reason 1 (q := (153, ([some (.ref (213)), some (.ref (a)), some (.int (nI X)), some (.int (if anyN (groK g (atF w X)) 24 then 1 else 0)), some (.int (if anyN (latK g (atF w X)) 24 then 1 else 0)), some (.int (nI 24))], [.int (0)]))) rfl ?_
              exact XV.iret C (xlk_ok okM_reason rfl) hret rfl (Nat.le_of_ble_eq_true rfl) (Nat.le_of_ble_eq_true rfl) (⟨by unfold reasonM; rw [if_neg (Int32.not_le.mpr a1), if_neg (Int32.not_le.mpr a2), if_neg (by rw [y1]; decide), if_neg (by rw [y2]; decide)], rfl, rfl⟩)
            ·
              have y2 := if1_1 d2
              refine XV.run C okM_reason 2 (q := (153, ([some (.ref (213)), some (.ref (a)), some (.int (nI X)), some (.int (if anyN (groK g (atF w X)) 24 then 1 else 0)), some (.int (if anyN (latK g (atF w X)) 24 then 1 else 0)), some (.int (nI 24))], [.int (4)]))) rfl ?_
              exact XV.iret C (xlk_ok okM_reason rfl) hret rfl (Nat.le_of_ble_eq_true rfl) (Nat.le_of_ble_eq_true rfl) (⟨by unfold reasonM; rw [if_neg (Int32.not_le.mpr a1), if_neg (Int32.not_le.mpr a2), if_neg (by rw [y1]; decide), if_pos y2], rfl, rfl⟩)
          ·
            have y1 := if1_1 d1
            refine XV.run C okM_reason 2 (q := (153, ([some (.ref (213)), some (.ref (a)), some (.int (nI X)), some (.int (if anyN (groK g (atF w X)) 24 then 1 else 0)), some (.int (if anyN (latK g (atF w X)) 24 then 1 else 0)), some (.int (nI 24))], [.int (3)]))) rfl ?_
            exact XV.iret C (xlk_ok okM_reason rfl) hret rfl (Nat.le_of_ble_eq_true rfl) (Nat.le_of_ble_eq_true rfl) (⟨by unfold reasonM; rw [if_neg (Int32.not_le.mpr a1), if_neg (Int32.not_le.mpr a2), if_pos y1], rfl, rfl⟩)
        | succ d ih =>
          intro j hj
          refine XV.run C okM_reason 2 (q := (50, ([some (.ref (213)), some (.ref (a)), some (.int (nI X)), some (.int (if anyN (groK g (atF w X)) j then 1 else 0)), some (.int (if anyN (latK g (atF w X)) j then 1 else 0)), some (.int (nI j))], [.int (24), .int (nI j)]))) rfl ?_
          refine XV.icmp_ge C (tgt := 135) (xlk_ok okM_reason rfl) rfl (fun hc => absurd hc (nI_ge (b := 24) (by omega) (by omega))) (fun _ => ?_)
          refine XV.run C okM_reason 1 (q := (54, ([some (.ref (213)), some (.ref (a)), some (.int (nI X)), some (.int (if anyN (groK g (atF w X)) j then 1 else 0)), some (.int (if anyN (latK g (atF w X)) j then 1 else 0)), some (.int (nI j))], [.int (if anyN (groK g (atF w X)) j then 1 else 0)]))) rfl ?_
          refine XV.if_ne C (tgt := 85) (xlk_ok okM_reason rfl) rfl (fun c1 => ?_) (fun c1 => ?_)
          ·
            have e1 : anyN (groK g (atF w X)) (j + 1) = true := any_l (if1_1 c1)
            refine XV.run C okM_reason 4 (q := (93, ([some (.ref (213)), some (.ref (a)), some (.int (nI X)), some (.int (1)), some (.int (if anyN (latK g (atF w X)) j then 1 else 0)), some (.int (nI j))], [.int (if anyN (latK g (atF w X)) j then 1 else 0)]))) rfl ?_
            refine XV.if_ne C (tgt := 122) (xlk_ok okM_reason rfl) rfl (fun c3 => ?_) (fun c3 => ?_)
            ·
              have e2 : anyN (latK g (atF w X)) (j + 1) = true := any_l (if1_1 c3)
              refine XV.run C okM_reason 5 (q := (46, ([some (.ref (213)), some (.ref (a)), some (.int (nI X)), some (.int (1)), some (.int (1)), some (.int ((nI j) + 1))], []))) rfl ?_
              rw [nI_1]
              have w2 := ih (j + 1) (by omega)
              rw [e1, e2] at w2
              exact XV.drop w2 rfl (by simp [xle])
            ·
              have b2 := if1_0 c3
              refine XV.run C okM_reason 1 (q := (97, ([some (.ref (213)), some (.ref (a)), some (.int (nI X)), some (.int (1)), some (.int (if anyN (latK g (atF w X)) j then 1 else 0)), some (.int (nI j))], [.ref (213)]))) rfl ?_
              refine XV.getf C (ci := 5) (kf := 0) (v := .ref (214)) (xlk_ok okM_reason rfl) rfl (by decide) wF_M_7 (by omega) (by omega) (mw_o) rfl ?_
              refine XV.run C okM_reason 1 (q := (101, ([some (.ref (213)), some (.ref (a)), some (.int (nI X)), some (.int (1)), some (.int (if anyN (latK g (atF w X)) j then 1 else 0)), some (.int (nI j))], [.int (0), .ref (214)]))) rfl ?_
              refine XV.ialdC C (N := 505) (f := g) (a := 0) (xlk_ok okM_reason rfl) (by omega) (by omega) (mw_1) (rfl) (by decide) (by decide) ?_
              refine XV.run C okM_reason 6 (q := (110, ([some (.ref (213)), some (.ref (a)), some (.int (nI X)), some (.int (1)), some (.int (if anyN (latK g (atF w X)) j then 1 else 0)), some (.int (nI j))], [.int (((nI X) + 75) + (nI j)), .ref (a), .int (g 0)]))) rfl ?_
              refine XV.ialdC C (N := N) (f := w) (a := (X + (75 + j))) (xlk_ok okM_reason rfl) (a4) (an) (hw) (ix3 X j (d := 75) rfl) (by omega) (hN) ?_
              refine XV.run C okM_reason 2 (q := (113, ([some (.ref (213)), some (.ref (a)), some (.int (nI X)), some (.int (1)), some (.int (if anyN (latK g (atF w X)) j then 1 else 0)), some (.int (nI j))], [.ref (213), .int ((g 0) - (w (X + (75 + j))))]))) rfl ?_
              refine XV.getf C (ci := 5) (kf := 0) (v := .ref (214)) (xlk_ok okM_reason rfl) rfl (by decide) wF_M_7 (by omega) (by omega) (mw_o) rfl ?_
              refine XV.run C okM_reason 1 (q := (118, ([some (.ref (213)), some (.ref (a)), some (.int (nI X)), some (.int (1)), some (.int (if anyN (latK g (atF w X)) j then 1 else 0)), some (.int (nI j))], [.int (6), .ref (214), .int ((g 0) - (w (X + (75 + j))))]))) rfl ?_
              refine XV.ialdC C (N := 505) (f := g) (a := 6) (xlk_ok okM_reason rfl) (by omega) (by omega) (mw_1) (rfl) (by decide) (by decide) ?_
              refine XV.icmp_le C (tgt := 126) (xlk_ok okM_reason rfl) rfl (fun c4 => ?_) (fun c4 => ?_)
              ·
                have e2 : anyN (latK g (atF w X)) (j + 1) = false := any_r b2 (decide_eq_false (Int32.not_lt.mpr c4))
                refine XV.run C okM_reason 4 (q := (46, ([some (.ref (213)), some (.ref (a)), some (.int (nI X)), some (.int (1)), some (.int (0)), some (.int ((nI j) + 1))], []))) rfl ?_
                rw [nI_1]
                have w2 := ih (j + 1) (by omega)
                rw [e1, e2] at w2
                exact XV.drop w2 rfl (by simp [xle])
              ·
                have e2 : anyN (latK g (atF w X)) (j + 1) = true := any_r b2 (decide_eq_true (Int32.not_le.mp c4))
                refine XV.run C okM_reason 5 (q := (46, ([some (.ref (213)), some (.ref (a)), some (.int (nI X)), some (.int (1)), some (.int (1)), some (.int ((nI j) + 1))], []))) rfl ?_
                rw [nI_1]
                have w2 := ih (j + 1) (by omega)
                rw [e1, e2] at w2
                exact XV.drop w2 rfl (by simp [xle])
          ·
            have b1 := if1_0 c1
            refine XV.run C okM_reason 6 (q := (65, ([some (.ref (213)), some (.ref (a)), some (.int (nI X)), some (.int (if anyN (groK g (atF w X)) j then 1 else 0)), some (.int (if anyN (latK g (atF w X)) j then 1 else 0)), some (.int (nI j))], [.int (((nI X) + 27) + (nI j)), .ref (a)]))) rfl ?_
            refine XV.ialdC C (N := N) (f := w) (a := (X + (27 + j))) (xlk_ok okM_reason rfl) (a4) (an) (hw) (ix3 X j (d := 27) rfl) (by omega) (hN) ?_
            refine XV.run C okM_reason 6 (q := (74, ([some (.ref (213)), some (.ref (a)), some (.int (nI X)), some (.int (if anyN (groK g (atF w X)) j then 1 else 0)), some (.int (if anyN (latK g (atF w X)) j then 1 else 0)), some (.int (nI j))], [.int (((nI X) + 51) + (nI j)), .ref (a), .int (w (X + (27 + j)))]))) rfl ?_
            refine XV.ialdC C (N := N) (f := w) (a := (X + (51 + j))) (xlk_ok okM_reason rfl) (a4) (an) (hw) (ix3 X j (d := 51) rfl) (by omega) (hN) ?_
            refine XV.run C okM_reason 2 (q := (77, ([some (.ref (213)), some (.ref (a)), some (.int (nI X)), some (.int (if anyN (groK g (atF w X)) j then 1 else 0)), some (.int (if anyN (latK g (atF w X)) j then 1 else 0)), some (.int (nI j))], [.ref (213), .int ((w (X + (27 + j))) - (w (X + (51 + j))))]))) rfl ?_
            refine XV.getf C (ci := 5) (kf := 0) (v := .ref (214)) (xlk_ok okM_reason rfl) rfl (by decide) wF_M_7 (by omega) (by omega) (mw_o) rfl ?_
            refine XV.run C okM_reason 1 (q := (81, ([some (.ref (213)), some (.ref (a)), some (.int (nI X)), some (.int (if anyN (groK g (atF w X)) j then 1 else 0)), some (.int (if anyN (latK g (atF w X)) j then 1 else 0)), some (.int (nI j))], [.int (5), .ref (214), .int ((w (X + (27 + j))) - (w (X + (51 + j))))]))) rfl ?_
            refine XV.ialdC C (N := 505) (f := g) (a := 5) (xlk_ok okM_reason rfl) (by omega) (by omega) (mw_1) (rfl) (by decide) (by decide) ?_
            refine XV.icmp_lt C (tgt := 89) (xlk_ok okM_reason rfl) rfl (fun c2 => ?_) (fun c2 => ?_)
            ·
              have e1 : anyN (groK g (atF w X)) (j + 1) = false := any_r b1 (decide_eq_false (Int32.not_le.mpr c2))
              refine XV.run C okM_reason 3 (q := (93, ([some (.ref (213)), some (.ref (a)), some (.int (nI X)), some (.int (0)), some (.int (if anyN (latK g (atF w X)) j then 1 else 0)), some (.int (nI j))], [.int (if anyN (latK g (atF w X)) j then 1 else 0)]))) rfl ?_
              refine XV.if_ne C (tgt := 122) (xlk_ok okM_reason rfl) rfl (fun c3 => ?_) (fun c3 => ?_)
              ·
                have e2 : anyN (latK g (atF w X)) (j + 1) = true := any_l (if1_1 c3)
                refine XV.run C okM_reason 5 (q := (46, ([some (.ref (213)), some (.ref (a)), some (.int (nI X)), some (.int (0)), some (.int (1)), some (.int ((nI j) + 1))], []))) rfl ?_
                rw [nI_1]
                have w2 := ih (j + 1) (by omega)
                rw [e1, e2] at w2
                exact XV.drop w2 rfl (by simp [xle])
              ·
                have b2 := if1_0 c3
                refine XV.run C okM_reason 1 (q := (97, ([some (.ref (213)), some (.ref (a)), some (.int (nI X)), some (.int (0)), some (.int (if anyN (latK g (atF w X)) j then 1 else 0)), some (.int (nI j))], [.ref (213)]))) rfl ?_
                refine XV.getf C (ci := 5) (kf := 0) (v := .ref (214)) (xlk_ok okM_reason rfl) rfl (by decide) wF_M_7 (by omega) (by omega) (mw_o) rfl ?_
                refine XV.run C okM_reason 1 (q := (101, ([some (.ref (213)), some (.ref (a)), some (.int (nI X)), some (.int (0)), some (.int (if anyN (latK g (atF w X)) j then 1 else 0)), some (.int (nI j))], [.int (0), .ref (214)]))) rfl ?_
                refine XV.ialdC C (N := 505) (f := g) (a := 0) (xlk_ok okM_reason rfl) (by omega) (by omega) (mw_1) (rfl) (by decide) (by decide) ?_
                refine XV.run C okM_reason 6 (q := (110, ([some (.ref (213)), some (.ref (a)), some (.int (nI X)), some (.int (0)), some (.int (if anyN (latK g (atF w X)) j then 1 else 0)), some (.int (nI j))], [.int (((nI X) + 75) + (nI j)), .ref (a), .int (g 0)]))) rfl ?_
                refine XV.ialdC C (N := N) (f := w) (a := (X + (75 + j))) (xlk_ok okM_reason rfl) (a4) (an) (hw) (ix3 X j (d := 75) rfl) (by omega) (hN) ?_
                refine XV.run C okM_reason 2 (q := (113, ([some (.ref (213)), some (.ref (a)), some (.int (nI X)), some (.int (0)), some (.int (if anyN (latK g (atF w X)) j then 1 else 0)), some (.int (nI j))], [.ref (213), .int ((g 0) - (w (X + (75 + j))))]))) rfl ?_
                refine XV.getf C (ci := 5) (kf := 0) (v := .ref (214)) (xlk_ok okM_reason rfl) rfl (by decide) wF_M_7 (by omega) (by omega) (mw_o) rfl ?_
                refine XV.run C okM_reason 1 (q := (118, ([some (.ref (213)), some (.ref (a)), some (.int (nI X)), some (.int (0)), some (.int (if anyN (latK g (atF w X)) j then 1 else 0)), some (.int (nI j))], [.int (6), .ref (214), .int ((g 0) - (w (X + (75 + j))))]))) rfl ?_
                refine XV.ialdC C (N := 505) (f := g) (a := 6) (xlk_ok okM_reason rfl) (by omega) (by omega) (mw_1) (rfl) (by decide) (by decide) ?_
                refine XV.icmp_le C (tgt := 126) (xlk_ok okM_reason rfl) rfl (fun c4 => ?_) (fun c4 => ?_)
                ·
                  have e2 : anyN (latK g (atF w X)) (j + 1) = false := any_r b2 (decide_eq_false (Int32.not_lt.mpr c4))
                  refine XV.run C okM_reason 4 (q := (46, ([some (.ref (213)), some (.ref (a)), some (.int (nI X)), some (.int (0)), some (.int (0)), some (.int ((nI j) + 1))], []))) rfl ?_
                  rw [nI_1]
                  have w2 := ih (j + 1) (by omega)
                  rw [e1, e2] at w2
                  exact XV.drop w2 rfl (by simp [xle])
                ·
                  have e2 : anyN (latK g (atF w X)) (j + 1) = true := any_r b2 (decide_eq_true (Int32.not_le.mp c4))
                  refine XV.run C okM_reason 5 (q := (46, ([some (.ref (213)), some (.ref (a)), some (.int (nI X)), some (.int (0)), some (.int (1)), some (.int ((nI j) + 1))], []))) rfl ?_
                  rw [nI_1]
                  have w2 := ih (j + 1) (by omega)
                  rw [e1, e2] at w2
                  exact XV.drop w2 rfl (by simp [xle])
            ·
              have e1 : anyN (groK g (atF w X)) (j + 1) = true := any_r b1 (decide_eq_true (Int32.not_lt.mp c2))
              refine XV.run C okM_reason 4 (q := (93, ([some (.ref (213)), some (.ref (a)), some (.int (nI X)), some (.int (1)), some (.int (if anyN (latK g (atF w X)) j then 1 else 0)), some (.int (nI j))], [.int (if anyN (latK g (atF w X)) j then 1 else 0)]))) rfl ?_
              refine XV.if_ne C (tgt := 122) (xlk_ok okM_reason rfl) rfl (fun c3 => ?_) (fun c3 => ?_)
              ·
                have e2 : anyN (latK g (atF w X)) (j + 1) = true := any_l (if1_1 c3)
                refine XV.run C okM_reason 5 (q := (46, ([some (.ref (213)), some (.ref (a)), some (.int (nI X)), some (.int (1)), some (.int (1)), some (.int ((nI j) + 1))], []))) rfl ?_
                rw [nI_1]
                have w2 := ih (j + 1) (by omega)
                rw [e1, e2] at w2
                exact XV.drop w2 rfl (by simp [xle])
              ·
                have b2 := if1_0 c3
                refine XV.run C okM_reason 1 (q := (97, ([some (.ref (213)), some (.ref (a)), some (.int (nI X)), some (.int (1)), some (.int (if anyN (latK g (atF w X)) j then 1 else 0)), some (.int (nI j))], [.ref (213)]))) rfl ?_
                refine XV.getf C (ci := 5) (kf := 0) (v := .ref (214)) (xlk_ok okM_reason rfl) rfl (by decide) wF_M_7 (by omega) (by omega) (mw_o) rfl ?_
                refine XV.run C okM_reason 1 (q := (101, ([some (.ref (213)), some (.ref (a)), some (.int (nI X)), some (.int (1)), some (.int (if anyN (latK g (atF w X)) j then 1 else 0)), some (.int (nI j))], [.int (0), .ref (214)]))) rfl ?_
                refine XV.ialdC C (N := 505) (f := g) (a := 0) (xlk_ok okM_reason rfl) (by omega) (by omega) (mw_1) (rfl) (by decide) (by decide) ?_
                refine XV.run C okM_reason 6 (q := (110, ([some (.ref (213)), some (.ref (a)), some (.int (nI X)), some (.int (1)), some (.int (if anyN (latK g (atF w X)) j then 1 else 0)), some (.int (nI j))], [.int (((nI X) + 75) + (nI j)), .ref (a), .int (g 0)]))) rfl ?_
                refine XV.ialdC C (N := N) (f := w) (a := (X + (75 + j))) (xlk_ok okM_reason rfl) (a4) (an) (hw) (ix3 X j (d := 75) rfl) (by omega) (hN) ?_
                refine XV.run C okM_reason 2 (q := (113, ([some (.ref (213)), some (.ref (a)), some (.int (nI X)), some (.int (1)), some (.int (if anyN (latK g (atF w X)) j then 1 else 0)), some (.int (nI j))], [.ref (213), .int ((g 0) - (w (X + (75 + j))))]))) rfl ?_
                refine XV.getf C (ci := 5) (kf := 0) (v := .ref (214)) (xlk_ok okM_reason rfl) rfl (by decide) wF_M_7 (by omega) (by omega) (mw_o) rfl ?_
                refine XV.run C okM_reason 1 (q := (118, ([some (.ref (213)), some (.ref (a)), some (.int (nI X)), some (.int (1)), some (.int (if anyN (latK g (atF w X)) j then 1 else 0)), some (.int (nI j))], [.int (6), .ref (214), .int ((g 0) - (w (X + (75 + j))))]))) rfl ?_
                refine XV.ialdC C (N := 505) (f := g) (a := 6) (xlk_ok okM_reason rfl) (by omega) (by omega) (mw_1) (rfl) (by decide) (by decide) ?_
                refine XV.icmp_le C (tgt := 126) (xlk_ok okM_reason rfl) rfl (fun c4 => ?_) (fun c4 => ?_)
                ·
                  have e2 : anyN (latK g (atF w X)) (j + 1) = false := any_r b2 (decide_eq_false (Int32.not_lt.mpr c4))
                  refine XV.run C okM_reason 4 (q := (46, ([some (.ref (213)), some (.ref (a)), some (.int (nI X)), some (.int (1)), some (.int (0)), some (.int ((nI j) + 1))], []))) rfl ?_
                  rw [nI_1]
                  have w2 := ih (j + 1) (by omega)
                  rw [e1, e2] at w2
                  exact XV.drop w2 rfl (by simp [xle])
                ·
                  have e2 : anyN (latK g (atF w X)) (j + 1) = true := any_r b2 (decide_eq_true (Int32.not_le.mp c4))
                  refine XV.run C okM_reason 5 (q := (46, ([some (.ref (213)), some (.ref (a)), some (.int (nI X)), some (.int (1)), some (.int (1)), some (.int ((nI j) + 1))], []))) rfl ?_
                  rw [nI_1]
                  have w2 := ih (j + 1) (by omega)
                  rw [e1, e2] at w2
                  exact XV.drop w2 rfl (by simp [xle])
      exact loop 24 0 (by omega)
    ·
      refine XV.run C okM_reason 1 (q := (37, ([some (.ref (213)), some (.ref (a)), some (.int (nI X)), none, none, none], [.int (2)]))) rfl ?_
      exact XV.iret C (xlk_ok okM_reason rfl) hret rfl (Nat.le_of_ble_eq_true rfl) (Nat.le_of_ble_eq_true rfl) (⟨by unfold reasonM; rw [if_neg (Int32.not_le.mpr a1), if_pos (Int32.not_lt.mp a2)], rfl, rfl⟩)
  ·
    refine XV.run C okM_reason 1 (q := (17, ([some (.ref (213)), some (.ref (a)), some (.int (nI X)), none, none, none], [.int (1)]))) rfl ?_
    exact XV.iret C (xlk_ok okM_reason rfl) hret rfl (Nat.le_of_ble_eq_true rfl) (Nat.le_of_ble_eq_true rfl) (⟨by unfold reasonM; rw [if_pos (Int32.not_lt.mp a1)], rfl, rfl⟩)
def retM (g : Nat → Int32) (z : Nat) : Nat → Nat
  | 0 => 0
  | j + 1 => if reasonM g (rowOf g j) z = 0 then retM g z j else retM g z j + 1
theorem retM_le (g : Nat → Int32) (z : Nat) : ∀ j, retM g z j ≤ j
  | 0 => Nat.le_refl 0
  | j + 1 => by
    unfold retM
    have := retM_le g z j
    split <;> omega
set_option maxHeartbeats 4000000 in
set_option maxRecDepth 100000 in
theorem ct_M_retired {l : Launch} (hfl : l.stackTraces = false) {G : XG} {n : Nat} {h : XH} {g pa tr mx td F : Nat → Int32} (hn : 215 ≤ n) {k : Nat} (hm : g 1 = nI k) (hk : k ≤ 5) {z : Nat} (hz : g 2 = nI z) (z1 : 1 ≤ z) (z2 : z ≤ 12) : XCt l G False (Cond.code yM_retired bM_retired 3 (some .int)) yM_retired 5 122 0 0 [.ref (213)] n (setM h g pa tr mx td F) (fun r' n' h' => r' = some (.int (nI (retM g z k))) ∧ n' = n ∧ h' = setM h g pa tr mx td F) (fun _ _ _ => False) := by
  refine XCt.of hfl (by decide +kernel) (Nat.le_of_ble_eq_true rfl) ?_
  intro p' e' s' m' g' b' t' c' C hret hname hnt hmd
  refine XV.run C okM_retired 4 (q := (4, ([some (.ref (213)), some (.int (0)), some (.int (0))], []))) rfl ?_
  have loop : ∀ (d j : Nat), j + d = k → XV G 3 p' l e' ({ frames := 5, cells := 0, slots := 0, locals := 122 } : Room) s' m' g' b' t' c' (XEnd G b' (fun r' n' h' => r' = some (.int (nI (retM g z k))) ∧ n' = n ∧ h' = setM h g pa tr mx td F) (fun _ _ _ => False) g' s' 0 0) 4 [some (.ref (213)), some (.int (nI (retM g z j))), some (.int (nI j))] [] n (setM h g pa tr mx td F) 0 0 := by
    intro d
    induction d with
    | zero =>
      intro j hj
      refine XV.run C okM_retired 2 (q := (6, ([some (.ref (213)), some (.int (nI (retM g z j))), some (.int (nI j))], [.ref (213), .int (nI j)]))) rfl ?_
      refine XV.getf C (ci := 5) (kf := 0) (v := .ref (214)) (xlk_ok okM_retired rfl) rfl (by decide) wF_M_7 (by omega) (by omega) (mw_o) rfl ?_
      refine XV.run C okM_retired 1 (q := (10, ([some (.ref (213)), some (.int (nI (retM g z j))), some (.int (nI j))], [.int (1), .ref (214), .int (nI j)]))) rfl ?_
      refine XV.ialdC C (N := 505) (f := g) (a := 1) (xlk_ok okM_retired rfl) (by omega) (by omega) (mw_1) (rfl) (by decide) (by decide) ?_
      refine XV.icmp_ge C (tgt := 43) (xlk_ok okM_retired rfl) rfl (fun _ => ?_) (fun hc => absurd (by rw [hm]; exact nI_le (by omega) (by omega)) hc)
      refine XV.run C okM_retired 1 (q := (44, ([some (.ref (213)), some (.int (nI (retM g z j))), some (.int (nI j))], [.int (nI (retM g z j))]))) rfl ?_
      exact XV.iret C (xlk_ok okM_retired rfl) hret rfl (Nat.le_of_ble_eq_true rfl) (Nat.le_of_ble_eq_true rfl) (⟨by rw [show j = k by omega], rfl, rfl⟩)
    | succ d ih =>
      intro j hj
      refine XV.run C okM_retired 2 (q := (6, ([some (.ref (213)), some (.int (nI (retM g z j))), some (.int (nI j))], [.ref (213), .int (nI j)]))) rfl ?_
      refine XV.getf C (ci := 5) (kf := 0) (v := .ref (214)) (xlk_ok okM_retired rfl) rfl (by decide) wF_M_7 (by omega) (by omega) (mw_o) rfl ?_
      refine XV.run C okM_retired 1 (q := (10, ([some (.ref (213)), some (.int (nI (retM g z j))), some (.int (nI j))], [.int (1), .ref (214), .int (nI j)]))) rfl ?_
      refine XV.ialdC C (N := 505) (f := g) (a := 1) (xlk_ok okM_retired rfl) (by omega) (by omega) (mw_1) (rfl) (by decide) (by decide) ?_
      refine XV.icmp_ge C (tgt := 43) (xlk_ok okM_retired rfl) rfl (fun hc => absurd hc (by rw [hm]; exact nI_ge (by omega) (by omega))) (fun _ => ?_)
      refine XV.run C okM_retired 3 (q := (17, ([some (.ref (213)), some (.int (nI (retM g z j))), some (.int (nI j))], [.ref (213), .ref (213), .int (nI (retM g z j))]))) rfl ?_
      refine XV.getf C (ci := 5) (kf := 0) (v := .ref (214)) (xlk_ok okM_retired rfl) rfl (by decide) wF_M_7 (by omega) (by omega) (mw_o) rfl ?_
      refine XV.run C okM_retired 1 (q := (21, ([some (.ref (213)), some (.int (nI (retM g z j))), some (.int (nI j))], [.int (nI j), .ref (214), .ref (213), .int (nI (retM g z j))]))) rfl ?_
      refine XV.callS C (As := [.int (nI j)]) (rest := [.ref (214), .ref (213), .int (nI (retM g z j))]) (ct_M_row hfl (i := j) (rfl)) (xlk_ok okM_retired rfl) rfl wM_M_59 wS_M_row wN_M wB_M_row hy_M_row (fun q => q.elim) ⟨Nat.le_of_ble_eq_true rfl, Nat.le_of_ble_eq_true rfl⟩ ⟨Nat.le_of_ble_eq_true rfl, Nat.le_of_ble_eq_true rfl⟩ (Nat.le_of_ble_eq_true rfl) (fun r n h hp => ?_) (fun _ _ _ q => q.elim)
      obtain ⟨rfl, rfl, rfl⟩ := hp
      refine XV.callV C (As := [.ref (214), .int (nI (10 + 99 * j))]) (rest := [.int (nI (retM g z j))]) (ci := 5) (ct_M_reason hfl hn (X := 10 + 99 * j) (mw_1) (by omega) (by omega) (by decide) (by omega) hz z1 z2 (rfl)) (xlk_ok okM_retired rfl) rfl (by omega) (by omega) rfl (mw_o) rfl wM_M_87 wI_M_reason wV_M_reason wN_M wB_M_reason hy_M_reason (fun q => q.elim) ⟨Nat.le_of_ble_eq_true rfl, Nat.le_of_ble_eq_true rfl⟩ ⟨Nat.le_of_ble_eq_true rfl, Nat.le_of_ble_eq_true rfl⟩ (Nat.le_of_ble_eq_true rfl) (fun r n h hp => ?_) (fun _ _ _ q => q.elim)
      obtain ⟨rfl, rfl, rfl⟩ := hp
      refine XV.if_ne C (tgt := 34) (xlk_ok okM_retired rfl) rfl (fun c => ?_) (fun c => ?_)
      ·
        have e1 : retM g z (j + 1) = retM g z j + 1 := if_neg c
        refine XV.run C okM_retired 5 (q := (4, ([some (.ref (213)), some (.int ((nI (retM g z j)) + 1)), some (.int ((nI j) + 1))], []))) rfl ?_
        have w2 := ih (j + 1) (by omega)
        rw [e1] at w2
        rw [nI_1, nI_1]
        exact w2
      ·
        have e1 : retM g z (j + 1) = retM g z j := if_pos c
        refine XV.run C okM_retired 6 (q := (4, ([some (.ref (213)), some (.int ((nI (retM g z j)) + 0)), some (.int ((nI j) + 1))], []))) rfl ?_
        have w2 := ih (j + 1) (by omega)
        rw [e1] at w2
        rw [nI_1, Int32.add_zero]
        exact w2
  exact loop k 0 (by omega)
def canM (g : Nat → Int32) (z m : Nat) : Bool := decide (2 ≤ m ∧ retM g z m = 0)
set_option maxHeartbeats 4000000 in
set_option maxRecDepth 100000 in
theorem ct_M_canRun {l : Launch} (hfl : l.stackTraces = false) {G : XG} {n : Nat} {h : XH} {g pa tr mx td F : Nat → Int32} (hn : 215 ≤ n) {k : Nat} (hm : g 1 = nI k) (hk : k ≤ 5) {z : Nat} (hz : g 2 = nI z) (z1 : 1 ≤ z) (z2 : z ≤ 12) : XCt l G False (Cond.code yM_canRun bM_canRun 1 (some .boolean)) yM_canRun 6 144 0 0 [.ref (213)] n (setM h g pa tr mx td F) (fun r' n' h' => r' = some (.int (if canM g z k then 1 else 0)) ∧ n' = n ∧ h' = setM h g pa tr mx td F) (fun _ _ _ => False) := by
  have hrk := retM_le g z k
  refine XCt.of hfl (by decide +kernel) (Nat.le_of_ble_eq_true rfl) ?_
  intro p' e' s' m' g' b' t' c' C hret hname hnt hmd
  refine XV.run C okM_canRun 1 (q := (1, ([some (.ref (213))], [.ref (213)]))) rfl ?_
  refine XV.getf C (ci := 5) (kf := 0) (v := .ref (214)) (xlk_ok okM_canRun rfl) rfl (by decide) wF_M_7 (by omega) (by omega) (mw_o) rfl ?_
  refine XV.run C okM_canRun 1 (q := (5, ([some (.ref (213))], [.int (1), .ref (214)]))) rfl ?_
  refine XV.ialdC C (N := 505) (f := g) (a := 1) (xlk_ok okM_canRun rfl) (by omega) (by omega) (mw_1) (rfl) (by decide) (by decide) ?_
  refine XV.run C okM_canRun 1 (q := (7, ([some (.ref (213))], [.int (2), .int (g 1)]))) rfl ?_
  refine XV.icmp_lt C (tgt := 21) (xlk_ok okM_canRun rfl) rfl (fun c1 => ?_) (fun c1 => ?_)
  ·
    have h1 : ¬ 2 ≤ k := fun q => nI_nlt (b := 2) q (by omega) (by rw [← hm]; exact c1)
    refine XV.run C okM_canRun 1 (q := (22, ([some (.ref (213))], [.int (0)]))) rfl ?_
    exact XV.iret C (xlk_ok okM_canRun rfl) hret (rfl) (Nat.le_of_ble_eq_true rfl) (Nat.le_of_ble_eq_true rfl) (⟨by rw [show canM g z k = false from decide_eq_false (fun q => by first | exact h1 q.1 | exact h2 q.2)]; rfl, rfl, rfl⟩)
  ·
    have h1 : 2 ≤ k := Nat.le_of_not_lt fun q => c1 (by rw [hm]; exact nI_lt (b := 2) q (by omega))
    refine XV.run C okM_canRun 1 (q := (11, ([some (.ref (213))], [.ref (213)]))) rfl ?_
    refine XV.callV C (As := []) (rest := []) (ci := 5) (ct_M_retired hfl hn (hm) hk (hz) z1 z2) (xlk_ok okM_canRun rfl) rfl (by omega) (by omega) rfl (mw_o) rfl wM_M_91 wI_M_retired wV_M_retired wN_M wB_M_retired hy_M_retired (fun q => q.elim) ⟨Nat.le_of_ble_eq_true rfl, Nat.le_of_ble_eq_true rfl⟩ ⟨Nat.le_of_ble_eq_true rfl, Nat.le_of_ble_eq_true rfl⟩ (Nat.le_of_ble_eq_true rfl) (fun r n h hp => ?_) (fun _ _ _ q => q.elim)
    obtain ⟨rfl, rfl, rfl⟩ := hp
    refine XV.if_ne C (tgt := 21) (xlk_ok okM_canRun rfl) rfl (fun c2 => ?_) (fun c2 => ?_)
    ·
      have h2 : ¬ retM g z k = 0 := fun q => c2 (by rw [q]; rfl)
      refine XV.run C okM_canRun 1 (q := (22, ([some (.ref (213))], [.int (0)]))) rfl ?_
      exact XV.iret C (xlk_ok okM_canRun rfl) hret (rfl) (Nat.le_of_ble_eq_true rfl) (Nat.le_of_ble_eq_true rfl) (⟨by rw [show canM g z k = false from decide_eq_false (fun q => by first | exact h1 q.1 | exact h2 q.2)]; rfl, rfl, rfl⟩)
    ·
      have h2 : retM g z k = 0 := (nI_eq (b := 0) (by omega) (by omega)).mp c2
      refine XV.run C okM_canRun 2 (q := (22, ([some (.ref (213))], [.int (1)]))) rfl ?_
      exact XV.iret C (xlk_ok okM_canRun rfl) hret (rfl) (Nat.le_of_ble_eq_true rfl) (Nat.le_of_ble_eq_true rfl) (⟨by rw [show canM g z k = true from decide_eq_true ⟨h1, h2⟩]; rfl, rfl, rfl⟩)
set_option maxHeartbeats 4000000 in
set_option maxRecDepth 100000 in
theorem ct_M_threads {l : Launch} (hfl : l.stackTraces = false) {G : XG} {n : Nat} {h : XH} {g pa tr mx td F : Nat → Int32} (hn : 215 ≤ n) {k : Nat} (hm : g 1 = nI k) (hk : k ≤ 5) (hl : ∀ i, i < k → 0 < rowOf g i 0) (B : Bool) : XCt l G False (Cond.code yM_threads bM_threads 4 (some .int)) yM_threads 2 48 0 0 [.ref (213), .int (if B then 1 else 0)] n (setM h g pa tr mx td F) (fun r' n' h' => r' = some (.int (sumRK g B k)) ∧ n' = n ∧ h' = setM h g pa tr mx td F) (fun _ _ _ => False) := by
  refine XCt.of hfl (by decide +kernel) (Nat.le_of_ble_eq_true rfl) ?_
  intro p' e' s' m' g' b' t' c' C hret hname hnt hmd
  refine XV.run C okM_threads 4 (q := (4, ([some (.ref (213)), some (.int (if B then 1 else 0)), some (.int (0)), some (.int (0))], []))) rfl ?_
  have loop : ∀ (d j : Nat), j + d = k → XV G 4 p' l e' ({ frames := 2, cells := 0, slots := 0, locals := 48 } : Room) s' m' g' b' t' c' (XEnd G b' (fun r' n' h' => r' = some (.int (sumRK g B k)) ∧ n' = n ∧ h' = setM h g pa tr mx td F) (fun _ _ _ => False) g' s' 0 0) 4 [some (.ref (213)), some (.int (if B then 1 else 0)), some (.int (sumRK g B j)), some (.int (nI j))] [] n (setM h g pa tr mx td F) 0 0 := by
    intro d
    induction d with
    | zero =>
      intro j hj
      refine XV.run C okM_threads 2 (q := (6, ([some (.ref (213)), some (.int (if B then 1 else 0)), some (.int (sumRK g B j)), some (.int (nI j))], [.ref (213), .int (nI j)]))) rfl ?_
      refine XV.getf C (ci := 5) (kf := 0) (v := .ref (214)) (xlk_ok okM_threads rfl) rfl (by decide) wF_M_7 (by omega) (by omega) (mw_o) rfl ?_
      refine XV.run C okM_threads 1 (q := (10, ([some (.ref (213)), some (.int (if B then 1 else 0)), some (.int (sumRK g B j)), some (.int (nI j))], [.int (1), .ref (214), .int (nI j)]))) rfl ?_
      refine XV.ialdC C (N := 505) (f := g) (a := 1) (xlk_ok okM_threads rfl) (by omega) (by omega) (mw_1) (rfl) (by decide) (by decide) ?_
      refine XV.icmp_ge C (tgt := 38) (xlk_ok okM_threads rfl) rfl (fun _ => ?_) (fun hc => absurd (by rw [hm]; exact nI_le (by omega) (by omega)) hc)
      refine XV.run C okM_threads 1 (q := (39, ([some (.ref (213)), some (.int (if B then 1 else 0)), some (.int (sumRK g B j)), some (.int (nI j))], [.int (sumRK g B j)]))) rfl ?_
      exact XV.iret C (xlk_ok okM_threads rfl) hret rfl (Nat.le_of_ble_eq_true rfl) (Nat.le_of_ble_eq_true rfl) (⟨by rw [show j = k by omega], rfl, rfl⟩)
    | succ d ih =>
      intro j hj
      refine XV.run C okM_threads 2 (q := (6, ([some (.ref (213)), some (.int (if B then 1 else 0)), some (.int (sumRK g B j)), some (.int (nI j))], [.ref (213), .int (nI j)]))) rfl ?_
      refine XV.getf C (ci := 5) (kf := 0) (v := .ref (214)) (xlk_ok okM_threads rfl) rfl (by decide) wF_M_7 (by omega) (by omega) (mw_o) rfl ?_
      refine XV.run C okM_threads 1 (q := (10, ([some (.ref (213)), some (.int (if B then 1 else 0)), some (.int (sumRK g B j)), some (.int (nI j))], [.int (1), .ref (214), .int (nI j)]))) rfl ?_
      refine XV.ialdC C (N := 505) (f := g) (a := 1) (xlk_ok okM_threads rfl) (by omega) (by omega) (mw_1) (rfl) (by decide) (by decide) ?_
      refine XV.icmp_ge C (tgt := 38) (xlk_ok okM_threads rfl) rfl (fun hc => absurd hc (by rw [hm]; exact nI_ge (by omega) (by omega))) (fun _ => ?_)
      refine XV.run C okM_threads 2 (q := (16, ([some (.ref (213)), some (.int (if B then 1 else 0)), some (.int (sumRK g B j)), some (.int (nI j))], [.ref (213), .int (sumRK g B j)]))) rfl ?_
      refine XV.getf C (ci := 5) (kf := 0) (v := .ref (214)) (xlk_ok okM_threads rfl) rfl (by decide) wF_M_7 (by omega) (by omega) (mw_o) rfl ?_
      refine XV.run C okM_threads 1 (q := (20, ([some (.ref (213)), some (.int (if B then 1 else 0)), some (.int (sumRK g B j)), some (.int (nI j))], [.int (nI j), .ref (214), .int (sumRK g B j)]))) rfl ?_
      refine XV.callS C (As := [.int (nI j)]) (rest := [.ref (214), .int (sumRK g B j)]) (ct_M_row hfl (i := j) (rfl)) (xlk_ok okM_threads rfl) rfl wM_M_59 wS_M_row wN_M wB_M_row hy_M_row (fun q => q.elim) ⟨Nat.le_of_ble_eq_true rfl, Nat.le_of_ble_eq_true rfl⟩ ⟨Nat.le_of_ble_eq_true rfl, Nat.le_of_ble_eq_true rfl⟩ (Nat.le_of_ble_eq_true rfl) (fun r n h hp => ?_) (fun _ _ _ q => q.elim)
      obtain ⟨rfl, rfl, rfl⟩ := hp
      refine XV.run C okM_threads 3 (q := (27, ([some (.ref (213)), some (.int (if B then 1 else 0)), some (.int (sumRK g B j)), some (.int (nI j))], [.int (if B then 1 else 0), .int (24), .int (0), .int (nI (10 + 99 * j)), .ref (214), .int (sumRK g B j)]))) rfl ?_
      refine XV.callS C (As := [.ref (214), .int (nI (10 + 99 * j)), .int (0), .int (24), .int (if B then 1 else 0)]) (rest := [.int (sumRK g B j)]) (ct_M_sumOf hfl (X := 10 + 99 * j) (mw_1) (by omega) (by omega) (by decide) (by omega) (i := 0) (v := 24) B (rfl) (rfl) (rfl) (by omega) (fun _ => ne_of_gt (hl j (by omega)))) (xlk_ok okM_threads rfl) rfl wM_M_48 wS_M_sumOf wN_M wB_M_sumOf hy_M_sumOf (fun q => q.elim) ⟨Nat.le_of_ble_eq_true rfl, Nat.le_of_ble_eq_true rfl⟩ ⟨Nat.le_of_ble_eq_true rfl, Nat.le_of_ble_eq_true rfl⟩ (Nat.le_of_ble_eq_true rfl) (fun r n h hp => ?_) (fun _ _ _ q => q.elim)
      obtain ⟨rfl, rfl, rfl⟩ := hp
      refine XV.run C okM_threads 4 (q := (4, ([some (.ref (213)), some (.int (if B then 1 else 0)), some (.int ((sumRK g B j) + (sumN (colR (atF g (10 + 99 * j)) B) 0 24))), some (.int ((nI j) + 1))], []))) rfl ?_
      rw [nI_1]
      have w2 := ih (j + 1) (by omega)
      rw [sumRK_s] at w2
      exact w2
  exact loop k 0 (by omega)
set_option maxHeartbeats 4000000 in
set_option maxRecDepth 100000 in
theorem ct_M_share {l : Launch} (hfl : l.stackTraces = false) {G : XG} {n : Nat} {h : XH} {g pa tr mx td F : Nat → Int32} (hn : 215 ≤ n) {k : Nat} (hm : g 1 = nI k) (hk : k ≤ 5) (hl : ∀ i, i < k → 0 < rowOf g i 0) (hdv : ¬ sumRK g true k = 0 → vf_n64 (FP.ddiv (FP.i2d (sumRK g false k)) (FP.i2d (sumRK g true k)))) : XCt l G False (Cond.code yM_share bM_share 2 (some .double)) yM_share 3 71 0 0 [.ref (213)] n (setM h g pa tr mx td F) (fun r' n' h' => r' = some (.double (shrK g k)) ∧ n' = n ∧ h' = setM h g pa tr mx td F) (fun _ _ _ => False) := by
  refine XCt.of hfl (by decide +kernel) (Nat.le_of_ble_eq_true rfl) ?_
  intro p' e' s' m' g' b' t' c' C hret hname hnt hmd
  refine XV.run C okM_share 2 (q := (2, ([some (.ref (213)), none], [.int (1), .ref (213)]))) rfl ?_
  refine XV.callV C (As := [.int (1)]) (rest := []) (ci := 5) (ct_M_threads hfl hn hm hk hl true) (xlk_ok okM_share rfl) rfl (by omega) (by omega) rfl (mw_o) rfl wM_M_145 wI_M_threads wV_M_threads wN_M wB_M_threads hy_M_threads (fun q => q.elim) ⟨Nat.le_of_ble_eq_true rfl, Nat.le_of_ble_eq_true rfl⟩ ⟨Nat.le_of_ble_eq_true rfl, Nat.le_of_ble_eq_true rfl⟩ (Nat.le_of_ble_eq_true rfl) (fun r n h hp => ?_) (fun _ _ _ q => q.elim)
  obtain ⟨rfl, rfl, rfl⟩ := hp
  refine XV.run C okM_share 2 (q := (7, ([some (.ref (213)), some (.int (sumRK g true k))], [.int (sumRK g true k)]))) rfl ?_
  refine XV.if_ne C (tgt := 14) (xlk_ok okM_share rfl) rfl (fun c1 => ?_) (fun c1 => ?_)
  ·
    refine XV.run C okM_share 2 (q := (16, ([some (.ref (213)), some (.int (sumRK g true k))], [.int (0), .ref (213)]))) rfl ?_
    refine XV.callV C (As := [.int (0)]) (rest := []) (ci := 5) (ct_M_threads hfl hn hm hk hl false) (xlk_ok okM_share rfl) rfl (by omega) (by omega) rfl (mw_o) rfl wM_M_145 wI_M_threads wV_M_threads wN_M wB_M_threads hy_M_threads (fun q => q.elim) ⟨Nat.le_of_ble_eq_true rfl, Nat.le_of_ble_eq_true rfl⟩ ⟨Nat.le_of_ble_eq_true rfl, Nat.le_of_ble_eq_true rfl⟩ (Nat.le_of_ble_eq_true rfl) (fun r n h hp => ?_) (fun _ _ _ q => q.elim)
    obtain ⟨rfl, rfl, rfl⟩ := hp
    refine XV.run C okM_share 3 (q := (22, ([some (.ref (213)), some (.int (sumRK g true k))], [.double (FP.i2d (sumRK g true k)), .double (FP.i2d (sumRK g false k))]))) rfl ?_
    refine XV.ddiv C (xlk_ok okM_share rfl) (hdv c1) ?_
    exact XV.dret C (xlk_ok okM_share rfl) hret (Nat.le_of_ble_eq_true rfl) (Nat.le_of_ble_eq_true rfl) (⟨by unfold shrK; first | rw [if_pos c1] | rw [if_neg c1], rfl, rfl⟩)
  ·
    refine XV.dconst1 C (xlk_ok okM_share rfl) ?_
    refine XV.run C okM_share 1 (q := (23, ([some (.ref (213)), some (.int (sumRK g true k))], [.double (FP.dconst1)]))) rfl ?_
    exact XV.dret C (xlk_ok okM_share rfl) hret (Nat.le_of_ble_eq_true rfl) (Nat.le_of_ble_eq_true rfl) (⟨by unfold shrK; first | rw [if_pos c1] | rw [if_neg c1], rfl, rfl⟩)
set_option maxHeartbeats 4000000 in
set_option maxRecDepth 100000 in
theorem ct_M_unseenIn {l : Launch} (hfl : l.stackTraces = false) {G : XG} {n : Nat} {h : XH} {g pa tr mx td F : Nat → Int32} (hn : 215 ≤ n) {k : Nat} (hm : g 1 = nI k) (hk : k ≤ 5) (hl : ∀ i, i < k → 0 < rowOf g i 0) {i : Nat} (hi : i < k) {x y u : Int32} {j v : Nat} (hx : x = nI i) (hy : y = nI j) (hu : u = nI v) (hjv : j + v ≤ 24) : XCt l G False (Cond.code yM_unseenIn bM_unseenIn 4 (some .int)) yM_unseenIn 2 48 0 0 [.ref (213), .int (x), .int (y), .int (u)] n (setM h g pa tr mx td F) (fun r' n' h' => r' = some (.int (unc (rowOf g i) v j)) ∧ n' = n ∧ h' = setM h g pa tr mx td F) (fun _ _ _ => False) := by
  subst hx; subst hy; subst hu
  refine XCt.of hfl (by decide +kernel) (Nat.le_of_ble_eq_true rfl) ?_
  intro p' e' s' m' g' b' t' c' C hret hname hnt hmd
  refine XV.run C okM_unseenIn 1 (q := (1, ([some (.ref (213)), some (.int (nI i)), some (.int (nI j)), some (.int (nI v))], [.ref (213)]))) rfl ?_
  refine XV.getf C (ci := 5) (kf := 0) (v := .ref (214)) (xlk_ok okM_unseenIn rfl) rfl (by decide) wF_M_7 (by omega) (by omega) (mw_o) rfl ?_
  refine XV.run C okM_unseenIn 1 (q := (5, ([some (.ref (213)), some (.int (nI i)), some (.int (nI j)), some (.int (nI v))], [.int (nI i), .ref (214)]))) rfl ?_
  refine XV.callS C (As := [.int (nI i)]) (rest := [.ref (214)]) (ct_M_row hfl (i := i) (rfl)) (xlk_ok okM_unseenIn rfl) rfl wM_M_59 wS_M_row wN_M wB_M_row hy_M_row (fun q => q.elim) ⟨Nat.le_of_ble_eq_true rfl, Nat.le_of_ble_eq_true rfl⟩ ⟨Nat.le_of_ble_eq_true rfl, Nat.le_of_ble_eq_true rfl⟩ (Nat.le_of_ble_eq_true rfl) (fun r n h hp => ?_) (fun _ _ _ q => q.elim)
  obtain ⟨rfl, rfl, rfl⟩ := hp
  refine XV.run C okM_unseenIn 3 (q := (11, ([some (.ref (213)), some (.int (nI i)), some (.int (nI j)), some (.int (nI v))], [.int (1), .int (nI v), .int (nI j), .int (nI (10 + 99 * i)), .ref (214)]))) rfl ?_
  refine XV.callS C (As := [.ref (214), .int (nI (10 + 99 * i)), .int (nI j), .int (nI v), .int (1)]) (rest := []) (ct_M_sumOf hfl (X := 10 + 99 * i) (mw_1) (by omega) (by omega) (by decide) (by omega) (i := j) (v := v) true (rfl) (rfl) (rfl) (by omega) (fun _ => ne_of_gt (hl i hi))) (xlk_ok okM_unseenIn rfl) rfl wM_M_48 wS_M_sumOf wN_M wB_M_sumOf hy_M_sumOf (fun q => q.elim) ⟨Nat.le_of_ble_eq_true rfl, Nat.le_of_ble_eq_true rfl⟩ ⟨Nat.le_of_ble_eq_true rfl, Nat.le_of_ble_eq_true rfl⟩ (Nat.le_of_ble_eq_true rfl) (fun r n h hp => ?_) (fun _ _ _ q => q.elim)
  obtain ⟨rfl, rfl, rfl⟩ := hp
  refine XV.run C okM_unseenIn 1 (q := (15, ([some (.ref (213)), some (.int (nI i)), some (.int (nI j)), some (.int (nI v))], [.ref (213), .int (sumN (colR (atF g (10 + 99 * i)) true) j v)]))) rfl ?_
  refine XV.getf C (ci := 5) (kf := 0) (v := .ref (214)) (xlk_ok okM_unseenIn rfl) rfl (by decide) wF_M_7 (by omega) (by omega) (mw_o) rfl ?_
  refine XV.run C okM_unseenIn 1 (q := (19, ([some (.ref (213)), some (.int (nI i)), some (.int (nI j)), some (.int (nI v))], [.int (nI i), .ref (214), .int (sumN (colR (atF g (10 + 99 * i)) true) j v)]))) rfl ?_
  refine XV.callS C (As := [.int (nI i)]) (rest := [.ref (214), .int (sumN (colR (atF g (10 + 99 * i)) true) j v)]) (ct_M_row hfl (i := i) (rfl)) (xlk_ok okM_unseenIn rfl) rfl wM_M_59 wS_M_row wN_M wB_M_row hy_M_row (fun q => q.elim) ⟨Nat.le_of_ble_eq_true rfl, Nat.le_of_ble_eq_true rfl⟩ ⟨Nat.le_of_ble_eq_true rfl, Nat.le_of_ble_eq_true rfl⟩ (Nat.le_of_ble_eq_true rfl) (fun r n h hp => ?_) (fun _ _ _ q => q.elim)
  obtain ⟨rfl, rfl, rfl⟩ := hp
  refine XV.run C okM_unseenIn 3 (q := (25, ([some (.ref (213)), some (.int (nI i)), some (.int (nI j)), some (.int (nI v))], [.int (0), .int (nI v), .int (nI j), .int (nI (10 + 99 * i)), .ref (214), .int (sumN (colR (atF g (10 + 99 * i)) true) j v)]))) rfl ?_
  refine XV.callS C (As := [.ref (214), .int (nI (10 + 99 * i)), .int (nI j), .int (nI v), .int (0)]) (rest := [.int (sumN (colR (atF g (10 + 99 * i)) true) j v)]) (ct_M_sumOf hfl (X := 10 + 99 * i) (mw_1) (by omega) (by omega) (by decide) (by omega) (i := j) (v := v) false (rfl) (rfl) (rfl) (by omega) (fun q => Bool.noConfusion q)) (xlk_ok okM_unseenIn rfl) rfl wM_M_48 wS_M_sumOf wN_M wB_M_sumOf hy_M_sumOf (fun q => q.elim) ⟨Nat.le_of_ble_eq_true rfl, Nat.le_of_ble_eq_true rfl⟩ ⟨Nat.le_of_ble_eq_true rfl, Nat.le_of_ble_eq_true rfl⟩ (Nat.le_of_ble_eq_true rfl) (fun r n h hp => ?_) (fun _ _ _ q => q.elim)
  obtain ⟨rfl, rfl, rfl⟩ := hp
  refine XV.run C okM_unseenIn 1 (q := (29, ([some (.ref (213)), some (.int (nI i)), some (.int (nI j)), some (.int (nI v))], [.int ((sumN (colR (atF g (10 + 99 * i)) true) j v) - (sumN (colR (atF g (10 + 99 * i)) false) j v))]))) rfl ?_
  exact XV.iret C (xlk_ok okM_unseenIn rfl) hret rfl (Nat.le_of_ble_eq_true rfl) (Nat.le_of_ble_eq_true rfl) (⟨rfl, rfl, rfl⟩)
set_option maxHeartbeats 4000000 in
set_option maxRecDepth 100000 in
theorem ct_M_best {l : Launch} (hfl : l.stackTraces = false) {G : XG} {n : Nat} {h : XH} {g pa tr mx td F : Nat → Int32} (hn : 215 ≤ n) {k : Nat} (hm : g 1 = nI k) (hk : k ≤ 5) (hl : ∀ i, i < k → 0 < rowOf g i 0) {i : Nat} (hi : i < k) {x y : Int32} {v : Nat} (hx : x = nI i) (hy : y = nI v) (v1 : 1 ≤ v) (v2 : v ≤ 24) : XCt l G False (Cond.code yM_best bM_best 5 (some .int)) yM_best 3 71 0 0 [.ref (213), .int (x), .int (y)] n (setM h g pa tr mx td F) (fun r' n' h' => r' = some (.int (nI (bestI (rowOf g i) v))) ∧ n' = n ∧ h' = setM h g pa tr mx td F) (fun _ _ _ => False) := by
  subst hx; subst hy
  refine XCt.of hfl (by decide +kernel) (Nat.le_of_ble_eq_true rfl) ?_
  intro p' e' s' m' g' b' t' c' C hret hname hnt hmd
  refine XV.run C okM_best 4 (q := (5, ([some (.ref (213)), some (.int (nI i)), some (.int (nI v)), some (.int (0)), some (.int (1))], []))) rfl ?_
  have loop : ∀ (d c : Nat), c + d = 24 - v → XV G 5 p' l e' ({ frames := 3, cells := 0, slots := 0, locals := 71 } : Room) s' m' g' b' t' c' (XEnd G b' (fun r' n' h' => r' = some (.int (nI (bestI (rowOf g i) v))) ∧ n' = n ∧ h' = setM h g pa tr mx td F) (fun _ _ _ => False) g' s' 0 0) 5 [some (.ref (213)), some (.int (nI i)), some (.int (nI v)), some (.int (nI (amax (unc (rowOf g i) v) c))), some (.int (nI (c + 1)))] [] n (setM h g pa tr mx td F) 0 0 := by
    intro d
    induction d with
    | zero =>
      intro c hc
      refine XV.run C okM_best 4 (q := (11, ([some (.ref (213)), some (.int (nI i)), some (.int (nI v)), some (.int (nI (amax (unc (rowOf g i) v) c))), some (.int (nI (c + 1)))], [.int (24), .int ((nI (c + 1)) + (nI v))]))) rfl ?_
      refine XV.icmp_gt C (tgt := 45) (xlk_ok okM_best rfl) rfl (fun _ => ?_) (fun hc => absurd (by rw [nI_add]; exact nI_lt (a := 24) (by omega) (by omega)) hc)
      refine XV.run C okM_best 1 (q := (46, ([some (.ref (213)), some (.int (nI i)), some (.int (nI v)), some (.int (nI (amax (unc (rowOf g i) v) c))), some (.int (nI (c + 1)))], [.int (nI (amax (unc (rowOf g i) v) c))]))) rfl ?_
      exact XV.iret C (xlk_ok okM_best rfl) hret rfl (Nat.le_of_ble_eq_true rfl) (Nat.le_of_ble_eq_true rfl) (⟨by rw [show c = 24 - v by omega]; rfl, rfl, rfl⟩)
    | succ d ih =>
      intro c hc
      have hak := amax_le (unc (rowOf g i) v) c
      refine XV.run C okM_best 4 (q := (11, ([some (.ref (213)), some (.int (nI i)), some (.int (nI v)), some (.int (nI (amax (unc (rowOf g i) v) c))), some (.int (nI (c + 1)))], [.int (24), .int ((nI (c + 1)) + (nI v))]))) rfl ?_
      refine XV.icmp_gt C (tgt := 45) (xlk_ok okM_best rfl) rfl (fun hc => absurd hc (by rw [nI_add]; exact nI_nlt (b := c + 1 + v) (a := 24) (by omega) (by omega))) (fun _ => ?_)
      refine XV.run C okM_best 4 (q := (19, ([some (.ref (213)), some (.int (nI i)), some (.int (nI v)), some (.int (nI (amax (unc (rowOf g i) v) c))), some (.int (nI (c + 1)))], [.int (nI v), .int (nI (c + 1)), .int (nI i), .ref (213)]))) rfl ?_
      refine XV.callV C (As := [.int (nI i), .int (nI (c + 1)), .int (nI v)]) (rest := []) (ci := 5) (ct_M_unseenIn hfl hn hm hk hl (i := i) hi (j := c + 1) (v := v) rfl rfl rfl (by omega)) (xlk_ok okM_best rfl) rfl (by omega) (by omega) rfl (mw_o) rfl wM_M_159 wI_M_unseenIn wV_M_unseenIn wN_M wB_M_unseenIn hy_M_unseenIn (fun q => q.elim) ⟨Nat.le_of_ble_eq_true rfl, Nat.le_of_ble_eq_true rfl⟩ ⟨Nat.le_of_ble_eq_true rfl, Nat.le_of_ble_eq_true rfl⟩ (Nat.le_of_ble_eq_true rfl) (fun r n h hp => ?_) (fun _ _ _ q => q.elim)
      obtain ⟨rfl, rfl, rfl⟩ := hp
      refine XV.run C okM_best 4 (q := (26, ([some (.ref (213)), some (.int (nI i)), some (.int (nI v)), some (.int (nI (amax (unc (rowOf g i) v) c))), some (.int (nI (c + 1)))], [.int (nI v), .int (nI (amax (unc (rowOf g i) v) c)), .int (nI i), .ref (213), .int (unc (rowOf g i) v (c + 1))]))) rfl ?_
      refine XV.callV C (As := [.int (nI i), .int (nI (amax (unc (rowOf g i) v) c)), .int (nI v)]) (rest := [.int (unc (rowOf g i) v (c + 1))]) (ci := 5) (ct_M_unseenIn hfl hn hm hk hl (i := i) hi (j := amax (unc (rowOf g i) v) c) (v := v) rfl rfl rfl (by omega)) (xlk_ok okM_best rfl) rfl (by omega) (by omega) rfl (mw_o) rfl wM_M_159 wI_M_unseenIn wV_M_unseenIn wN_M wB_M_unseenIn hy_M_unseenIn (fun q => q.elim) ⟨Nat.le_of_ble_eq_true rfl, Nat.le_of_ble_eq_true rfl⟩ ⟨Nat.le_of_ble_eq_true rfl, Nat.le_of_ble_eq_true rfl⟩ (Nat.le_of_ble_eq_true rfl) (fun r n h hp => ?_) (fun _ _ _ q => q.elim)
      obtain ⟨rfl, rfl, rfl⟩ := hp
      refine XV.icmp_le C (tgt := 37) (xlk_ok okM_best rfl) rfl (fun c1 => ?_) (fun c1 => ?_)
      ·
        have e : amax (unc (rowOf g i) v) (c + 1) = amax (unc (rowOf g i) v) c := if_neg (i_nlt c1)
        refine XV.run C okM_best 4 (q := (5, ([some (.ref (213)), some (.int (nI i)), some (.int (nI v)), some (.int (nI (amax (unc (rowOf g i) v) c))), some (.int ((nI (c + 1)) + 1))], []))) rfl ?_
        rw [nI_1]
        have w2 := ih (c + 1) (by omega)
        rw [e] at w2
        exact w2
      ·
        have e : amax (unc (rowOf g i) v) (c + 1) = c + 1 := if_pos (i_lt c1)
        refine XV.run C okM_best 5 (q := (5, ([some (.ref (213)), some (.int (nI i)), some (.int (nI v)), some (.int (nI (c + 1))), some (.int ((nI (c + 1)) + 1))], []))) rfl ?_
        rw [nI_1]
        have w2 := ih (c + 1) (by omega)
        rw [e] at w2
        exact w2
  exact loop (24 - v) 0 (by omega)
def lefM (g r : Nat → Int32) : Nat → Int32 := fun s => r (75 + s) + g 6 + 1 - g 0
def mleM (g r : Nat → Int32) : Int32 := if omn (lefM g r) 24 < 0 then 0 else omn (lefM g r) 24
set_option maxHeartbeats 4000000 in
set_option maxRecDepth 100000 in
theorem ct_M_monthsLeft {l : Launch} (hfl : l.stackTraces = false) {G : XG} {n : Nat} {h : XH} {g pa tr mx td F : Nat → Int32} (hn : 215 ≤ n) {i : Nat} (hi : i < 5) {x : Int32} (hx : x = nI i) : XCt l G False (Cond.code yM_monthsLeft bM_monthsLeft 5 (some .int)) yM_monthsLeft 1 20 0 0 [.ref (213), .int (x)] n (setM h g pa tr mx td F) (fun r' n' h' => r' = some (.int (mleM g (rowOf g i))) ∧ n' = n ∧ h' = setM h g pa tr mx td F) (fun _ _ _ => False) := by
  subst hx
  refine XCt.of hfl (by decide +kernel) (Nat.le_of_ble_eq_true rfl) ?_
  intro p' e' s' m' g' b' t' c' C hret hname hnt hmd
  refine XV.run C okM_monthsLeft 4 (q := (6, ([some (.ref (213)), some (.int (nI i)), some (.int (2000)), some (.int (0)), none], []))) rfl ?_
  have loop : ∀ (d j : Nat), j + d = 24 → XV G 5 p' l e' ({ frames := 1, cells := 0, slots := 0, locals := 20 } : Room) s' m' g' b' t' c' (XEnd G b' (fun r' n' h' => r' = some (.int (mleM g (rowOf g i))) ∧ n' = n ∧ h' = setM h g pa tr mx td F) (fun _ _ _ => False) g' s' 0 0) 6 [some (.ref (213)), some (.int (nI i)), some (.int (omn (lefM g (rowOf g i)) j)), some (.int (nI j)), none] [] n (setM h g pa tr mx td F) 0 0 := by
    intro d
    induction d with
    | zero =>
      intro j hj
      refine XV.run C okM_monthsLeft 2 (q := (9, ([some (.ref (213)), some (.int (nI i)), some (.int (omn (lefM g (rowOf g i)) j)), some (.int (nI j)), none], [.int (24), .int (nI j)]))) rfl ?_
      refine XV.icmp_ge C (tgt := 64) (xlk_ok okM_monthsLeft rfl) rfl (fun _ => ?_) (fun hc => absurd (nI_le (a := 24) (by omega) (by omega)) hc)
      obtain rfl : 24 = j := by omega
      refine XV.run C okM_monthsLeft 1 (q := (65, ([some (.ref (213)), some (.int (nI i)), some (.int (omn (lefM g (rowOf g i)) 24)), some (.int (nI 24)), none], [.int (omn (lefM g (rowOf g i)) 24)]))) rfl ?_
      refine XV.if_ge C (tgt := 72) (xlk_ok okM_monthsLeft rfl) rfl (fun c2 => ?_) (fun c2 => ?_)
      ·
        refine XV.run C okM_monthsLeft 1 (q := (73, ([some (.ref (213)), some (.int (nI i)), some (.int (omn (lefM g (rowOf g i)) 24)), some (.int (nI 24)), none], [.int (omn (lefM g (rowOf g i)) 24)]))) rfl ?_
        exact XV.iret C (xlk_ok okM_monthsLeft rfl) hret rfl (Nat.le_of_ble_eq_true rfl) (Nat.le_of_ble_eq_true rfl) (⟨by unfold mleM; first | rw [if_pos (Int32.not_le.mp c2)] | rw [if_neg (Int32.not_lt.mpr c2)], rfl, rfl⟩)
      ·
        refine XV.run C okM_monthsLeft 2 (q := (73, ([some (.ref (213)), some (.int (nI i)), some (.int (omn (lefM g (rowOf g i)) 24)), some (.int (nI 24)), none], [.int (0)]))) rfl ?_
        exact XV.iret C (xlk_ok okM_monthsLeft rfl) hret rfl (Nat.le_of_ble_eq_true rfl) (Nat.le_of_ble_eq_true rfl) (⟨by unfold mleM; first | rw [if_pos (Int32.not_le.mp c2)] | rw [if_neg (Int32.not_lt.mpr c2)], rfl, rfl⟩)
    | succ d ih =>
      intro j hj
      refine XV.run C okM_monthsLeft 2 (q := (9, ([some (.ref (213)), some (.int (nI i)), some (.int (omn (lefM g (rowOf g i)) j)), some (.int (nI j)), none], [.int (24), .int (nI j)]))) rfl ?_
      refine XV.icmp_ge C (tgt := 64) (xlk_ok okM_monthsLeft rfl) rfl (fun hc => absurd hc (nI_ge (b := 24) (by omega) (by omega))) (fun _ => ?_)
      refine XV.run C okM_monthsLeft 1 (q := (13, ([some (.ref (213)), some (.int (nI i)), some (.int (omn (lefM g (rowOf g i)) j)), some (.int (nI j)), none], [.ref (213)]))) rfl ?_
      refine XV.getf C (ci := 5) (kf := 0) (v := .ref (214)) (xlk_ok okM_monthsLeft rfl) rfl (by decide) wF_M_7 (by omega) (by omega) (mw_o) rfl ?_
      refine XV.run C okM_monthsLeft 1 (q := (17, ([some (.ref (213)), some (.int (nI i)), some (.int (omn (lefM g (rowOf g i)) j)), some (.int (nI j)), none], [.int (nI i), .ref (214)]))) rfl ?_
      refine XV.callS C (As := [.int (nI i)]) (rest := [.ref (214)]) (ct_M_row hfl (i := i) (rfl)) (xlk_ok okM_monthsLeft rfl) rfl wM_M_59 wS_M_row wN_M wB_M_row hy_M_row (fun q => q.elim) ⟨Nat.le_of_ble_eq_true rfl, Nat.le_of_ble_eq_true rfl⟩ ⟨Nat.le_of_ble_eq_true rfl, Nat.le_of_ble_eq_true rfl⟩ (Nat.le_of_ble_eq_true rfl) (fun r n h hp => ?_) (fun _ _ _ q => q.elim)
      obtain ⟨rfl, rfl, rfl⟩ := hp
      refine XV.run C okM_monthsLeft 4 (q := (25, ([some (.ref (213)), some (.int (nI i)), some (.int (omn (lefM g (rowOf g i)) j)), some (.int (nI j)), none], [.int (((nI (10 + 99 * i)) + 75) + (nI j)), .ref (214)]))) rfl ?_
      refine XV.ialdC C (N := 505) (f := g) (a := (10 + 99 * i + (75 + j))) (xlk_ok okM_monthsLeft rfl) (by omega) (by omega) (mw_1) (ix3 (10 + 99 * i) j (d := 75) rfl) (by omega) (by decide) ?_
      refine XV.run C okM_monthsLeft 1 (q := (27, ([some (.ref (213)), some (.int (nI i)), some (.int (omn (lefM g (rowOf g i)) j)), some (.int (nI j)), none], [.ref (213), .int (g (10 + 99 * i + (75 + j)))]))) rfl ?_
      refine XV.getf C (ci := 5) (kf := 0) (v := .ref (214)) (xlk_ok okM_monthsLeft rfl) rfl (by decide) wF_M_7 (by omega) (by omega) (mw_o) rfl ?_
      refine XV.run C okM_monthsLeft 1 (q := (32, ([some (.ref (213)), some (.int (nI i)), some (.int (omn (lefM g (rowOf g i)) j)), some (.int (nI j)), none], [.int (6), .ref (214), .int (g (10 + 99 * i + (75 + j)))]))) rfl ?_
      refine XV.ialdC C (N := 505) (f := g) (a := 6) (xlk_ok okM_monthsLeft rfl) (by omega) (by omega) (mw_1) (rfl) (by decide) (by decide) ?_
      refine XV.run C okM_monthsLeft 4 (q := (37, ([some (.ref (213)), some (.int (nI i)), some (.int (omn (lefM g (rowOf g i)) j)), some (.int (nI j)), none], [.ref (213), .int (((g (10 + 99 * i + (75 + j))) + (g 6)) + 1)]))) rfl ?_
      refine XV.getf C (ci := 5) (kf := 0) (v := .ref (214)) (xlk_ok okM_monthsLeft rfl) rfl (by decide) wF_M_7 (by omega) (by omega) (mw_o) rfl ?_
      refine XV.run C okM_monthsLeft 1 (q := (41, ([some (.ref (213)), some (.int (nI i)), some (.int (omn (lefM g (rowOf g i)) j)), some (.int (nI j)), none], [.int (0), .ref (214), .int (((g (10 + 99 * i + (75 + j))) + (g 6)) + 1)]))) rfl ?_
      refine XV.ialdC C (N := 505) (f := g) (a := 0) (xlk_ok okM_monthsLeft rfl) (by omega) (by omega) (mw_1) (rfl) (by decide) (by decide) ?_
      refine XV.run C okM_monthsLeft 4 (q := (48, ([some (.ref (213)), some (.int (nI i)), some (.int (omn (lefM g (rowOf g i)) j)), some (.int (nI j)), some (.int ((((g (10 + 99 * i + (75 + j))) + (g 6)) + 1) - (g 0)))], [.int (omn (lefM g (rowOf g i)) j), .int ((((g (10 + 99 * i + (75 + j))) + (g 6)) + 1) - (g 0))]))) rfl ?_
      refine XV.icmp_ge C (tgt := 56) (xlk_ok okM_monthsLeft rfl) rfl (fun c1 => ?_) (fun c1 => ?_)
      ·
        have e : omn (lefM g (rowOf g i)) (j + 1) = omn (lefM g (rowOf g i)) j := if_neg (i_nlt c1)
        refine XV.run C okM_monthsLeft 4 (q := (6, ([some (.ref (213)), some (.int (nI i)), some (.int (omn (lefM g (rowOf g i)) j)), some (.int ((nI j) + 1)), some (.int ((((g (10 + 99 * i + (75 + j))) + (g 6)) + 1) - (g 0)))], []))) rfl ?_
        rw [nI_1]
        have w2 := ih (j + 1) (by omega)
        rw [e] at w2
        exact XV.drop w2 rfl (by simp [xle]; try rfl)
      ·
        have e : omn (lefM g (rowOf g i)) (j + 1) = lefM g (rowOf g i) j := if_pos (i_lt c1)
        refine XV.run C okM_monthsLeft 5 (q := (6, ([some (.ref (213)), some (.int (nI i)), some (.int ((((g (10 + 99 * i + (75 + j))) + (g 6)) + 1) - (g 0))), some (.int ((nI j) + 1)), some (.int ((((g (10 + 99 * i + (75 + j))) + (g 6)) + 1) - (g 0)))], []))) rfl ?_
        rw [nI_1]
        have w2 := ih (j + 1) (by omega)
        rw [e] at w2
        exact XV.drop w2 rfl (by simp [xle]; try rfl)
  exact loop 24 0 (by omega)
