/-! RopeThreadsModel: the text -/
def atK (mx : Nat → Int32) (len a : Nat) (lo hi : Int32) : Bool := decide (a < len) && inK (mx a) lo hi
theorem atK_lt {mx : Nat → Int32} {len a : Nat} {lo hi : Int32} (h : atK mx len a lo hi = true) : a < len := by
  unfold atK at h
  rw [Bool.and_eq_true] at h
  exact of_decide_eq_true h.1
def flt (len a : Nat) : Int32 := if a < len then 1 else 0
/-- what the reading of a text leaves of the fields but of the place, the fault and the parts -/
def TF (F F' : Nat → Int32) (a : Nat) : Prop := F' 7 = nI a ∧ F' 5 = F 5 ∧ F' 2 = F 2 ∧ F' 6 = F 6 ∧ F' 10 = F 10
def oftM (mx : Nat → Int32) (len a : Nat) : Bool × (Nat × Int32) :=
  if atK mx len a 49 57 then (if atK mx len (a + 1) 48 57 then (decide (1 < 10 * (mx a - 48) + mx (a + 1) - 48), (a + 2, 10 * (mx a - 48) + mx (a + 1) - 48)) else (decide (1 < mx a - 48), (a + 1, mx a - 48))) else (false, (a, 0))
def partM (mx : Nat → Int32) (len a t : Nat) (td : Nat → Int32) : Bool × (Nat × (Nat → Int32)) :=
  if atK mx len a 48 55 then
    if atK mx len (a + 1) 45 45 then
      if atK mx len (a + 2) 48 55 then
        if atK mx len (a + 3) 42 42 then ((oftM mx len (a + 4)).1, ((oftM mx len (a + 4)).2.1, upd (upd (upd (upd td (3 * t + 2) 1) (3 * t + 0) (mx a - 48)) (3 * t + 1) (mx (a + 2) - 48)) (3 * t + 2) (oftM mx len (a + 4)).2.2))
        else (true, (a + 3, upd (upd (upd td (3 * t + 2) 1) (3 * t + 0) (mx a - 48)) (3 * t + 1) (mx (a + 2) - 48)))
      else (false, (a + 2, td))
    else (false, (a + 1, td))
  else (false, (a, td))
def txM (mx : Nat → Int32) (len : Nat) : Nat → Nat → Nat → (Nat → Int32) → Bool × (Nat × (Nat × (Nat → Int32)))
  | 0, a, t, td => (false, (a, (t, td)))
  | d + 1, a, t, td => if (partM mx len a t td).1 then
      (if atK mx len (partM mx len a t td).2.1 59 59 then txM mx len d ((partM mx len a t td).2.1 + 1) (t + 1) (partM mx len a t td).2.2
       else (decide ((partM mx len a t td).2.1 = len), ((partM mx len a t td).2.1, (t + 1, (partM mx len a t td).2.2))))
      else (false, ((partM mx len a t td).2.1, (t, td)))
theorem oftM_le {mx : Nat → Int32} {len a : Nat} (h : a ≤ len) : a ≤ (oftM mx len a).2.1 ∧ (oftM mx len a).2.1 ≤ len := by
  unfold oftM
  split
  · rename_i h1
    have := atK_lt h1
    split
    · rename_i h2
      have := atK_lt h2
      exact ⟨by show a ≤ a + 2; omega, by show a + 2 ≤ len; omega⟩
    · exact ⟨by show a ≤ a + 1; omega, by show a + 1 ≤ len; omega⟩
  · exact ⟨Nat.le_refl a, h⟩
theorem partM_le {mx : Nat → Int32} {len a t : Nat} {td : Nat → Int32} (h : a ≤ len) : (partM mx len a t td).2.1 ≤ len ∧ ((partM mx len a t td).1 = true → a + 3 ≤ (partM mx len a t td).2.1) := by
  unfold partM
  split
  · rename_i h1
    have := atK_lt h1
    split
    · rename_i h2
      have := atK_lt h2
      split
      · rename_i h3
        have := atK_lt h3
        split
        · rename_i h4
          have := atK_lt h4
          have := oftM_le (mx := mx) (len := len) (a := a + 4) (by omega)
          exact ⟨this.2, fun _ => by show a + 3 ≤ (oftM mx len (a + 4)).2.1; omega⟩
        · exact ⟨by show a + 3 ≤ len; omega, fun _ => Nat.le_refl _⟩
      · exact ⟨by show a + 2 ≤ len; omega, fun q => Bool.noConfusion q⟩
    · exact ⟨by show a + 1 ≤ len; omega, fun q => Bool.noConfusion q⟩
  · exact ⟨h, fun q => Bool.noConfusion q⟩
set_option maxHeartbeats 4000000 in
set_option maxRecDepth 100000 in
theorem ct_M_isAt {l : Launch} (hfl : l.stackTraces = false) {G : XG} {n : Nat} {h : XH} {g pa tr mx td F : Nat → Int32} (hn : 215 ≤ n) {len a : Nat} (h5 : F 5 = nI len) (h7 : F 7 = nI a) (ha : a ≤ len) (hl6 : len ≤ 60) (x y : Int32) : XCt l G False (Cond.code yM_isAt bM_isAt 3 (some .boolean)) yM_isAt 1 22 0 0 [.ref (213), .int (x), .int (y)] n (setM h g pa tr mx td F) (fun r' n' h' => r' = some (.int (if atK mx len a x y then 1 else 0)) ∧ n' = n ∧ h' = setM h g pa tr mx td F) (fun _ _ _ => False) := by
  refine XCt.of hfl (by decide +kernel) (Nat.le_of_ble_eq_true rfl) ?_
  intro p' e' s' m' g' b' t' c' C hret hname hnt hmd
  refine XV.run C okM_isAt 1 (q := (1, ([some (.ref (213)), some (.int (x)), some (.int (y))], [.ref (213)]))) rfl ?_
  refine XV.getf C (ci := 5) (kf := 7) (v := .int (F 7)) (xlk_ok okM_isAt rfl) rfl (by decide) wF_M_106 (by omega) (by omega) (mw_o) rfl ?_
  refine XV.run C okM_isAt 1 (q := (5, ([some (.ref (213)), some (.int (x)), some (.int (y))], [.ref (213), .int (F 7)]))) rfl ?_
  refine XV.getf C (ci := 5) (kf := 5) (v := .int (F 5)) (xlk_ok okM_isAt rfl) rfl (by decide) wF_M_103 (by omega) (by omega) (mw_o) rfl ?_
  refine XV.icmp_ge C (tgt := 32) (xlk_ok okM_isAt rfl) rfl (fun c1 => ?_) (fun c1 => ?_)
  ·
    have e : atK mx len a x y = false := by
      unfold atK
      rw [decide_eq_false (fun q => by rw [h5, h7] at c1; exact absurd c1 (nI_ge q (by omega)))]
      rfl
    refine XV.run C okM_isAt 1 (q := (33, ([some (.ref (213)), some (.int (x)), some (.int (y))], [.int (0)]))) rfl ?_
    exact XV.iret C (xlk_ok okM_isAt rfl) hret (rfl) (Nat.le_of_ble_eq_true rfl) (Nat.le_of_ble_eq_true rfl) (⟨by rw [e]; rfl, rfl, rfl⟩)
  ·
    have hal : a < len := Nat.lt_of_not_le fun q => c1 (by rw [h5, h7]; exact nI_le q (by omega))
    refine XV.run C okM_isAt 1 (q := (12, ([some (.ref (213)), some (.int (x)), some (.int (y))], [.ref (213)]))) rfl ?_
    refine XV.getf C (ci := 5) (kf := 4) (v := .ref (217)) (xlk_ok okM_isAt rfl) rfl (by decide) wF_M_19 (by omega) (by omega) (mw_o) rfl ?_
    refine XV.run C okM_isAt 1 (q := (16, ([some (.ref (213)), some (.int (x)), some (.int (y))], [.ref (213), .ref (217)]))) rfl ?_
    refine XV.getf C (ci := 5) (kf := 7) (v := .int (F 7)) (xlk_ok okM_isAt rfl) rfl (by decide) wF_M_106 (by omega) (by omega) (mw_o) rfl ?_
    refine XV.ialdC C (N := 60) (f := mx) (a := a) (xlk_ok okM_isAt rfl) (by omega) (by omega) (mw_4) (h7) (by omega) (by decide) ?_
    refine XV.run C okM_isAt 2 (q := (22, ([some (.ref (213)), some (.int (x)), some (.int (y))], [.int (y), .int (x), .int (mx a)]))) rfl ?_
    refine XV.callS C (As := [.int (mx a), .int (x), .int (y)]) (rest := []) (ct_M_in hfl (mx a) (x) (y)) (xlk_ok okM_isAt rfl) rfl wM_M_29 wS_M_in wN_M wB_M_in hy_M_in (fun q => q.elim) ⟨Nat.le_of_ble_eq_true rfl, Nat.le_of_ble_eq_true rfl⟩ ⟨Nat.le_of_ble_eq_true rfl, Nat.le_of_ble_eq_true rfl⟩ (Nat.le_of_ble_eq_true rfl) (fun r n h hp => ?_) (fun _ _ _ q => q.elim)
    obtain ⟨rfl, rfl, rfl⟩ := hp
    refine XV.if_eq C (tgt := 32) (xlk_ok okM_isAt rfl) rfl (fun c2 => ?_) (fun c2 => ?_)
    ·
      have e : atK mx len a x y = false := by unfold atK; rw [decide_eq_true hal, if1_0 c2]; rfl
      refine XV.run C okM_isAt 1 (q := (33, ([some (.ref (213)), some (.int (x)), some (.int (y))], [.int (0)]))) rfl ?_
      exact XV.iret C (xlk_ok okM_isAt rfl) hret (rfl) (Nat.le_of_ble_eq_true rfl) (Nat.le_of_ble_eq_true rfl) (⟨by rw [e]; rfl, rfl, rfl⟩)
    ·
      have e : atK mx len a x y = true := by unfold atK; rw [decide_eq_true hal, if1_1 c2]; rfl
      refine XV.run C okM_isAt 2 (q := (33, ([some (.ref (213)), some (.int (x)), some (.int (y))], [.int (1)]))) rfl ?_
      exact XV.iret C (xlk_ok okM_isAt rfl) hret (rfl) (Nat.le_of_ble_eq_true rfl) (Nat.le_of_ble_eq_true rfl) (⟨by rw [e]; rfl, rfl, rfl⟩)
set_option maxHeartbeats 4000000 in
set_option maxRecDepth 100000 in
theorem ct_M_stops {l : Launch} (hfl : l.stackTraces = false) {G : XG} {n : Nat} {h : XH} {g pa tr mx td F : Nat → Int32} (hn : 215 ≤ n) : XCt l G False (Cond.code yM_stops bM_stops 1 (some .boolean)) yM_stops 0 0 0 0 [.ref (213)] n (setM h g pa tr mx td F) (fun r' n' h' => r' = some (.int 0) ∧ n' = n ∧ h' = setM h g pa tr mx td (upd F 8 (if F 7 < F 5 then 1 else 0))) (fun _ _ _ => False) := by
  refine XCt.of hfl (by decide +kernel) (Nat.le_of_ble_eq_true rfl) ?_
  intro p' e' s' m' g' b' t' c' C hret hname hnt hmd
  refine XV.run C okM_stops 2 (q := (2, ([some (.ref (213))], [.ref (213), .ref (213)]))) rfl ?_
  refine XV.getf C (ci := 5) (kf := 7) (v := .int (F 7)) (xlk_ok okM_stops rfl) rfl (by decide) wF_M_106 (by omega) (by omega) (mw_o) rfl ?_
  refine XV.run C okM_stops 1 (q := (6, ([some (.ref (213))], [.ref (213), .int (F 7), .ref (213)]))) rfl ?_
  refine XV.getf C (ci := 5) (kf := 5) (v := .int (F 5)) (xlk_ok okM_stops rfl) rfl (by decide) wF_M_103 (by omega) (by omega) (mw_o) rfl ?_
  refine XV.icmp_ge C (tgt := 16) (xlk_ok okM_stops rfl) rfl (fun c1 => ?_) (fun c1 => ?_)
  ·
    have e : (if F 7 < F 5 then (1 : Int32) else 0) = 0 := if_neg (i_nlt c1)
    refine XV.run C okM_stops 1 (q := (17, ([some (.ref (213))], [.int (0), .ref (213)]))) rfl ?_
    refine XV.putf C (ci := 5) (kf := 8) (ty := .boolean) (xlk_ok okM_stops rfl) rfl (by decide) wF_M_109 (by omega) (by omega) (mw_o) rfl rfl rfl rfl (Nat.le_of_ble_eq_true rfl) ?_
    refine XV.cast (mw_f (upd F 8 (0))) ?_
    refine XV.run C okM_stops 1 (q := (21, ([some (.ref (213))], [.int (0)]))) rfl ?_
    exact XV.iret C (xlk_ok okM_stops rfl) hret (rfl) (Nat.le_of_ble_eq_true rfl) (Nat.le_of_ble_eq_true rfl) (⟨rfl, rfl, by rw [e]⟩)
  ·
    have e : (if F 7 < F 5 then (1 : Int32) else 0) = 1 := if_pos (i_lt c1)
    refine XV.run C okM_stops 2 (q := (17, ([some (.ref (213))], [.int (1), .ref (213)]))) rfl ?_
    refine XV.putf C (ci := 5) (kf := 8) (ty := .boolean) (xlk_ok okM_stops rfl) rfl (by decide) wF_M_109 (by omega) (by omega) (mw_o) rfl rfl rfl rfl (Nat.le_of_ble_eq_true rfl) ?_
    refine XV.cast (mw_f (upd F 8 (1))) ?_
    refine XV.run C okM_stops 1 (q := (21, ([some (.ref (213))], [.int (0)]))) rfl ?_
    exact XV.iret C (xlk_ok okM_stops rfl) hret (rfl) (Nat.le_of_ble_eq_true rfl) (Nat.le_of_ble_eq_true rfl) (⟨rfl, rfl, by rw [e]⟩)
theorem flt_of {F : Nat → Int32} {len a : Nat} (h5 : F 5 = nI len) (h7 : F 7 = nI a) (ha : a ≤ len) (hl6 : len ≤ 60) : (if F 7 < F 5 then (1 : Int32) else 0) = flt len a := by
  unfold flt
  rw [h5, h7]
  by_cases h : a < len
  · rw [if_pos h, if_pos (nI_lt h (by omega))]
  · rw [if_neg h, if_neg (nI_nlt (by omega) (by omega))]
theorem TF_8 {F : Nat → Int32} {a : Nat} {v : Int32} (h7 : F 7 = nI a) : TF F (upd F 8 v) a := ⟨(upd_ne (by decide)).trans h7, upd_ne (by decide), upd_ne (by decide), upd_ne (by decide), upd_ne (by decide)⟩
theorem TF_7 {F : Nat → Int32} {a : Nat} {v : Int32} (h : v = nI a) : TF F (upd F 7 v) a := ⟨upd_eq.trans h, upd_ne (by decide), upd_ne (by decide), upd_ne (by decide), upd_ne (by decide)⟩
theorem TF.trans {F F' F'' : Nat → Int32} {a b : Nat} (h1 : TF F F' a) (h2 : TF F' F'' b) : TF F F'' b := ⟨h2.1, h2.2.1.trans h1.2.1, h2.2.2.1.trans h1.2.2.1, h2.2.2.2.1.trans h1.2.2.2.1, h2.2.2.2.2.trans h1.2.2.2.2⟩
set_option maxHeartbeats 4000000 in
set_option maxRecDepth 100000 in
theorem ct_M_isFloor {l : Launch} (hfl : l.stackTraces = false) {G : XG} {n : Nat} {h : XH} {g pa tr mx td F : Nat → Int32} (hn : 215 ≤ n) {len a : Nat} (h5 : F 5 = nI len) (h7 : F 7 = nI a) (ha : a ≤ len) (hl6 : len ≤ 60) {t : Nat} (h10 : F 10 = nI t) (ht : 4 * t ≤ a) {q : Nat} {x : Int32} (hx : x = nI q) (hq : q < 2) : XCt l G False (Cond.code yM_isFloor bM_isFloor 2 (some .boolean)) yM_isFloor 2 44 0 0 [.ref (213), .int (x)] n (setM h g pa tr mx td F) (fun r' n' h' => n' = n ∧ ((atK mx len a 48 55 = true ∧ r' = some (.int 1) ∧ ∃ F', TF F F' (a + 1) ∧ h' = setM h g pa tr mx (upd td (3 * t + q) (mx a - 48)) F') ∨ (atK mx len a 48 55 = false ∧ r' = some (.int 0) ∧ ∃ F', TF F F' a ∧ F' 8 = flt len a ∧ h' = setM h g pa tr mx td F'))) (fun _ _ _ => False) := by
  subst hx
  refine XCt.of hfl (by decide +kernel) (Nat.le_of_ble_eq_true rfl) ?_
  intro p' e' s' m' g' b' t' c' C hret hname hnt hmd
  refine XV.run C okM_isFloor 3 (q := (5, ([some (.ref (213)), some (.int (nI q))], [.int (55), .int (48), .ref (213)]))) rfl ?_
  refine XV.callV C (As := [.int (48), .int (55)]) (rest := []) (ci := 5) (ct_M_isAt hfl hn (len := len) (a := a) (h5) (h7) (by omega) hl6 (48) (55)) (xlk_ok okM_isFloor rfl) rfl (by omega) (by omega) rfl (mw_o) rfl wM_M_113 wI_M_isAt wV_M_isAt wN_M wB_M_isAt hy_M_isAt (fun q => q.elim) ⟨Nat.le_of_ble_eq_true rfl, Nat.le_of_ble_eq_true rfl⟩ ⟨Nat.le_of_ble_eq_true rfl, Nat.le_of_ble_eq_true rfl⟩ (Nat.le_of_ble_eq_true rfl) (fun r n h hp => ?_) (fun _ _ _ q => q.elim)
  obtain ⟨rfl, rfl, rfl⟩ := hp
  refine XV.if_ne C (tgt := 16) (xlk_ok okM_isFloor rfl) rfl (fun c1 => ?_) (fun c1 => ?_)
  ·
    have e := if1_1 c1
    have hal := atK_lt e
    refine XV.run C okM_isFloor 1 (q := (17, ([some (.ref (213)), some (.int (nI q))], [.ref (213)]))) rfl ?_
    refine XV.getf C (ci := 5) (kf := 9) (v := .ref (218)) (xlk_ok okM_isFloor rfl) rfl (by decide) wF_M_22 (by omega) (by omega) (mw_o) rfl ?_
    refine XV.run C okM_isFloor 2 (q := (22, ([some (.ref (213)), some (.int (nI q))], [.ref (213), .int (3), .ref (218)]))) rfl ?_
    refine XV.getf C (ci := 5) (kf := 10) (v := .int (F 10)) (xlk_ok okM_isFloor rfl) rfl (by decide) wF_M_119 (by omega) (by omega) (mw_o) rfl ?_
    refine XV.run C okM_isFloor 4 (q := (29, ([some (.ref (213)), some (.int (nI q))], [.ref (213), .int ((3 * (F 10)) + (nI q)), .ref (218)]))) rfl ?_
    refine XV.getf C (ci := 5) (kf := 4) (v := .ref (217)) (xlk_ok okM_isFloor rfl) rfl (by decide) wF_M_19 (by omega) (by omega) (mw_o) rfl ?_
    refine XV.run C okM_isFloor 1 (q := (33, ([some (.ref (213)), some (.int (nI q))], [.ref (213), .ref (217), .int ((3 * (F 10)) + (nI q)), .ref (218)]))) rfl ?_
    refine XV.getf C (ci := 5) (kf := 7) (v := .int (F 7)) (xlk_ok okM_isFloor rfl) rfl (by decide) wF_M_106 (by omega) (by omega) (mw_o) rfl ?_
    refine XV.ialdC C (N := 60) (f := mx) (a := a) (xlk_ok okM_isFloor rfl) (by omega) (by omega) (mw_4) (h7) (by omega) (by decide) ?_
    refine XV.run C okM_isFloor 2 (q := (40, ([some (.ref (213)), some (.int (nI q))], [.int ((mx a) - 48), .int ((3 * (F 10)) + (nI q)), .ref (218)]))) rfl ?_
    refine XV.iastC C (N := 66) (f := td) (a := (3 * t + q)) (xlk_ok okM_isFloor rfl) (by omega) (by omega) (mw_5) (by rw [h10, show (3 : Int32) * nI t = nI (3 * t) from pk_mul 3 t, nI_add]) (by omega) (by decide) ?_
    refine XV.cast (mw_u5 (upd td (3 * t + q) ((mx a) - 48))) ?_
    refine XV.run C okM_isFloor 2 (q := (43, ([some (.ref (213)), some (.int (nI q))], [.ref (213), .ref (213)]))) rfl ?_
    refine XV.getf C (ci := 5) (kf := 7) (v := .int (F 7)) (xlk_ok okM_isFloor rfl) rfl (by decide) wF_M_106 (by omega) (by omega) (mw_o) rfl ?_
    refine XV.run C okM_isFloor 2 (q := (48, ([some (.ref (213)), some (.int (nI q))], [.int ((F 7) + 1), .ref (213)]))) rfl ?_
    refine XV.putf C (ci := 5) (kf := 7) (ty := .int) (xlk_ok okM_isFloor rfl) rfl (by decide) wF_M_106 (by omega) (by omega) (mw_o) rfl rfl rfl rfl (Nat.le_of_ble_eq_true rfl) ?_
    refine XV.cast (mw_f (upd F 7 ((F 7) + 1))) ?_
    refine XV.run C okM_isFloor 1 (q := (52, ([some (.ref (213)), some (.int (nI q))], [.int (1)]))) rfl ?_
    exact XV.iret C (xlk_ok okM_isFloor rfl) hret (rfl) (Nat.le_of_ble_eq_true rfl) (Nat.le_of_ble_eq_true rfl) (⟨rfl, Or.inl ⟨e, rfl, _, TF_7 (by rw [h7, nI_1]), rfl⟩⟩)
  ·
    have e := if1_0 c1
    refine XV.run C okM_isFloor 1 (q := (12, ([some (.ref (213)), some (.int (nI q))], [.ref (213)]))) rfl ?_
    refine XV.callV C (As := []) (rest := []) (ci := 5) (ct_M_stops hfl hn) (xlk_ok okM_isFloor rfl) rfl (by omega) (by omega) rfl (mw_o) rfl wM_M_116 wI_M_stops wV_M_stops wN_M wB_M_stops hy_M_stops (fun q => q.elim) ⟨Nat.le_of_ble_eq_true rfl, Nat.le_of_ble_eq_true rfl⟩ ⟨Nat.le_of_ble_eq_true rfl, Nat.le_of_ble_eq_true rfl⟩ (Nat.le_of_ble_eq_true rfl) (fun r n h hp => ?_) (fun _ _ _ q => q.elim)
    obtain ⟨rfl, rfl, rfl⟩ := hp
    exact XV.iret C (xlk_ok okM_isFloor rfl) hret (rfl) (Nat.le_of_ble_eq_true rfl) (Nat.le_of_ble_eq_true rfl) (⟨rfl, Or.inr ⟨e, rfl, _, TF_8 h7, upd_eq.trans (flt_of h5 h7 ha hl6), rfl⟩⟩)
set_option maxHeartbeats 4000000 in
set_option maxRecDepth 100000 in
theorem ct_M_isOften {l : Launch} (hfl : l.stackTraces = false) {G : XG} {n : Nat} {h : XH} {g pa tr mx td F : Nat → Int32} (hn : 215 ≤ n) {len a : Nat} (h5 : F 5 = nI len) (h7 : F 7 = nI a) (ha : a ≤ len) (hl6 : len ≤ 60) {t : Nat} (h10 : F 10 = nI t) (ht : 4 * t ≤ a) : XCt l G False (Cond.code yM_isOften bM_isOften 2 (some .boolean)) yM_isOften 2 44 0 0 [.ref (213)] n (setM h g pa tr mx td F) (fun r' n' h' => n' = n ∧ (((oftM mx len a).1 = true ∧ r' = some (.int 1) ∧ ∃ F', TF F F' (oftM mx len a).2.1 ∧ h' = setM h g pa tr mx (upd td (3 * t + 2) (oftM mx len a).2.2) F') ∨ ((oftM mx len a).1 = false ∧ r' = some (.int 0) ∧ ∃ F' td', TF F F' (oftM mx len a).2.1 ∧ F' 8 = flt len (oftM mx len a).2.1 ∧ h' = setM h g pa tr mx td' F'))) (fun _ _ _ => False) := by
  refine XCt.of hfl (by decide +kernel) (Nat.le_of_ble_eq_true rfl) ?_
  intro p' e' s' m' g' b' t' c' C hret hname hnt hmd
  refine XV.run C okM_isOften 3 (q := (5, ([some (.ref (213)), none], [.int (57), .int (49), .ref (213)]))) rfl ?_
  refine XV.callV C (As := [.int (49), .int (57)]) (rest := []) (ci := 5) (ct_M_isAt hfl hn (len := len) (a := a) (h5) (h7) (by omega) hl6 (49) (57)) (xlk_ok okM_isOften rfl) rfl (by omega) (by omega) rfl (mw_o) rfl wM_M_113 wI_M_isAt wV_M_isAt wN_M wB_M_isAt hy_M_isAt (fun q => q.elim) ⟨Nat.le_of_ble_eq_true rfl, Nat.le_of_ble_eq_true rfl⟩ ⟨Nat.le_of_ble_eq_true rfl, Nat.le_of_ble_eq_true rfl⟩ (Nat.le_of_ble_eq_true rfl) (fun r n h hp => ?_) (fun _ _ _ q => q.elim)
  obtain ⟨rfl, rfl, rfl⟩ := hp
  refine XV.if_ne C (tgt := 16) (xlk_ok okM_isOften rfl) rfl (fun c1 => ?_) (fun c1 => ?_)
  ·
    have e := if1_1 c1
    have hal := atK_lt e
    refine XV.run C okM_isOften 1 (q := (17, ([some (.ref (213)), none], [.ref (213)]))) rfl ?_
    refine XV.getf C (ci := 5) (kf := 4) (v := .ref (217)) (xlk_ok okM_isOften rfl) rfl (by decide) wF_M_19 (by omega) (by omega) (mw_o) rfl ?_
    refine XV.run C okM_isOften 1 (q := (21, ([some (.ref (213)), none], [.ref (213), .ref (217)]))) rfl ?_
    refine XV.getf C (ci := 5) (kf := 7) (v := .int (F 7)) (xlk_ok okM_isOften rfl) rfl (by decide) wF_M_106 (by omega) (by omega) (mw_o) rfl ?_
    refine XV.ialdC C (N := 60) (f := mx) (a := a) (xlk_ok okM_isOften rfl) (by omega) (by omega) (mw_4) (h7) (by omega) (by decide) ?_
    refine XV.run C okM_isOften 5 (q := (31, ([some (.ref (213)), some (.int ((mx a) - 48))], [.ref (213), .ref (213)]))) rfl ?_
    refine XV.getf C (ci := 5) (kf := 7) (v := .int (F 7)) (xlk_ok okM_isOften rfl) rfl (by decide) wF_M_106 (by omega) (by omega) (mw_o) rfl ?_
    refine XV.run C okM_isOften 2 (q := (36, ([some (.ref (213)), some (.int ((mx a) - 48))], [.int ((F 7) + 1), .ref (213)]))) rfl ?_
    rw [show ((F 7) + 1 : Int32) = nI (a + 1) from by rw [h7, nI_1]]
    refine XV.putf C (ci := 5) (kf := 7) (ty := .int) (xlk_ok okM_isOften rfl) rfl (by decide) wF_M_106 (by omega) (by omega) (mw_o) rfl rfl rfl rfl (Nat.le_of_ble_eq_true rfl) ?_
    refine XV.cast (mw_f (upd F 7 (nI (a + 1)))) ?_
    refine XV.run C okM_isOften 3 (q := (44, ([some (.ref (213)), some (.int ((mx a) - 48))], [.int (57), .int (48), .ref (213)]))) rfl ?_
    refine XV.callV C (As := [.int (48), .int (57)]) (rest := []) (ci := 5) (ct_M_isAt hfl hn (len := len) (a := a + 1) ((upd_ne (by decide)).trans h5) (upd_eq) (by omega) hl6 (48) (57)) (xlk_ok okM_isOften rfl) rfl (by omega) (by omega) rfl (mw_o) rfl wM_M_113 wI_M_isAt wV_M_isAt wN_M wB_M_isAt hy_M_isAt (fun q => q.elim) ⟨Nat.le_of_ble_eq_true rfl, Nat.le_of_ble_eq_true rfl⟩ ⟨Nat.le_of_ble_eq_true rfl, Nat.le_of_ble_eq_true rfl⟩ (Nat.le_of_ble_eq_true rfl) (fun r n h hp => ?_) (fun _ _ _ q => q.elim)
    obtain ⟨rfl, rfl, rfl⟩ := hp
    refine XV.if_eq C (tgt := 78) (xlk_ok okM_isOften rfl) rfl (fun c2 => ?_) (fun c2 => ?_)
    ·
      have e2 := if1_0 c2
      have eo : oftM mx len a = (decide (1 < mx a - 48), (a + 1, mx a - 48)) := by unfold oftM; rw [e, e2]; rfl
      refine XV.run C okM_isOften 1 (q := (79, ([some (.ref (213)), some (.int ((mx a) - 48))], [.ref (213)]))) rfl ?_
      refine XV.getf C (ci := 5) (kf := 9) (v := .ref (218)) (xlk_ok okM_isOften rfl) rfl (by decide) wF_M_22 (by omega) (by omega) (mw_o) rfl ?_
      refine XV.run C okM_isOften 2 (q := (84, ([some (.ref (213)), some (.int ((mx a) - 48))], [.ref (213), .int (3), .ref (218)]))) rfl ?_
      refine XV.getf C (ci := 5) (kf := 10) (v := .int ((upd F 7 (nI (a + 1))) 10)) (xlk_ok okM_isOften rfl) rfl (by decide) wF_M_119 (by omega) (by omega) (mw_o) rfl ?_
      refine XV.run C okM_isOften 4 (q := (91, ([some (.ref (213)), some (.int ((mx a) - 48))], [.int ((mx a) - 48), .int ((3 * ((upd F 7 (nI (a + 1))) 10)) + 2), .ref (218)]))) rfl ?_
      refine XV.iastC C (N := 66) (f := td) (a := (3 * t + 2)) (xlk_ok okM_isOften rfl) (by omega) (by omega) (mw_5) (by rw [show (upd F 7 (nI (a + 1))) 10 = nI t from (upd_ne (by decide)).trans (h10), show (3 : Int32) * nI t = nI (3 * t) from pk_mul 3 t, show (2 : Int32) = nI 2 from rfl, nI_add]) (by omega) (by decide) ?_
      refine XV.cast (mw_u5 (upd td (3 * t + 2) ((mx a) - 48))) ?_
      refine XV.run C okM_isOften 2 (q := (94, ([some (.ref (213)), some (.int ((mx a) - 48))], [.int (1), .int ((mx a) - 48)]))) rfl ?_
      refine XV.icmp_gt C (tgt := 104) (xlk_ok okM_isOften rfl) rfl (fun c3 => ?_) (fun c3 => ?_)
      ·
        refine XV.run C okM_isOften 2 (q := (109, ([some (.ref (213)), some (.int ((mx a) - 48))], [.int (1)]))) rfl ?_
        exact XV.iret C (xlk_ok okM_isOften rfl) hret (rfl) (Nat.le_of_ble_eq_true rfl) (Nat.le_of_ble_eq_true rfl) (⟨rfl, Or.inl ⟨by rw [eo]; exact decide_eq_true c3, rfl, _, by rw [eo]; exact TF_7 rfl, by rw [eo]⟩⟩)
      ·
        refine XV.run C okM_isOften 1 (q := (98, ([some (.ref (213)), some (.int ((mx a) - 48))], [.ref (213)]))) rfl ?_
        refine XV.callV C (As := []) (rest := []) (ci := 5) (ct_M_stops hfl hn) (xlk_ok okM_isOften rfl) rfl (by omega) (by omega) rfl (mw_o) rfl wM_M_116 wI_M_stops wV_M_stops wN_M wB_M_stops hy_M_stops (fun q => q.elim) ⟨Nat.le_of_ble_eq_true rfl, Nat.le_of_ble_eq_true rfl⟩ ⟨Nat.le_of_ble_eq_true rfl, Nat.le_of_ble_eq_true rfl⟩ (Nat.le_of_ble_eq_true rfl) (fun r n h hp => ?_) (fun _ _ _ q => q.elim)
        obtain ⟨rfl, rfl, rfl⟩ := hp
        refine XV.if_eq C (tgt := 108) (xlk_ok okM_isOften rfl) rfl (fun _ => ?_) (fun hc => absurd (rfl) hc)
        refine XV.run C okM_isOften 1 (q := (109, ([some (.ref (213)), some (.int ((mx a) - 48))], [.int (0)]))) rfl ?_
        exact XV.iret C (xlk_ok okM_isOften rfl) hret (rfl) (Nat.le_of_ble_eq_true rfl) (Nat.le_of_ble_eq_true rfl) (⟨rfl, Or.inr ⟨by rw [eo]; exact decide_eq_false c3, rfl, _, _, by rw [eo]; exact TF.trans (TF_7 (F := F) (a := a + 1) rfl) (TF_8 upd_eq), by rw [eo]; exact upd_eq.trans (flt_of ((TF_7 (F := F) (a := a + 1) rfl).2.1.trans h5) upd_eq (by show a + 1 ≤ len; omega) hl6), rfl⟩⟩)
    ·
      have e2 := if1_1 c2
      have hal2 := atK_lt e2
      have eo : oftM mx len a = (decide (1 < 10 * (mx a - 48) + mx (a + 1) - 48), (a + 2, 10 * (mx a - 48) + mx (a + 1) - 48)) := by unfold oftM; rw [e, e2]; rfl
      refine XV.run C okM_isOften 4 (q := (55, ([some (.ref (213)), some (.int ((mx a) - 48))], [.ref (213), .int (10 * ((mx a) - 48))]))) rfl ?_
      refine XV.getf C (ci := 5) (kf := 4) (v := .ref (217)) (xlk_ok okM_isOften rfl) rfl (by decide) wF_M_19 (by omega) (by omega) (mw_o) rfl ?_
      refine XV.run C okM_isOften 1 (q := (59, ([some (.ref (213)), some (.int ((mx a) - 48))], [.ref (213), .ref (217), .int (10 * ((mx a) - 48))]))) rfl ?_
      refine XV.getf C (ci := 5) (kf := 7) (v := .int ((upd F 7 (nI (a + 1))) 7)) (xlk_ok okM_isOften rfl) rfl (by decide) wF_M_106 (by omega) (by omega) (mw_o) rfl ?_
      refine XV.ialdC C (N := 60) (f := mx) (a := (a + 1)) (xlk_ok okM_isOften rfl) (by omega) (by omega) (mw_4) (upd_eq) (by omega) (by decide) ?_
      refine XV.run C okM_isOften 6 (q := (70, ([some (.ref (213)), some (.int (((10 * ((mx a) - 48)) + (mx (a + 1))) - 48))], [.ref (213), .ref (213)]))) rfl ?_
      refine XV.getf C (ci := 5) (kf := 7) (v := .int ((upd F 7 (nI (a + 1))) 7)) (xlk_ok okM_isOften rfl) rfl (by decide) wF_M_106 (by omega) (by omega) (mw_o) rfl ?_
      refine XV.run C okM_isOften 2 (q := (75, ([some (.ref (213)), some (.int (((10 * ((mx a) - 48)) + (mx (a + 1))) - 48))], [.int (((upd F 7 (nI (a + 1))) 7) + 1), .ref (213)]))) rfl ?_
      rw [show (((upd F 7 (nI (a + 1))) 7) + 1 : Int32) = nI (a + 2) from by rw [show (upd F 7 (nI (a + 1))) 7 = nI (a + 1) from upd_eq, nI_1]]
      refine XV.putf C (ci := 5) (kf := 7) (ty := .int) (xlk_ok okM_isOften rfl) rfl (by decide) wF_M_106 (by omega) (by omega) (mw_o) rfl rfl rfl rfl (Nat.le_of_ble_eq_true rfl) ?_
      refine XV.cast (mw_f (upd (upd F 7 (nI (a + 1))) 7 (nI (a + 2)))) ?_
      refine XV.run C okM_isOften 1 (q := (79, ([some (.ref (213)), some (.int (((10 * ((mx a) - 48)) + (mx (a + 1))) - 48))], [.ref (213)]))) rfl ?_
      refine XV.getf C (ci := 5) (kf := 9) (v := .ref (218)) (xlk_ok okM_isOften rfl) rfl (by decide) wF_M_22 (by omega) (by omega) (mw_o) rfl ?_
      refine XV.run C okM_isOften 2 (q := (84, ([some (.ref (213)), some (.int (((10 * ((mx a) - 48)) + (mx (a + 1))) - 48))], [.ref (213), .int (3), .ref (218)]))) rfl ?_
      refine XV.getf C (ci := 5) (kf := 10) (v := .int ((upd (upd F 7 (nI (a + 1))) 7 (nI (a + 2))) 10)) (xlk_ok okM_isOften rfl) rfl (by decide) wF_M_119 (by omega) (by omega) (mw_o) rfl ?_
      refine XV.run C okM_isOften 4 (q := (91, ([some (.ref (213)), some (.int (((10 * ((mx a) - 48)) + (mx (a + 1))) - 48))], [.int (((10 * ((mx a) - 48)) + (mx (a + 1))) - 48), .int ((3 * ((upd (upd F 7 (nI (a + 1))) 7 (nI (a + 2))) 10)) + 2), .ref (218)]))) rfl ?_
      refine XV.iastC C (N := 66) (f := td) (a := (3 * t + 2)) (xlk_ok okM_isOften rfl) (by omega) (by omega) (mw_5) (by rw [show (upd (upd F 7 (nI (a + 1))) 7 (nI (a + 2))) 10 = nI t from (upd_ne (by decide)).trans ((upd_ne (by decide)).trans (h10)), show (3 : Int32) * nI t = nI (3 * t) from pk_mul 3 t, show (2 : Int32) = nI 2 from rfl, nI_add]) (by omega) (by decide) ?_
      refine XV.cast (mw_u5 (upd td (3 * t + 2) (((10 * ((mx a) - 48)) + (mx (a + 1))) - 48))) ?_
      refine XV.run C okM_isOften 2 (q := (94, ([some (.ref (213)), some (.int (((10 * ((mx a) - 48)) + (mx (a + 1))) - 48))], [.int (1), .int (((10 * ((mx a) - 48)) + (mx (a + 1))) - 48)]))) rfl ?_
      refine XV.icmp_gt C (tgt := 104) (xlk_ok okM_isOften rfl) rfl (fun c3 => ?_) (fun c3 => ?_)
      ·
        refine XV.run C okM_isOften 2 (q := (109, ([some (.ref (213)), some (.int (((10 * ((mx a) - 48)) + (mx (a + 1))) - 48))], [.int (1)]))) rfl ?_
        exact XV.iret C (xlk_ok okM_isOften rfl) hret (rfl) (Nat.le_of_ble_eq_true rfl) (Nat.le_of_ble_eq_true rfl) (⟨rfl, Or.inl ⟨by rw [eo]; exact decide_eq_true c3, rfl, _, by rw [eo]; exact (TF_7 (a := a + 1) rfl).trans (TF_7 rfl), by rw [eo]⟩⟩)
      ·
        refine XV.run C okM_isOften 1 (q := (98, ([some (.ref (213)), some (.int (((10 * ((mx a) - 48)) + (mx (a + 1))) - 48))], [.ref (213)]))) rfl ?_
        refine XV.callV C (As := []) (rest := []) (ci := 5) (ct_M_stops hfl hn) (xlk_ok okM_isOften rfl) rfl (by omega) (by omega) rfl (mw_o) rfl wM_M_116 wI_M_stops wV_M_stops wN_M wB_M_stops hy_M_stops (fun q => q.elim) ⟨Nat.le_of_ble_eq_true rfl, Nat.le_of_ble_eq_true rfl⟩ ⟨Nat.le_of_ble_eq_true rfl, Nat.le_of_ble_eq_true rfl⟩ (Nat.le_of_ble_eq_true rfl) (fun r n h hp => ?_) (fun _ _ _ q => q.elim)
        obtain ⟨rfl, rfl, rfl⟩ := hp
        refine XV.if_eq C (tgt := 108) (xlk_ok okM_isOften rfl) rfl (fun _ => ?_) (fun hc => absurd (rfl) hc)
        refine XV.run C okM_isOften 1 (q := (109, ([some (.ref (213)), some (.int (((10 * ((mx a) - 48)) + (mx (a + 1))) - 48))], [.int (0)]))) rfl ?_
        exact XV.iret C (xlk_ok okM_isOften rfl) hret (rfl) (Nat.le_of_ble_eq_true rfl) (Nat.le_of_ble_eq_true rfl) (⟨rfl, Or.inr ⟨by rw [eo]; exact decide_eq_false c3, rfl, _, _, by rw [eo]; exact TF.trans ((TF_7 (a := a + 1) rfl).trans (TF_7 rfl)) (TF_8 upd_eq), by rw [eo]; exact upd_eq.trans (flt_of (((TF_7 (a := a + 1) rfl).trans (TF_7 rfl)).2.1.trans h5) upd_eq (by show a + 2 ≤ len; omega) hl6), rfl⟩⟩)
  ·
    have e := if1_0 c1
    have eo : oftM mx len a = (false, (a, 0)) := by unfold oftM; rw [e]; rfl
    refine XV.run C okM_isOften 1 (q := (12, ([some (.ref (213)), none], [.ref (213)]))) rfl ?_
    refine XV.callV C (As := []) (rest := []) (ci := 5) (ct_M_stops hfl hn) (xlk_ok okM_isOften rfl) rfl (by omega) (by omega) rfl (mw_o) rfl wM_M_116 wI_M_stops wV_M_stops wN_M wB_M_stops hy_M_stops (fun q => q.elim) ⟨Nat.le_of_ble_eq_true rfl, Nat.le_of_ble_eq_true rfl⟩ ⟨Nat.le_of_ble_eq_true rfl, Nat.le_of_ble_eq_true rfl⟩ (Nat.le_of_ble_eq_true rfl) (fun r n h hp => ?_) (fun _ _ _ q => q.elim)
    obtain ⟨rfl, rfl, rfl⟩ := hp
    exact XV.iret C (xlk_ok okM_isOften rfl) hret (rfl) (Nat.le_of_ble_eq_true rfl) (Nat.le_of_ble_eq_true rfl) (⟨rfl, Or.inr ⟨by rw [eo], rfl, _, _, by rw [eo]; exact TF_8 h7, by rw [eo]; exact upd_eq.trans (flt_of h5 h7 ha hl6), rfl⟩⟩)
theorem TF.b7 {F F' : Nat → Int32} {a : Nat} (h : TF F F' a) : F' 7 = nI a := h.1
theorem TF.b5 {F F' : Nat → Int32} {a : Nat} {x : Int32} (h : TF F F' a) (h5 : F 5 = x) : F' 5 = x := h.2.1.trans h5
theorem TF.b10 {F F' : Nat → Int32} {a : Nat} {x : Int32} (h : TF F F' a) (h5 : F 10 = x) : F' 10 = x := h.2.2.2.2.trans h5
set_option maxHeartbeats 4000000 in
set_option maxRecDepth 100000 in
theorem ct_M_isPart {l : Launch} (hfl : l.stackTraces = false) {G : XG} {n : Nat} {h : XH} {g pa tr mx td F : Nat → Int32} (hn : 215 ≤ n) {len a : Nat} (h5 : F 5 = nI len) (h7 : F 7 = nI a) (ha : a ≤ len) (hl6 : len ≤ 60) {t : Nat} (h10 : F 10 = nI t) (ht : 4 * t ≤ a) : XCt l G False (Cond.code yM_isPart bM_isPart 1 (some .boolean)) yM_isPart 3 65 0 0 [.ref (213)] n (setM h g pa tr mx td F) (fun r' n' h' => n' = n ∧ (((partM mx len a t td).1 = true ∧ r' = some (.int 1) ∧ ∃ F', TF F F' (partM mx len a t td).2.1 ∧ h' = setM h g pa tr mx ((partM mx len a t td).2.2) F') ∨ ((partM mx len a t td).1 = false ∧ r' = some (.int 0) ∧ ∃ F' td', TF F F' (partM mx len a t td).2.1 ∧ F' 8 = flt len (partM mx len a t td).2.1 ∧ h' = setM h g pa tr mx td' F'))) (fun _ _ _ => False) := by
  refine XCt.of hfl (by decide +kernel) (Nat.le_of_ble_eq_true rfl) ?_
  intro p' e' s' m' g' b' t' c' C hret hname hnt hmd
  refine XV.run C okM_isPart 1 (q := (1, ([some (.ref (213))], [.ref (213)]))) rfl ?_
  refine XV.getf C (ci := 5) (kf := 9) (v := .ref (218)) (xlk_ok okM_isPart rfl) rfl (by decide) wF_M_22 (by omega) (by omega) (mw_o) rfl ?_
  refine XV.run C okM_isPart 2 (q := (6, ([some (.ref (213))], [.ref (213), .int (3), .ref (218)]))) rfl ?_
  refine XV.getf C (ci := 5) (kf := 10) (v := .int (F 10)) (xlk_ok okM_isPart rfl) rfl (by decide) wF_M_119 (by omega) (by omega) (mw_o) rfl ?_
  refine XV.run C okM_isPart 4 (q := (13, ([some (.ref (213))], [.int (1), .int ((3 * (F 10)) + 2), .ref (218)]))) rfl ?_
  refine XV.iastC C (N := 66) (f := td) (a := (3 * t + 2)) (xlk_ok okM_isPart rfl) (by omega) (by omega) (mw_5) (by rw [h10, show (3 : Int32) * nI t = nI (3 * t) from pk_mul 3 t, show (2 : Int32) = nI 2 from rfl, nI_add]) (by omega) (by decide) ?_
  refine XV.cast (mw_u5 (upd td (3 * t + 2) (1))) ?_
  refine XV.run C okM_isPart 2 (q := (16, ([some (.ref (213))], [.int (0), .ref (213)]))) rfl ?_
  refine XV.callV C (As := [.int (0)]) (rest := []) (ci := 5) (ct_M_isFloor hfl hn (len := len) (a := a) (h5) (h7) (by omega) hl6 (t := t) (h10) (by omega) (q := 0) rfl (by decide)) (xlk_ok okM_isPart rfl) rfl (by omega) (by omega) rfl (mw_o) rfl wM_M_122 wI_M_isFloor wV_M_isFloor wN_M wB_M_isFloor hy_M_isFloor (fun q => q.elim) ⟨Nat.le_of_ble_eq_true rfl, Nat.le_of_ble_eq_true rfl⟩ ⟨Nat.le_of_ble_eq_true rfl, Nat.le_of_ble_eq_true rfl⟩ (Nat.le_of_ble_eq_true rfl) (fun r n h hp => ?_) (fun _ _ _ q => q.elim)
  obtain ⟨rfl, hp⟩ := hp
  rcases hp with ⟨eF1, rfl, F1, hTF1, rfl⟩ | ⟨eF1, rfl, F1, hTF1, hfF1, rfl⟩
  ·
    have l1 := atK_lt eF1
    refine XV.if_ne C (tgt := 24) (xlk_ok okM_isPart rfl) rfl (fun _ => ?_) (fun hc => absurd hc (by decide))
    refine XV.run C okM_isPart 3 (q := (29, ([some (.ref (213))], [.int (45), .int (45), .ref (213)]))) rfl ?_
    refine XV.callV C (As := [.int (45), .int (45)]) (rest := []) (ci := 5) (ct_M_isAt hfl hn (len := len) (a := a + 1) (hTF1.b5 h5) (hTF1.b7) (by omega) hl6 (45) (45)) (xlk_ok okM_isPart rfl) rfl (by omega) (by omega) rfl (mw_o) rfl wM_M_113 wI_M_isAt wV_M_isAt wN_M wB_M_isAt hy_M_isAt (fun q => q.elim) ⟨Nat.le_of_ble_eq_true rfl, Nat.le_of_ble_eq_true rfl⟩ ⟨Nat.le_of_ble_eq_true rfl, Nat.le_of_ble_eq_true rfl⟩ (Nat.le_of_ble_eq_true rfl) (fun r n h hp => ?_) (fun _ _ _ q => q.elim)
    obtain ⟨rfl, rfl, rfl⟩ := hp
    refine XV.if_ne C (tgt := 40) (xlk_ok okM_isPart rfl) rfl (fun c2 => ?_) (fun c2 => ?_)
    ·
      have e2 := if1_1 c2
      have l2 := atK_lt e2
      refine XV.run C okM_isPart 2 (q := (42, ([some (.ref (213))], [.ref (213), .ref (213)]))) rfl ?_
      refine XV.getf C (ci := 5) (kf := 7) (v := .int (F1 7)) (xlk_ok okM_isPart rfl) rfl (by decide) wF_M_106 (by omega) (by omega) (mw_o) rfl ?_
      refine XV.run C okM_isPart 2 (q := (47, ([some (.ref (213))], [.int ((F1 7) + 1), .ref (213)]))) rfl ?_
      rw [show ((F1 7) + 1 : Int32) = nI (a + 2) from by rw [hTF1.b7, nI_1]]
      refine XV.putf C (ci := 5) (kf := 7) (ty := .int) (xlk_ok okM_isPart rfl) rfl (by decide) wF_M_106 (by omega) (by omega) (mw_o) rfl rfl rfl rfl (Nat.le_of_ble_eq_true rfl) ?_
      refine XV.cast (mw_f (upd F1 7 (nI (a + 2)))) ?_
      refine XV.run C okM_isPart 2 (q := (52, ([some (.ref (213))], [.int (1), .ref (213)]))) rfl ?_
      have hT5 := hTF1.trans (TF_7 (F := F1) (a := a + 2) (v := nI (a + 2)) rfl)
      refine XV.callV C (As := [.int (1)]) (rest := []) (ci := 5) (ct_M_isFloor hfl hn (len := len) (a := a + 2) ((upd_ne (by decide)).trans (hTF1.b5 h5)) (upd_eq) (by omega) hl6 (t := t) ((upd_ne (by decide)).trans (hTF1.b10 h10)) (by omega) (q := 1) rfl (by decide)) (xlk_ok okM_isPart rfl) rfl (by omega) (by omega) rfl (mw_o) rfl wM_M_122 wI_M_isFloor wV_M_isFloor wN_M wB_M_isFloor hy_M_isFloor (fun q => q.elim) ⟨Nat.le_of_ble_eq_true rfl, Nat.le_of_ble_eq_true rfl⟩ ⟨Nat.le_of_ble_eq_true rfl, Nat.le_of_ble_eq_true rfl⟩ (Nat.le_of_ble_eq_true rfl) (fun r n h hp => ?_) (fun _ _ _ q => q.elim)
      obtain ⟨rfl, hp⟩ := hp
      rcases hp with ⟨eF2, rfl, F2, hTF2, rfl⟩ | ⟨eF2, rfl, F2, hTF2, hfF2, rfl⟩
      ·
        have l3 := atK_lt eF2
        refine XV.if_ne C (tgt := 60) (xlk_ok okM_isPart rfl) rfl (fun _ => ?_) (fun hc => absurd hc (by decide))
        refine XV.run C okM_isPart 3 (q := (65, ([some (.ref (213))], [.int (42), .int (42), .ref (213)]))) rfl ?_
        refine XV.callV C (As := [.int (42), .int (42)]) (rest := []) (ci := 5) (ct_M_isAt hfl hn (len := len) (a := a + 3) (hTF2.b5 (hT5.b5 h5)) (hTF2.b7) (by omega) hl6 (42) (42)) (xlk_ok okM_isPart rfl) rfl (by omega) (by omega) rfl (mw_o) rfl wM_M_113 wI_M_isAt wV_M_isAt wN_M wB_M_isAt hy_M_isAt (fun q => q.elim) ⟨Nat.le_of_ble_eq_true rfl, Nat.le_of_ble_eq_true rfl⟩ ⟨Nat.le_of_ble_eq_true rfl, Nat.le_of_ble_eq_true rfl⟩ (Nat.le_of_ble_eq_true rfl) (fun r n h hp => ?_) (fun _ _ _ q => q.elim)
        obtain ⟨rfl, rfl, rfl⟩ := hp
        refine XV.if_ne C (tgt := 73) (xlk_ok okM_isPart rfl) rfl (fun c4 => ?_) (fun c4 => ?_)
        ·
          have e4 := if1_1 c4
          have l4 := atK_lt e4
          refine XV.run C okM_isPart 2 (q := (75, ([some (.ref (213))], [.ref (213), .ref (213)]))) rfl ?_
          refine XV.getf C (ci := 5) (kf := 7) (v := .int (F2 7)) (xlk_ok okM_isPart rfl) rfl (by decide) wF_M_106 (by omega) (by omega) (mw_o) rfl ?_
          refine XV.run C okM_isPart 2 (q := (80, ([some (.ref (213))], [.int ((F2 7) + 1), .ref (213)]))) rfl ?_
          rw [show ((F2 7) + 1 : Int32) = nI (a + 4) from by rw [hTF2.b7, nI_1]]
          refine XV.putf C (ci := 5) (kf := 7) (ty := .int) (xlk_ok okM_isPart rfl) rfl (by decide) wF_M_106 (by omega) (by omega) (mw_o) rfl rfl rfl rfl (Nat.le_of_ble_eq_true rfl) ?_
          refine XV.cast (mw_f (upd F2 7 (nI (a + 4)))) ?_
          refine XV.run C okM_isPart 1 (q := (84, ([some (.ref (213))], [.ref (213)]))) rfl ?_
          have hT6 := (hT5.trans hTF2).trans (TF_7 (F := F2) (a := a + 4) (v := nI (a + 4)) rfl)
          refine XV.callV C (As := []) (rest := []) (ci := 5) (ct_M_isOften hfl hn (len := len) (a := a + 4) (hT6.b5 h5) (upd_eq) (by omega) hl6 (t := t) (hT6.b10 h10) (by omega)) (xlk_ok okM_isPart rfl) rfl (by omega) (by omega) rfl (mw_o) rfl wM_M_125 wI_M_isOften wV_M_isOften wN_M wB_M_isOften hy_M_isOften (fun q => q.elim) ⟨Nat.le_of_ble_eq_true rfl, Nat.le_of_ble_eq_true rfl⟩ ⟨Nat.le_of_ble_eq_true rfl, Nat.le_of_ble_eq_true rfl⟩ (Nat.le_of_ble_eq_true rfl) (fun r n h hp => ?_) (fun _ _ _ q => q.elim)
          obtain ⟨rfl, hp⟩ := hp
          rcases hp with ⟨eF3, rfl, F3, hTF3, rfl⟩ | ⟨eF3, rfl, F3, td9, hTF3, hfF3, rfl⟩
          ·
            have ep : partM mx len a t td = ((oftM mx len (a + 4)).1, ((oftM mx len (a + 4)).2.1, upd (upd (upd (upd td (3 * t + 2) 1) (3 * t + 0) (mx a - 48)) (3 * t + 1) (mx (a + 2) - 48)) (3 * t + 2) (oftM mx len (a + 4)).2.2)) := by unfold partM; rw [eF1, e2, eF2, e4]; rfl
            exact XV.iret C (xlk_ok okM_isPart rfl) hret rfl (Nat.le_of_ble_eq_true rfl) (Nat.le_of_ble_eq_true rfl) ⟨rfl, Or.inl ⟨by rw [ep]; exact eF3, rfl, _, by rw [ep]; exact hT6.trans hTF3, by rw [ep]⟩⟩
          ·
            have ep : partM mx len a t td = ((oftM mx len (a + 4)).1, ((oftM mx len (a + 4)).2.1, upd (upd (upd (upd td (3 * t + 2) 1) (3 * t + 0) (mx a - 48)) (3 * t + 1) (mx (a + 2) - 48)) (3 * t + 2) (oftM mx len (a + 4)).2.2)) := by unfold partM; rw [eF1, e2, eF2, e4]; rfl
            exact XV.iret C (xlk_ok okM_isPart rfl) hret rfl (Nat.le_of_ble_eq_true rfl) (Nat.le_of_ble_eq_true rfl) ⟨rfl, Or.inr ⟨by rw [ep]; exact eF3, rfl, _, _, by rw [ep]; exact hT6.trans hTF3, by rw [ep]; exact hfF3, rfl⟩⟩
        ·
          have e4 := if1_0 c4
          refine XV.run C okM_isPart 1 (q := (72, ([some (.ref (213))], [.int (1)]))) rfl ?_
          have ep : partM mx len a t td = (true, (a + 3, upd (upd (upd td (3 * t + 2) 1) (3 * t + 0) (mx a - 48)) (3 * t + 1) (mx (a + 2) - 48))) := by unfold partM; rw [eF1, e2, eF2, e4]; rfl
          exact XV.iret C (xlk_ok okM_isPart rfl) hret rfl (Nat.le_of_ble_eq_true rfl) (Nat.le_of_ble_eq_true rfl) ⟨rfl, Or.inl ⟨by rw [ep], rfl, _, by rw [ep]; exact hT5.trans hTF2, by rw [ep]⟩⟩
      ·
        refine XV.if_ne C (tgt := 60) (xlk_ok okM_isPart rfl) rfl (fun hc => absurd (rfl) hc) (fun _ => ?_)
        refine XV.run C okM_isPart 1 (q := (59, ([some (.ref (213))], [.int (0)]))) rfl ?_
        have ep : partM mx len a t td = (false, (a + 2, td)) := by unfold partM; rw [eF1, e2, eF2]; rfl
        exact XV.iret C (xlk_ok okM_isPart rfl) hret rfl (Nat.le_of_ble_eq_true rfl) (Nat.le_of_ble_eq_true rfl) ⟨rfl, Or.inr ⟨by rw [ep], rfl, _, _, by rw [ep]; exact hT5.trans hTF2, by rw [ep]; exact hfF2, rfl⟩⟩
    ·
      have e2 := if1_0 c2
      refine XV.run C okM_isPart 1 (q := (36, ([some (.ref (213))], [.ref (213)]))) rfl ?_
      refine XV.callV C (As := []) (rest := []) (ci := 5) (ct_M_stops hfl hn) (xlk_ok okM_isPart rfl) rfl (by omega) (by omega) rfl (mw_o) rfl wM_M_116 wI_M_stops wV_M_stops wN_M wB_M_stops hy_M_stops (fun q => q.elim) ⟨Nat.le_of_ble_eq_true rfl, Nat.le_of_ble_eq_true rfl⟩ ⟨Nat.le_of_ble_eq_true rfl, Nat.le_of_ble_eq_true rfl⟩ (Nat.le_of_ble_eq_true rfl) (fun r n h hp => ?_) (fun _ _ _ q => q.elim)
      obtain ⟨rfl, rfl, rfl⟩ := hp
      have ep : partM mx len a t td = (false, (a + 1, td)) := by unfold partM; rw [eF1, e2]; rfl
      exact XV.iret C (xlk_ok okM_isPart rfl) hret rfl (Nat.le_of_ble_eq_true rfl) (Nat.le_of_ble_eq_true rfl) ⟨rfl, Or.inr ⟨by rw [ep], rfl, _, _, by rw [ep]; exact hTF1.trans (TF_8 hTF1.b7), by rw [ep]; exact upd_eq.trans (flt_of (a := a + 1) (hTF1.b5 h5) hTF1.b7 (by omega) hl6), rfl⟩⟩
  ·
    refine XV.if_ne C (tgt := 24) (xlk_ok okM_isPart rfl) rfl (fun hc => absurd (rfl) hc) (fun _ => ?_)
    refine XV.run C okM_isPart 1 (q := (23, ([some (.ref (213))], [.int (0)]))) rfl ?_
    have ep : partM mx len a t td = (false, (a, td)) := by unfold partM; rw [eF1]; rfl
    exact XV.iret C (xlk_ok okM_isPart rfl) hret rfl (Nat.le_of_ble_eq_true rfl) (Nat.le_of_ble_eq_true rfl) ⟨rfl, Or.inr ⟨by rw [ep], rfl, _, _, by rw [ep]; exact hTF1, by rw [ep]; exact hfF1, rfl⟩⟩
