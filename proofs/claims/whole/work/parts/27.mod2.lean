/-! RopeThreadsModel: what would be -/
theorem mw_trc {h : XH} {g pa tr tr' mx td F : Nat → Int32} (ht : ∀ k, k < 99 → tr k = tr' k) : setM h g pa tr mx td F = setM h g pa tr' mx td F := by
  refine blk_eq fun i hi => ?_
  match i with
  | 0 => rfl
  | 1 => rfl
  | 2 => rfl
  | 3 => exact xar_eq ht
  | 4 => rfl
  | i + 5 => rfl
theorem mw_gc {h : XH} {g g' pa tr mx td F : Nat → Int32} (ht : ∀ k, k < 505 → g k = g' k) : setM h g pa tr mx td F = setM h g' pa tr mx td F := by
  refine blk_eq fun i hi => ?_
  match i with
  | 0 => rfl
  | 1 => exact xar_eq ht
  | 2 => rfl
  | 3 => rfl
  | 4 => rfl
  | i + 5 => rfl
theorem atF_0 (w : Nat → Int32) : atF w 0 = w := by
  funext k
  show w (0 + k) = w k
  rw [Nat.zero_add]
/-- the first j of r over w -/
def cpF (w r : Nat → Int32) (j : Nat) : Nat → Int32 := fun k => if k < j then r k else w k
theorem cpF_0 (w r : Nat → Int32) : cpF w r 0 = w := by
  funext k
  exact if_neg (Nat.not_lt_zero k)
theorem cpF_s (w r : Nat → Int32) (j : Nat) : upd (cpF w r j) j (r j) = cpF w r (j + 1) := by
  funext k
  unfold upd cpF
  by_cases h : k = j
  · subst h
    rw [if_pos rfl, if_pos (by omega)]
  · rw [if_neg h]
    by_cases h2 : k < j
    · rw [if_pos h2, if_pos (by omega)]
    · rw [if_neg h2, if_neg (by omega)]
set_option maxHeartbeats 4000000 in
set_option maxRecDepth 100000 in
theorem ct_M_tries {l : Launch} (hfl : l.stackTraces = false) {G : XG} {n : Nat} {h : XH} {g pa tr mx td F : Nat → Int32} (hn : 215 ≤ n) {i : Nat} (hi : i < 5) {x : Int32} (hx : x = nI i) : XCt l G False (Cond.code yM_tries bM_tries 3 none) yM_tries 1 20 0 0 [.ref (213), .int (x)] n (setM h g pa tr mx td F) (fun r' n' h' => r' = none ∧ n' = n ∧ h' = setM h g pa (rowOf g i) mx td F) (fun _ _ _ => False) := by
  subst hx
  refine XCt.of hfl (by decide +kernel) (Nat.le_of_ble_eq_true rfl) ?_
  intro p' e' s' m' g' b' t' c' C hret hname hnt hmd
  refine XV.run C okM_tries 2 (q := (2, ([some (.ref (213)), some (.int (nI i)), some (.int (0))], []))) rfl ?_
  have loop : ∀ (d j : Nat), j + d = 99 → XV G 3 p' l e' ({ frames := 1, cells := 0, slots := 0, locals := 20 } : Room) s' m' g' b' t' c' (XEnd G b' (fun r' n' h' => r' = none ∧ n' = n ∧ h' = setM h g pa (rowOf g i) mx td F) (fun _ _ _ => False) g' s' 0 0) 2 [some (.ref (213)), some (.int (nI i)), some (.int (nI j))] [] n (setM h g pa (cpF tr (rowOf g i) j) mx td F) 0 0 := by
    intro d
    induction d with
    | zero =>
      intro j hj
      refine XV.run C okM_tries 2 (q := (5, ([some (.ref (213)), some (.int (nI i)), some (.int (nI j))], [.int (99), .int (nI j)]))) rfl ?_
      refine XV.icmp_ge C (tgt := 31) (xlk_ok okM_tries rfl) rfl (fun _ => ?_) (fun hc => absurd (nI_le (a := 99) (by omega) (by omega)) hc)
      exact XV.vret C (xlk_ok okM_tries rfl) hret (Nat.le_of_ble_eq_true rfl) (Nat.le_of_ble_eq_true rfl) (⟨rfl, rfl, mw_trc (fun k hk => by unfold cpF; rw [if_pos (by omega)])⟩)
    | succ d ih =>
      intro j hj
      refine XV.run C okM_tries 2 (q := (5, ([some (.ref (213)), some (.int (nI i)), some (.int (nI j))], [.int (99), .int (nI j)]))) rfl ?_
      refine XV.icmp_ge C (tgt := 31) (xlk_ok okM_tries rfl) rfl (fun hc => absurd hc (nI_ge (b := 99) (by omega) (by omega))) (fun _ => ?_)
      refine XV.run C okM_tries 1 (q := (9, ([some (.ref (213)), some (.int (nI i)), some (.int (nI j))], [.ref (213)]))) rfl ?_
      refine XV.getf C (ci := 5) (kf := 3) (v := .ref (216)) (xlk_ok okM_tries rfl) rfl (by decide) wF_M_16 (by omega) (by omega) (mw_o) rfl ?_
      refine XV.run C okM_tries 2 (q := (14, ([some (.ref (213)), some (.int (nI i)), some (.int (nI j))], [.ref (213), .int (nI j), .ref (216)]))) rfl ?_
      refine XV.getf C (ci := 5) (kf := 0) (v := .ref (214)) (xlk_ok okM_tries rfl) rfl (by decide) wF_M_7 (by omega) (by omega) (mw_o) rfl ?_
      refine XV.run C okM_tries 1 (q := (18, ([some (.ref (213)), some (.int (nI i)), some (.int (nI j))], [.int (nI i), .ref (214), .int (nI j), .ref (216)]))) rfl ?_
      refine XV.callS C (As := [.int (nI i)]) (rest := [.ref (214), .int (nI j), .ref (216)]) (ct_M_row hfl (i := i) (rfl)) (xlk_ok okM_tries rfl) rfl wM_M_59 wS_M_row wN_M wB_M_row hy_M_row (fun q => q.elim) ⟨Nat.le_of_ble_eq_true rfl, Nat.le_of_ble_eq_true rfl⟩ ⟨Nat.le_of_ble_eq_true rfl, Nat.le_of_ble_eq_true rfl⟩ (Nat.le_of_ble_eq_true rfl) (fun r n h hp => ?_) (fun _ _ _ q => q.elim)
      obtain ⟨rfl, rfl, rfl⟩ := hp
      refine XV.run C okM_tries 2 (q := (23, ([some (.ref (213)), some (.int (nI i)), some (.int (nI j))], [.int ((nI (10 + 99 * i)) + (nI j)), .ref (214), .int (nI j), .ref (216)]))) rfl ?_
      refine XV.ialdC C (N := 505) (f := g) (a := (10 + 99 * i + j)) (xlk_ok okM_tries rfl) (by omega) (by omega) (mw_1) (nI_add _ _) (by omega) (by decide) ?_
      refine XV.iastC C (N := 99) (f := (cpF tr (rowOf g i) j)) (a := j) (xlk_ok okM_tries rfl) (by omega) (by omega) (mw_3) (rfl) (by omega) (by decide) ?_
      refine XV.cast (mw_u3 (upd (cpF tr (rowOf g i) j) j (g (10 + 99 * i + j)))) ?_
      refine XV.run C okM_tries 2 (q := (2, ([some (.ref (213)), some (.int (nI i)), some (.int ((nI j) + 1))], []))) rfl ?_
      rw [nI_1]
      refine XV.cast (congrArg (fun w => setM h g pa w mx td F) (cpF_s tr (rowOf g i) j)) ?_
      exact ih (j + 1) (by omega)
  refine XV.cast (h' := setM h g pa (cpF tr (rowOf g i) 0) mx td F) (by rw [cpF_0]) ?_
  exact loop 99 0 (by omega)
def wrnM (g r : Nat → Int32) (z : Nat) (t : Int32) : Bool := decide (g 3 ≤ gmost (rBend r 0 24 t) true z)
set_option maxHeartbeats 4000000 in
set_option maxRecDepth 100000 in
theorem ct_M_isWorn {l : Launch} (hfl : l.stackTraces = false) {G : XG} {n : Nat} {h : XH} {g pa tr mx td F : Nat → Int32} (hn : 215 ≤ n) {z : Nat} (hz : g 2 = nI z) (z1 : 1 ≤ z) (z2 : z ≤ 12) {i : Nat} (hi : i < 5) (hq : 0 < rowOf g i 0) {x : Int32} (hx : x = nI i) (t : Int32) : XCt l G False (Cond.code yM_isWorn bM_isWorn 4 (some .boolean)) yM_isWorn 4 97 0 0 [.ref (213), .int (x), .int (t)] n (setM h g pa tr mx td F) (fun r' n' h' => r' = some (.int (if wrnM g (rowOf g i) z t then 1 else 0)) ∧ n' = n ∧ ∃ tr', h' = setM h g pa tr' mx td F) (fun _ _ _ => False) := by
  subst hx
  refine XCt.of hfl (by decide +kernel) (Nat.le_of_ble_eq_true rfl) ?_
  intro p' e' s' m' g' b' t' c' C hret hname hnt hmd
  refine XV.run C okM_isWorn 2 (q := (2, ([some (.ref (213)), some (.int (nI i)), some (.int (t)), none], [.int (nI i), .ref (213)]))) rfl ?_
  refine XV.callV C (As := [.int (nI i)]) (rest := []) (ci := 5) (ct_M_tries hfl hn (i := i) (by omega) rfl) (xlk_ok okM_isWorn rfl) rfl (by omega) (by omega) rfl (mw_o) rfl wM_M_152 wI_M_tries wV_M_tries wN_M wB_M_tries hy_M_tries (fun q => q.elim) ⟨Nat.le_of_ble_eq_true rfl, Nat.le_of_ble_eq_true rfl⟩ ⟨Nat.le_of_ble_eq_true rfl, Nat.le_of_ble_eq_true rfl⟩ (Nat.le_of_ble_eq_true rfl) (fun r n h hp => ?_) (fun _ _ _ q => q.elim)
  obtain ⟨rfl, rfl, rfl⟩ := hp
  refine XV.run C okM_isWorn 2 (q := (7, ([some (.ref (213)), some (.int (nI i)), some (.int (t)), some (.int (0))], []))) rfl ?_
  have loop : ∀ (d j : Nat), j + d = 24 → XV G 4 p' l e' ({ frames := 4, cells := 0, slots := 0, locals := 97 } : Room) s' m' g' b' t' c' (XEnd G b' (fun r' n' h' => r' = some (.int (if wrnM g (rowOf g i) z t then 1 else 0)) ∧ n' = n ∧ ∃ tr', h' = setM h g pa tr' mx td F) (fun _ _ _ => False) g' s' 0 0) 7 [some (.ref (213)), some (.int (nI i)), some (.int (t)), some (.int (nI j))] [] n (setM h g pa (rBend (rowOf g i) 0 j t) mx td F) 0 0 := by
    intro d
    induction d with
    | zero =>
      intro j hj
      refine XV.run C okM_isWorn 2 (q := (10, ([some (.ref (213)), some (.int (nI i)), some (.int (t)), some (.int (nI j))], [.int (24), .int (nI j)]))) rfl ?_
      refine XV.icmp_ge C (tgt := 31) (xlk_ok okM_isWorn rfl) rfl (fun _ => ?_) (fun hc => absurd (nI_le (a := 24) (by omega) (by omega)) hc)
      obtain rfl : 24 = j := by omega
      refine XV.run C okM_isWorn 2 (q := (33, ([some (.ref (213)), some (.int (nI i)), some (.int (t)), some (.int (nI 24))], [.ref (213), .ref (213)]))) rfl ?_
      refine XV.getf C (ci := 5) (kf := 3) (v := .ref (216)) (xlk_ok okM_isWorn rfl) rfl (by decide) wF_M_16 (by omega) (by omega) (mw_o) rfl ?_
      refine XV.run C okM_isWorn 2 (q := (38, ([some (.ref (213)), some (.int (nI i)), some (.int (t)), some (.int (nI 24))], [.int (1), .int (0), .ref (216), .ref (213)]))) rfl ?_
      refine XV.callV C (As := [.ref (216), .int (0), .int (1)]) (rest := []) (ci := 5) (ct_M_most hfl hn (X := 0) (mw_3) (by omega) (by omega) (by decide) (by omega) hz z1 z2 true rfl (fun _ => by rw [show rBend (rowOf g i) 0 24 t 0 = rowOf g i 0 from if_neg (by omega)]; exact ne_of_gt hq)) (xlk_ok okM_isWorn rfl) rfl (by omega) (by omega) rfl (mw_o) rfl wM_M_56 wI_M_most wV_M_most wN_M wB_M_most hy_M_most (fun q => q.elim) ⟨Nat.le_of_ble_eq_true rfl, Nat.le_of_ble_eq_true rfl⟩ ⟨Nat.le_of_ble_eq_true rfl, Nat.le_of_ble_eq_true rfl⟩ (Nat.le_of_ble_eq_true rfl) (fun r n h hp => ?_) (fun _ _ _ q => q.elim)
      obtain ⟨rfl, rfl, rfl⟩ := hp
      refine XV.run C okM_isWorn 1 (q := (42, ([some (.ref (213)), some (.int (nI i)), some (.int (t)), some (.int (nI 24))], [.ref (213), .int (gmost (atF (rBend (rowOf g i) 0 24 t) 0) true z)]))) rfl ?_
      refine XV.getf C (ci := 5) (kf := 0) (v := .ref (214)) (xlk_ok okM_isWorn rfl) rfl (by decide) wF_M_7 (by omega) (by omega) (mw_o) rfl ?_
      refine XV.run C okM_isWorn 1 (q := (46, ([some (.ref (213)), some (.int (nI i)), some (.int (t)), some (.int (nI 24))], [.int (3), .ref (214), .int (gmost (atF (rBend (rowOf g i) 0 24 t) 0) true z)]))) rfl ?_
      refine XV.ialdC C (N := 505) (f := g) (a := 3) (xlk_ok okM_isWorn rfl) (by omega) (by omega) (mw_1) (rfl) (by decide) (by decide) ?_
      refine XV.icmp_lt C (tgt := 54) (xlk_ok okM_isWorn rfl) rfl (fun c1 => ?_) (fun c1 => ?_)
      ·
        refine XV.run C okM_isWorn 1 (q := (55, ([some (.ref (213)), some (.int (nI i)), some (.int (t)), some (.int (nI 24))], [.int (0)]))) rfl ?_
        exact XV.iret C (xlk_ok okM_isWorn rfl) hret (rfl) (Nat.le_of_ble_eq_true rfl) (Nat.le_of_ble_eq_true rfl) (⟨by rw [show wrnM g (rowOf g i) z t = false from decide_eq_false (by rw [← atF_0 (rBend (rowOf g i) 0 24 t)]; exact Int32.not_le.mpr c1)]; rfl, rfl, _, rfl⟩)
      ·
        refine XV.run C okM_isWorn 2 (q := (55, ([some (.ref (213)), some (.int (nI i)), some (.int (t)), some (.int (nI 24))], [.int (1)]))) rfl ?_
        exact XV.iret C (xlk_ok okM_isWorn rfl) hret (rfl) (Nat.le_of_ble_eq_true rfl) (Nat.le_of_ble_eq_true rfl) (⟨by rw [show wrnM g (rowOf g i) z t = true from decide_eq_true (by rw [← atF_0 (rBend (rowOf g i) 0 24 t)]; exact Int32.not_lt.mp c1)]; rfl, rfl, _, rfl⟩)
    | succ d ih =>
      intro j hj
      refine XV.run C okM_isWorn 2 (q := (10, ([some (.ref (213)), some (.int (nI i)), some (.int (t)), some (.int (nI j))], [.int (24), .int (nI j)]))) rfl ?_
      refine XV.icmp_ge C (tgt := 31) (xlk_ok okM_isWorn rfl) rfl (fun hc => absurd hc (nI_ge (b := 24) (by omega) (by omega))) (fun _ => ?_)
      refine XV.run C okM_isWorn 1 (q := (14, ([some (.ref (213)), some (.int (nI i)), some (.int (t)), some (.int (nI j))], [.ref (213)]))) rfl ?_
      refine XV.getf C (ci := 5) (kf := 3) (v := .ref (216)) (xlk_ok okM_isWorn rfl) rfl (by decide) wF_M_16 (by omega) (by omega) (mw_o) rfl ?_
      refine XV.run C okM_isWorn 4 (q := (21, ([some (.ref (213)), some (.int (nI i)), some (.int (t)), some (.int (nI j))], [.int (3 + (nI j)), .ref (216), .int (3 + (nI j)), .ref (216)]))) rfl ?_
      refine XV.ialdC C (N := 99) (f := (rBend (rowOf g i) 0 j t)) (a := (3 + (0 + j))) (xlk_ok okM_isWorn rfl) (by omega) (by omega) (mw_3) (by rw [show (3 : Int32) = nI 3 from rfl, nI_add, Nat.zero_add]) (by omega) (by decide) ?_
      refine XV.run C okM_isWorn 2 (q := (24, ([some (.ref (213)), some (.int (nI i)), some (.int (t)), some (.int (nI j))], [.int (((rBend (rowOf g i) 0 j t) (3 + (0 + j))) + t), .int (3 + (nI j)), .ref (216)]))) rfl ?_
      refine XV.iastC C (N := 99) (f := (rBend (rowOf g i) 0 j t)) (a := (3 + (0 + j))) (xlk_ok okM_isWorn rfl) (by omega) (by omega) (mw_3) (by rw [show (3 : Int32) = nI 3 from rfl, nI_add, Nat.zero_add]) (by omega) (by decide) ?_
      refine XV.cast (mw_u3 (upd (rBend (rowOf g i) 0 j t) (3 + (0 + j)) (((rBend (rowOf g i) 0 j t) (3 + (0 + j))) + t))) ?_
      refine XV.run C okM_isWorn 2 (q := (7, ([some (.ref (213)), some (.int (nI i)), some (.int (t)), some (.int ((nI j) + 1))], []))) rfl ?_
      rw [nI_1]
      refine XV.cast (congrArg (fun w => setM h g pa w mx td F) (rBend_s (rowOf g i) 0 j t)) ?_
      exact ih (j + 1) (by omega)
  refine XV.cast (h' := setM h g pa (rBend (rowOf g i) 0 0 t) mx td F) (by rw [rBend_0]) ?_
  exact loop 24 0 (by omega)
def lfM (g r : Nat → Int32) (z : Nat) : Nat → Nat → Nat → Nat
  | 0, lo, _ => lo
  | d + 1, lo, hi => if lo < hi then (if wrnM g r z (nI ((lo + hi) / 2)) then lfM g r z d lo ((lo + hi) / 2) else lfM g r z d ((lo + hi) / 2 + 1) hi) else lo
theorem half_nI {lo hi : Nat} (h : lo + hi < 2 ^ 31) : (nI lo + nI hi) / 2 = nI ((lo + hi) / 2) := by
  rw [nI_add, show (2 : Int32) = nI 2 from rfl, pk_div h (by decide) (by decide)]
set_option maxHeartbeats 4000000 in
set_option maxRecDepth 100000 in
theorem ct_M_leftFor {l : Launch} (hfl : l.stackTraces = false) {G : XG} {n : Nat} {h : XH} {g pa tr mx td F : Nat → Int32} (hn : 215 ≤ n) {z : Nat} (hz : g 2 = nI z) (z1 : 1 ≤ z) (z2 : z ≤ 12) {i : Nat} (hi : i < 5) (hq : 0 < rowOf g i 0) {x : Int32} (hx : x = nI i) : XCt l G False (Cond.code yM_leftFor bM_leftFor 5 (some .int)) yM_leftFor 5 120 0 0 [.ref (213), .int (x)] n (setM h g pa tr mx td F) (fun r' n' h' => r' = some (.int (nI (lfM g (rowOf g i) z 14 0 9801))) ∧ n' = n ∧ ∃ tr', h' = setM h g pa tr' mx td F) (fun _ _ _ => False) := by
  subst hx
  refine XCt.of hfl (by decide +kernel) (Nat.le_of_ble_eq_true rfl) ?_
  intro p' e' s' m' g' b' t' c' C hret hname hnt hmd
  refine XV.run C okM_leftFor 4 (q := (6, ([some (.ref (213)), some (.int (nI i)), some (.int (0)), some (.int (9801)), none], []))) rfl ?_
  obtain ⟨V, hV⟩ : ∃ V, V = lfM g (rowOf g i) z 14 0 9801 := ⟨_, rfl⟩
  rw [← hV]
  have loop : ∀ (d lo hg : Nat) (σ : Nat → Int32), hg < lo + 2 ^ d → hg ≤ 9801 → lo ≤ hg → lfM g (rowOf g i) z d lo hg = V → XV G 5 p' l e' ({ frames := 5, cells := 0, slots := 0, locals := 120 } : Room) s' m' g' b' t' c' (XEnd G b' (fun r' n' h' => r' = some (.int (nI V)) ∧ n' = n ∧ ∃ tr', h' = setM h g pa tr' mx td F) (fun _ _ _ => False) g' s' 0 0) 6 [some (.ref (213)), some (.int (nI i)), some (.int (nI lo)), some (.int (nI hg)), none] [] n (setM h g pa σ mx td F) 0 0 := by
    intro d
    induction d with
    | zero =>
      intro lo hg σ hd h9 hlh hv
      have hv1 : lo = V := hv
      rw [Nat.pow_zero] at hd
      refine XV.run C okM_leftFor 2 (q := (8, ([some (.ref (213)), some (.int (nI i)), some (.int (nI lo)), some (.int (nI hg)), none], [.int (nI hg), .int (nI lo)]))) rfl ?_
      refine XV.icmp_ge C (tgt := 42) (xlk_ok okM_leftFor rfl) rfl (fun _ => ?_) (fun hc => absurd (nI_le (by omega) (by omega)) hc)
      refine XV.run C okM_leftFor 1 (q := (43, ([some (.ref (213)), some (.int (nI i)), some (.int (nI lo)), some (.int (nI hg)), none], [.int (nI lo)]))) rfl ?_
      exact XV.iret C (xlk_ok okM_leftFor rfl) hret rfl (Nat.le_of_ble_eq_true rfl) (Nat.le_of_ble_eq_true rfl) (⟨by rw [hv1], rfl, _, rfl⟩)
    | succ d ih =>
      intro lo hg σ hd h9 hlh hv
      refine XV.run C okM_leftFor 2 (q := (8, ([some (.ref (213)), some (.int (nI i)), some (.int (nI lo)), some (.int (nI hg)), none], [.int (nI hg), .int (nI lo)]))) rfl ?_
      refine XV.icmp_ge C (tgt := 42) (xlk_ok okM_leftFor rfl) rfl (fun c0 => ?_) (fun c0 => ?_)
      ·
        have hv1 : lo = V := by rw [← hv]; exact (if_neg (fun q => absurd (nI_lt q (by omega)) (Int32.not_lt.mpr c0))).symm
        refine XV.run C okM_leftFor 1 (q := (43, ([some (.ref (213)), some (.int (nI i)), some (.int (nI lo)), some (.int (nI hg)), none], [.int (nI lo)]))) rfl ?_
        exact XV.iret C (xlk_ok okM_leftFor rfl) hret rfl (Nat.le_of_ble_eq_true rfl) (Nat.le_of_ble_eq_true rfl) (⟨by rw [hv1], rfl, _, rfl⟩)
      ·
        have c1 : lo < hg := Nat.lt_of_not_le fun q => c0 (nI_le q (by omega))
        have hp2 : 2 ^ (d + 1) = 2 * 2 ^ d := by rw [Nat.pow_succ]; omega
        refine XV.run C okM_leftFor 4 (q := (15, ([some (.ref (213)), some (.int (nI i)), some (.int (nI lo)), some (.int (nI hg)), none], [.int (2), .int ((nI lo) + (nI hg))]))) rfl ?_
        refine XV.idiv C (xlk_ok okM_leftFor rfl) (by decide) ?_
        rw [show (((nI lo) + (nI hg)) / 2 : Int32) = nI ((lo + hg) / 2) from half_nI (by omega)]
        refine XV.run C okM_leftFor 4 (q := (22, ([some (.ref (213)), some (.int (nI i)), some (.int (nI lo)), some (.int (nI hg)), some (.int (nI ((lo + hg) / 2)))], [.int (nI ((lo + hg) / 2)), .int (nI i), .ref (213)]))) rfl ?_
        refine XV.callV C (As := [.int (nI i), .int (nI ((lo + hg) / 2))]) (rest := []) (ci := 5) (ct_M_isWorn hfl hn hz z1 z2 (i := i) hi hq rfl (nI ((lo + hg) / 2))) (xlk_ok okM_leftFor rfl) rfl (by omega) (by omega) rfl (mw_o) rfl wM_M_165 wI_M_isWorn wV_M_isWorn wN_M wB_M_isWorn hy_M_isWorn (fun q => q.elim) ⟨Nat.le_of_ble_eq_true rfl, Nat.le_of_ble_eq_true rfl⟩ ⟨Nat.le_of_ble_eq_true rfl, Nat.le_of_ble_eq_true rfl⟩ (Nat.le_of_ble_eq_true rfl) (fun r n h hp => ?_) (fun _ _ _ q => q.elim)
        obtain ⟨rfl, rfl, tr1, rfl⟩ := hp
        refine XV.if_eq C (tgt := 34) (xlk_ok okM_leftFor rfl) rfl (fun c2 => ?_) (fun c2 => ?_)
        ·
          have hv2 : lfM g (rowOf g i) z d ((lo + hg) / 2 + 1) hg = V := by rw [← hv]; show _ = if _ then (if _ then _ else _) else _; rw [if_pos c1, if1_0 c2]; rfl
          refine XV.run C okM_leftFor 5 (q := (6, ([some (.ref (213)), some (.int (nI i)), some (.int ((nI ((lo + hg) / 2)) + 1)), some (.int (nI hg)), some (.int (nI ((lo + hg) / 2)))], []))) rfl ?_
          rw [nI_1]
          exact XV.drop (ih _ _ _ (by omega) (by omega) (by omega) hv2) rfl (by simp [xle])
        ·
          have hv2 : lfM g (rowOf g i) z d lo ((lo + hg) / 2) = V := by rw [← hv]; show _ = if _ then (if _ then _ else _) else _; rw [if_pos c1, if1_1 c2]; rfl
          refine XV.run C okM_leftFor 4 (q := (6, ([some (.ref (213)), some (.int (nI i)), some (.int (nI lo)), some (.int (nI ((lo + hg) / 2))), some (.int (nI ((lo + hg) / 2)))], []))) rfl ?_
          exact XV.drop (ih _ _ _ (by omega) (by omega) (by omega) hv2) rfl (by simp [xle])
  exact loop 14 0 9801 _ (by decide) (by decide) (by decide) hV.symm
set_option maxHeartbeats 4000000 in
set_option maxRecDepth 100000 in
theorem ct_M_inspects_t {l : Launch} (hfl : l.stackTraces = false) {G : XG} {n : Nat} {h : XH} {g pa tr mx td F : Nat → Int32} (hn : 215 ≤ n) {a v b : Nat} {x y u : Int32} (hx : x = nI 0) (hy : y = nI a) (hu : u = nI b) (hb : b < 24) (hv : a + v = b + 1) (hq : 0 < tr 0) : XCt l G False (Cond.code yM_inspects bM_inspects 6 none) yM_inspects 1 22 0 0 [.ref (213), .ref (216), .int (x), .int (y), .int (u)] n (setM h g pa tr mx td F) (fun r' n' h' => r' = none ∧ n' = n ∧ h' = setM h g pa (rLook tr a v (g 0)) mx td F) (fun _ _ _ => False) := by
  subst hx; subst hy; subst hu
  refine XCt.of hfl (by decide +kernel) (Nat.le_of_ble_eq_true rfl) ?_
  intro p' e' s' m' g' b' t' c' C hret hname hnt hmd
  refine XV.run C okM_inspects 2 (q := (3, ([some (.ref (213)), some (.ref (216)), some (.int (nI 0)), some (.int (nI a)), some (.int (nI b)), some (.int (nI a))], []))) rfl ?_
  have loop : ∀ (d j : Nat), j + d = v → XV G 6 p' l e' ({ frames := 1, cells := 0, slots := 0, locals := 22 } : Room) s' m' g' b' t' c' (XEnd G b' (fun r' n' h' => r' = none ∧ n' = n ∧ h' = setM h g pa (rLook tr a v (g 0)) mx td F) (fun _ _ _ => False) g' s' 0 0) 3 [some (.ref (213)), some (.ref (216)), some (.int (nI 0)), some (.int (nI a)), some (.int (nI b)), some (.int (nI (a + j)))] [] n (setM h g pa (rLook tr a j (g 0)) mx td F) 0 0 := by
    intro d
    induction d with
    | zero =>
      intro j hj
      refine XV.run C okM_inspects 2 (q := (7, ([some (.ref (213)), some (.ref (216)), some (.int (nI 0)), some (.int (nI a)), some (.int (nI b)), some (.int (nI (a + j)))], [.int (nI b), .int (nI (a + j))]))) rfl ?_
      refine XV.icmp_gt C (tgt := 65) (xlk_ok okM_inspects rfl) rfl (fun _ => ?_) (fun hc => absurd (nI_lt (by omega) (by omega)) hc)
      exact XV.vret C (xlk_ok okM_inspects rfl) hret (Nat.le_of_ble_eq_true rfl) (Nat.le_of_ble_eq_true rfl) (⟨rfl, rfl, by rw [show j = v by omega]⟩)
    | succ d ih =>
      intro j hj
      refine XV.run C okM_inspects 2 (q := (7, ([some (.ref (213)), some (.ref (216)), some (.int (nI 0)), some (.int (nI a)), some (.int (nI b)), some (.int (nI (a + j)))], [.int (nI b), .int (nI (a + j))]))) rfl ?_
      refine XV.icmp_gt C (tgt := 65) (xlk_ok okM_inspects rfl) rfl (fun hc => absurd hc (nI_nlt (by omega) (by omega))) (fun _ => ?_)
      refine XV.run C okM_inspects 12 (q := (26, ([some (.ref (213)), some (.ref (216)), some (.int (nI 0)), some (.int (nI a)), some (.int (nI b)), some (.int (nI (a + j)))], [.int (((nI 0) + 27) + (nI (a + j))), .ref (216), .int (((nI 0) + 51) + (nI (a + j))), .ref (216)]))) rfl ?_
      refine XV.ialdC C (N := 99) (f := (rLook tr a j (g 0))) (a := (27 + (a + j))) (xlk_ok okM_inspects rfl) (by omega) (by omega) (mw_3) ((ix3 0 (a + j) (d := 27) rfl).trans (congrArg nI (Nat.zero_add _))) (by omega) (by decide) ?_
      refine XV.iastC C (N := 99) (f := (rLook tr a j (g 0))) (a := (51 + (a + j))) (xlk_ok okM_inspects rfl) (by omega) (by omega) (mw_3) ((ix3 0 (a + j) (d := 51) rfl).trans (congrArg nI (Nat.zero_add _))) (by omega) (by decide) ?_
      refine XV.cast (mw_u3 (upd (rLook tr a j (g 0)) (51 + (a + j)) ((rLook tr a j (g 0)) (27 + (a + j))))) ?_
      refine XV.run C okM_inspects 9 (q := (40, ([some (.ref (213)), some (.ref (216)), some (.int (nI 0)), some (.int (nI a)), some (.int (nI b)), some (.int (nI (a + j)))], [.int (nI (a + j)), .int (nI 0), .ref (216), .int (((nI 0) + 27) + (nI (a + j))), .ref (216)]))) rfl ?_
      refine XV.callS C (As := [.ref (216), .int (nI 0), .int (nI (a + j))]) (rest := [.int (((nI 0) + 27) + (nI (a + j))), .ref (216)]) (ct_M_broken hfl (X := 0) (mw_3) (by omega) (by omega) (by decide) (by omega) (s := a + j) (rfl) (rfl) (by omega) (by rw [show upd (rLook tr a j (g 0)) (51 + (a + j)) (rLook tr a j (g 0) (27 + (a + j))) 0 = tr 0 from (upd_ne (by omega)).trans (look0 _ _ _ _)]; exact ne_of_gt hq)) (xlk_ok okM_inspects rfl) rfl wM_M_40 wS_M_broken wN_M wB_M_broken hy_M_broken (fun q => q.elim) ⟨Nat.le_of_ble_eq_true rfl, Nat.le_of_ble_eq_true rfl⟩ ⟨Nat.le_of_ble_eq_true rfl, Nat.le_of_ble_eq_true rfl⟩ (Nat.le_of_ble_eq_true rfl) (fun r n h hp => ?_) (fun _ _ _ q => q.elim)
      obtain ⟨rfl, rfl, rfl⟩ := hp
      rw [atF_0]
      refine XV.iastC C (N := 99) (f := (upd (rLook tr a j (g 0)) (51 + (a + j)) ((rLook tr a j (g 0)) (27 + (a + j))))) (a := (27 + (a + j))) (xlk_ok okM_inspects rfl) (by omega) (by omega) (mw_3) ((ix3 0 (a + j) (d := 27) rfl).trans (congrArg nI (Nat.zero_add _))) (by omega) (by decide) ?_
      refine XV.cast (mw_u3 (upd (upd (rLook tr a j (g 0)) (51 + (a + j)) ((rLook tr a j (g 0)) (27 + (a + j)))) (27 + (a + j)) (brk (upd (rLook tr a j (g 0)) (51 + (a + j)) ((rLook tr a j (g 0)) (27 + (a + j)))) (a + j)))) ?_
      refine XV.run C okM_inspects 7 (q := (53, ([some (.ref (213)), some (.ref (216)), some (.int (nI 0)), some (.int (nI a)), some (.int (nI b)), some (.int (nI (a + j)))], [.ref (213), .int (((nI 0) + 75) + (nI (a + j))), .ref (216)]))) rfl ?_
      refine XV.getf C (ci := 5) (kf := 0) (v := .ref (214)) (xlk_ok okM_inspects rfl) rfl (by decide) wF_M_7 (by omega) (by omega) (mw_o) rfl ?_
      refine XV.run C okM_inspects 1 (q := (57, ([some (.ref (213)), some (.ref (216)), some (.int (nI 0)), some (.int (nI a)), some (.int (nI b)), some (.int (nI (a + j)))], [.int (0), .ref (214), .int (((nI 0) + 75) + (nI (a + j))), .ref (216)]))) rfl ?_
      refine XV.ialdC C (N := 505) (f := g) (a := 0) (xlk_ok okM_inspects rfl) (by omega) (by omega) (mw_1) (rfl) (by decide) (by decide) ?_
      refine XV.iastC C (N := 99) (f := (upd (upd (rLook tr a j (g 0)) (51 + (a + j)) ((rLook tr a j (g 0)) (27 + (a + j)))) (27 + (a + j)) (brk (upd (rLook tr a j (g 0)) (51 + (a + j)) ((rLook tr a j (g 0)) (27 + (a + j)))) (a + j)))) (a := (75 + (a + j))) (xlk_ok okM_inspects rfl) (by omega) (by omega) (mw_3) ((ix3 0 (a + j) (d := 75) rfl).trans (congrArg nI (Nat.zero_add _))) (by omega) (by decide) ?_
      refine XV.cast (mw_u3 (upd (upd (upd (rLook tr a j (g 0)) (51 + (a + j)) ((rLook tr a j (g 0)) (27 + (a + j)))) (27 + (a + j)) (brk (upd (rLook tr a j (g 0)) (51 + (a + j)) ((rLook tr a j (g 0)) (27 + (a + j)))) (a + j))) (75 + (a + j)) (g 0))) ?_
      refine XV.run C okM_inspects 2 (q := (3, ([some (.ref (213)), some (.ref (216)), some (.int (nI 0)), some (.int (nI a)), some (.int (nI b)), some (.int ((nI (a + j)) + 1))], []))) rfl ?_
      rw [nI_1]
      refine XV.cast (congrArg (fun w => setM h g pa w mx td F) (rLook_s tr a j (g 0) (by omega))) ?_
      exact ih (j + 1) (by omega)
  refine XV.cast (h' := setM h g pa (rLook tr a 0 (g 0)) mx td F) (by rw [rLook_0]) ?_
  exact loop v 0 (by omega)
set_option maxHeartbeats 4000000 in
set_option maxRecDepth 100000 in
theorem ct_M_reasonThen {l : Launch} (hfl : l.stackTraces = false) {G : XG} {n : Nat} {h : XH} {g pa tr mx td F : Nat → Int32} (hn : 215 ≤ n) {z : Nat} (hz : g 2 = nI z) (z1 : 1 ≤ z) (z2 : z ≤ 12) {i : Nat} (hi : i < 5) (hq : 0 < rowOf g i 0) {a v b : Nat} {x y u : Int32} (hx : x = nI i) (hy : y = nI a) (hu : u = nI b) (hb : b < 24) (hv : a + v = b + 1) : XCt l G False (Cond.code yM_reasonThen bM_reasonThen 4 (some .int)) yM_reasonThen 5 122 0 0 [.ref (213), .int (x), .int (y), .int (u)] n (setM h g pa tr mx td F) (fun r' n' h' => r' = some (.int (reasonM g (rLook (rowOf g i) a v (g 0)) z)) ∧ n' = n ∧ ∃ tr', h' = setM h g pa tr' mx td F) (fun _ _ _ => False) := by
  subst hx; subst hy; subst hu
  refine XCt.of hfl (by decide +kernel) (Nat.le_of_ble_eq_true rfl) ?_
  intro p' e' s' m' g' b' t' c' C hret hname hnt hmd
  refine XV.run C okM_reasonThen 2 (q := (2, ([some (.ref (213)), some (.int (nI i)), some (.int (nI a)), some (.int (nI b))], [.int (nI i), .ref (213)]))) rfl ?_
  refine XV.callV C (As := [.int (nI i)]) (rest := []) (ci := 5) (ct_M_tries hfl hn (i := i) (by omega) rfl) (xlk_ok okM_reasonThen rfl) rfl (by omega) (by omega) rfl (mw_o) rfl wM_M_152 wI_M_tries wV_M_tries wN_M wB_M_tries hy_M_tries (fun q => q.elim) ⟨Nat.le_of_ble_eq_true rfl, Nat.le_of_ble_eq_true rfl⟩ ⟨Nat.le_of_ble_eq_true rfl, Nat.le_of_ble_eq_true rfl⟩ (Nat.le_of_ble_eq_true rfl) (fun r n h hp => ?_) (fun _ _ _ q => q.elim)
  obtain ⟨rfl, rfl, rfl⟩ := hp
  refine XV.run C okM_reasonThen 2 (q := (7, ([some (.ref (213)), some (.int (nI i)), some (.int (nI a)), some (.int (nI b))], [.ref (213), .ref (213)]))) rfl ?_
  refine XV.getf C (ci := 5) (kf := 3) (v := .ref (216)) (xlk_ok okM_reasonThen rfl) rfl (by decide) wF_M_16 (by omega) (by omega) (mw_o) rfl ?_
  refine XV.run C okM_reasonThen 3 (q := (13, ([some (.ref (213)), some (.int (nI i)), some (.int (nI a)), some (.int (nI b))], [.int (nI b), .int (nI a), .int (0), .ref (216), .ref (213)]))) rfl ?_
  refine XV.callV C (As := [.ref (216), .int (0), .int (nI a), .int (nI b)]) (rest := []) (ci := 5) (ct_M_inspects_t hfl hn (a := a) (v := v) (b := b) rfl (rfl) (rfl) (by omega) (by omega) (hq)) (xlk_ok okM_reasonThen rfl) rfl (by omega) (by omega) rfl (mw_o) rfl wM_M_79 wI_M_inspects wV_M_inspects wN_M wB_M_inspects hy_M_inspects (fun q => q.elim) ⟨Nat.le_of_ble_eq_true rfl, Nat.le_of_ble_eq_true rfl⟩ ⟨Nat.le_of_ble_eq_true rfl, Nat.le_of_ble_eq_true rfl⟩ (Nat.le_of_ble_eq_true rfl) (fun r n h hp => ?_) (fun _ _ _ q => q.elim)
  obtain ⟨rfl, rfl, rfl⟩ := hp
  refine XV.run C okM_reasonThen 2 (q := (18, ([some (.ref (213)), some (.int (nI i)), some (.int (nI a)), some (.int (nI b))], [.ref (213), .ref (213)]))) rfl ?_
  refine XV.getf C (ci := 5) (kf := 3) (v := .ref (216)) (xlk_ok okM_reasonThen rfl) rfl (by decide) wF_M_16 (by omega) (by omega) (mw_o) rfl ?_
  refine XV.run C okM_reasonThen 1 (q := (22, ([some (.ref (213)), some (.int (nI i)), some (.int (nI a)), some (.int (nI b))], [.int (0), .ref (216), .ref (213)]))) rfl ?_
  refine XV.callV C (As := [.ref (216), .int (0)]) (rest := []) (ci := 5) (ct_M_reason hfl hn (X := 0) (mw_3) (by omega) (by omega) (by decide) (by omega) hz z1 z2 (rfl)) (xlk_ok okM_reasonThen rfl) rfl (by omega) (by omega) rfl (mw_o) rfl wM_M_87 wI_M_reason wV_M_reason wN_M wB_M_reason hy_M_reason (fun q => q.elim) ⟨Nat.le_of_ble_eq_true rfl, Nat.le_of_ble_eq_true rfl⟩ ⟨Nat.le_of_ble_eq_true rfl, Nat.le_of_ble_eq_true rfl⟩ (Nat.le_of_ble_eq_true rfl) (fun r n h hp => ?_) (fun _ _ _ q => q.elim)
  obtain ⟨rfl, rfl, rfl⟩ := hp
  exact XV.iret C (xlk_ok okM_reasonThen rfl) hret rfl (Nat.le_of_ble_eq_true rfl) (Nat.le_of_ble_eq_true rfl) (⟨by rw [atF_0], rfl, _, rfl⟩)
def unsM (g : Nat → Int32) (z i : Nat) : Bool := decide (reasonM g (rowOf g i) z = 0) && inK (reasonM g (lookR g (rowOf g i)) z) 1 2
def luM (g : Nat → Int32) (z : Nat) : Nat → Nat → Int32
  | 0, _ => -1
  | d + 1, j => if unsM g z j then nI j else luM g z d (j + 1)
theorem luM_t {g : Nat → Int32} {z d j : Nat} (h : unsM g z j = true) : luM g z (d + 1) j = nI j := by unfold luM; rw [h]; rfl
theorem luM_f {g : Nat → Int32} {z d j : Nat} (h : unsM g z j = false) : luM g z (d + 1) j = luM g z d (j + 1) := by show (if unsM g z j then _ else _) = _; rw [h]; rfl
theorem unsM_a {g : Nat → Int32} {z i : Nat} (h : ¬ reasonM g (rowOf g i) z = 0) : unsM g z i = false := by unfold unsM; rw [decide_eq_false h]; rfl
theorem unsM_b {g : Nat → Int32} {z i : Nat} {b : Bool} (h : reasonM g (rowOf g i) z = 0) (h2 : inK (reasonM g (lookR g (rowOf g i)) z) 1 2 = b) : unsM g z i = b := by unfold unsM; rw [decide_eq_true h, h2]; rfl
set_option maxHeartbeats 4000000 in
set_option maxRecDepth 100000 in
theorem ct_M_firstUnseen {l : Launch} (hfl : l.stackTraces = false) {G : XG} {n : Nat} {h : XH} {g pa tr mx td F : Nat → Int32} (hn : 215 ≤ n) {k : Nat} (hm : g 1 = nI k) (hk : k ≤ 5) (hl : ∀ i, i < k → 0 < rowOf g i 0) {z : Nat} (hz : g 2 = nI z) (z1 : 1 ≤ z) (z2 : z ≤ 12) : XCt l G False (Cond.code yM_firstUnseen bM_firstUnseen 2 (some .int)) yM_firstUnseen 6 145 0 0 [.ref (213)] n (setM h g pa tr mx td F) (fun r' n' h' => r' = some (.int (luM g z k 0)) ∧ n' = n ∧ ∃ tr', h' = setM h g pa tr' mx td F) (fun _ _ _ => False) := by
  refine XCt.of hfl (by decide +kernel) (Nat.le_of_ble_eq_true rfl) ?_
  intro p' e' s' m' g' b' t' c' C hret hname hnt hmd
  refine XV.run C okM_firstUnseen 2 (q := (2, ([some (.ref (213)), some (.int (0))], []))) rfl ?_
  have loop : ∀ (d j : Nat) (σ : Nat → Int32), j + d = k → luM g z d j = luM g z k 0 → XV G 2 p' l e' ({ frames := 6, cells := 0, slots := 0, locals := 145 } : Room) s' m' g' b' t' c' (XEnd G b' (fun r' n' h' => r' = some (.int (luM g z k 0)) ∧ n' = n ∧ ∃ tr', h' = setM h g pa tr' mx td F) (fun _ _ _ => False) g' s' 0 0) 2 [some (.ref (213)), some (.int (nI j))] [] n (setM h g pa σ mx td F) 0 0 := by
    intro d
    induction d with
    | zero =>
      intro j σ hj hv
      refine XV.run C okM_firstUnseen 2 (q := (4, ([some (.ref (213)), some (.int (nI j))], [.ref (213), .int (nI j)]))) rfl ?_
      refine XV.getf C (ci := 5) (kf := 0) (v := .ref (214)) (xlk_ok okM_firstUnseen rfl) rfl (by decide) wF_M_7 (by omega) (by omega) (mw_o) rfl ?_
      refine XV.run C okM_firstUnseen 1 (q := (8, ([some (.ref (213)), some (.int (nI j))], [.int (1), .ref (214), .int (nI j)]))) rfl ?_
      refine XV.ialdC C (N := 505) (f := g) (a := 1) (xlk_ok okM_firstUnseen rfl) (by omega) (by omega) (mw_1) (rfl) (by decide) (by decide) ?_
      refine XV.icmp_ge C (tgt := 51) (xlk_ok okM_firstUnseen rfl) rfl (fun _ => ?_) (fun hc => absurd (by rw [hm]; exact nI_le (by omega) (by omega)) hc)
      refine XV.run C okM_firstUnseen 1 (q := (52, ([some (.ref (213)), some (.int (nI j))], [.int ((-1))]))) rfl ?_
      exact XV.iret C (xlk_ok okM_firstUnseen rfl) hret (rfl) (Nat.le_of_ble_eq_true rfl) (Nat.le_of_ble_eq_true rfl) (⟨by rw [← hv]; rfl, rfl, _, rfl⟩)
    | succ d ih =>
      intro j σ hj hv
      refine XV.run C okM_firstUnseen 2 (q := (4, ([some (.ref (213)), some (.int (nI j))], [.ref (213), .int (nI j)]))) rfl ?_
      refine XV.getf C (ci := 5) (kf := 0) (v := .ref (214)) (xlk_ok okM_firstUnseen rfl) rfl (by decide) wF_M_7 (by omega) (by omega) (mw_o) rfl ?_
      refine XV.run C okM_firstUnseen 1 (q := (8, ([some (.ref (213)), some (.int (nI j))], [.int (1), .ref (214), .int (nI j)]))) rfl ?_
      refine XV.ialdC C (N := 505) (f := g) (a := 1) (xlk_ok okM_firstUnseen rfl) (by omega) (by omega) (mw_1) (rfl) (by decide) (by decide) ?_
      refine XV.icmp_ge C (tgt := 51) (xlk_ok okM_firstUnseen rfl) rfl (fun hc => absurd hc (by rw [hm]; exact nI_ge (by omega) (by omega))) (fun _ => ?_)
      refine XV.run C okM_firstUnseen 2 (q := (14, ([some (.ref (213)), some (.int (nI j))], [.ref (213), .ref (213)]))) rfl ?_
      refine XV.getf C (ci := 5) (kf := 0) (v := .ref (214)) (xlk_ok okM_firstUnseen rfl) rfl (by decide) wF_M_7 (by omega) (by omega) (mw_o) rfl ?_
      refine XV.run C okM_firstUnseen 1 (q := (18, ([some (.ref (213)), some (.int (nI j))], [.int (nI j), .ref (214), .ref (213)]))) rfl ?_
      refine XV.callS C (As := [.int (nI j)]) (rest := [.ref (214), .ref (213)]) (ct_M_row hfl (i := j) (rfl)) (xlk_ok okM_firstUnseen rfl) rfl wM_M_59 wS_M_row wN_M wB_M_row hy_M_row (fun q => q.elim) ⟨Nat.le_of_ble_eq_true rfl, Nat.le_of_ble_eq_true rfl⟩ ⟨Nat.le_of_ble_eq_true rfl, Nat.le_of_ble_eq_true rfl⟩ (Nat.le_of_ble_eq_true rfl) (fun r n h hp => ?_) (fun _ _ _ q => q.elim)
      obtain ⟨rfl, rfl, rfl⟩ := hp
      refine XV.callV C (As := [.ref (214), .int (nI (10 + 99 * j))]) (rest := []) (ci := 5) (ct_M_reason hfl hn (X := 10 + 99 * j) (mw_1) (by omega) (by omega) (by decide) (by omega) hz z1 z2 (rfl)) (xlk_ok okM_firstUnseen rfl) rfl (by omega) (by omega) rfl (mw_o) rfl wM_M_87 wI_M_reason wV_M_reason wN_M wB_M_reason hy_M_reason (fun q => q.elim) ⟨Nat.le_of_ble_eq_true rfl, Nat.le_of_ble_eq_true rfl⟩ ⟨Nat.le_of_ble_eq_true rfl, Nat.le_of_ble_eq_true rfl⟩ (Nat.le_of_ble_eq_true rfl) (fun r n h hp => ?_) (fun _ _ _ q => q.elim)
      obtain ⟨rfl, rfl, rfl⟩ := hp
      refine XV.if_ne C (tgt := 45) (xlk_ok okM_firstUnseen rfl) rfl (fun c1 => ?_) (fun c1 => ?_)
      ·
        refine XV.run C okM_firstUnseen 2 (q := (2, ([some (.ref (213)), some (.int ((nI j) + 1))], []))) rfl ?_
        rw [nI_1]
        exact ih (j + 1) _ (by omega) (by rw [← hv, luM_f (by first | exact unsM_a c1 | exact hu)])
      ·
        refine XV.run C okM_firstUnseen 4 (q := (32, ([some (.ref (213)), some (.int (nI j))], [.int (23), .int (0), .int (nI j), .ref (213)]))) rfl ?_
        refine XV.callV C (As := [.int (nI j), .int (0), .int (23)]) (rest := []) (ci := 5) (ct_M_reasonThen hfl hn hz z1 z2 (i := j) (by omega) (hl j (by omega)) (a := 0) (v := 24) (b := 23) rfl (rfl) (rfl) (by omega) (by omega)) (xlk_ok okM_firstUnseen rfl) rfl (by omega) (by omega) rfl (mw_o) rfl wM_M_156 wI_M_reasonThen wV_M_reasonThen wN_M wB_M_reasonThen hy_M_reasonThen (fun q => q.elim) ⟨Nat.le_of_ble_eq_true rfl, Nat.le_of_ble_eq_true rfl⟩ ⟨Nat.le_of_ble_eq_true rfl, Nat.le_of_ble_eq_true rfl⟩ (Nat.le_of_ble_eq_true rfl) (fun r n h hp => ?_) (fun _ _ _ q => q.elim)
        obtain ⟨rfl, rfl, tr1, rfl⟩ := hp
        refine XV.run C okM_firstUnseen 2 (q := (37, ([some (.ref (213)), some (.int (nI j))], [.int (2), .int (1), .int (reasonM g (rLook (rowOf g j) 0 24 (g 0)) z)]))) rfl ?_
        refine XV.callS C (As := [.int (reasonM g (rLook (rowOf g j) 0 24 (g 0)) z), .int (1), .int (2)]) (rest := []) (ct_M_in hfl (reasonM g (rLook (rowOf g j) 0 24 (g 0)) z) (1) (2)) (xlk_ok okM_firstUnseen rfl) rfl wM_M_29 wS_M_in wN_M wB_M_in hy_M_in (fun q => q.elim) ⟨Nat.le_of_ble_eq_true rfl, Nat.le_of_ble_eq_true rfl⟩ ⟨Nat.le_of_ble_eq_true rfl, Nat.le_of_ble_eq_true rfl⟩ (Nat.le_of_ble_eq_true rfl) (fun r n h hp => ?_) (fun _ _ _ q => q.elim)
        obtain ⟨rfl, rfl, rfl⟩ := hp
        refine XV.if_eq C (tgt := 45) (xlk_ok okM_firstUnseen rfl) rfl (fun c2 => ?_) (fun c2 => ?_)
        ·
          have hu : unsM g z j = false := unsM_b c1 (if1_0 c2)
          refine XV.run C okM_firstUnseen 2 (q := (2, ([some (.ref (213)), some (.int ((nI j) + 1))], []))) rfl ?_
          rw [nI_1]
          exact ih (j + 1) _ (by omega) (by rw [← hv, luM_f (by first | exact unsM_a c1 | exact hu)])
        ·
          have hu : unsM g z j = true := unsM_b c1 (if1_1 c2)
          refine XV.run C okM_firstUnseen 1 (q := (44, ([some (.ref (213)), some (.int (nI j))], [.int (nI j)]))) rfl ?_
          exact XV.iret C (xlk_ok okM_firstUnseen rfl) hret rfl (Nat.le_of_ble_eq_true rfl) (Nat.le_of_ble_eq_true rfl) (⟨by rw [← hv, luM_t hu], rfl, _, rfl⟩)
  exact loop k 0 _ (by omega) rfl
