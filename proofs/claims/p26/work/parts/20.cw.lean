/-! the world of the class -/
def cwC (f : Nat → Int32) (o kp : Nat) (P : Nat → Nat → Int32) (tx : Nat → Int32) (len : Nat) (p : PT) (ρ : Nat → Int32) : Nat → XC := fun j =>
  if j = 0 then .inr (4, [.ref 5, .ref 33, .ref 203, .ref 208])
  else if j < 29 then elevC 5 f (j - 1)
  else if j < 199 then histC 33 o kp P (j - 29)
  else if j < 204 then textC 203 tx len p (j - 199)
  else ropeC 208 ρ (j - 204)
abbrev IsCW (h : XH) (f : Nat → Int32) (o kp : Nat) (P : Nat → Nat → Int32) (tx : Nat → Int32) (len : Nat) (p : PT) (ρ : Nat → Int32) : Prop := IsB h 4 209 (cwC f o kp P tx len p ρ)
abbrev setCW (h : XH) (f : Nat → Int32) (o kp : Nat) (P : Nat → Nat → Int32) (tx : Nat → Int32) (len : Nat) (p : PT) (ρ : Nat → Int32) : XH := blk h 4 209 (cwC f o kp P tx len p ρ)
section CW
variable {h : XH} {f : Nat → Int32} {o kp : Nat} {P : Nat → Nat → Int32} {tx : Nat → Int32} {len : Nat} {p : PT} {ρ : Nat → Int32}
theorem setCW_self (hc : IsCW h f o kp P tx len p ρ) : setCW h f o kp P tx len p ρ = h := blk_self hc
theorem cw_o : setCW h f o kp P tx len p ρ 4 = .inr (4, [.ref 5, .ref 33, .ref 203, .ref 208]) := blk_is h 4 209 (cwC f o kp P tx len p ρ) 0 (by decide)
theorem cw_e : IsElev (setCW h f o kp P tx len p ρ) 5 f := by
  refine (blk_is h 4 209 (cwC f o kp P tx len p ρ)).sub (by decide) (by decide) (fun j hj => ?_)
  show (if 5 - 4 + j = 0 then _ else if 5 - 4 + j < 29 then elevC 5 f (5 - 4 + j - 1) else _) = _
  rw [if_neg (by omega), if_pos (by omega), show 5 - 4 + j - 1 = j by omega]
theorem cw_h : IsHist (setCW h f o kp P tx len p ρ) 33 o kp P := by
  refine (blk_is h 4 209 (cwC f o kp P tx len p ρ)).sub (by decide) (by decide) (fun j hj => ?_)
  show (if 33 - 4 + j = 0 then _ else if 33 - 4 + j < 29 then _ else if 33 - 4 + j < 199 then histC 33 o kp P (33 - 4 + j - 29) else _) = _
  rw [if_neg (by omega), if_neg (by omega), if_pos (by omega), show 33 - 4 + j - 29 = j by omega]
theorem cw_t : IsText (setCW h f o kp P tx len p ρ) 203 tx len p := by
  refine (blk_is h 4 209 (cwC f o kp P tx len p ρ)).sub (by decide) (by decide) (fun j hj => ?_)
  show (if 203 - 4 + j = 0 then _ else if 203 - 4 + j < 29 then _ else if 203 - 4 + j < 199 then _ else if 203 - 4 + j < 204 then textC 203 tx len p (203 - 4 + j - 199) else _) = _
  rw [if_neg (by omega), if_neg (by omega), if_neg (by omega), if_pos (by omega), show 203 - 4 + j - 199 = j by omega]
theorem cw_r : IsRope (setCW h f o kp P tx len p ρ) 208 ρ := by
  refine (blk_is h 4 209 (cwC f o kp P tx len p ρ)).sub (by decide) (by decide) (fun j hj => ?_)
  show (if 208 - 4 + j = 0 then _ else if 208 - 4 + j < 29 then _ else if 208 - 4 + j < 199 then _ else if 208 - 4 + j < 204 then _ else ropeC 208 ρ (208 - 4 + j - 204)) = _
  rw [if_neg (by omega), if_neg (by omega), if_neg (by omega), if_neg (by omega), show 208 - 4 + j - 204 = j by omega]
theorem cw_setE (f' : Nat → Int32) : setElev (setCW h f o kp P tx len p ρ) 5 f' = setCW h f' o kp P tx len p ρ := by
  refine blk_sub (by decide) (by decide) (fun j hj => ?_) (fun j hj hne => ?_)
  · show (if 5 - 4 + j = 0 then _ else if 5 - 4 + j < 29 then elevC 5 f' (5 - 4 + j - 1) else _) = _
    rw [if_neg (by omega), if_pos (by omega), show 5 - 4 + j - 1 = j by omega]
  · unfold cwC
    by_cases h0 : j = 0
    · rw [if_pos h0, if_pos h0]
    · rw [if_neg h0, if_neg h0, if_neg (show ¬ j < 29 by omega), if_neg (show ¬ j < 29 by omega)]
theorem cw_setH (o' kp' : Nat) (P' : Nat → Nat → Int32) : setHist (setCW h f o kp P tx len p ρ) 33 o' kp' P' = setCW h f o' kp' P' tx len p ρ := by
  refine blk_sub (by decide) (by decide) (fun j hj => ?_) (fun j hj hne => ?_)
  · show (if 33 - 4 + j = 0 then _ else if 33 - 4 + j < 29 then _ else if 33 - 4 + j < 199 then histC 33 o' kp' P' (33 - 4 + j - 29) else _) = _
    rw [if_neg (by omega), if_neg (by omega), if_pos (by omega), show 33 - 4 + j - 29 = j by omega]
  · unfold cwC
    by_cases h0 : j = 0
    · rw [if_pos h0, if_pos h0]
    · rw [if_neg h0, if_neg h0]
      by_cases h1 : j < 29
      · rw [if_pos h1, if_pos h1]
      · rw [if_neg h1, if_neg h1, if_neg (show ¬ j < 199 by omega), if_neg (show ¬ j < 199 by omega)]
theorem cw_setT (tx' : Nat → Int32) (len' : Nat) (p' : PT) : setText (setCW h f o kp P tx len p ρ) 203 tx' len' p' = setCW h f o kp P tx' len' p' ρ := by
  refine blk_sub (by decide) (by decide) (fun j hj => ?_) (fun j hj hne => ?_)
  · show (if 203 - 4 + j = 0 then _ else if 203 - 4 + j < 29 then _ else if 203 - 4 + j < 199 then _ else if 203 - 4 + j < 204 then textC 203 tx' len' p' (203 - 4 + j - 199) else _) = _
    rw [if_neg (by omega), if_neg (by omega), if_neg (by omega), if_pos (by omega), show 203 - 4 + j - 199 = j by omega]
  · unfold cwC
    by_cases h0 : j = 0
    · rw [if_pos h0, if_pos h0]
    · rw [if_neg h0, if_neg h0]
      by_cases h1 : j < 29
      · rw [if_pos h1, if_pos h1]
      · rw [if_neg h1, if_neg h1]
        by_cases h2 : j < 199
        · rw [if_pos h2, if_pos h2]
        · rw [if_neg h2, if_neg h2, if_neg (show ¬ j < 204 by omega), if_neg (show ¬ j < 204 by omega)]
theorem cw_setR (ρ' : Nat → Int32) : setRope (setCW h f o kp P tx len p ρ) 208 ρ' = setCW h f o kp P tx len p ρ' := by
  refine blk_sub (by decide) (by decide) (fun j hj => ?_) (fun j hj hne => ?_)
  · show (if 208 - 4 + j = 0 then _ else if 208 - 4 + j < 29 then _ else if 208 - 4 + j < 199 then _ else if 208 - 4 + j < 204 then _ else ropeC 208 ρ' (208 - 4 + j - 204)) = _
    rw [if_neg (by omega), if_neg (by omega), if_neg (by omega), if_neg (by omega), show 208 - 4 + j - 204 = j by omega]
  · unfold cwC
    by_cases h0 : j = 0
    · rw [if_pos h0, if_pos h0]
    · rw [if_neg h0, if_neg h0]
      by_cases h1 : j < 29
      · rw [if_pos h1, if_pos h1]
      · rw [if_neg h1, if_neg h1]
        by_cases h2 : j < 199
        · rw [if_pos h2, if_pos h2]
        · rw [if_neg h2, if_neg h2, if_pos (by omega), if_pos (by omega)]
theorem cw_eself : setElev (setCW h f o kp P tx len p ρ) 5 f = setCW h f o kp P tx len p ρ := cw_setE f
theorem cw_tself : setText (setCW h f o kp P tx len p ρ) 203 tx len p = setCW h f o kp P tx len p ρ := cw_setT tx len p
theorem cw_xupE {j : Nat} {c : XC} {f' : Nat → Int32} (hx : xup (setElev (setCW h f o kp P tx len p ρ) 5 f) j c = setElev (setCW h f o kp P tx len p ρ) 5 f') : xup (setCW h f o kp P tx len p ρ) j c = setCW h f' o kp P tx len p ρ := by
  rw [cw_eself, cw_setE] at hx
  exact hx
theorem cw_xupT {j : Nat} {c : XC} {tx' : Nat → Int32} {len' : Nat} {p' : PT} (hx : xup (setText (setCW h f o kp P tx len p ρ) 203 tx len p) j c = setText (setCW h f o kp P tx len p ρ) 203 tx' len' p') : xup (setCW h f o kp P tx len p ρ) j c = setCW h f o kp P tx' len' p' ρ := by
  rw [cw_tself, cw_setT] at hx
  exact hx
/-- a rope that hangs, anew -/
theorem cw_putR {i : Nat} (hi : i < 5) {r : Nat → Int32} (hq : ¬ r 0 = 0) : setRope (setCW h f o kp P tx len p ρ) (5 + 3 + 5 * i) r = setCW h (putRow f i r) o kp P tx len p ρ := by
  have := setElev_put (setCW h f o kp P tx len p ρ) 5 f i r hi hq
  rw [cw_eself, cw_setE] at this
  exact this
end CW
def kO (o kp : Nat) : Nat := if kp = 6 then (o + 1) % 6 else o
def kK (kp : Nat) : Nat := if kp = 6 then 6 else kp + 1
def kP (o kp : Nat) (P : Nat → Nat → Int32) (f : Nat → Int32) : Nat → Nat → Int32 := upP P (if kp = 6 then ((o + 1) % 6 + 5) % 6 else (o + kp) % 6) f
theorem ct_H_keep {l : Launch} (hfl : l.stackTraces = false) {G : XG} {n : Nat} {h : XH} {a o kp : Nat} {P : Nat → Nat → Int32} (hH : IsHist h a o kp P) (a4 : 4 ≤ a) (an : a + 170 ≤ n + 4) (ho : o < 6) {e : Nat} {f : Nat → Int32} (hE : IsElev h e f) (e4 : 4 ≤ e) (en : e + 28 ≤ n + 4) (hd : e + 28 ≤ a ∨ a + 170 ≤ e) (hk : kp ≤ 6) : XCt l G False (Cond.code yH_keep bH_keep 3 none) yH_keep 3 71 0 0 [.ref (a), .ref (e)] n h (fun r' n' h' => r' = none ∧ n' = n ∧ h' = setHist h a (kO o kp) (kK kp) (kP o kp P f)) (fun _ _ _ => False) := by
  by_cases h6 : kp = 6
  · subst h6
    exact ct_H_keep_full hfl hH a4 an ho hE e4 en hd
  · have e1 : kO o kp = o := if_neg h6
    have e2 : kK kp = kp + 1 := if_neg h6
    have e3 : kP o kp P f = upP P ((o + kp) % 6) f := by unfold kP; rw [if_neg h6]
    rw [e1, e2, e3]
    exact ct_H_keep_free hfl hH a4 an ho hE e4 en hd (by omega)
theorem rpK_le {tx : Nat → Int32} {len : Nat} : ∀ (d s j : Nat) (p : PT), p.2.2.2 ≤ 15 → (rpK tx len d s j p).2.2.2.2 ≤ 15
  | 0, _, _, _, h => h
  | d + 1, s, j, p, h => by
    cases hs : stp s (sgn tx len j) with
    | none => rw [rpK_none hs]; exact h
    | some s' => rw [rpK_some hs]; exact rpK_le d s' (j + 1) _ (rsK_le h)
