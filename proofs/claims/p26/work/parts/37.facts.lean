/-! what the law asks of the figures -/
/-- an elevator in order after T turns -/
def OKT (f : Nat → Int32) (T : Nat) : Prop := ∃ k m tt, OKf f k m tt ∧ m ≤ 4 * T ∧ tt ≤ 99 * T
theorem OKT.up {f : Nat → Int32} {T : Nat} (h : OKT f T) : OKT f (T + 1) := by
  obtain ⟨k, m, tt, h1, h2, h3⟩ := h
  exact ⟨k, m, tt, h1, by omega, by omega⟩
def OKP (o kp : Nat) (P : Nat → Nat → Int32) (T : Nat) : Prop := ∀ j, j < kp → OKT (P ((o + j) % 6)) T
theorem OKP.up {o kp : Nat} {P : Nat → Nat → Int32} {T : Nat} (h : OKP o kp P T) : OKP o kp P (T + 1) := fun j hj => (h j hj).up
theorem OKP_save {o kp T : Nat} {P : Nat → Nat → Int32} {f : Nat → Int32} (ho : o < 6) (hk : kp ≤ 6) (h : OKP o kp P T) (hf : OKT f T) : OKP (kO o kp) (kK kp) (kP o kp P f) T := by
  by_cases h6 : kp = 6
  · subst h6
    have e1 : kO o 6 = (o + 1) % 6 := if_pos rfl
    have e2 : kK 6 = 6 := if_pos rfl
    have e3 : kP o 6 P f = upP P (((o + 1) % 6 + 5) % 6) f := rfl
    rw [e1, e2, e3]
    intro j hj
    by_cases hj5 : j = 5
    · subst hj5
      have x : upP P (((o + 1) % 6 + 5) % 6) f (((o + 1) % 6 + 5) % 6) = f := if_pos rfl
      rw [x]
      exact hf
    · have x : upP P (((o + 1) % 6 + 5) % 6) f (((o + 1) % 6 + j) % 6) = P ((o + (j + 1)) % 6) := by
        unfold upP
        rw [if_neg (by omega)]
        exact congrArg P (by omega)
      rw [x]
      exact h (j + 1) (by omega)
  · have e1 : kO o kp = o := if_neg h6
    have e2 : kK kp = kp + 1 := if_neg h6
    have e3 : kP o kp P f = upP P ((o + kp) % 6) f := by unfold kP; rw [if_neg h6]
    rw [e1, e2, e3]
    intro j hj
    by_cases hjk : j = kp
    · subst hjk
      have x : upP P ((o + j) % 6) f ((o + j) % 6) = f := if_pos rfl
      rw [x]
      exact hf
    · have x : upP P ((o + kp) % 6) f ((o + j) % 6) = P ((o + j) % 6) := by
        unfold upP
        rw [if_neg (by omega)]
      rw [x]
      exact h j (by omega)
theorem mleft_congr {f f' r r' : Nat → Int32} (h0 : f' 0 = f 0) (h6 : f' 6 = f 6) (hr : ∀ k, 27 ≤ k → k < 99 → r' k = r k) : mleftK f' r' = mleftK f r := by
  unfold mleftK
  rw [omn_congr (S := fun s => r' (75 + s)) (S' := fun s => r (75 + s)) 24 (fun s hs => hr (75 + s) (by omega) (by omega)), h0, h6]
theorem reason_congr {f f' r r' : Nat → Int32} {z : Nat} (hf : ∀ k, k < 7 → k ≠ 1 → f' k = f k) (hr : ∀ k, 27 ≤ k → k < 99 → r' k = r k) : reasonK f' r' z = reasonK f r z := by
  have hm := mleft_congr (hf 0 (by omega) (by omega)) (hf 6 (by omega) (by omega)) hr
  have hw : gmx (winS r' false z) (25 - z) = gmx (winS r false z) (25 - z) := gmx_congr _ (fun k hk => sumN_congr (fun s h1 h2 => hr (27 + s) (by omega) (by omega)))
  have hs : sumN (colR r' false) 0 24 = sumN (colR r false) 0 24 := sumN_congr (fun s h1 h2 => hr (27 + s) (by omega) (by omega))
  have hg : gmx (grw r') 24 = gmx (grw r) 24 := gmx_congr _ (fun s hs => by
    unfold grw
    rw [hr (27 + s) (by omega) (by omega), hr (51 + s) (by omega) (by omega)])
  unfold reasonK
  rw [hm, hw, hs, hg, hf 3 (by omega) (by omega), hf 4 (by omega) (by omega), hf 5 (by omega) (by omega)]
/-- trips change no reason -/
theorem ret_trav {f : Nat → Int32} {lo hi k z : Nat} {t : Int32} (hlo : lo ≤ hi) (hhi : hi < 8) : ∀ j, j ≤ k → retK (travK f lo hi k t) z j = retK f z j
  | 0, _ => rfl
  | j + 1, hj => by
    have e : reasonK (travK f lo hi k t) (rowOf (travK f lo hi k t) j) z = reasonK f (rowOf f j) z := by
      refine reason_congr (fun w h1 h2 => travK_lo (by omega) (by omega)) (fun w h1 h2 => ?_)
      show travK f lo hi k t (10 + 99 * j + w) = _
      unfold travK
      rw [upd_ne (by omega)]
      show rowOf (mapRows f (fun r => rBendT r (3 * lo) (3 * hi + 3 - 3 * lo) t) k) j w = _
      rw [mapRows_row _ _ _ _ _ (by omega) h2]
      show upd _ _ _ w = _
      rw [upd_ne (by omega)]
      by_cases hb : 3 + 3 * lo ≤ w ∧ w < 3 + 3 * lo + (3 * hi + 3 - 3 * lo)
      · exfalso
        omega
      · exact rBend_ne hb
    unfold retK
    rw [e, ret_trav hlo hhi j (by omega)]
