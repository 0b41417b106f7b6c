/-! the text: the reference's descent and the class's states tell the same -/
theorem tc_42 : (42 : Int32).toInt = 42 := by decide
theorem tc_45 : (45 : Int32).toInt = 45 := by decide
theorem tc_48 : (48 : Int32).toInt = 48 := by decide
theorem tc_49 : (49 : Int32).toInt = 49 := by decide
theorem tc_55 : (55 : Int32).toInt = 55 := by decide
theorem tc_56 : (56 : Int32).toInt = 56 := by decide
theorem tc_57 : (57 : Int32).toInt = 57 := by decide
theorem tc_59 : (59 : Int32).toInt = 59 := by decide
theorem in_I {c a b : Int32} : inK c a b = true ↔ a.toInt ≤ c.toInt ∧ c.toInt ≤ b.toInt := by
  unfold inK
  rw [decide_eq_true_iff, le_tI, le_tI]
theorem in_nI {c a b : Int32} : inK c a b = false ↔ ¬ (a.toInt ≤ c.toInt ∧ c.toInt ≤ b.toInt) := by
  rw [← in_I, Bool.not_eq_true]
theorem eq_tI {a b : Int32} : a = b ↔ a.toInt = b.toInt := ⟨fun h => h ▸ rfl, tI_inj⟩
theorem flo_t {c : Int32} (h : inK c 48 55 = true) : floK c = true := by
  rw [in_I, tc_48, tc_55] at h
  exact decide_eq_true (by rw [le_tI, lt_tI, tc_48, tc_56]; omega)
theorem flo_f {c : Int32} (h : inK c 48 55 = false) : floK c = false := by
  rw [in_nI, tc_48, tc_55] at h
  exact decide_eq_false (by rw [le_tI, lt_tI, tc_48, tc_56]; omega)
theorem dig_in (c : Int32) : digK c = inK c 48 57 := rfl
theorem in_t {c v : Int32} (h : inK c v v = true) : c = v := by
  rw [in_I] at h
  exact tI_inj (by omega)
theorem in_f {c v : Int32} (h : inK c v v = false) : ¬ c = v := by
  rw [in_nI] at h
  rw [eq_tI]
  omega
theorem at_t {tx : Nat → Int32} {len a : Nat} {lo hi : Int32} (h : atK tx len a lo hi = true) : a < len ∧ inK (tx a) lo hi = true := by
  have := atK_lt h
  unfold atK at h
  rw [decide_eq_true this, Bool.true_and] at h
  exact ⟨this, h⟩
theorem at_f {tx : Nat → Int32} {len a : Nat} {lo hi : Int32} (h : atK tx len a lo hi = false) (ha : a ≤ len) : a = len ∨ (a < len ∧ inK (tx a) lo hi = false) := by
  by_cases hl : a < len
  · unfold atK at h
    rw [decide_eq_true hl, Bool.true_and] at h
    exact Or.inr ⟨hl, h⟩
  · exact Or.inl (by omega)
section TX
variable {tx : Nat → Int32} {len a s s' : Nat} {p : PT}
theorem ep_step (ha : a < len) (h : stp s (tx a) = some s') : epK tx (len - a) s a = epK tx (len - (a + 1)) s' (a + 1) := by
  rw [show len - a = (len - (a + 1)) + 1 by omega]
  exact epK_some h
theorem ep_stop (h : a = len ∨ (a < len ∧ stp s (tx a) = none)) : epK tx (len - a) s a = a := by
  rcases h with h | ⟨h1, h2⟩
  · subst h
    rw [Nat.sub_self]
    rfl
  · rw [show len - a = (len - (a + 1)) + 1 by omega]
    exact epK_none h2
theorem rp_step (ha : a < len) (h : stp s (tx a) = some s') : rpK tx len (len + 1 - a) s a p = rpK tx len (len + 1 - (a + 1)) s' (a + 1) (rsK s (tx a) p) := by
  have hs : sgn tx len a = tx a := if_pos ha
  rw [show len + 1 - a = (len + 1 - (a + 1)) + 1 by omega, rpK_some (s' := s') (by rw [hs]; exact h), hs]
theorem rp_stop (h : (a = len ∧ stp s 59 = none) ∨ (a < len ∧ stp s (tx a) = none)) : (rpK tx len (len + 1 - a) s a p).1 = false := by
  rcases h with ⟨h1, h2⟩ | ⟨h1, h2⟩
  · subst h1
    rw [show a + 1 - a = 0 + 1 by omega, rpK_none (by rw [show sgn tx a a = 59 from if_neg (by omega)]; exact h2)]
  · rw [show len + 1 - a = (len + 1 - (a + 1)) + 1 by omega, rpK_none (by rw [show sgn tx len a = tx a from if_pos h1]; exact h2)]
theorem both_stop (h : a = len ∨ (a < len ∧ stp s (tx a) = none)) (h59 : stp s 59 = none) : epK tx (len - a) s a = a ∧ (rpK tx len (len + 1 - a) s a p).1 = false := by
  refine ⟨ep_stop h, rp_stop ?_⟩
  rcases h with h | h
  · exact Or.inl ⟨h, h59⟩
  · exact Or.inr h
end TX
/-- what one part leaves: the state s at a', the parts p' -/
def PRel (tx : Nat → Int32) (len a t : Nat) (td td' : Nat → Int32) (p : PT) (a' s : Nat) (p' : PT) : Prop :=
  epK tx (len - a) 0 a = epK tx (len - a') s a' ∧ rpK tx len (len + 1 - a) 0 a p = rpK tx len (len + 1 - a') s a' p' ∧ stp s 59 = some 0 ∧ (a' < len → ¬ tx a' = 59 → stp s (tx a') = none) ∧ p'.2.2.2 = t ∧ p'.1 t = td' (3 * t + 0) ∧ p'.2.1 t = td' (3 * t + 1) ∧ (if p'.2.2.1 t < 1 then 1 else p'.2.2.1 t) = td' (3 * t + 2) ∧ ∀ j, j < t → p'.1 j = p.1 j ∧ p'.2.1 j = p.2.1 j ∧ p'.2.2.1 j = p.2.2.1 j
theorem rsK_0 {c : Int32} {p : PT} (h : p.2.2.2 < 15) (hc : ¬ c = 59) : rsK 0 c p = (upd p.1 p.2.2.2 (c - 48), (p.2.1, (upd p.2.2.1 p.2.2.2 0, p.2.2.2))) := by
  unfold rsK
  rw [if_neg (by omega), if_neg hc, if_pos rfl]
theorem rsK_2 {c : Int32} {p : PT} (h : p.2.2.2 < 15) (hc : ¬ c = 59) : rsK 2 c p = (p.1, (upd p.2.1 p.2.2.2 (c - 48), (p.2.2.1, p.2.2.2))) := by
  unfold rsK
  rw [if_neg (by omega), if_neg hc, if_neg (by omega), if_pos rfl]
theorem rsK_13 {c : Int32} {p : PT} {s : Nat} (hs : s = 1 ∨ s = 3) (hc : ¬ c = 59) : rsK s c p = p := by
  unfold rsK
  by_cases h : 15 ≤ p.2.2.2
  · rw [if_pos h]
  · rw [if_neg h, if_neg hc, if_neg (by omega), if_neg (by omega), if_neg (by omega)]
theorem rsK_456 {c : Int32} {p : PT} {s : Nat} (hs : s = 4 ∨ s = 5 ∨ s = 6) (h : p.2.2.2 < 15) (hc : ¬ c = 59) : rsK s c p = (p.1, (p.2.1, (upd p.2.2.1 p.2.2.2 (10 * p.2.2.1 p.2.2.2 + c - 48), p.2.2.2))) := by
  unfold rsK
  rw [if_neg (by omega), if_neg hc, if_neg (by omega), if_neg (by omega), if_pos hs]
theorem rsK_59 {p : PT} {s : Nat} (h : p.2.2.2 < 15) : rsK s 59 p = (p.1, (p.2.1, (upd p.2.2.1 p.2.2.2 (if p.2.2.1 p.2.2.2 < 1 then 1 else p.2.2.1 p.2.2.2), p.2.2.2 + 1))) := by
  unfold rsK
  rw [if_neg (by omega), if_pos rfl]
theorem dig1 {c : Int32} (h : inK c 49 57 = true) : ∃ v, c - 48 = nI v ∧ 1 ≤ v ∧ v ≤ 9 := by
  rw [in_I, tc_49, tc_57] at h
  refine ⟨(c.toInt - 48).toNat, tI_inj ?_, by omega, by omega⟩
  rw [tI_sub, tc_48, nI_tI (by omega)] <;> (try rw [tc_48]) <;> omega
theorem dig0 {c : Int32} (h : inK c 48 57 = true) : ∃ v, c - 48 = nI v ∧ v ≤ 9 := by
  rw [in_I, tc_48, tc_57] at h
  refine ⟨(c.toInt - 48).toNat, tI_inj ?_, by omega⟩
  rw [tI_sub, tc_48, nI_tI (by omega)] <;> (try rw [tc_48]) <;> omega
theorem part_rel {tx : Nat → Int32} {len a t : Nat} {td : Nat → Int32} {p : PT} (ha : a ≤ len) (hl : len ≤ 60) (ht : 4 * t ≤ a) (hp : p.2.2.2 = t) :
    ((partM tx len a t td).1 = false → epK tx (len - a) 0 a = (partM tx len a t td).2.1 ∧ (rpK tx len (len + 1 - a) 0 a p).1 = false) ∧
    ((partM tx len a t td).1 = true → ∃ s p', PRel tx len a t td (partM tx len a t td).2.2 p (partM tx len a t td).2.1 s p') := by
  have n59 : ∀ {c lo hi : Int32}, inK c lo hi = true → hi.toInt < 59 → ¬ c = 59 := by
    intro c lo hi h1 h2 h3
    rw [in_I] at h1
    rw [eq_tI, tc_59] at h3
    omega
  unfold partM
  cases h1 : atK tx len a 48 55 with
  | false =>
    rw [if_neg Bool.false_ne_true]
    refine ⟨fun _ => both_stop ?_ (stp0f (by decide)), fun q => Bool.noConfusion q⟩
    rcases at_f h1 ha with q | ⟨q1, q2⟩
    · exact Or.inl q
    · exact Or.inr ⟨q1, stp0f (flo_f q2)⟩
  | true =>
    obtain ⟨l1, i1⟩ := at_t h1
    have c1 := n59 i1 (by rw [tc_55]; omega)
    have t15 : t < 15 := by omega
    rw [if_pos rfl, ep_step l1 (stp0t (flo_t i1)), rp_step l1 (stp0t (flo_t i1)), rsK_0 (by omega) c1, hp]
    cases h2 : atK tx len (a + 1) 45 45 with
    | false =>
      rw [if_neg Bool.false_ne_true]
      refine ⟨fun _ => both_stop ?_ (stp1f (by decide)), fun q => Bool.noConfusion q⟩
      rcases at_f h2 (by omega) with q | ⟨q1, q2⟩
      · exact Or.inl q
      · exact Or.inr ⟨q1, stp1f (in_f q2)⟩
    | true =>
      obtain ⟨l2, i2⟩ := at_t h2
      have c2 := n59 i2 (by rw [tc_45]; omega)
      rw [if_pos rfl, ep_step l2 (stp1t (in_t i2)), rp_step l2 (stp1t (in_t i2)), rsK_13 (Or.inl rfl) c2]
      cases h3 : atK tx len (a + 2) 48 55 with
      | false =>
        rw [if_neg Bool.false_ne_true]
        refine ⟨fun _ => both_stop ?_ (stp2f (by decide)), fun q => Bool.noConfusion q⟩
        rcases at_f h3 (by omega) with q | ⟨q1, q2⟩
        · exact Or.inl q
        · exact Or.inr ⟨q1, stp2f (flo_f q2)⟩
      | true =>
        obtain ⟨l3, i3⟩ := at_t h3
        have c3 := n59 i3 (by rw [tc_55]; omega)
        rw [if_pos rfl, ep_step l3 (stp2t (flo_t i3)), rp_step l3 (stp2t (flo_t i3)), rsK_2 t15 c3]
        cases h4 : atK tx len (a + 3) 42 42 with
        | false =>
          rw [if_neg Bool.false_ne_true]
          refine ⟨fun q => Bool.noConfusion q, fun _ => ⟨3, (upd p.1 t (tx a - 48), (upd p.2.1 t (tx (a + 2) - 48), (upd p.2.2.1 t 0, t))), (ep_step l1 (stp0t (flo_t i1))).trans ((ep_step l2 (stp1t (in_t i2))).trans (ep_step l3 (stp2t (flo_t i3)))), ?_, rfl, fun q1 q2 => ?_, rfl, ?_, ?_, ?_, fun j hj => ⟨?_, ?_, ?_⟩⟩⟩
          · rw [rp_step l1 (stp0t (flo_t i1)), rsK_0 (by omega) c1, hp, rp_step l2 (stp1t (in_t i2)), rsK_13 (Or.inl rfl) c2, rp_step l3 (stp2t (flo_t i3)), rsK_2 t15 c3]
          · rcases at_f h4 (by omega) with q | ⟨q3, q4⟩
            · exact absurd q1 (by show ¬ a + 3 < len; omega)
            · exact (stp3f (in_f q4)).trans (prtK_f q2)
          · show upd p.1 t _ t = upd _ _ _ _
            rw [upd_eq, upd_ne (by omega), upd_eq]
          · show upd p.2.1 t _ t = upd _ _ _ _
            rw [upd_eq, upd_eq]
          · show (if upd p.2.2.1 t 0 t < 1 then (1 : Int32) else upd p.2.2.1 t 0 t) = upd _ _ _ _
            rw [upd_eq, upd_ne (by omega), upd_ne (by omega), upd_eq]
            rfl
          · exact upd_ne (by omega)
          · exact upd_ne (by omega)
          · exact upd_ne (by omega)
        | true =>
          obtain ⟨l4, i4⟩ := at_t h4
          have c4 := n59 i4 (by rw [tc_42]; omega)
          rw [if_pos rfl, ep_step l4 (stp3t (in_t i4)), rp_step l4 (stp3t (in_t i4)), rsK_13 (Or.inr rfl) c4]
          have back : epK tx (len - a) 0 a = epK tx (len - (a + 4)) 4 (a + 4) := (ep_step l1 (stp0t (flo_t i1))).trans ((ep_step l2 (stp1t (in_t i2))).trans ((ep_step l3 (stp2t (flo_t i3))).trans (ep_step l4 (stp3t (in_t i4)))))
          have backr : rpK tx len (len + 1 - a) 0 a p = rpK tx len (len + 1 - (a + 4)) 4 (a + 4) (upd p.1 t (tx a - 48), (upd p.2.1 t (tx (a + 2) - 48), (upd p.2.2.1 t 0, t))) := by
            rw [rp_step l1 (stp0t (flo_t i1)), rsK_0 (by omega) c1, hp, rp_step l2 (stp1t (in_t i2)), rsK_13 (Or.inl rfl) c2, rp_step l3 (stp2t (flo_t i3)), rsK_2 t15 c3, rp_step l4 (stp3t (in_t i4)), rsK_13 (Or.inr rfl) c4]
          unfold oftM
          cases h5 : atK tx len (a + 4) 49 57 with
          | false =>
            rw [if_neg Bool.false_ne_true]
            have bad : ∀ c, inK c 49 57 = false → stp 4 c = none := by
              intro c hc
              by_cases e48 : c = 48
              · exact stp4b (by rw [e48]; decide) e48
              · rw [in_nI, tc_49, tc_57] at hc
                rw [eq_tI, tc_48] at e48
                exact stp4d (by rw [eq_tI, tc_49]; omega) (by rw [eq_tI, tc_48]; omega) (by rw [dig_in, in_nI, tc_48, tc_57]; omega)
            refine ⟨fun _ => both_stop ?_ (bad 59 (by decide)), fun q => Bool.noConfusion q⟩
            rcases at_f h5 (by omega) with q | ⟨q1, q2⟩
            · exact Or.inl q
            · exact Or.inr ⟨q1, bad _ q2⟩
          | true =>
            obtain ⟨l5, i5⟩ := at_t h5
            have c5 := n59 i5 (by rw [tc_57]; omega)
            obtain ⟨v, ev, v1, v9⟩ := dig1 i5
            have d5 : digK (tx (a + 4)) = true := by rw [dig_in, in_I, tc_48, tc_57]; rw [in_I, tc_49, tc_57] at i5; omega
            have n48 : ¬ tx (a + 4) = 48 := by rw [eq_tI, tc_48]; rw [in_I, tc_49, tc_57] at i5; omega
            obtain ⟨s5, hs5, es5, hs1⟩ : ∃ s5, stp 4 (tx (a + 4)) = some s5 ∧ (s5 = 5 ∨ s5 = 6) ∧ (s5 = 5 ↔ v = 1) := by
              by_cases e49 : tx (a + 4) = 49
              · exact ⟨5, stp4a e49, Or.inl rfl, fun _ => by rw [e49] at ev; exact ((nI_eq (a := 1) (by omega) (by omega)).mp ev).symm, fun _ => rfl⟩
              · refine ⟨6, stp4c e49 n48 d5, Or.inr rfl, fun q => absurd q (by omega), fun q => absurd (tI_inj ?_) e49⟩
                rw [q] at ev
                have h9 := congrArg Int32.toInt ev
                rw [in_I, tc_49, tc_57] at i5
                rw [tI_sub, tc_48, nI_tI (by omega)] at h9
                · rw [tc_49]; omega
                · rw [tc_48]; omega
                · rw [tc_48]; omega
            have hv0 : 10 * upd p.2.2.1 t 0 t + tx (a + 4) - 48 = tx (a + 4) - 48 := by
              rw [upd_eq, show (10 : Int32) * 0 = 0 from by decide, Int32.zero_add]
            have ers : rsK 4 (tx (a + 4)) (upd p.1 t (tx a - 48), (upd p.2.1 t (tx (a + 2) - 48), (upd p.2.2.1 t 0, t))) = (upd p.1 t (tx a - 48), (upd p.2.1 t (tx (a + 2) - 48), (upd (upd p.2.2.1 t 0) t (tx (a + 4) - 48), t))) := by
              rw [rsK_456 (Or.inl rfl) t15 c5]
              show (_, (_, (upd (upd p.2.2.1 t 0) t (10 * upd p.2.2.1 t 0 t + tx (a + 4) - 48), _))) = _
              rw [hv0]
            rw [if_pos rfl, ep_step l5 hs5, rp_step l5 hs5, ers]
            cases h6 : atK tx len (a + 4 + 1) 48 57 with
            | false =>
              rw [if_neg Bool.false_ne_true]
              dsimp only
              rw [ev]
              by_cases hv1 : v = 1
              · have e5 := hs1.mpr hv1
                subst e5
                subst hv1
                rw [show decide ((1 : Int32) < nI 1) = false from by decide]
                refine ⟨fun _ => both_stop ?_ (stp5f (by decide)), fun q => Bool.noConfusion q⟩
                rcases at_f h6 (by omega) with q | ⟨q1, q2⟩
                · exact Or.inl q
                · exact Or.inr ⟨q1, stp5f q2⟩
              · have e6 : s5 = 6 := by
                  rcases es5 with q | q
                  · exact absurd (hs1.mp q) hv1
                  · exact q
                subst e6
                rw [show decide ((1 : Int32) < nI v) = true from decide_eq_true (nI_lt (a := 1) (by omega) (by omega))]
                refine ⟨fun q => Bool.noConfusion q, fun _ => ⟨6, _, back.trans (ep_step l5 hs5), (backr.trans (rp_step l5 hs5)).trans (by rw [ers]), rfl, fun q1 q2 => ?_, rfl, ?_, ?_, ?_, fun j hj => ⟨?_, ?_, ?_⟩⟩⟩
                · rcases at_f h6 (by omega) with q | ⟨q3, q4⟩
                  · exact absurd q1 (by show ¬ a + 4 + 1 < len; omega)
                  · exact (stp6f q4).trans (prtK_f q2)
                · show upd p.1 t _ t = upd _ _ _ _
                  rw [upd_eq, upd_ne (by omega), upd_ne (by omega), upd_eq]
                · show upd p.2.1 t _ t = upd _ _ _ _
                  rw [upd_eq, upd_ne (by omega), upd_eq]
                · show (if upd _ t _ t < 1 then (1 : Int32) else upd _ t _ t) = upd _ _ _ _
                  rw [upd_eq, upd_eq, ev, if_neg (show ¬ nI v < 1 from nI_nlt (b := 1) (by omega) (by omega))]
                · exact upd_ne (by omega)
                · exact upd_ne (by omega)
                · show upd _ t _ j = _
                  rw [upd_ne (by omega), upd_ne (by omega)]
            | true =>
              obtain ⟨l6, i6⟩ := at_t h6
              have c6 := n59 i6 (by rw [tc_57]; omega)
              obtain ⟨w, ew, w9⟩ := dig0 i6
              have hs6 : stp s5 (tx (a + 4 + 1)) = some 7 := by
                rcases es5 with q | q
                · rw [q]; exact stp5t i6
                · rw [q]; exact stp6t i6
              have ev2 : 10 * (tx (a + 4) - 48) + tx (a + 4 + 1) - 48 = nI (10 * v + w) := by
                rw [ev, Int32.sub_eq_add_neg, Int32.add_assoc, ← Int32.sub_eq_add_neg, ew, show (10 : Int32) = nI 10 from rfl, pk_mul, nI_add]
              have ers2 : rsK s5 (tx (a + 4 + 1)) (upd p.1 t (tx a - 48), (upd p.2.1 t (tx (a + 2) - 48), (upd (upd p.2.2.1 t 0) t (tx (a + 4) - 48), t))) = (upd p.1 t (tx a - 48), (upd p.2.1 t (tx (a + 2) - 48), (upd (upd (upd p.2.2.1 t 0) t (tx (a + 4) - 48)) t (nI (10 * v + w)), t))) := by
                rw [rsK_456 (Or.inr es5) t15 c6]
                show (_, (_, (upd (upd (upd p.2.2.1 t 0) t (tx (a + 4) - 48)) t (10 * upd (upd p.2.2.1 t 0) t (tx (a + 4) - 48) t + tx (a + 4 + 1) - 48), _))) = _
                rw [upd_eq, ev2]
              rw [if_pos rfl]
              dsimp only
              rw [ev2, show decide ((1 : Int32) < nI (10 * v + w)) = true from decide_eq_true (nI_lt (a := 1) (by omega) (by omega))]
              refine ⟨fun q => Bool.noConfusion q, fun _ => ⟨7, _, (back.trans (ep_step l5 hs5)).trans (ep_step l6 hs6), ((backr.trans (rp_step l5 hs5)).trans (by rw [ers])).trans ((rp_step l6 hs6).trans (by rw [ers2])), rfl, fun q1 q2 => prtK_f q2, rfl, ?_, ?_, ?_, fun j hj => ⟨?_, ?_, ?_⟩⟩⟩
              · show upd p.1 t _ t = upd _ _ _ _
                rw [upd_eq, upd_ne (by omega), upd_ne (by omega), upd_eq]
              · show upd p.2.1 t _ t = upd _ _ _ _
                rw [upd_eq, upd_ne (by omega), upd_eq]
              · show (if upd _ t _ t < 1 then (1 : Int32) else upd _ t _ t) = upd _ _ _ _
                rw [upd_eq, upd_eq, if_neg (show ¬ nI (10 * v + w) < 1 from nI_nlt (b := 1) (by omega) (by omega))]
              · exact upd_ne (by omega)
              · exact upd_ne (by omega)
              · show upd _ t _ j = _
                rw [upd_ne (by omega), upd_ne (by omega), upd_ne (by omega)]
theorem upd_same {f : Nat → Int32} {i j : Nat} {v : Int32} (h : j = i) : upd f i v j = v := by rw [h]; exact upd_eq
def PEq (t : Nat) (p : PT) (td : Nat → Int32) : Prop := ∀ j, j < t → p.1 j = td (3 * j + 0) ∧ p.2.1 j = td (3 * j + 1) ∧ p.2.2.1 j = td (3 * j + 2)
theorem partM_lo {mx : Nat → Int32} {len a t : Nat} {td : Nat → Int32} (h : (partM mx len a t td).1 = true) {j : Nat} (hj : j < 3 * t) : (partM mx len a t td).2.2 j = td j := (partM_td h).2.2 j hj
theorem text_rel {tx : Nat → Int32} {len : Nat} (hl : len ≤ 60) : ∀ (d a t : Nat) (td : Nat → Int32) (p : PT), t + d = 16 → 4 * t ≤ a → a ≤ len → p.2.2.2 = t → PEq t p td →
    epK tx (len - a) 0 a = (txM tx len d a t td).2.1 ∧ (rpK tx len (len + 1 - a) 0 a p).1 = (txM tx len d a t td).1 ∧ ((txM tx len d a t td).1 = true → (rpK tx len (len + 1 - a) 0 a p).2.2.2.2 = (txM tx len d a t td).2.2.1 ∧ PEq (txM tx len d a t td).2.2.1 (rpK tx len (len + 1 - a) 0 a p).2 (txM tx len d a t td).2.2.2)
  | 0, a, t, td, p, h1, h2, h3, _, _ => by omega
  | d + 1, a, t, td, p, h1, h2, h3, hp, hE => by
    have hR := part_rel (tx := tx) (td := td) h3 hl h2 hp
    have hle := partM_le (mx := tx) (t := t) (td := td) h3
    unfold txM
    cases hb : (partM tx len a t td).1 with
    | false =>
      rw [if_neg Bool.false_ne_true]
      obtain ⟨e1, e2⟩ := hR.1 hb
      exact ⟨e1, e2, fun q => Bool.noConfusion q⟩
    | true =>
      rw [if_pos rfl]
      obtain ⟨s, p', r1, r2, r3, r4, r5, r6, r7, r8, r9⟩ := hR.2 hb
      have hge := hle.2 hb
      have h15 : t < 15 := by omega
      rw [r1, r2]
      have hE' : PEq (t + 1) (rsK s 59 p') (partM tx len a t td).2.2 := by
        rw [rsK_59 (by omega), r5]
        intro j hj
        by_cases hjt : j = t
        · subst hjt
          exact ⟨r6, r7, (upd_eq).trans r8⟩
        · obtain ⟨x1, x2, x3⟩ := r9 j (by omega)
          obtain ⟨y1, y2, y3⟩ := hE j (by omega)
          refine ⟨?_, ?_, ?_⟩
          · rw [partM_lo hb (by omega), ← y1]; exact x1
          · rw [partM_lo hb (by omega), ← y2]; exact x2
          · rw [partM_lo hb (by omega), ← y3, ← x3]; exact upd_ne hjt
      have hc' : (rsK s 59 p').2.2.2 = t + 1 := by rw [rsK_59 (by omega), r5]
      cases h59 : atK tx len (partM tx len a t td).2.1 59 59 with
      | true =>
        obtain ⟨l1, i1⟩ := at_t h59
        have ec := in_t i1
        rw [if_pos rfl, ep_step l1 (by rw [ec]; exact r3), rp_step l1 (by rw [ec]; exact r3), ec]
        exact text_rel hl d _ (t + 1) _ _ (by omega) (by omega) (by omega) hc' hE'
      | false =>
        rw [if_neg Bool.false_ne_true]
        dsimp only
        rcases at_f h59 hle.1 with q | ⟨q1, q2⟩
        · rw [q, decide_eq_true rfl]
          refine ⟨ep_stop (Or.inl rfl), ?_, fun _ => ?_⟩
          · rw [show len + 1 - len = 0 + 1 by omega, rpK_some (s' := 0) (by rw [show sgn tx len len = 59 from if_neg (by omega)]; exact r3)]
            rfl
          · rw [show len + 1 - len = 0 + 1 by omega, rpK_some (s' := 0) (by rw [show sgn tx len len = 59 from if_neg (by omega)]; exact r3), show sgn tx len len = 59 from if_neg (by omega)]
            exact ⟨hc', hE'⟩
        · have hn : stp s (tx (partM tx len a t td).2.1) = none := r4 q1 (in_f q2)
          rw [decide_eq_false (by omega)]
          exact ⟨ep_stop (Or.inr ⟨q1, hn⟩), rp_stop (Or.inr ⟨q1, hn⟩), fun q => Bool.noConfusion q⟩
/-- the whole buffer -/
theorem text_all {tx : Nat → Int32} {len : Nat} (hl : len ≤ 60) (td : Nat → Int32) (p : PT) : epK tx len 0 0 = (txM tx len 16 0 0 td).2.1 ∧ (rdK tx len p).1 = (txM tx len 16 0 0 td).1 ∧ ((txM tx len 16 0 0 td).1 = true → (rdK tx len p).2.2.2.2 = (txM tx len 16 0 0 td).2.2.1 ∧ PEq (txM tx len 16 0 0 td).2.2.1 (rdK tx len p).2 (txM tx len 16 0 0 td).2.2.2) := by
  have := text_rel (tx := tx) hl 16 0 0 td (p.1, (p.2.1, (p.2.2.1, 0))) rfl (Nat.le_refl 0) (Nat.zero_le len) rfl (fun j hj => absurd hj (Nat.not_lt_zero j))
  exact this
/-- how often: 1 to 99 -/
def TmI (p : PT) : Prop := ∀ j, j < p.2.2.2 → ∃ T, p.2.2.1 j = nI T ∧ T ≤ 99
theorem oftM_v {tx : Nat → Int32} {len a : Nat} (h : (oftM tx len a).1 = true) : ∃ T, (oftM tx len a).2.2 = nI T ∧ T ≤ 99 := by
  unfold oftM at h ⊢
  split at h
  · rename_i h1
    obtain ⟨v, ev, v1, v9⟩ := dig1 (at_t h1).2
    split at h
    · rename_i h2
      obtain ⟨w, ew, w9⟩ := dig0 (at_t h2).2
      rw [if_pos h1, if_pos h2]
      refine ⟨10 * v + w, ?_, by omega⟩
      show 10 * (tx a - 48) + tx (a + 1) - 48 = _
      rw [ev, Int32.sub_eq_add_neg, Int32.add_assoc, ← Int32.sub_eq_add_neg, ew, show (10 : Int32) = nI 10 from rfl, pk_mul, nI_add]
    · rename_i h2
      rw [if_pos h1, if_neg h2]
      exact ⟨v, ev, by omega⟩
  · cases h
theorem partM_tm {mx : Nat → Int32} {len a t : Nat} {td : Nat → Int32} (h : (partM mx len a t td).1 = true) : ∃ T, (partM mx len a t td).2.2 (3 * t + 2) = nI T ∧ T ≤ 99 := by
  unfold partM at h ⊢
  split
  · rename_i h1
    rw [if_pos h1] at h
    split
    · rename_i h2
      rw [if_pos h2] at h
      split
      · rename_i h3
        rw [if_pos h3] at h
        split
        · rename_i h4
          rw [if_pos h4] at h
          show ∃ T, upd _ _ _ _ = nI T ∧ T ≤ 99
          rw [upd_eq]
          exact oftM_v h
        · refine ⟨1, ?_, by omega⟩
          show upd _ _ _ _ = _
          rw [upd_ne (by omega), upd_ne (by omega), upd_eq]
          rfl
      · rename_i h3
        rw [if_neg h3] at h
        cases h
    · rename_i h2
      rw [if_neg h2] at h
      cases h
  · rename_i h1
    rw [if_neg h1] at h
    cases h
theorem txM_tm {mx : Nat → Int32} {len : Nat} : ∀ (d a t : Nat) (td : Nat → Int32), (∀ j, j < t → ∃ T, td (3 * j + 2) = nI T ∧ T ≤ 99) → (txM mx len d a t td).1 = true → ∀ j, j < (txM mx len d a t td).2.2.1 → ∃ T, (txM mx len d a t td).2.2.2 (3 * j + 2) = nI T ∧ T ≤ 99
  | 0, a, t, td, h, h1 => Bool.noConfusion h1
  | d + 1, a, t, td, h, h1 => by
    have hq : (partM mx len a t td).1 = true → ∀ j, j < t + 1 → ∃ T, (partM mx len a t td).2.2 (3 * j + 2) = nI T ∧ T ≤ 99 := by
      intro hp1 j hj
      by_cases hjt : j = t
      · subst hjt
        exact partM_tm hp1
      · rw [partM_lo hp1 (by omega)]
        exact h j (by omega)
    unfold txM at h1 ⊢
    split
    · rename_i hp1
      rw [if_pos hp1] at h1
      split
      · rename_i h2
        rw [if_pos h2] at h1
        exact txM_tm d _ _ _ (hq hp1) h1
      · rename_i h2
        exact hq hp1
    · rename_i hp1
      rw [if_neg hp1] at h1
      cases h1
theorem run_eq {f : Nat → Int32} {k m tt len : Nat} {tx td : Nat → Int32} {p : PT} (hl : len ≤ 60) (h : OKf f k m tt) (hok : (txM tx len 16 0 0 td).1 = true) :
    sumN (rdK tx len p).2.2.2.1 0 (rdK tx len p).2.2.2.2 = sumN (ptM (txM tx len 16 0 0 td).2.2.2).2.2.1 0 (txM tx len 16 0 0 td).2.2.1 ∧ runK f k (rdK tx len p).2 (rdK tx len p).2.2.2.2 = runK f k (ptM (txM tx len 16 0 0 td).2.2.2) (txM tx len 16 0 0 td).2.2.1 ∧
    (f 7 + sumN (rdK tx len p).2.2.2.1 0 (rdK tx len p).2.2.2.2 ≤ 99999 → ∃ tt', OKf (runK f k (rdK tx len p).2 (rdK tx len p).2.2.2.2) k m tt') := by
  obtain ⟨-, -, e⟩ := text_all (tx := tx) hl td p
  obtain ⟨e1, e2⟩ := e hok
  have hfl := rdK_flo tx len p
  have htm := txM_tm (mx := tx) (len := len) 16 0 0 td (fun j hj => absurd hj (Nat.not_lt_zero j)) hok
  have h15 := rdK_le tx len p
  rw [e1] at hfl h15 ⊢
  refine ⟨?_, ?_, fun hle => ?_⟩
  · exact sumN_congr (fun s _ h2 => (e2 s (by omega)).2.2)
  · exact runK_congr _ (fun j hj => e2 j hj)
  · obtain ⟨S, -, -, -, hO⟩ := runK_OK h (txM tx len 16 0 0 td).2.2.1 (fun j hj => ⟨(hfl j hj).1, (hfl j hj).2, by rw [(e2 j hj).2.2]; exact htm j hj⟩) h15 hle
    exact ⟨_, hO⟩
