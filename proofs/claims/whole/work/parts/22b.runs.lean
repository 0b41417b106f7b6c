/-! what the buffer's text tells, when it is trips: floors -/
def flo (x : Int32) : Prop := ∃ a, x = nI a ∧ a < 8
theorem flo_of {c : Int32} (h : floK c = true) : flo (c - 48) := by
  have h1 := of_decide_eq_true h
  obtain ⟨j, hj, rfl⟩ := nI_of (x := c) (fun q => absurd (Int32.lt_of_le_of_lt h1.1 q) (by decide))
  have a1 := (nI_leI (a := 48) (by omega) hj).mp h1.1
  have a2 := (nI_ltI (b := 56) hj (by omega)).mp h1.2
  exact ⟨j - 48, pk_sub a1, by omega⟩
def FIv (s : Nat) (p : PT) : Prop := (∀ j, j < p.2.2.2 → flo (p.1 j) ∧ flo (p.2.1 j)) ∧ (p.2.2.2 < 15 → (1 ≤ s → flo (p.1 p.2.2.2)) ∧ (3 ≤ s → flo (p.2.1 p.2.2.2)))
theorem stp_semi {s s' : Nat} (h : stp s 59 = some s') : 3 ≤ s ∧ s' = 0 := by
  rcases (show s = 0 ∨ s = 1 ∨ s = 2 ∨ s = 3 ∨ s = 4 ∨ s = 5 ∨ s = 6 ∨ s = 7 ∨ 8 ≤ s by omega) with rfl | rfl | rfl | rfl | rfl | rfl | rfl | rfl | h8
  · rw [show stp 0 59 = none from by decide] at h; cases h
  · rw [show stp 1 59 = none from by decide] at h; cases h
  · rw [show stp 2 59 = none from by decide] at h; cases h
  · exact ⟨by decide, (Option.some.inj h).symm⟩
  · rw [show stp 4 59 = none from by decide] at h; cases h
  · rw [show stp 5 59 = none from by decide] at h; cases h
  · exact ⟨by decide, (Option.some.inj h).symm⟩
  · exact ⟨by decide, (Option.some.inj h).symm⟩
  · exfalso
    match s, h8, h with
    | s + 8, _, h => cases h
theorem stp0 {s' : Nat} {c : Int32} (h : stp 0 c = some s') : floK c = true ∧ s' = 1 := by
  cases hf : floK c with
  | false => rw [stp0f hf] at h; cases h
  | true => rw [stp0t hf] at h; cases h; exact ⟨rfl, rfl⟩
theorem stp1 {s' : Nat} {c : Int32} (h : stp 1 c = some s') : s' = 2 := by
  by_cases hf : c = 45
  · rw [stp1t hf] at h; cases h; rfl
  · rw [stp1f hf] at h; cases h
theorem stp2 {s' : Nat} {c : Int32} (h : stp 2 c = some s') : floK c = true ∧ s' = 3 := by
  cases hf : floK c with
  | false => rw [stp2f hf] at h; cases h
  | true => rw [stp2t hf] at h; cases h; exact ⟨rfl, rfl⟩
theorem FIv_weak {s s' : Nat} {p : PT} (h : FIv s p) (h1 : 1 ≤ s' → 1 ≤ s) (h3 : 3 ≤ s' → 3 ≤ s) : FIv s' p := ⟨h.1, fun q => ⟨fun z => (h.2 q).1 (h1 z), fun z => (h.2 q).2 (h3 z)⟩⟩
theorem FIv_step {s s' : Nat} {c : Int32} {p : PT} (h : stp s c = some s') (hI : FIv s p) : FIv s' (rsK s c p) := by
  unfold rsK
  by_cases h1 : 15 ≤ p.2.2.2
  · rw [if_pos h1]
    exact ⟨hI.1, fun q => absurd q (by omega)⟩
  rw [if_neg h1]
  by_cases h2 : c = 59
  · rw [if_pos h2]
    subst h2
    obtain ⟨s3, rfl⟩ := stp_semi h
    refine ⟨fun j hj => ?_, fun q => ⟨fun z => absurd z (by decide), fun z => absurd z (by decide)⟩⟩
    by_cases hjp : j = p.2.2.2
    · subst hjp
      exact ⟨(hI.2 (by omega)).1 (by omega), (hI.2 (by omega)).2 s3⟩
    · exact hI.1 j (by have : j < p.2.2.2 + 1 := hj; omega)
  rw [if_neg h2]
  by_cases h3 : s = 0
  · rw [if_pos h3]
    subst h3
    obtain ⟨hf, rfl⟩ := stp0 h
    refine ⟨fun j hj => ⟨?_, (hI.1 j hj).2⟩, fun q => ⟨fun z => ?_, fun z => absurd z (by decide)⟩⟩
    · show flo (upd p.1 p.2.2.2 (c - 48) j)
      rw [upd_ne (by have : j < p.2.2.2 := hj; omega)]
      exact (hI.1 j hj).1
    · show flo (upd p.1 p.2.2.2 (c - 48) p.2.2.2)
      rw [upd_eq]
      exact flo_of hf
  rw [if_neg h3]
  by_cases h4 : s = 2
  · rw [if_pos h4]
    subst h4
    obtain ⟨hf, rfl⟩ := stp2 h
    refine ⟨fun j hj => ⟨(hI.1 j hj).1, ?_⟩, fun q => ⟨fun z => (hI.2 q).1 (by decide), fun z => ?_⟩⟩
    · show flo (upd p.2.1 p.2.2.2 (c - 48) j)
      rw [upd_ne (by have : j < p.2.2.2 := hj; omega)]
      exact (hI.1 j hj).2
    · show flo (upd p.2.1 p.2.2.2 (c - 48) p.2.2.2)
      rw [upd_eq]
      exact flo_of hf
  rw [if_neg h4]
  have hw : (1 ≤ s' → 1 ≤ s) ∧ (3 ≤ s' → 3 ≤ s) := by
    refine ⟨fun _ => by omega, fun z => ?_⟩
    rcases (show s = 1 ∨ 3 ≤ s by omega) with rfl | q
    · have := stp1 h; omega
    · exact q
  have hI2 := FIv_weak (s' := s') hI hw.1 hw.2
  split
  · exact hI2
  · exact hI2
theorem FIv_rp {tx : Nat → Int32} {len : Nat} : ∀ (d s j : Nat) (p : PT), FIv s p → (∀ i, i < (rpK tx len d s j p).2.2.2.2 → flo ((rpK tx len d s j p).2.1 i) ∧ flo ((rpK tx len d s j p).2.2.1 i))
  | 0, _, _, _, h => h.1
  | d + 1, s, j, p, h => by
    cases hs : stp s (sgn tx len j) with
    | none => rw [rpK_none hs]; exact h.1
    | some s' => rw [rpK_some hs]; exact FIv_rp d s' (j + 1) _ (FIv_step hs h)
def rdK (tx : Nat → Int32) (len : Nat) (p : PT) : Bool × PT := rpK tx len (len + 1) 0 0 (p.1, (p.2.1, (p.2.2.1, 0)))
theorem rdK_flo (tx : Nat → Int32) (len : Nat) (p : PT) : ∀ i, i < (rdK tx len p).2.2.2.2 → flo ((rdK tx len p).2.1 i) ∧ flo ((rdK tx len p).2.2.1 i) :=
  FIv_rp _ _ _ _ ⟨fun j hj => absurd hj (Nat.not_lt_zero j), fun _ => ⟨fun z => absurd z (by decide), fun z => absurd z (by decide)⟩⟩
theorem rdK_le (tx : Nat → Int32) (len : Nat) (p : PT) : (rdK tx len p).2.2.2.2 ≤ 15 := rpK_le _ _ _ _ (Nat.zero_le 15)
/-- the elevator after the first j parts -/
def runK (f : Nat → Int32) (k : Nat) (q : PT) : Nat → Nat → Int32
  | 0 => f
  | j + 1 => travK (runK f k q j) (min (q.1 j).toNatClampNeg (q.2.1 j).toNatClampNeg) (max (q.1 j).toNatClampNeg (q.2.1 j).toNatClampNeg) k (q.2.2.1 j)
theorem travK_lo {f : Nat → Int32} {lo hi k : Nat} {t : Int32} {j : Nat} (hj : j < 10) (h7 : j ≠ 7) : travK f lo hi k t j = f j := by
  unfold travK
  rw [upd_ne h7, mapRows_lo _ _ _ _ hj]
theorem travK_live {f : Nat → Int32} {lo hi k : Nat} {t : Int32} (hl : ∀ i, i < k → 0 < rowOf f i 0) : ∀ i, i < k → 0 < rowOf (travK f lo hi k t) i 0 := by
  intro i hik
  have e : rowOf (travK f lo hi k t) i 0 = rowOf (mapRows f (fun r => rBendT r (3 * lo) (3 * hi + 3 - 3 * lo) t) k) i 0 := upd_ne (by omega)
  rw [e, mapRows_row _ _ _ _ _ hik (by omega), rBendT_0]
  exact hl i hik
theorem runK_lo {f : Nat → Int32} {k : Nat} {q : PT} {i : Nat} (hi : i < 10) (h7 : i ≠ 7) : ∀ j, runK f k q j i = f i
  | 0 => rfl
  | j + 1 => (travK_lo hi h7).trans (runK_lo hi h7 j)
theorem runK_live {f : Nat → Int32} {k : Nat} {q : PT} (hl : ∀ i, i < k → 0 < rowOf f i 0) : ∀ j i, i < k → 0 < rowOf (runK f k q j) i 0
  | 0 => hl
  | j + 1 => travK_live (runK_live hl j)
theorem flo_cl {x : Int32} (h : flo x) : x = nI x.toNatClampNeg ∧ x.toNatClampNeg < 8 := by
  obtain ⟨a, rfl, ha⟩ := h
  rw [nI_clamp (by omega)]
  exact ⟨rfl, ha⟩
