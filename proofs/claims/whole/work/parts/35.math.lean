/-! numbers: what both sides compute is the same, where the state is in order -/
theorem tI_add {a b : Int32} (h1 : -2147483648 ≤ a.toInt + b.toInt) (h2 : a.toInt + b.toInt < 2147483648) : (a + b).toInt = a.toInt + b.toInt := by
  rw [Int32.toInt_add]
  exact Int.bmod_eq_of_le (by omega) (by omega)
theorem tI_sub {a b : Int32} (h1 : -2147483648 ≤ a.toInt - b.toInt) (h2 : a.toInt - b.toInt < 2147483648) : (a - b).toInt = a.toInt - b.toInt := by
  rw [Int32.toInt_sub]
  exact Int.bmod_eq_of_le (by omega) (by omega)
theorem tI_inj {a b : Int32} (h : a.toInt = b.toInt) : a = b := Int32.toInt_inj.mp h
theorem tI_0 : (0 : Int32).toInt = 0 := by decide
theorem tI_1 : (1 : Int32).toInt = 1 := by decide
theorem tI_2000 : (2000 : Int32).toInt = 2000 := by decide
theorem le_tI {a b : Int32} : a ≤ b ↔ a.toInt ≤ b.toInt := Int32.le_iff_toInt_le
theorem lt_tI {a b : Int32} : a < b ↔ a.toInt < b.toInt := Int32.lt_iff_toInt_lt
theorem anyN_ex {P : Nat → Bool} : ∀ n, anyN P n = true ↔ ∃ s, s < n ∧ P s = true
  | 0 => ⟨fun q => Bool.noConfusion q, fun ⟨s, h, _⟩ => absurd h (Nat.not_lt_zero s)⟩
  | n + 1 => by
    rw [anyN_s, Bool.or_eq_true, anyN_ex n]
    constructor
    · rintro (⟨s, h1, h2⟩ | h)
      · exact ⟨s, by omega, h2⟩
      · exact ⟨n, by omega, h⟩
    · rintro ⟨s, h1, h2⟩
      by_cases hs : s = n
      · subst hs; exact Or.inr h2
      · exact Or.inl ⟨s, by omega, h2⟩
theorem gmx_ge (S : Nat → Int32) : ∀ n, 0 ≤ (gmx S n).toInt ∧ (∀ s, s < n → (S s).toInt ≤ (gmx S n).toInt) ∧ ((gmx S n).toInt = 0 ∨ ∃ s, s < n ∧ (gmx S n).toInt = (S s).toInt)
  | 0 => ⟨by show 0 ≤ (0 : Int32).toInt; rw [tI_0]; exact Int.le_refl 0, fun s h => absurd h (Nat.not_lt_zero s), Or.inl tI_0⟩
  | n + 1 => by
    obtain ⟨h1, h2, h3⟩ := gmx_ge S n
    unfold gmx
    by_cases h : gmx S n < S n
    · rw [if_pos h]
      rw [lt_tI] at h
      refine ⟨by omega, fun s hs => ?_, Or.inr ⟨n, by omega, rfl⟩⟩
      by_cases hn : s = n
      · subst hn; exact Int.le_refl _
      · have := h2 s (by omega); omega
    · rw [if_neg h]
      rw [lt_tI] at h
      refine ⟨h1, fun s hs => ?_, ?_⟩
      · by_cases hn : s = n
        · subst hn; omega
        · exact h2 s (by omega)
      · rcases h3 with h3 | ⟨s, a, b⟩
        · exact Or.inl h3
        · exact Or.inr ⟨s, by omega, b⟩
theorem gmx_any {S : Nat → Int32} {v : Int32} (hv : 0 < v.toInt) (n : Nat) : v ≤ gmx S n ↔ ∃ s, s < n ∧ v ≤ S s := by
  obtain ⟨h1, h2, h3⟩ := gmx_ge S n
  rw [le_tI]
  constructor
  · intro h
    rcases h3 with h3 | ⟨s, a, b⟩
    · omega
    · exact ⟨s, a, by rw [le_tI]; omega⟩
  · rintro ⟨s, a, b⟩
    rw [le_tI] at b
    have := h2 s a
    omega
theorem omn_le (S : Nat → Int32) : ∀ n, (omn S n).toInt ≤ 2000 ∧ (∀ s, s < n → (omn S n).toInt ≤ (S s).toInt) ∧ ((omn S n).toInt = 2000 ∨ ∃ s, s < n ∧ (omn S n).toInt = (S s).toInt)
  | 0 => ⟨by show (2000 : Int32).toInt ≤ 2000; rw [tI_2000]; exact Int.le_refl _, fun s h => absurd h (Nat.not_lt_zero s), Or.inl tI_2000⟩
  | n + 1 => by
    obtain ⟨h1, h2, h3⟩ := omn_le S n
    unfold omn
    by_cases h : S n < omn S n
    · rw [if_pos h]
      rw [lt_tI] at h
      refine ⟨by omega, fun s hs => ?_, Or.inr ⟨n, by omega, rfl⟩⟩
      by_cases hn : s = n
      · subst hn; exact Int.le_refl _
      · have := h2 s (by omega); omega
    · rw [if_neg h]
      rw [lt_tI] at h
      refine ⟨h1, fun s hs => ?_, ?_⟩
      · by_cases hn : s = n
        · subst hn; omega
        · exact h2 s (by omega)
      · rcases h3 with h3 | ⟨s, a, b⟩
        · exact Or.inl h3
        · exact Or.inr ⟨s, by omega, b⟩
theorem amax_ge (S : Nat → Int32) : ∀ n s, s ≤ n → S s ≤ S (amax S n)
  | 0, s, h => by
    obtain rfl : s = 0 := by omega
    exact Int32.le_refl _
  | n + 1, s, h => by
    unfold amax
    by_cases q : S (amax S n) < S (n + 1)
    · rw [if_pos q]
      rw [lt_tI] at q
      rw [le_tI]
      by_cases hs : s = n + 1
      · subst hs
        exact Int.le_refl _
      · have := amax_ge S n s (by omega)
        rw [le_tI] at this
        omega
    · rw [if_neg q]
      rw [lt_tI] at q
      rw [le_tI]
      by_cases hs : s = n + 1
      · subst hs
        omega
      · have := amax_ge S n s (by omega)
        rw [le_tI] at this
        exact this
theorem gmx_amax {S : Nat → Int32} : ∀ n, (∀ s, s ≤ n → 0 ≤ (S s).toInt) → gmx S (n + 1) = S (amax S n)
  | 0, h => by
    have h0 := h 0 (Nat.le_refl 0)
    show (if (0 : Int32) < S 0 then S 0 else 0) = S 0
    by_cases q : (0 : Int32) < S 0
    · rw [if_pos q]
    · rw [if_neg q]
      rw [lt_tI, tI_0] at q
      exact tI_inj (by rw [tI_0]; omega)
  | n + 1, h => by
    have ih := gmx_amax n (fun s hs => h s (by omega))
    show (if gmx S (n + 1) < S (n + 1) then S (n + 1) else gmx S (n + 1)) = S (if S (amax S n) < S (n + 1) then n + 1 else amax S n)
    rw [ih]
    split <;> rfl
/-! the state in order -/
def OKrow (r : Nat → Int32) (m tt : Nat) : Prop :=
  ∃ q, r 0 = nI q ∧ 1 ≤ q ∧ q ≤ 99 ∧ ∀ s, s < 24 → ∃ b c a d, r (3 + s) = nI b ∧ b ≤ tt ∧ r (27 + s) = nI c ∧ c ≤ b / q ∧ r (51 + s) = nI a ∧ a ≤ 99999 ∧ r (75 + s) = nI d ∧ d ≤ m
def OKset (f : Nat → Int32) : Prop := (∃ z, f 2 = nI z ∧ 1 ≤ z ∧ z ≤ 12) ∧ (∃ v, f 3 = nI v ∧ 1 ≤ v ∧ v ≤ 99) ∧ (∃ v, f 4 = nI v ∧ 1 ≤ v ∧ v ≤ 999) ∧ (∃ v, f 5 = nI v ∧ 1 ≤ v ∧ v ≤ 99) ∧ (∃ v, f 6 = nI v ∧ 1 ≤ v ∧ v ≤ 60)
def OKf (f : Nat → Int32) (k m tt : Nat) : Prop := f 1 = nI k ∧ k ≤ 5 ∧ f 0 = nI m ∧ m ≤ 2000 ∧ f 7 = nI tt ∧ tt ≤ 99999 ∧ OKset f ∧ ∀ i, i < k → OKrow (rowOf f i) m tt
def OKs (f : Nat → Int32) : Prop := ∃ k m tt, OKf f k m tt
theorem nI_tI {n : Nat} (h : n < 2147483648) : (nI n).toInt = (n : Int) := nI_toInt (by omega)
theorem brk_nat {r : Nat → Int32} {m tt : Nat} (h : OKrow r m tt) (ht : tt ≤ 199999) {s : Nat} (hs : s < 24) : ∃ v, brk r s = nI v ∧ v ≤ 199999 := by
  obtain ⟨q, h0, h1, h2, h3⟩ := h
  obtain ⟨b, c, a, d, e1, e2, -⟩ := h3 s hs
  refine ⟨b / q, ?_, ?_⟩
  · unfold brk
    rw [e1, h0]
    exact pk_div (by omega) (by omega) (by omega)
  · exact Nat.le_trans (Nat.div_le_self b q) (by omega)
theorem sumN_nat {S : Nat → Int32} {B a : Nat} : ∀ n, (∀ s, a ≤ s → s < a + n → ∃ v, S s = nI v ∧ v ≤ B) → ∃ v, sumN S a n = nI v ∧ v ≤ n * B
  | 0, _ => ⟨0, by show (0 : Int32) = nI 0; rw [nI_0], by omega⟩
  | n + 1, h => by
    obtain ⟨v, e1, e2⟩ := sumN_nat n (fun s h1 h2 => h s h1 (by omega))
    obtain ⟨w, f1, f2⟩ := h (a + n) (by omega) (by omega)
    refine ⟨v + w, ?_, ?_⟩
    · unfold sumN
      rw [e1, f1, nI_add]
    · rw [Nat.succ_mul]
      omega
theorem win_pos {r : Nat → Int32} {m tt z : Nat} (h : OKrow r m tt) (ht : tt ≤ 199999) (z2 : z ≤ 12) {k : Nat} (hk : k ≤ 24 - z) : 0 ≤ (winS r true z k).toInt := by
  obtain ⟨v, e1, e2⟩ := sumN_nat (S := colR r true) (B := 199999) (a := k) z (fun s h1 h2 => brk_nat h ht (by omega))
  show 0 ≤ (sumN (colR r true) k z).toInt
  have h3 : z * 199999 ≤ 12 * 199999 := Nat.mul_le_mul_right _ z2
  rw [e1, nI_tI (by omega)]
  omega
theorem gmx_gmost {r : Nat → Int32} {m tt z : Nat} (h : OKrow r m tt) (ht : tt ≤ 199999) (z2 : z ≤ 12) : gmx (winS r true z) (25 - z) = gmost r true z := by
  rw [show 25 - z = (24 - z) + 1 by omega]
  exact gmx_amax _ (fun s hs => win_pos h ht z2 hs)
theorem cnt_nat {r : Nat → Int32} {m tt : Nat} (h : OKrow r m tt) (ht : tt ≤ 199999) {s : Nat} (hs : s < 24) : ∃ v, r (27 + s) = nI v ∧ v ≤ 199999 := by
  obtain ⟨q, h0, h1, h2, h3⟩ := h
  obtain ⟨b, c, a, d, e1, e2, e3, e4, -⟩ := h3 s hs
  have h5 := Nat.div_le_self b q
  exact ⟨c, e3, by omega⟩
theorem win_posC {r : Nat → Int32} {m tt z : Nat} (h : OKrow r m tt) (ht : tt ≤ 199999) (z2 : z ≤ 12) {k : Nat} (hk : k ≤ 24 - z) : 0 ≤ (winS r false z k).toInt := by
  obtain ⟨v, e1, e2⟩ := sumN_nat (S := colR r false) (B := 199999) (a := k) z (fun s h1 h2 => cnt_nat h ht (by omega))
  show 0 ≤ (sumN (colR r false) k z).toInt
  have h3 : z * 199999 ≤ 12 * 199999 := Nat.mul_le_mul_right _ z2
  rw [e1, nI_tI (by omega)]
  omega
theorem gmx_gmostC {r : Nat → Int32} {m tt z : Nat} (h : OKrow r m tt) (ht : tt ≤ 199999) (z2 : z ≤ 12) : gmx (winS r false z) (25 - z) = gmost r false z := by
  rw [show 25 - z = (24 - z) + 1 by omega]
  exact gmx_amax _ (fun s hs => win_posC h ht z2 hs)
/-- the first place of the greatest is the first at which it is reached -/
theorem amax_first (S : Nat → Int32) : ∀ n s, s < amax S n → S s < S (amax S n)
  | 0, s, h => absurd h (Nat.not_lt_zero s)
  | n + 1, s, h => by
    have hg := amax_le S n
    unfold amax at h ⊢
    by_cases q : S (amax S n) < S (n + 1)
    · rw [if_pos q] at h ⊢
      obtain ⟨g1, g2⟩ : (S s).toInt ≤ (S (amax S n)).toInt ∧ True := ⟨by
        have := amax_ge S n s (by omega)
        rw [le_tI] at this
        exact this, trivial⟩
      rw [lt_tI] at q ⊢
      omega
    · rw [if_neg q] at h ⊢
      exact amax_first S n s h
theorem fstN_at {S : Nat → Int32} {v : Int32} {w : Nat} (hv : S w = v) (hn : ∀ s, s < w → S s ≠ v) : ∀ d k, k ≤ w → w < k + d → fstN S v d k = w
  | 0, k, h1, h2 => by omega
  | d + 1, k, h1, h2 => by
    unfold fstN
    by_cases hk : k = w
    · subst hk
      rw [if_pos hv]
    · rw [if_neg (hn k (by omega))]
      exact fstN_at hv hn d (k + 1) (by omega) (by omega)
theorem gwinK_eq {r : Nat → Int32} {m tt z : Nat} (h : OKrow r m tt) (ht : tt ≤ 199999) (z2 : z ≤ 12) : gwinK r z = gwin r false z := by
  have hg := amax_le (winS r false z) (24 - z)
  unfold gwinK gwin
  rw [gmx_gmostC h ht z2]
  refine fstN_at (w := amax (winS r false z) (24 - z)) rfl (fun s hs e => ?_) (25 - z) 0 (Nat.zero_le _) (by omega)
  have h1 := amax_first (winS r false z) (24 - z) s hs
  rw [e, lt_tI] at h1
  exact Int.lt_irrefl _ h1
theorem mleft_eq {f r : Nat → Int32} {k m tt : Nat} (hf : f 0 = nI m) (hm : m ≤ 2000) (hs : OKset f) (h : OKrow r m tt) : mleftK f r = mleM f r := by
  obtain ⟨-, -, -, -, l, e6, l1, l2⟩ := hs
  obtain ⟨q, -, -, -, h3⟩ := h
  obtain ⟨a1, a2, a3⟩ := omn_le (fun s => r (75 + s)) 24
  obtain ⟨b1, b2, b3⟩ := omn_le (lefM f r) 24
  have hl : ∀ s, s < 24 → ∃ d : Nat, (r (75 + s)).toInt = d ∧ d ≤ m ∧ (lefM f r s).toInt = (d : Int) + l + 1 - m := by
    intro s hs
    obtain ⟨b, c, a, d, -, -, -, -, -, -, e1, e2⟩ := h3 s hs
    refine ⟨d, by rw [e1, nI_tI (by omega)], e2, ?_⟩
    unfold lefM
    have x1 : (r (75 + s) + f 6).toInt = (d : Int) + l := by rw [tI_add, e1, e6, nI_tI (by omega), nI_tI (by omega)] <;> rw [e1, e6, nI_tI (by omega), nI_tI (by omega)] <;> omega
    have x2 : (r (75 + s) + f 6 + 1).toInt = (d : Int) + l + 1 := by rw [tI_add, x1, tI_1] <;> rw [x1, tI_1] <;> omega
    rw [tI_sub, x2, hf, nI_tI (by omega)] <;> rw [x2, hf, nI_tI (by omega)] <;> omega
  obtain ⟨d0, c1, c2, c3⟩ := hl 0 (by omega)
  have a20 := a2 0 (by omega)
  have b20 := b2 0 (by omega)
  have ha : 0 ≤ (omn (fun s => r (75 + s)) 24).toInt := by
    rcases a3 with a3 | ⟨s, s1, s2⟩
    · omega
    · obtain ⟨d, c4, c5, c6⟩ := hl s s1
      omega
  have x1 : (omn (fun s => r (75 + s)) 24 + f 6).toInt = (omn (fun s => r (75 + s)) 24).toInt + l := by rw [tI_add, e6, nI_tI (by omega)] <;> rw [e6, nI_tI (by omega)] <;> omega
  have x2 : (omn (fun s => r (75 + s)) 24 + f 6 + 1).toInt = (omn (fun s => r (75 + s)) 24).toInt + l + 1 := by rw [tI_add, x1, tI_1] <;> rw [x1, tI_1] <;> omega
  have x3 : (omn (fun s => r (75 + s)) 24 + f 6 + 1 - f 0).toInt = (omn (fun s => r (75 + s)) 24).toInt + l + 1 - m := by rw [tI_sub, x2, hf, nI_tI (by omega)] <;> rw [x2, hf, nI_tI (by omega)] <;> omega
  have hmain : (omn (lefM f r) 24).toInt = (omn (fun s => r (75 + s)) 24).toInt + l + 1 - m := by
    apply Int.le_antisymm
    · rcases a3 with a3 | ⟨s, s1, s2⟩
      · omega
      · obtain ⟨d, c4, c5, c6⟩ := hl s s1
        have := b2 s s1
        omega
    · rcases b3 with b3 | ⟨s, s1, s2⟩
      · omega
      · obtain ⟨d, c4, c5, c6⟩ := hl s s1
        have := a2 s s1
        omega
  unfold mleftK mleM
  by_cases h0 : 0 < omn (fun s => r (75 + s)) 24 + f 6 + 1 - f 0
  · rw [if_pos h0]
    rw [lt_tI, x3, tI_0] at h0
    rw [if_neg (by rw [lt_tI, hmain, tI_0]; omega)]
    exact tI_inj (by rw [x3, hmain])
  · rw [if_neg h0]
    rw [lt_tI, x3, tI_0] at h0
    by_cases h1 : omn (lefM f r) 24 < 0
    · rw [if_pos h1]
    · rw [if_neg h1]
      rw [lt_tI, tI_0] at h1
      exact tI_inj (by rw [tI_0]; omega)
theorem mleft_late {f r : Nat → Int32} {m tt : Nat} (hf : f 0 = nI m) (hm : m ≤ 2000) (hs : OKset f) (h : OKrow r m tt) : mleftK f r = 0 ↔ anyN (latK f r) 24 = true := by
  obtain ⟨-, -, -, -, l, e6, l1, l2⟩ := hs
  obtain ⟨q, -, -, -, h3⟩ := h
  obtain ⟨a1, a2, a3⟩ := omn_le (fun s => r (75 + s)) 24
  have hl : ∀ s, s < 24 → ∃ d : Nat, (r (75 + s)).toInt = d ∧ d ≤ m ∧ (latK f r s = true ↔ l < m - d) := by
    intro s hs
    obtain ⟨b, c, a, d, -, -, -, -, -, -, e1, e2⟩ := h3 s hs
    refine ⟨d, by rw [e1, nI_tI (by omega)], e2, ?_⟩
    unfold latK
    rw [decide_eq_true_iff, hf, e1, e6, pk_sub e2, nI_ltI (by omega) (by omega)]
  obtain ⟨d0, c1, c2, c3⟩ := hl 0 (by omega)
  have a20 := a2 0 (by omega)
  have ha : 0 ≤ (omn (fun s => r (75 + s)) 24).toInt := by
    rcases a3 with a3 | ⟨s, s1, s2⟩
    · omega
    · obtain ⟨d, c4, c5, c6⟩ := hl s s1
      omega
  have x1 : (omn (fun s => r (75 + s)) 24 + f 6).toInt = (omn (fun s => r (75 + s)) 24).toInt + l := by rw [tI_add, e6, nI_tI (by omega)] <;> rw [e6, nI_tI (by omega)] <;> omega
  have x2 : (omn (fun s => r (75 + s)) 24 + f 6 + 1).toInt = (omn (fun s => r (75 + s)) 24).toInt + l + 1 := by rw [tI_add, x1, tI_1] <;> rw [x1, tI_1] <;> omega
  have x3 : (omn (fun s => r (75 + s)) 24 + f 6 + 1 - f 0).toInt = (omn (fun s => r (75 + s)) 24).toInt + l + 1 - m := by rw [tI_sub, x2, hf, nI_tI (by omega)] <;> rw [x2, hf, nI_tI (by omega)] <;> omega
  rw [anyN_ex]
  unfold mleftK
  by_cases h0 : 0 < omn (fun s => r (75 + s)) 24 + f 6 + 1 - f 0
  · rw [if_pos h0]
    rw [lt_tI, x3, tI_0] at h0
    constructor
    · intro h1
      have := congrArg Int32.toInt h1
      rw [x3, tI_0] at this
      omega
    · rintro ⟨s, s1, s2⟩
      obtain ⟨d, c4, c5, c6⟩ := hl s s1
      have := c6.mp s2
      have := a2 s s1
      omega
  · rw [if_neg h0]
    rw [lt_tI, x3, tI_0] at h0
    refine ⟨fun _ => ?_, fun _ => rfl⟩
    rcases a3 with a3 | ⟨s, s1, s2⟩
    · exact ⟨0, by omega, c3.mpr (by omega)⟩
    · obtain ⟨d, c4, c5, c6⟩ := hl s s1
      exact ⟨s, s1, c6.mpr (by omega)⟩
theorem reason_eq {f r : Nat → Int32} {m tt z : Nat} (hf : f 0 = nI m) (hm : m ≤ 2000) (hs : OKset f) (h : OKrow r m tt) (ht : tt ≤ 199999) (z2 : z ≤ 12) : reasonK f r z = reasonM f r z := by
  have h4 := mleft_late hf hm hs h
  obtain ⟨-, -, -, ⟨v, e5, v1, v2⟩, -⟩ := hs
  have h3 : f 5 ≤ gmx (grw r) 24 ↔ anyN (groK f r) 24 = true := by
    rw [gmx_any (by rw [e5, nI_tI (by omega)]; omega), anyN_ex]
    constructor
    · rintro ⟨s, a, b⟩; exact ⟨s, a, decide_eq_true b⟩
    · rintro ⟨s, a, b⟩; exact ⟨s, a, of_decide_eq_true b⟩
  unfold reasonK reasonM
  rw [gmx_gmostC h ht z2]
  split
  · rfl
  · split
    · rfl
    · by_cases q3 : f 5 ≤ gmx (grw r) 24
      · rw [if_pos q3, if_pos (h3.mp q3)]
      · rw [if_neg q3, if_neg (fun q => q3 (h3.mpr q))]
        by_cases q4 : mleftK f r = 0
        · rw [if_pos q4, if_pos (h4.mp q4)]
        · rw [if_neg q4, if_neg (fun q => q4 (h4.mpr q))]
