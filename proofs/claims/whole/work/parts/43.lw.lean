/-! the law's world: the class's, the reference's, the cell for what a call returns -/
theorem blk_comm (h : XH) {a N b M : Nat} (c d : Nat → XC) (hd : a + N ≤ b ∨ b + M ≤ a) : blk (blk h a N c) b M d = blk (blk h b M d) a N c := by
  funext j
  unfold blk
  by_cases h1 : b ≤ j ∧ j < b + M
  · rw [if_pos h1, if_neg (by omega), if_pos h1]
  · rw [if_neg h1, if_neg h1]
theorem xup_blk (h : XH) {a N j : Nat} (c : Nat → XC) (x : XC) (hj : j < a ∨ a + N ≤ j) : xup (blk h a N c) j x = blk (xup h j x) a N c := by
  funext q
  unfold xup blk
  by_cases h1 : q = j
  · subst h1
    show (if q = q then x else _) = if _ then _ else (if q = q then x else h q)
    rw [if_pos rfl, if_neg (by omega), if_pos rfl]
  · show (if q = j then x else _) = if _ then _ else (if q = j then x else h q)
    rw [if_neg h1, if_neg h1]
section LW
variable {hb : XH} {f g pa tr mx td F tx ρ : Nat → Int32} {o kp len : Nat} {P : Nat → Nat → Int32} {p : PT}
theorem lw_0 : setM (setCW hb f o kp P tx len p ρ) g pa tr mx td F = setCW (setM hb g pa tr mx td F) f o kp P tx len p ρ := blk_comm hb _ _ (Or.inl (by decide))
theorem lw_1 {c : XC} : xup (setCW (setM hb g pa tr mx td F) f o kp P tx len p ρ) 219 c = setM (setCW (xup hb 219 c) f o kp P tx len p ρ) g pa tr mx td F := by
  rw [← lw_0]
  unfold setM setCW
  rw [xup_blk _ _ _ (Or.inr (by decide)), xup_blk _ _ _ (Or.inr (by decide))]
theorem mw_mc {h : XH} {mx' : Nat → Int32} (e : mx = mx') : setM h g pa tr mx td F = setM h g pa tr mx' td F := by rw [e]
theorem mw_ge {h : XH} {g' : Nat → Int32} (e : g = g') : setM h g pa tr mx td F = setM h g' pa tr mx td F := by rw [e]
theorem lw_219 {c : XC} (h : hb 219 = c) : setM (setCW hb f o kp P tx len p ρ) g pa tr mx td F 219 = c := (blk_out (Or.inr (by decide))).trans ((blk_out (Or.inr (by decide))).trans h)
end LW
theorem room_c {n : Nat} (h : n ≤ 601024) : n ≤ room_1.cells := h
theorem room_s {n : Nat} (h : n ≤ 7293034) : n ≤ room_1.slots := h
theorem upL_0 (fo : Nat → Int64) (v : Int64) : vp_updL fo 0 v 0 = v := if_pos rfl
def LI (f : Nat → Int32) (o kp : Nat) (P : Nat → Nat → Int32) (len : Nat) (pa F : Nat → Int32) : Prop := OKs f ∧ o < 6 ∧ kp ≤ 6 ∧ PR o kp P pa ∧ len ≤ 60 ∧ F 2 = nI kp ∧ F 5 = nI len
theorem nI_teq {x : Int32} {i : Nat} (h : x = nI i) (hi : i < 2147483648) : x.toInt = (i : Int) := by rw [h]; exact nI_tI hi
theorem tc_4 : (4 : Int32).toInt = 4 := by decide
theorem tc_5 : (5 : Int32).toInt = 5 := by decide
theorem tc_7 : (7 : Int32).toInt = 7 := by decide
theorem tc_8 : (8 : Int32).toInt = 8 := by decide
theorem tc_9 : (9 : Int32).toInt = 9 := by decide
theorem tc_23 : (23 : Int32).toInt = 23 := by decide
theorem tc_24 : (24 : Int32).toInt = 24 := by decide
theorem tc_33 : (33 : Int32).toInt = 33 := by decide
theorem tc_99 : (99 : Int32).toInt = 99 := by decide
theorem tc_126 : (126 : Int32).toInt = 126 := by decide
theorem lcmp_eq {a b : Int64} (h : a = b) : lg_cmp a b = 0 := (lg_cmp_eq a b).mpr h
/-- the law's script: the ints of call j -/
def scr (G : XG) (j d : Nat) : Int32 := xxs G (4 * j + d)
theorem OKs_trav {f : Nat → Int32} {k m tt a b : Nat} {u : Int32} (h : OKf f k m tt) (ha : a < 8) (hb : b < 8) (hu : ¬ u < 1 ∧ u ≤ 99) (hle : f 7 + u ≤ 99999) : OKs (travK f (min a b) (max a b) k u) := by
  obtain ⟨T, e, t1, t2⟩ := rg99 hu
  have h7 := h.2.2.2.2.1
  have h8 := h.2.2.2.2.2.1
  rw [h7, e, nI_add] at hle
  have h9 : tt + T ≤ 99999 := (nI_leI (b := 99999) (by omega) (by omega)).mp hle
  rw [e]
  exact ⟨k, m, _, OKf_trav h (by omega) (by omega) h9⟩
theorem OKs_pass {f : Nat → Int32} {k m tt : Nat} {x : Int32} (h : OKf f k m tt) (hx : ¬ x < 1 ∧ x ≤ 24) (h2 : f 0 + x ≤ 2000) : OKs (upd f 0 (f 0 + x)) := by
  obtain ⟨m', h'⟩ := OKf_pass h hx h2
  exact ⟨_, _, _, h'⟩
theorem ret_pass {f : Nat → Int32} {k m tt z : Nat} {x : Int32} (h : OKf f k m tt) (z2 : z ≤ 12) (hx : ¬ x < 1 ∧ x ≤ 24) (h2 : f 0 + x ≤ 2000) : nI (retK (upd f 0 (f 0 + x)) z k) = nI (retM (upd f 0 (f 0 + x)) z k) := by
  obtain ⟨m', h'⟩ := OKf_pass h hx h2
  rw [h'.ret z2 k (Nat.le_refl k)]
