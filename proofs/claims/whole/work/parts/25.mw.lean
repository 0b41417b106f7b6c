/-! the world of the reference: its object at 213, its arrays behind it -/
def mC (g pa tr mx td F : Nat → Int32) : Nat → XC := fun j => match j with
  | 0 => .inr (5, [.ref 214, .ref 215, .int (F 2), .ref 216, .ref 217, .int (F 5), .int (F 6), .int (F 7), .int (F 8), .ref 218, .int (F 10)])
  | 1 => xar 505 g
  | 2 => xar 3030 pa
  | 3 => xar 99 tr
  | 4 => xar 60 mx
  | _ => xar 66 td
abbrev setM (h : XH) (g pa tr mx td F : Nat → Int32) : XH := blk h 213 6 (mC g pa tr mx td F)
section MW
variable {h : XH} {g pa tr mx td F : Nat → Int32}
theorem mw_o : setM h g pa tr mx td F 213 = .inr (5, [.ref 214, .ref 215, .int (F 2), .ref 216, .ref 217, .int (F 5), .int (F 6), .int (F 7), .int (F 8), .ref 218, .int (F 10)]) := blk_is h 213 6 (mC g pa tr mx td F) 0 (by decide)
theorem mw_1 : setM h g pa tr mx td F 214 = xar 505 g := blk_is h 213 6 (mC g pa tr mx td F) 1 (by decide)
theorem mw_2 : setM h g pa tr mx td F 215 = xar 3030 pa := blk_is h 213 6 (mC g pa tr mx td F) 2 (by decide)
theorem mw_3 : setM h g pa tr mx td F 216 = xar 99 tr := blk_is h 213 6 (mC g pa tr mx td F) 3 (by decide)
theorem mw_4 : setM h g pa tr mx td F 217 = xar 60 mx := blk_is h 213 6 (mC g pa tr mx td F) 4 (by decide)
theorem mw_5 : setM h g pa tr mx td F 218 = xar 66 td := blk_is h 213 6 (mC g pa tr mx td F) 5 (by decide)
theorem mw_cong {i : Nat} {c : XC} {g' pa' tr' mx' td' F' : Nat → Int32} (hi : i < 6) (h1 : c = mC g' pa' tr' mx' td' F' i) (h2 : ∀ j, j < 6 → j ≠ i → mC g' pa' tr' mx' td' F' j = mC g pa tr mx td F j) : xup (setM h g pa tr mx td F) (213 + i) c = setM h g' pa' tr' mx' td' F' :=
  blk_up (j := i) hi h1.symm (fun j hj hne => h2 j hj hne)
theorem mw_u1 (x : Nat → Int32) : xup (setM h g pa tr mx td F) 214 (xar 505 x) = setM h x pa tr mx td F := mw_cong (i := 1) (by decide) rfl (fun j hj hne => by match j, hne with | 0, _ => rfl | 1, hne => exact absurd rfl hne | 2, _ => rfl | 3, _ => rfl | 4, _ => rfl | j + 5, _ => rfl)
theorem mw_u2 (x : Nat → Int32) : xup (setM h g pa tr mx td F) 215 (xar 3030 x) = setM h g x tr mx td F := mw_cong (i := 2) (by decide) rfl (fun j hj hne => by match j, hne with | 0, _ => rfl | 1, _ => rfl | 2, hne => exact absurd rfl hne | 3, _ => rfl | 4, _ => rfl | j + 5, _ => rfl)
theorem mw_u3 (x : Nat → Int32) : xup (setM h g pa tr mx td F) 216 (xar 99 x) = setM h g pa x mx td F := mw_cong (i := 3) (by decide) rfl (fun j hj hne => by match j, hne with | 0, _ => rfl | 1, _ => rfl | 2, _ => rfl | 3, hne => exact absurd rfl hne | 4, _ => rfl | j + 5, _ => rfl)
theorem mw_u4 (x : Nat → Int32) : xup (setM h g pa tr mx td F) 217 (xar 60 x) = setM h g pa tr x td F := mw_cong (i := 4) (by decide) rfl (fun j hj hne => by match j, hne with | 0, _ => rfl | 1, _ => rfl | 2, _ => rfl | 3, _ => rfl | 4, hne => exact absurd rfl hne | j + 5, _ => rfl)
theorem mw_u5 (x : Nat → Int32) : xup (setM h g pa tr mx td F) 218 (xar 66 x) = setM h g pa tr mx x F := mw_cong (i := 5) (by decide) rfl (fun j hj hne => by match j, hj, hne with | 0, _, _ => rfl | 1, _, _ => rfl | 2, _, _ => rfl | 3, _, _ => rfl | 4, _, _ => rfl | 5, _, hne => exact absurd rfl hne | j + 6, hj, _ => exact absurd hj (by omega))
theorem mw_f (F' : Nat → Int32) : xup (setM h g pa tr mx td F) 213 (.inr (5, [.ref 214, .ref 215, .int (F' 2), .ref 216, .ref 217, .int (F' 5), .int (F' 6), .int (F' 7), .int (F' 8), .ref 218, .int (F' 10)])) = setM h g pa tr mx td F' := mw_cong (i := 0) (by decide) rfl (fun j hj hne => by match j, hne with | 0, hne => exact absurd rfl hne | j + 1, _ => match j with | 0 => rfl | 1 => rfl | 2 => rfl | 3 => rfl | j + 4 => rfl)
end MW
/-- a row of an array, from x on -/
def atF (w : Nat → Int32) (x : Nat) : Nat → Int32 := fun k => w (x + k)
theorem rowOf_at (f : Nat → Int32) (i : Nat) : rowOf f i = atF f (10 + 99 * i) := rfl
def inK (v a b : Int32) : Bool := decide (a ≤ v ∧ v ≤ b)
theorem inK_t {v a b : Int32} (h1 : ¬ v < a) (h2 : ¬ b < v) : inK v a b = true := decide_eq_true ⟨Int32.not_lt.mp h1, Int32.not_lt.mp h2⟩
theorem inK_f1 {v a b : Int32} (h : v < a) : inK v a b = false := decide_eq_false fun q => absurd h (Int32.not_lt.mpr q.1)
theorem inK_f2 {v a b : Int32} (h : b < v) : inK v a b = false := decide_eq_false fun q => absurd h (Int32.not_lt.mpr q.2)
