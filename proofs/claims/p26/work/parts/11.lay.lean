/-! the layout: arrays cut at their length, blocks of cells, ropes, elevators, the class's world, the reference's world -/
def cutF (N : Nat) (f : Nat → Int32) : Nat → Int32 := fun s => if s < N then f s else 0
def xar (N : Nat) (f : Nat → Int32) : XC := .inl (0, (N, .inl (cutF N f)))
theorem cutF_in {N a : Nat} {f : Nat → Int32} (h : a < N) : cutF N f a = f a := if_pos h
theorem cutF_upd {N a : Nat} {f : Nat → Int32} {x : Int32} (h : a < N) : upd (cutF N f) a x = cutF N (upd f a x) := by
  funext s
  simp only [upd, cutF]
  by_cases hs : s = a
  · subst hs
    simp [h]
  · simp [hs]
theorem xar_eq {N : Nat} {f g : Nat → Int32} (h : ∀ s, s < N → f s = g s) : xar N f = xar N g := by
  unfold xar cutF
  have : (fun s => if s < N then f s else 0) = (fun s => if s < N then g s else 0) := by
    funext s
    by_cases hs : s < N
    · rw [if_pos hs, if_pos hs, h s hs]
    · rw [if_neg hs, if_neg hs]
  rw [this]
theorem xar_0 (N : Nat) : (.inl (0, (N, .inl (fun _ => 0))) : XC) = xar N (fun _ => 0) := by
  unfold xar cutF
  simp
section XARR
variable {G : XG} {nL : Nat} {p : Program} {l : Launch} {e : Env} {R : Room} {s : State} {m : MethodId} {args : Array Value} {below : List Frame} {meth : Method} {c : Code} {Q : State → Prop} {own : String} {cc : ByteArray}
variable {pc : Nat} {ls : List (Option Value)} {st : List Value} {n : Nat} {h : XH} {k ks : Nat}
theorem XV.ialdC (C : XCx G l own cc nL p s m args meth c) {i N a : Nat} {f : Nat → Int32} {j : Int32} (hd : decode cc pc = .ok (.iaload, 1)) (hi : 4 ≤ i) (hn : i < n + 4) (hh : h i = xar N f) (hj : j = nI a) (ha : a < N) (hN : N < 2 ^ 31) (kk : XV G nL p l e R s m args below meth c Q (pc + 1) ls (.int (f a) :: st) n h k ks) : XV G nL p l e R s m args below meth c Q pc ls (.int j :: .ref i :: st) n h k ks :=
  XV.iald C hd hi hn hh hj ha hN (by rw [cutF_in ha]; exact kk)
theorem XV.iastC (C : XCx G l own cc nL p s m args meth c) {i N a : Nat} {f : Nat → Int32} {j x : Int32} (hd : decode cc pc = .ok (.iastore, 1)) (hi : 4 ≤ i) (hn : i < n + 4) (hh : h i = xar N f) (hj : j = nI a) (ha : a < N) (hN : N < 2 ^ 31) (kk : XV G nL p l e R s m args below meth c Q (pc + 1) ls st n (xup h i (xar N (upd f a x))) k ks) : XV G nL p l e R s m args below meth c Q pc ls (.int x :: .int j :: .ref i :: st) n h k ks :=
  XV.iast C hd hi hn hh hj ha hN (by rw [cutF_upd ha]; exact kk)
theorem XV.alenC (C : XCx G l own cc nL p s m args meth c) {i N : Nat} {f : Nat → Int32} (hd : decode cc pc = .ok (.arraylength, 1)) (hi : 4 ≤ i) (hn : i < n + 4) (hh : h i = xar N f) (kk : XV G nL p l e R s m args below meth c Q (pc + 1) ls (.int (nI N) :: st) n h k ks) : XV G nL p l e R s m args below meth c Q pc ls (.ref i :: st) n h k ks := XV.alen C hd hi hn hh kk
theorem XV.copyC (C : XCx G l own cc nL p s m args meth c) {ix i j N : Nat} {f g : Nat → Int32} {len : Int32} (hd : decode cc pc = .ok (.invokestatic ix, 3)) (hw : Cond.methodLink own ix arraycopyName ∈ WALL) (hi : 4 ≤ i) (hin : i < n + 4) (hj : 4 ≤ j) (hjn : j < n + 4) (hhi : h i = xar N f) (hhj : h j = xar N g) (hlen : len = nI N) (hN : N < 2 ^ 31) (hf : 1 ≤ R.frames) (hl : (st.map fun v => v.category).sum + 18 ≤ R.locals) (kk : XV G nL p l e R s m args below meth c Q (pc + 3) ls st n (xup h j (xar N f)) k ks) : XV G nL p l e R s m args below meth c Q pc ls (.int len :: .int 0 :: .ref j :: .int 0 :: .ref i :: st) n h k ks := by
  refine XV.copy C hd hw hi hin hj hjn hhi hhj hlen hN hf hl ?_
  have h1 : (.inl (0, (N, .inl (fun q => if q < N then cutF N f q else cutF N g q))) : XC) = xar N f := by
    unfold xar
    congr 4
    funext q
    simp only [cutF]
    by_cases hq : q < N <;> simp [hq]
  rw [h1]
  exact kk
end XARR
/-- a block of cells -/
def blk (h : XH) (a N : Nat) (c : Nat → XC) : XH := fun j => if a ≤ j ∧ j < a + N then c (j - a) else h j
def IsB (h : XH) (a N : Nat) (c : Nat → XC) : Prop := ∀ j, j < N → h (a + j) = c j
theorem blk_is (h : XH) (a N : Nat) (c : Nat → XC) : IsB (blk h a N c) a N c := by
  intro j hj
  unfold blk
  rw [if_pos (by omega)]
  congr 1
  omega
theorem blk_self {h : XH} {a N : Nat} {c : Nat → XC} (hb : IsB h a N c) : blk h a N c = h := by
  funext j
  unfold blk
  split
  · rename_i hj
    have := hb (j - a) (by omega)
    rw [show a + (j - a) = j by omega] at this
    exact this.symm
  · rfl
theorem blk_blk (h : XH) (a N : Nat) (c c' : Nat → XC) : blk (blk h a N c) a N c' = blk h a N c' := by
  funext j
  unfold blk
  split
  · rfl
  · rfl
theorem blk_out {h : XH} {a N j : Nat} {c : Nat → XC} (hj : j < a ∨ a + N ≤ j) : blk h a N c j = h j := by
  unfold blk
  rw [if_neg (by omega)]
theorem blk_in {h : XH} {a N j : Nat} {c : Nat → XC} (h1 : a ≤ j) (h2 : j < a + N) : blk h a N c j = c (j - a) := by
  unfold blk
  rw [if_pos ⟨h1, h2⟩]
/-- one cell of a block -/
theorem blk_up {h : XH} {a N j : Nat} {c c' : Nat → XC} {x : XC} (h1 : j < N) (hx : c' j = x) (hc : ∀ i, i < N → i ≠ j → c' i = c i) : xup (blk h a N c) (a + j) x = blk h a N c' := by
  funext q
  unfold xup blk
  by_cases hq : q = a + j
  · subst hq
    rw [if_pos rfl, if_pos (by omega), show a + j - a = j by omega, hx]
  · rw [if_neg hq]
    by_cases hb : a ≤ q ∧ q < a + N
    · rw [if_pos hb, if_pos hb, hc (q - a) (by omega) (by omega)]
    · rw [if_neg hb, if_neg hb]
theorem blk_eq {h : XH} {a N : Nat} {c c' : Nat → XC} (hc : ∀ i, i < N → c' i = c i) : blk h a N c' = blk h a N c := by
  funext q
  unfold blk
  by_cases hb : a ≤ q ∧ q < a + N
  · rw [if_pos hb, if_pos hb, hc (q - a) (by omega)]
  · rw [if_neg hb, if_neg hb]
/-- a block inside a block -/
theorem blk_sub {h : XH} {a N b M : Nat} {c c' d : Nat → XC} (h1 : a ≤ b) (h2 : b + M ≤ a + N) (hd : ∀ i, i < M → c' (b - a + i) = d i) (hc : ∀ i, i < N → (i < b - a ∨ b - a + M ≤ i) → c' i = c i) : blk (blk h a N c) b M d = blk h a N c' := by
  funext q
  unfold blk
  by_cases hb : b ≤ q ∧ q < b + M
  · rw [if_pos hb, if_pos (by omega)]
    have := hd (q - b) (by omega)
    rw [show b - a + (q - b) = q - a by omega] at this
    exact this.symm
  · rw [if_neg hb]
    by_cases hq : a ≤ q ∧ q < a + N
    · rw [if_pos hq, if_pos hq, hc (q - a) (by omega) (by omega)]
    · rw [if_neg hq, if_neg hq]
theorem IsB.get {h : XH} {a N : Nat} {c : Nat → XC} (hb : IsB h a N c) (i : Nat) (h1 : a ≤ i) (h2 : i < a + N) : h i = c (i - a) := by
  have := hb (i - a) (by omega)
  rw [show a + (i - a) = i by omega] at this
  exact this
theorem IsB.sub {h : XH} {a N b M : Nat} {c d : Nat → XC} (hb : IsB h a N c) (h1 : a ≤ b) (h2 : b + M ≤ a + N) (hd : ∀ i, i < M → c (b - a + i) = d i) : IsB h b M d := fun j hj => by
  rw [hb.get (b + j) (by omega) (by omega), ← hd j hj]
  congr 1
  omega
/-- a rope at a, with the row r: 0 quality, 1 hung, 2 trips, 3.. bends, 27.. counts, 51.. counts ahead, 75.. months -/
def ropeC (a : Nat) (r : Nat → Int32) : Nat → XC := fun j => match j with
  | 0 => .inr (2, [.ref (a + 1), .ref (a + 2), .ref (a + 3), .ref (a + 4), .int (r 0), .int (r 1), .int (r 2)])
  | 1 => xar 24 (fun s => r (3 + s))
  | 2 => xar 24 (fun s => r (27 + s))
  | 3 => xar 24 (fun s => r (51 + s))
  | _ => xar 24 (fun s => r (75 + s))
abbrev IsRope (h : XH) (a : Nat) (r : Nat → Int32) : Prop := IsB h a 5 (ropeC a r)
abbrev setRope (h : XH) (a : Nat) (r : Nat → Int32) : XH := blk h a 5 (ropeC a r)
/-- the row of rope i in the flat state f -/
def rowOf (f : Nat → Int32) (i : Nat) : Nat → Int32 := fun k => f (10 + 99 * i + k)
/-- a place that never held a rope shows the quality 1 -/
def qfix (r : Nat → Int32) : Nat → Int32 := fun k => if k = 0 then (if r 0 = 0 then 1 else r 0) else r k
/-- an elevator at e, of the flat state f -/
def elevC (e : Nat) (f : Nat → Int32) : Nat → XC := fun j => match j with
  | 0 => .inr (0, [.ref (e + 1), .ref (e + 2), .int (f 1), .int (f 0), .int (f 7), .int (f 8), .int (f 9)])
  | 1 => xar 5 (fun i => f (2 + i))
  | 2 => .inl (3, (5, .inr (.inr (fun i => if i < 5 then some (e + 3 + 5 * i) else none))))
  | j + 3 => ropeC (e + 3 + 5 * (j / 5)) (qfix (rowOf f (j / 5))) (j % 5)
abbrev IsElev (h : XH) (e : Nat) (f : Nat → Int32) : Prop := IsB h e 28 (elevC e f)
abbrev setElev (h : XH) (e : Nat) (f : Nat → Int32) : XH := blk h e 28 (elevC e f)
theorem elev_rope {h : XH} {e : Nat} {f : Nat → Int32} (hE : IsElev h e f) {i : Nat} (hi : i < 5) : IsRope h (e + 3 + 5 * i) (qfix (rowOf f i)) := by
  refine hE.sub (by omega) (by omega) (fun j hj => ?_)
  rw [show e + 3 + 5 * i - e + j = (5 * i + j) + 3 by omega]
  show ropeC (e + 3 + 5 * ((5 * i + j) / 5)) (qfix (rowOf f ((5 * i + j) / 5))) ((5 * i + j) % 5) = _
  rw [show (5 * i + j) / 5 = i by omega, show (5 * i + j) % 5 = j by omega]
/-- a rope of an elevator anew -/
theorem setElev_rope {h : XH} {e : Nat} {f g : Nat → Int32} {r : Nat → Int32} {i : Nat} (hi : i < 5) (hr : ∀ k, k < 99 → qfix (rowOf g i) k = r k) (hh : ∀ k, k < 10 → g k = f k) (ho : ∀ j k, j < 5 → j ≠ i → k < 99 → rowOf g j k = rowOf f j k) : setRope (setElev h e f) (e + 3 + 5 * i) r = setElev h e g := by
  have rc : ∀ (a : Nat) (r1 r2 : Nat → Int32), (∀ k, k < 99 → r1 k = r2 k) → ∀ j, ropeC a r1 j = ropeC a r2 j := by
    intro a r1 r2 h12 j
    unfold ropeC
    match j with
    | 0 => show (Sum.inr (2, [.ref (a + 1), .ref (a + 2), .ref (a + 3), .ref (a + 4), .int (r1 0), .int (r1 1), .int (r1 2)]) : XC) = Sum.inr (2, [.ref (a + 1), .ref (a + 2), .ref (a + 3), .ref (a + 4), .int (r2 0), .int (r2 1), .int (r2 2)]); rw [h12 0 (by omega), h12 1 (by omega), h12 2 (by omega)]
    | 1 => exact xar_eq fun s hs => h12 _ (by omega)
    | 2 => exact xar_eq fun s hs => h12 _ (by omega)
    | 3 => exact xar_eq fun s hs => h12 _ (by omega)
    | j + 4 => exact xar_eq fun s hs => h12 _ (by omega)
  refine blk_sub (by omega) (by omega) (fun j hj => ?_) (fun j hj hne => ?_)
  · rw [show e + 3 + 5 * i - e + j = (5 * i + j) + 3 by omega]
    show ropeC (e + 3 + 5 * ((5 * i + j) / 5)) (qfix (rowOf g ((5 * i + j) / 5))) ((5 * i + j) % 5) = _
    rw [show (5 * i + j) / 5 = i by omega, show (5 * i + j) % 5 = j by omega]
    exact rc _ _ _ hr j
  · match j with
    | 0 => unfold elevC; dsimp only; rw [hh 1 (by omega), hh 0 (by omega), hh 7 (by omega), hh 8 (by omega), hh 9 (by omega)]
    | 1 => exact xar_eq fun s hs => hh _ (by omega)
    | 2 => rfl
    | j + 3 =>
      show ropeC _ (qfix (rowOf g (j / 5))) _ = ropeC _ (qfix (rowOf f (j / 5))) _
      refine rc _ _ _ (fun k hk => ?_) _
      unfold qfix
      rw [ho (j / 5) 0 (by omega) (by omega) (by omega), ho (j / 5) k (by omega) (by omega) hk]
