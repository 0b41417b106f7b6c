/-! XV: at an instruction; xstep: the pure instructions -/
def xHas (G : XG) (lr : Array Slot) (nL : Nat) (ls : List (Option Value)) : Prop := lr.size = nL ∧ lv_wf lr ∧ ls.length = nL ∧ ∀ (i : Nat) (v : Value), ls[i]? = some (some v) → lr[i]? = some (.val (xv G v))
def XCx (G : XG) (l : Launch) (own : String) (cc : ByteArray) (nL : Nat) (p : Program) (s : State) (m : MethodId) (args : Array Value) (meth : Method) (c : Code) : Prop :=
  p.tables.exec = Jvm.exec ∧ c.code = cc ∧ c.maxLocals = nL ∧ s.vm.findClass own = some m.cls ∧ (∀ w ∈ WALL, w.before args s = true) ∧ meth.locks = false ∧ xEnv G s ∧ xbase G ≤ s.heap.size ∧ l.stackTraces = false
def XV (G : XG) (nL : Nat) (p : Program) (l : Launch) (e : Env) (R : Room) (s : State) (m : MethodId) (args : Array Value) (below : List Frame) (meth : Method) (c : Code) (Q : State → Prop) (pc : Nat) (ls : List (Option Value)) (st : List Value) (n : Nat) (h : XH) (k ks : Nat) : Prop :=
  ∀ (H : Heap) (locs : List Loc) (lr : Array Slot), va_P (xD G) XCl (xw G n h) H → xbase G + n ≤ H.size → va_S (xA G) s.heap H locs → xHas G lr nL ls → W p l e R s m args below meth c H locs k ks Q (F0 m pc lr (st.map (xv G)))
/-- a local's value, v at i -/
def xld (ls : List (Option Value)) (i : Nat) : Option Value := match ls[i]? with
  | some (some v) => some v
  | _ => none
def xclr (ls : List (Option Value)) (i : Nat) : List (Option Value) := match i with
  | 0 => ls
  | j + 1 => match xld ls j with
    | some v => if v.category = 2 then ls.set j none else ls
    | none => ls
def xset1 (ls : List (Option Value)) (i : Nat) (v : Value) : List (Option Value) := (xclr ls i).set i (some v)
def xset2 (ls : List (Option Value)) (i : Nat) (v : Value) : List (Option Value) := ((xclr ls i).set i (some v)).set (i + 1) none
abbrev XS : Type := Nat × (List (Option Value) × List Value)
def xbi (ls : List (Option Value)) (st : List Value) (pc : Nat) (f : Int32 → Int32 → Int32) : Option XS := match st with
  | .int y :: .int x :: r => some (pc, (ls, .int (f x y) :: r))
  | _ => none
def xbl (ls : List (Option Value)) (st : List Value) (pc : Nat) (f : Int64 → Int64 → Int64) : Option XS := match st with
  | .long y :: .long x :: r => some (pc, (ls, .long (f x y) :: r))
  | _ => none
def xldi (ls : List (Option Value)) (st : List Value) (pc i : Nat) : Option XS := match xld ls i with
  | some (.int x) => some (pc, (ls, .int x :: st))
  | _ => none
def xldl (ls : List (Option Value)) (st : List Value) (pc i : Nat) : Option XS := match xld ls i with
  | some (.long x) => some (pc, (ls, .long x :: st))
  | _ => none
def xldd (ls : List (Option Value)) (st : List Value) (pc i : Nat) : Option XS := match xld ls i with
  | some (.double x) => some (pc, (ls, .double x :: st))
  | _ => none
def xlda (ls : List (Option Value)) (st : List Value) (pc i : Nat) : Option XS := match xld ls i with
  | some (.ref x) => some (pc, (ls, .ref x :: st))
  | some .null => some (pc, (ls, .null :: st))
  | _ => none
def xsti (ls : List (Option Value)) (st : List Value) (pc i : Nat) : Option XS := match st with
  | .int x :: r => if i < ls.length then some (pc, (xset1 ls i (.int x), r)) else none
  | _ => none
def xsta (ls : List (Option Value)) (st : List Value) (pc i : Nat) : Option XS := match st with
  | .ref x :: r => if i < ls.length then some (pc, (xset1 ls i (.ref x), r)) else none
  | .null :: r => if i < ls.length then some (pc, (xset1 ls i .null, r)) else none
  | _ => none
def xstl (ls : List (Option Value)) (st : List Value) (pc i : Nat) : Option XS := match st with
  | .long x :: r => if i + 1 < ls.length then some (pc, (xset2 ls i (.long x), r)) else none
  | _ => none
def xstd (ls : List (Option Value)) (st : List Value) (pc i : Nat) : Option XS := match st with
  | .double x :: r => if i + 1 < ls.length then some (pc, (xset2 ls i (.double x), r)) else none
  | _ => none
def xinc (ls : List (Option Value)) (st : List Value) (pc i : Nat) (d : Int) : Option XS := match xld ls i with
  | some (.int x) => if i < ls.length then some (pc, (xset1 ls i (.int (x + Int32.ofInt d)), st)) else none
  | _ => none
def xjmp (ls : List (Option Value)) (st : List Value) (t : Int) : Option XS := match t with
  | .ofNat n => some (n, (ls, st))
  | _ => none
def xstep (i : Instr) (pc : Nat) (ls : List (Option Value)) (st : List Value) : Option XS := match i with
  | .iconst n => some (pc + 1, (ls, .int (Int32.ofInt n) :: st))
  | .bipush n => some (pc + 2, (ls, .int (Int8.ofInt n).toInt32 :: st))
  | .sipush n => some (pc + 3, (ls, .int (Int16.ofInt n).toInt32 :: st))
  | .lconst n => some (pc + 1, (ls, .long (Int64.ofNat (n : Nat)) :: st))
  | .aconst_null => some (pc + 1, (ls, .null :: st))
  | .iload k => xldi ls st (pc + 2) k
  | .iload_n k => xldi ls st (pc + 1) k
  | .lload k => xldl ls st (pc + 2) k
  | .lload_n k => xldl ls st (pc + 1) k
  | .dload k => xldd ls st (pc + 2) k
  | .dload_n k => xldd ls st (pc + 1) k
  | .aload k => xlda ls st (pc + 2) k
  | .aload_n k => xlda ls st (pc + 1) k
  | .istore k => xsti ls st (pc + 2) k
  | .istore_n k => xsti ls st (pc + 1) k
  | .lstore k => xstl ls st (pc + 2) k
  | .lstore_n k => xstl ls st (pc + 1) k
  | .dstore k => xstd ls st (pc + 2) k
  | .dstore_n k => xstd ls st (pc + 1) k
  | .astore k => xsta ls st (pc + 2) k
  | .astore_n k => xsta ls st (pc + 1) k
  | .iinc k d => xinc ls st (pc + 3) k d
  | .iadd => xbi ls st (pc + 1) (fun x y => x + y)
  | .isub => xbi ls st (pc + 1) (fun x y => x - y)
  | .imul => xbi ls st (pc + 1) (fun x y => x * y)
  | .iand => xbi ls st (pc + 1) (fun x y => x &&& y)
  | .ixor => xbi ls st (pc + 1) (fun x y => x ^^^ y)
  | .ladd => xbl ls st (pc + 1) (fun x y => x + y)
  | .lsub => xbl ls st (pc + 1) (fun x y => x - y)
  | .lmul => xbl ls st (pc + 1) (fun x y => x * y)
  | .lcmp => match st with
    | .long y :: .long x :: r => some (pc + 1, (ls, .int (lg_cmp x y) :: r))
    | _ => none
  | .dcmp op => match st with
    | .double y :: .double x :: r => some (pc + 1, (ls, .int (Op.cmpValue (FP.dcmp x y) op) :: r))
    | _ => none
  | .i2l => match st with
    | .int x :: r => some (pc + 1, (ls, .long x.toInt64 :: r))
    | _ => none
  | .i2d => match st with
    | .int x :: r => some (pc + 1, (ls, .double (FP.i2d x) :: r))
    | _ => none
  | .d2l => match st with
    | .double x :: r => some (pc + 1, (ls, .long (FP.d2l x) :: r))
    | _ => none
  | .lshl => match st with
    | .int y :: .long x :: r => some (pc + 1, (ls, .long (x <<< (y.toInt64 &&& 63)) :: r))
    | _ => none
  | .dup => match st with
    | v :: r => if v.category = 1 then some (pc + 1, (ls, v :: v :: r)) else none
    | _ => none
  | .dup2 => match st with
    | v :: w :: r => if v.category = 1 then (if w.category = 1 then some (pc + 1, (ls, v :: w :: v :: w :: r)) else none) else none
    | _ => none
  | .pop => match st with
    | v :: r => if v.category = 1 then some (pc + 1, (ls, r)) else none
    | _ => none
  | .goto d => xjmp ls st ((pc : Int) + d)
  | _ => none
/-- the length that a pure instruction must have -/
def xlen (i : Instr) : Nat := match i with
  | .bipush _ | .iload _ | .lload _ | .dload _ | .aload _ | .istore _ | .lstore _ | .dstore _ | .astore _ => 2
  | .sipush _ | .iinc .. | .goto _ => 3
  | _ => 1
theorem xld_ls {ls : List (Option Value)} {i : Nat} {v : Value} (h : xld ls i = some v) : ls[i]? = some (some v) := by
  unfold xld at h
  split at h
  · cases h; assumption
  · cases h
theorem xclr_get {ls : List (Option Value)} {i j : Nat} {w : Value} (h : (xclr ls i)[j]? = some (some w)) (hne : j ≠ i) : ls[j]? = some (some w) ∧ ¬ (j + 1 = i ∧ w.category = 2) := by
  unfold xclr at h
  cases i with
  | zero => exact ⟨h, fun q => by omega⟩
  | succ i' =>
    dsimp only at h
    split at h
    · rename_i v hv
      split at h
      · rename_i hc
        by_cases hj : i' = j
        · subst hj
          rw [List.getElem?_set] at h
          simp at h
        · rw [List.getElem?_set_ne hj] at h
          exact ⟨h, fun q => hj (by omega)⟩
      · rename_i hc
        refine ⟨h, fun q => ?_⟩
        have hj : j = i' := by omega
        subst hj
        rw [xld_ls hv] at h
        cases h
        exact hc q.2
    · rename_i hv
      refine ⟨h, fun q => ?_⟩
      have hj : j = i' := by omega
      subst hj
      unfold xld at hv
      rw [h] at hv
      cases hv
theorem xclr_len (ls : List (Option Value)) (i : Nat) : (xclr ls i).length = ls.length := by
  unfold xclr
  split
  · rfl
  · split
    · split
      · exact List.length_set ..
      · rfl
    · rfl
def xas (G : XG) (ls : List (Option Value)) : List (Nat × Value) := (List.range ls.length).filterMap (fun i => (xld ls i).map (fun v => (i, xv G v)))
theorem xas_mem {G : XG} {ls : List (Option Value)} {i : Nat} {v : Value} (h : ls[i]? = some (some v)) : (i, xv G v) ∈ xas G ls := by
  unfold xas
  rw [List.mem_filterMap]
  have hl := (List.getElem?_eq_some_iff.mp h).1
  refine ⟨i, List.mem_range.mpr hl, ?_⟩
  unfold xld
  rw [h]
  rfl
theorem xHas.lv {G : XG} {lr : Array Slot} {nL : Nat} {ls : List (Option Value)} (h : xHas G lr nL ls) : lv_has lr nL (xas G ls) := by
  refine ⟨h.1, h.2.1, fun q hq => ?_⟩
  unfold xas at hq
  rw [List.mem_filterMap] at hq
  obtain ⟨i, -, hi⟩ := hq
  cases hx : xld ls i with
  | none => rw [hx] at hi; cases hi
  | some v =>
    rw [hx] at hi
    cases hi
    exact h.2.2.2 i v (xld_ls hx)
theorem xHas.st1 {G : XG} {lr' : Array Slot} {nL i : Nat} {v : Value} {ls : List (Option Value)} (hl : ls.length = nL) (h : lv_has lr' nL ((i, xv G v) :: (xas G ls).filter (fun q => !(q.1 == i) && !(q.1 + 1 == i && q.2.category == 2)))) : xHas G lr' nL (xset1 ls i v) := by
  refine ⟨h.1, h.2.1, by unfold xset1; rw [List.length_set, xclr_len]; exact hl, fun j w hj => ?_⟩
  unfold xset1 at hj
  by_cases hji : i = j
  · subst hji
    rw [List.getElem?_set] at hj
    split at hj
    · split at hj
      · cases hj
        exact h.2.2 (i, xv G v) List.mem_cons_self
      · cases hj
    · rename_i q; exact absurd rfl q
  · rw [List.getElem?_set_ne hji] at hj
    obtain ⟨h1, h2⟩ := xclr_get hj (Ne.symm hji)
    refine h.2.2 (j, xv G w) (List.mem_cons_of_mem _ (List.mem_filter.mpr ⟨xas_mem h1, ?_⟩))
    simp only [Bool.and_eq_true, Bool.not_eq_true', beq_eq_false_iff_ne, Bool.and_eq_false_iff, xv_cat]
    refine ⟨Ne.symm hji, ?_⟩
    by_cases h3 : j + 1 = i
    · exact Or.inr fun q => h2 ⟨h3, q⟩
    · exact Or.inl h3
theorem xHas.st2 {G : XG} {lr' : Array Slot} {nL i : Nat} {v : Value} {ls : List (Option Value)} (hl : ls.length = nL) (h : lv_has lr' nL ((i, xv G v) :: (xas G ls).filter (fun q => !(q.1 == i) && (!(q.1 == i + 1) && !(q.1 + 1 == i && q.2.category == 2))))) : xHas G lr' nL (xset2 ls i v) := by
  refine ⟨h.1, h.2.1, by unfold xset2; rw [List.length_set, List.length_set, xclr_len]; exact hl, fun j w hj => ?_⟩
  unfold xset2 at hj
  by_cases hj1 : i + 1 = j
  · subst hj1
    rw [List.getElem?_set] at hj
    split at hj
    · split at hj <;> cases hj
    · rename_i q; exact absurd rfl q
  · rw [List.getElem?_set_ne hj1] at hj
    by_cases hji : i = j
    · subst hji
      rw [List.getElem?_set] at hj
      split at hj
      · split at hj
        · cases hj
          exact h.2.2 (i, xv G v) List.mem_cons_self
        · cases hj
      · rename_i q; exact absurd rfl q
    · rw [List.getElem?_set_ne hji] at hj
      obtain ⟨h1, h2⟩ := xclr_get hj (Ne.symm hji)
      refine h.2.2 (j, xv G w) (List.mem_cons_of_mem _ (List.mem_filter.mpr ⟨xas_mem h1, ?_⟩))
      simp only [Bool.and_eq_true, Bool.not_eq_true', beq_eq_false_iff_ne, Bool.and_eq_false_iff, xv_cat]
      refine ⟨Ne.symm hji, Ne.symm hj1, ?_⟩
      by_cases h3 : j + 1 = i
      · exact Or.inr fun q => h2 ⟨h3, q⟩
      · exact Or.inl h3
section XSTEP
variable {G : XG} {nL : Nat} {p : Program} {l : Launch} {e : Env} {R : Room} {s : State} {m : MethodId} {args : Array Value} {below : List Frame} {meth : Method} {c : Code} {Q : State → Prop} {own : String} {cc : ByteArray}
variable {pc : Nat} {ls : List (Option Value)} {st : List Value} {n : Nat} {h : XH} {k ks : Nat}
set_option maxHeartbeats 4000000 in
theorem XV.step1 (C : XCx G l own cc nL p s m args meth c) {i : Instr} {len : Nat} {q : XS} (hd : decode cc pc = .ok (i, len)) (hl : len = xlen i) (hs : xstep i pc ls st = some q) (kk : XV G nL p l e R s m args below meth c Q q.1 q.2.1 q.2.2 n h k ks) : XV G nL p l e R s m args below meth c Q pc ls st n h k ks := by
  obtain ⟨hx, hb, -⟩ := C
  subst hl
  intro H locs lr hP hz hS hL
  have kk' : ∀ lr', xHas G lr' nL q.2.1 → W p l e R s m args below meth c H locs k ks Q (F0 m q.1 lr' (q.2.2.map (xv G))) := fun lr' hL' => kk H locs lr' hP hz hS hL'
  clear kk
  have hlen := hL.2.2.1
  cases i
  case iconst n => cases hs; exact lv_iconst hx hb hd rfl (kk' _ hL)
  case bipush n => cases hs; exact lv_bipush hx hb hd rfl (kk' _ hL)
  case sipush n => cases hs; exact lv_sipush hx hb hd rfl (kk' _ hL)
  case lconst n => cases hs; exact lv_lconst hx hb hd rfl (kk' _ hL)
  case aconst_null => cases hs; exact lv_null hx hb hd (kk' _ hL)
  case iload i =>
    simp only [xstep, xldi] at hs
    split at hs <;> cases hs
    rename_i x hq
    exact lv_iload hx hb hd (hL.2.2.2 _ _ (xld_ls hq)) (kk' _ hL)
  case iload_n i =>
    simp only [xstep, xldi] at hs
    split at hs <;> cases hs
    rename_i x hq
    exact lv_iload_n hx hb hd rfl (hL.2.2.2 _ _ (xld_ls hq)) (kk' _ hL)
  case lload i =>
    simp only [xstep, xldl] at hs
    split at hs <;> cases hs
    rename_i x hq
    exact lv_lload hx hb hd (hL.2.2.2 _ _ (xld_ls hq)) (kk' _ hL)
  case lload_n i =>
    simp only [xstep, xldl] at hs
    split at hs <;> cases hs
    rename_i x hq
    exact lv_lload_n hx hb hd rfl (hL.2.2.2 _ _ (xld_ls hq)) (kk' _ hL)
  case dload i =>
    simp only [xstep, xldd] at hs
    split at hs <;> cases hs
    rename_i x hq
    exact lv_dload hx hb hd (hL.2.2.2 _ _ (xld_ls hq)) (kk' _ hL)
  case dload_n i =>
    simp only [xstep, xldd] at hs
    split at hs <;> cases hs
    rename_i x hq
    exact lv_dload_n hx hb hd rfl (hL.2.2.2 _ _ (xld_ls hq)) (kk' _ hL)
  case aload i =>
    simp only [xstep, xlda] at hs
    split at hs <;> cases hs
    · rename_i x hq
      exact lv_aload hx hb hd (hL.2.2.2 _ _ (xld_ls hq)) (kk' _ hL)
    · rename_i hq
      exact lv_aloadN hx hb hd (hL.2.2.2 _ _ (xld_ls hq)) (kk' _ hL)
  case aload_n i =>
    simp only [xstep, xlda] at hs
    split at hs <;> cases hs
    · rename_i x hq
      exact lv_aload_n hx hb hd rfl (hL.2.2.2 _ _ (xld_ls hq)) (kk' _ hL)
    · rename_i hq
      exact lv_aload_nN hx hb hd rfl (hL.2.2.2 _ _ (xld_ls hq)) (kk' _ hL)
  case istore i =>
    simp only [xstep, xsti] at hs
    split at hs
    · rename_i x r
      split at hs <;> cases hs
      rename_i hi
      exact lv_istore hx hb hd hL.lv (by omega) rfl (fun lr' h' => kk' _ (xHas.st1 (v := .int x) hlen h'))
    · cases hs
  case istore_n i =>
    simp only [xstep, xsti] at hs
    split at hs
    · rename_i x r
      split at hs <;> cases hs
      rename_i hi
      exact lv_istore_n hx hb hd rfl hL.lv (by omega) rfl (fun lr' h' => kk' _ (xHas.st1 (v := .int x) hlen h'))
    · cases hs
  case astore i =>
    simp only [xstep, xsta] at hs
    split at hs
    · rename_i x r
      split at hs <;> cases hs
      rename_i hi
      exact lv_astore hx hb hd hL.lv (by omega) rfl (fun lr' h' => kk' _ (xHas.st1 (v := .ref x) hlen h'))
    · rename_i r
      split at hs <;> cases hs
      rename_i hi
      exact lv_astoreN hx hb hd hL.lv (by omega) rfl (fun lr' h' => kk' _ (xHas.st1 (v := .null) hlen h'))
    · cases hs
  case astore_n i =>
    simp only [xstep, xsta] at hs
    split at hs
    · rename_i x r
      split at hs <;> cases hs
      rename_i hi
      exact lv_astore_n hx hb hd rfl hL.lv (by omega) rfl (fun lr' h' => kk' _ (xHas.st1 (v := .ref x) hlen h'))
    · rename_i r
      split at hs <;> cases hs
      rename_i hi
      exact lv_astore_nN hx hb hd rfl hL.lv (by omega) rfl (fun lr' h' => kk' _ (xHas.st1 (v := .null) hlen h'))
    · cases hs
  case lstore i =>
    simp only [xstep, xstl] at hs
    split at hs
    · rename_i x r
      split at hs <;> cases hs
      rename_i hi
      exact lv_lstore hx hb hd hL.lv (by omega) rfl (fun lr' h' => kk' _ (xHas.st2 (v := .long x) hlen h'))
    · cases hs
  case lstore_n i =>
    simp only [xstep, xstl] at hs
    split at hs
    · rename_i x r
      split at hs <;> cases hs
      rename_i hi
      exact lv_lstore_n hx hb hd rfl hL.lv (by omega) rfl (fun lr' h' => kk' _ (xHas.st2 (v := .long x) hlen h'))
    · cases hs
  case dstore i =>
    simp only [xstep, xstd] at hs
    split at hs
    · rename_i x r
      split at hs <;> cases hs
      rename_i hi
      exact lv_dstore hx hb hd hL.lv (by omega) rfl (fun lr' h' => kk' _ (xHas.st2 (v := .double x) hlen h'))
    · cases hs
  case dstore_n i =>
    simp only [xstep, xstd] at hs
    split at hs
    · rename_i x r
      split at hs <;> cases hs
      rename_i hi
      exact lv_dstore_n hx hb hd rfl hL.lv (by omega) rfl (fun lr' h' => kk' _ (xHas.st2 (v := .double x) hlen h'))
    · cases hs
  case iinc i d =>
    simp only [xstep, xinc] at hs
    split at hs
    · rename_i x hq
      split at hs <;> cases hs
      rename_i hi
      obtain ⟨kp, hkp⟩ := List.getElem?_of_mem (xas_mem (G := G) (xld_ls hq))
      exact lv_iinc hx hb hd hL.lv hkp rfl (by omega) rfl (fun lr' h' => kk' _ (xHas.st1 (v := .int (x + Int32.ofInt d)) hlen h'))
    · cases hs
  case iadd =>
    simp only [xstep, xbi] at hs
    split at hs <;> cases hs
    exact lv_iadd hx hb hd (kk' _ hL)
  case isub =>
    simp only [xstep, xbi] at hs
    split at hs <;> cases hs
    exact lv_isub hx hb hd (kk' _ hL)
  case imul =>
    simp only [xstep, xbi] at hs
    split at hs <;> cases hs
    exact lv_imul hx hb hd (kk' _ hL)
  case iand =>
    simp only [xstep, xbi] at hs
    split at hs <;> cases hs
    exact lv_iand hx hb hd (kk' _ hL)
  case ixor =>
    simp only [xstep, xbi] at hs
    split at hs <;> cases hs
    exact lv_ixor hx hb hd (kk' _ hL)
  case ladd =>
    simp only [xstep, xbl] at hs
    split at hs <;> cases hs
    exact lv_ladd hx hb hd (kk' _ hL)
  case lsub =>
    simp only [xstep, xbl] at hs
    split at hs <;> cases hs
    exact lv_lsub hx hb hd (kk' _ hL)
  case lmul =>
    simp only [xstep, xbl] at hs
    split at hs <;> cases hs
    exact lv_lmul hx hb hd (kk' _ hL)
  case lcmp =>
    simp only [xstep] at hs
    split at hs <;> cases hs
    exact W.lcmp hx hb hd (kk' _ hL)
  case dcmp op =>
    simp only [xstep] at hs
    split at hs <;> cases hs
    exact lv_dcmp hx hb hd (kk' _ hL)
  case i2l =>
    simp only [xstep] at hs
    split at hs <;> cases hs
    exact lv_i2l hx hb hd rfl (kk' _ hL)
  case i2d =>
    simp only [xstep] at hs
    split at hs <;> cases hs
    exact lv_i2d hx hb hd (kk' _ hL)
  case d2l =>
    simp only [xstep] at hs
    split at hs <;> cases hs
    exact lv_d2l hx hb hd (kk' _ hL)
  case lshl =>
    simp only [xstep] at hs
    split at hs <;> cases hs
    exact lv_lshl hx hb hd rfl (kk' _ hL)
  case dup =>
    simp only [xstep] at hs
    split at hs
    · split at hs <;> cases hs
      rename_i hc
      exact lv_dup hx hb hd (by rw [xv_cat]; exact hc) (kk' _ hL)
    · cases hs
  case dup2 =>
    simp only [xstep] at hs
    split at hs
    · split at hs
      · split at hs <;> cases hs
        rename_i hc hc2
        exact lv_dup2_11 hx hb hd (by rw [xv_cat]; exact hc) (by rw [xv_cat]; exact hc2) (kk' _ hL)
      · cases hs
    · cases hs
  case pop =>
    simp only [xstep] at hs
    split at hs
    · split at hs <;> cases hs
      rename_i hc
      exact lv_pop hx hb hd (by rw [xv_cat]; exact hc) (kk' _ hL)
    · cases hs
  case goto d =>
    simp only [xstep, xjmp] at hs
    split at hs <;> cases hs
    rename_i t ht
    exact lv_goto hx hb hd (by rw [ht]; rfl) (kk' _ hL)
  all_goals exact absurd hs (by simp [xstep])
end XSTEP
