/-! runs of pure instructions; fields, arrays, branches -/
def xlk (tbl : List (Nat × (Instr × Nat))) (pc : Nat) : Option (Instr × Nat) := match tbl with
  | [] => none
  | (a, i) :: t => if a = pc then some i else xlk t pc
theorem xlk_ok {cc : ByteArray} {tbl : List (Nat × (Instr × Nat))} (ht : ∀ a ∈ tbl, decode cc a.1 = .ok a.2) {pc : Nat} {q : Instr × Nat} (h : xlk tbl pc = some q) : decode cc pc = .ok q := by
  induction tbl with
  | nil => cases h
  | cons a t ih =>
    obtain ⟨a, i⟩ := a
    unfold xlk at h
    split at h
    · rename_i hq
      subst hq
      cases h
      have h1 := ht (a, q) List.mem_cons_self
      exact h1
    · exact ih (fun b hb => ht b (List.mem_cons_of_mem _ hb)) h
def xrun (tbl : List (Nat × (Instr × Nat))) : Nat → XS → Option XS
  | 0, q => some q
  | k + 1, q => match xlk tbl q.1 with
    | some (i, len) => if len = xlen i then (match xstep i q.1 q.2.1 q.2.2 with
      | some q' => xrun tbl k q'
      | none => none) else none
    | none => none
theorem W.sized {p : Program} {l : Launch} {e : Env} {R : Room} {s : State} {m : MethodId} {args : Array Value} {below : List Frame} {meth : Method} {c : Code} {H : Heap} {locs : List Loc} {cells slots : Nat} {Q : State → Prop} {g : JFrame} (kk : H.size ≤ s.heap.size + cells → W p l e R s m args below meth c H locs cells slots Q g) : W p l e R s m args below meth c H locs cells slots Q g := fun T hT X => kk (by rw [← hT]; exact X.heapSize) T hT X
theorem XCl_eq {ci : Nat} {q : vw_C} (h : XCl[ci]? = some q) : (q.1 = "RopeThreads$Elevator" ∧ q.2.1 = F_E ∧ q.2.2 = 7) ∨ (q.1 = "RopeThreads$History" ∧ q.2.1 = F_H ∧ q.2.2 = 3) ∨ (q.1 = "RopeThreads$Rope" ∧ q.2.1 = F_R ∧ q.2.2 = 7) ∨ (q.1 = "RopeThreads$TripText" ∧ q.2.1 = F_T ∧ q.2.2 = 6) ∨ (q.1 = "RopeThreads" ∧ q.2.1 = F_C ∧ q.2.2 = 4) := by
  have hm := List.mem_of_getElem? h
  rcases List.mem_cons.mp hm with e | hm
  · rw [e]; exact Or.inl ⟨rfl, rfl, rfl⟩
  rcases List.mem_cons.mp hm with e | hm
  · rw [e]; exact Or.inr (Or.inl ⟨rfl, rfl, rfl⟩)
  rcases List.mem_cons.mp hm with e | hm
  · rw [e]; exact Or.inr (Or.inr (Or.inl ⟨rfl, rfl, rfl⟩))
  rcases List.mem_cons.mp hm with e | hm
  · rw [e]; exact Or.inr (Or.inr (Or.inr (Or.inl ⟨rfl, rfl, rfl⟩)))
  rcases List.mem_cons.mp hm with e | hm
  · rw [e]; exact Or.inr (Or.inr (Or.inr (Or.inr ⟨rfl, rfl, rfl⟩)))
  cases hm
theorem XCl_in {ci : Nat} {q : vw_C} (h : XCl[ci]? = some q) : ∀ w ∈ u_ws q.1 q.2.1 q.2.2, w ∈ WALL := by
  rcases XCl_eq h with ⟨a, b, c⟩ | ⟨a, b, c⟩ | ⟨a, b, c⟩ | ⟨a, b, c⟩ | ⟨a, b, c⟩ <;> rw [a, b, c]
  · exact i_E
  · exact i_H
  · exact i_R
  · exact i_T
  · exact i_C
theorem XCl_ty {ci : Nat} {q : vw_C} (h : XCl[ci]? = some q) : ∃ ty0 : Nat → FieldType, ∀ k, k < q.2.2 → parseFieldDescriptor (q.2.1 k).2.2.1 = some (ty0 k) := by
  rcases XCl_eq h with ⟨a, b, c⟩ | ⟨a, b, c⟩ | ⟨a, b, c⟩ | ⟨a, b, c⟩ | ⟨a, b, c⟩ <;> rw [b, c]
  · exact ⟨_, ft_E_ok⟩
  · exact ⟨_, ft_H_ok⟩
  · exact ⟨_, ft_R_ok⟩
  · exact ⟨_, ft_T_ok⟩
  · exact ⟨_, ft_C_ok⟩
theorem XCl_nm {ci : Nat} {q : vw_C} (h : XCl[ci]? = some q) : ∀ a, a < q.2.2 → ∀ b, b < q.2.2 → a ≠ b → (q.2.1 a).2.1 ≠ (q.2.1 b).2.1 := by
  rcases XCl_eq h with ⟨a, b, c⟩ | ⟨a, b, c⟩ | ⟨a, b, c⟩ | ⟨a, b, c⟩ | ⟨a, b, c⟩ <;> rw [b, c]
  · exact n_E
  · exact n_H
  · exact n_R
  · exact n_T
  · exact n_C
theorem xa_in (G : XG) {i : Nat} (hi : 4 ≤ i) : xa G i = xbase G + (i - 4) := by unfold xa; rw [if_neg (by omega)]
theorem xw_at (G : XG) {n i : Nat} {h : XH} (hi : 4 ≤ i) (hn : i < n + 4) : (xw G n h)[i - 4]? = some (xa G i, xe G (h i)) := by
  rw [xw_get G h (by omega), xa_in G hi, show i - 4 + 4 = i by omega]
theorem va_P_size {G : XG} {n i : Nat} {h : XH} {H : Heap} {D : va_G} {cl : List vw_C} (hP : va_P D cl (xw G n h) H) (hn : 0 < n) : xbase G + n ≤ H.size := by
  have h1 := (hP (n - 1) _ (xw_get G h (by omega))).lt
  have h2 : xbase G + (n - 1) < H.size := h1
  omega
theorem xtys_get (G : XG) {k : Nat} {q : ClassId × FieldType} (h : (xtys G)[k]? = some q) : q.1 = xcA G k := by
  match k, h with
  | 0, h => cases h; rfl
  | 1, h => cases h; rfl
  | 2, h => cases h; rfl
  | 3, h => cases h; rfl
  | j + 4, h => simp [xtys] at h
section XHEAP
variable {G : XG} {nL : Nat} {p : Program} {l : Launch} {e : Env} {R : Room} {s : State} {m : MethodId} {args : Array Value} {below : List Frame} {meth : Method} {c : Code} {Q : State → Prop} {own : String} {cc : ByteArray}
variable {pc : Nat} {ls : List (Option Value)} {st : List Value} {n : Nat} {h : XH} {k ks : Nat}
theorem XV.run (C : XCx G l own cc nL p s m args meth c) {tbl : List (Nat × (Instr × Nat))} (ht : ∀ a ∈ tbl, decode cc a.1 = .ok a.2) (j : Nat) {q : XS} (hr : xrun tbl j (pc, (ls, st)) = some q) (kk : XV G nL p l e R s m args below meth c Q q.1 q.2.1 q.2.2 n h k ks) : XV G nL p l e R s m args below meth c Q pc ls st n h k ks := by
  induction j generalizing pc ls st with
  | zero => cases hr; exact kk
  | succ j ih =>
    unfold xrun at hr
    split at hr
    · rename_i i len hl
      split at hr
      · rename_i hlen
        split at hr
        · rename_i q' hq'
          exact XV.step1 C (xlk_ok ht hl) hlen hq' (ih hr)
        · cases hr
      · cases hr
    · cases hr
/-- weaker locals, other budget -/
theorem XV.locs (ls' : List (Option Value)) (hlen : ls'.length = ls.length) (hsub : ∀ (i : Nat) (v : Value), ls'[i]? = some (some v) → ls[i]? = some (some v)) (kk : XV G nL p l e R s m args below meth c Q pc ls' st n h k ks) : XV G nL p l e R s m args below meth c Q pc ls st n h k ks := fun H locs lr hP hz hS hL => kk H locs lr hP hz hS ⟨hL.1, hL.2.1, hlen.trans hL.2.2.1, fun i v hi => hL.2.2.2 i v (hsub i v hi)⟩
theorem XV.widen {k' ks' : Nat} (h1 : k ≤ k') (h2 : ks ≤ ks') (kk : XV G nL p l e R s m args below meth c Q pc ls st n h k' ks') : XV G nL p l e R s m args below meth c Q pc ls st n h k ks := fun H locs lr hP hz hS hL => W.widen h1 h2 (kk H locs lr hP hz hS hL)
theorem XV.heap {h' : XH} (he : ∀ i, 4 ≤ i → i < n + 4 → h' i = h i) (kk : XV G nL p l e R s m args below meth c Q pc ls st n h' k ks) : XV G nL p l e R s m args below meth c Q pc ls st n h k ks := by
  have hw : xw G n h' = xw G n h := by
    apply List.map_congr_left
    intro j hj
    rw [List.mem_range] at hj
    rw [he (j + 4) (by omega) (by omega)]
  intro H locs lr hP hz hS hL
  exact kk H locs lr (by rw [hw]; exact hP) hz hS hL
theorem XV.getf (C : XCx G l own cc nL p s m args meth c) {i ci kf ix : Nat} {q : vw_C} {fs : List Value} {v : Value} (hd : decode cc pc = .ok (.getfield ix, 3)) (hc : XCl[ci]? = some q) (hk : kf < q.2.2) (hlink : Cond.fieldLink own ix (q.2.1 kf).1 (q.2.1 kf).2.1 (q.2.1 kf).2.2.1 ∈ WALL) (hi : 4 ≤ i) (hn : i < n + 4) (hh : h i = .inr (ci, fs)) (hv : fs[kf]? = some v) (kk : XV G nL p l e R s m args below meth c Q (pc + 3) ls (v :: st) n h k ks) : XV G nL p l e R s m args below meth c Q pc ls (.ref i :: st) n h k ks := by
  obtain ⟨hx, hb, hml, hown, hts, hlocks, hE, -⟩ := C
  intro H locs lr hP hz hS hL
  have he : (xw G n h)[i - 4]? = some (xa G i, .inr (ci, fs.map (xv G))) := by rw [xw_at G hi hn, hh]; rfl
  obtain ⟨C0, T, N⟩ := q
  exact va_get (D := xD G) (ci := ci) (v := xv G v) (C := C0) (T := T) (N := N) hx hb hts (XCl_in hc) hown hE.1 hP (i - 4) he hc kf hk (hts _ hlink) (fun _ h9 => h9) (by rw [List.getElem?_map, hv]; rfl) hd (kk H locs lr hP hz hS hL)
theorem XV.putf (C : XCx G l own cc nL p s m args meth c) {i ci kf ix : Nat} {q : vw_C} {fs : List Value} {v : Value} {ty : FieldType} (hd : decode cc pc = .ok (.putfield ix, 3)) (hc : XCl[ci]? = some q) (hk : kf < q.2.2) (hlink : Cond.fieldLink own ix (q.2.1 kf).1 (q.2.1 kf).2.1 (q.2.1 kf).2.2.1 ∈ WALL) (hi : 4 ≤ i) (hn : i < n + 4) (hh : h i = .inr (ci, fs)) (hfin : (q.2.1 kf).2.2.2 = false) (hty : parseFieldDescriptor (q.2.1 kf).2.2.1 = some ty) (hnar : narrow ty (xv G v) = xv G v) (hfit : fits ty (xv G v) = true) (hl : kf < fs.length) (kk : XV G nL p l e R s m args below meth c Q (pc + 3) ls st n (xup h i (.inr (ci, fs.set kf v))) k ks) : XV G nL p l e R s m args below meth c Q pc ls (v :: .ref i :: st) n h k ks := by
  obtain ⟨hx, hb, hml, hown, hts, hlocks, hE, -⟩ := C
  intro H locs lr hP hz hS hL
  have he : (xw G n h)[i - 4]? = some (xa G i, .inr (ci, fs.map (xv G))) := by rw [xw_at G hi hn, hh]; rfl
  obtain ⟨C0, T, N⟩ := q
  obtain ⟨ty0, hty0⟩ := XCl_ty hc
  refine va_put (D := xD G) (ci := ci) (v := xv G v) (ty := ty) (C := C0) (T := T) (N := N) hx hb hts (XCl_in hc) ty0 hty0 (XCl_nm hc) hown hE.1 hP (xw_D G n h) hS (i - 4) he hc kf hk (hts _ hlink) (fun _ h9 => h9) hfin hty hnar hfit (by rw [List.length_map]; exact hl) hd (fun H1 locs1 hP1 _ hS1 => ?_)
  rw [show ((xa G i, Sum.inr (ci, (fs.map (xv G)).set kf (xv G v))) : Nat × va_E) = (xa G i, xe G (.inr (ci, fs.set kf v))) by rw [← List.map_set]; rfl, xw_set G n h i _ hi] at hP1
  exact kk H1 locs1 lr hP1 (va_P_size (i := i) hP1 (by omega)) hS1 hL
theorem XV.putF (C : XCx G l own cc nL p s m args meth c) {i ci kf ix : Nat} {q : vw_C} {fs : List Value} {v : Value} {ty : FieldType} (hin2 : meth.name = "<init>") (hd : decode cc pc = .ok (.putfield ix, 3)) (hc : XCl[ci]? = some q) (hk : kf < q.2.2) (hlink : Cond.fieldLink own ix (q.2.1 kf).1 (q.2.1 kf).2.1 (q.2.1 kf).2.2.1 ∈ WALL) (hi : 4 ≤ i) (hn : i < n + 4) (hh : h i = .inr (ci, fs)) (hfin : (q.2.1 kf).2.2.2 = true) (hdecl : (q.2.1 kf).1 = own) (hty : parseFieldDescriptor (q.2.1 kf).2.2.1 = some ty) (hnar : narrow ty (xv G v) = xv G v) (hfit : fits ty (xv G v) = true) (hl : kf < fs.length) (kk : XV G nL p l e R s m args below meth c Q (pc + 3) ls st n (xup h i (.inr (ci, fs.set kf v))) k ks) : XV G nL p l e R s m args below meth c Q pc ls (v :: .ref i :: st) n h k ks := by
  obtain ⟨hx, hb, hml, hown, hts, hlocks, hE, -⟩ := C
  intro H locs lr hP hz hS hL
  have he : (xw G n h)[i - 4]? = some (xa G i, .inr (ci, fs.map (xv G))) := by rw [xw_at G hi hn, hh]; rfl
  obtain ⟨C0, T, N⟩ := q
  obtain ⟨ty0, hty0⟩ := XCl_ty hc
  refine va_putF (D := xD G) (ci := ci) (v := xv G v) (ty := ty) (C := C0) (T := T) (N := N) hx hb hts (XCl_in hc) ty0 hty0 (XCl_nm hc) hown hE.1 hP (xw_D G n h) hS (i - 4) he hc kf hk (hts _ hlink) (fun _ h9 => h9) hfin hin2 hdecl hty hnar hfit (by rw [List.length_map]; exact hl) hd (fun H1 locs1 hP1 _ hS1 => ?_)
  rw [show ((xa G i, Sum.inr (ci, (fs.map (xv G)).set kf (xv G v))) : Nat × va_E) = (xa G i, xe G (.inr (ci, fs.set kf v))) by rw [← List.map_set]; rfl, xw_set G n h i _ hi] at hP1
  exact kk H1 locs1 lr hP1 (va_P_size (i := i) hP1 (by omega)) hS1 hL
theorem XV.iald0 (C : XCx G l own cc nL p s m args meth c) {i N : Nat} {f : Nat → Int32} {j : Int32} (hd : decode cc pc = .ok (.iaload, 1)) (hi : 4 ≤ i) (hn : i < n + 4) (hh : h i = .inl (0, (N, .inl f))) (hin : vp_in j N) (kk : XV G nL p l e R s m args below meth c Q (pc + 1) ls (.int (f j.toNatClampNeg) :: st) n h k ks) : XV G nL p l e R s m args below meth c Q pc ls (.int j :: .ref i :: st) n h k ks := by
  obtain ⟨hx, hb, hml, hown, hts, hlocks, hE, -⟩ := C
  intro H locs lr hP hz hS hL
  exact va_iald hx hb hE.1 hP (i - 4) 0 (by rw [xw_at G hi hn, hh]; rfl) rfl hin hd (kk H locs lr hP hz hS hL)
theorem XV.iald (C : XCx G l own cc nL p s m args meth c) {i N a : Nat} {f : Nat → Int32} {j : Int32} (hd : decode cc pc = .ok (.iaload, 1)) (hi : 4 ≤ i) (hn : i < n + 4) (hh : h i = .inl (0, (N, .inl f))) (hj : j = nI a) (ha : a < N) (hN : N < 2 ^ 31) (kk : XV G nL p l e R s m args below meth c Q (pc + 1) ls (.int (f a) :: st) n h k ks) : XV G nL p l e R s m args below meth c Q pc ls (.int j :: .ref i :: st) n h k ks := by
  subst hj
  refine XV.iald0 C hd hi hn hh (vp_in_nI ha hN) ?_
  rw [nI_clamp (by omega)]
  exact kk
theorem XV.iast0 (C : XCx G l own cc nL p s m args meth c) {i N : Nat} {f : Nat → Int32} {j x : Int32} (hd : decode cc pc = .ok (.iastore, 1)) (hi : 4 ≤ i) (hn : i < n + 4) (hh : h i = .inl (0, (N, .inl f))) (hin : vp_in j N) (kk : XV G nL p l e R s m args below meth c Q (pc + 1) ls st n (xup h i (.inl (0, (N, .inl (upd f j.toNatClampNeg x))))) k ks) : XV G nL p l e R s m args below meth c Q pc ls (.int x :: .int j :: .ref i :: st) n h k ks := by
  obtain ⟨hx, hb, hml, hown, hts, hlocks, hE, -⟩ := C
  intro H locs lr hP hz hS hL
  refine va_iast hx hb hE.1 hP (xw_D G n h) hS (i - 4) 0 (by rw [xw_at G hi hn, hh]; rfl) rfl hin hd (fun H1 locs1 hP1 _ hS1 => ?_)
  rw [show ((xa G i, Sum.inl (xcA G 0, N, Sum.inl (upd f j.toNatClampNeg x))) : Nat × va_E) = (xa G i, xe G (.inl (0, (N, .inl (upd f j.toNatClampNeg x))))) from rfl, xw_set G n h i _ hi] at hP1
  exact kk H1 locs1 lr hP1 (va_P_size (i := i) hP1 (by omega)) hS1 hL
theorem XV.iast (C : XCx G l own cc nL p s m args meth c) {i N a : Nat} {f : Nat → Int32} {j x : Int32} (hd : decode cc pc = .ok (.iastore, 1)) (hi : 4 ≤ i) (hn : i < n + 4) (hh : h i = .inl (0, (N, .inl f))) (hj : j = nI a) (ha : a < N) (hN : N < 2 ^ 31) (kk : XV G nL p l e R s m args below meth c Q (pc + 1) ls st n (xup h i (.inl (0, (N, .inl (upd f a x))))) k ks) : XV G nL p l e R s m args below meth c Q pc ls (.int x :: .int j :: .ref i :: st) n h k ks := by
  subst hj
  refine XV.iast0 C hd hi hn hh (vp_in_nI ha hN) ?_
  rw [nI_clamp (by omega)]
  exact kk
theorem xv_rf (G : XG) (o : Option Nat) : xv G (va_rf o) = va_rf (o.map (xa G)) := by cases o <;> rfl
theorem XV.aald (C : XCx G l own cc nL p s m args meth c) {i N a t : Nat} {Cn : String} {f : Nat → Option Nat} {j : Int32} (hd : decode cc pc = .ok (.aaload, 1)) (hi : 4 ≤ i) (hn : i < n + 4) (hh : h i = .inl (t, (N, .inr (.inr f)))) (ht : (xtys G)[t]? = some (xcA G t, .object Cn)) (hj : j = nI a) (ha : a < N) (hN : N < 2 ^ 31) (kk : XV G nL p l e R s m args below meth c Q (pc + 1) ls (va_rf (f a) :: st) n h k ks) : XV G nL p l e R s m args below meth c Q pc ls (.int j :: .ref i :: st) n h k ks := by
  subst hj
  obtain ⟨hx, hb, hml, hown, hts, hlocks, hE, -⟩ := C
  intro H locs lr hP hz hS hL
  refine va_aldq (n := N) (f := fun i => (f i).map (xa G)) hx hb hE.1 hP (i - 4) t (by rw [xw_at G hi hn, hh]; rfl) ht (vp_in_nI ha hN) hd ?_
  rw [nI_clamp (by omega), ← xv_rf]
  exact kk H locs lr hP hz hS hL
theorem XV.aast (C : XCx G l own cc nL p s m args meth c) {i N a t o ci : Nat} {q : vw_C} {fs : List Value} {f : Nat → Option Nat} {j : Int32} (hd : decode cc pc = .ok (.aastore, 1)) (hi : 4 ≤ i) (hn : i < n + 4) (hh : h i = .inl (t, (N, .inr (.inr f)))) (ht : (xtys G)[t]? = some (xcA G t, .object q.1)) (hoi : 4 ≤ o) (hon : o < n + 4) (hc : XCl[ci]? = some q) (ho : h o = .inr (ci, fs)) (hj : j = nI a) (ha : a < N) (hN : N < 2 ^ 31) (kk : XV G nL p l e R s m args below meth c Q (pc + 1) ls st n (xup h i (.inl (t, (N, .inr (.inr (va_up f a (some o))))))) k ks) : XV G nL p l e R s m args below meth c Q pc ls (.ref o :: .int j :: .ref i :: st) n h k ks := by
  subst hj
  obtain ⟨hx, hb, hml, hown, hts, hlocks, hE, -⟩ := C
  intro H locs lr hP hz hS hL
  refine va_astq (n := N) (f := fun i => (f i).map (xa G)) hx hb hE.1 hP (xw_D G n h) hS (i - 4) t (o - 4) ci (by rw [xw_at G hi hn, hh]; rfl) ht (by rw [xw_at G hoi hon, ho]; rfl) hc (vp_in_nI ha hN) hd (fun H1 locs1 hP1 _ hS1 => ?_)
  have hf : va_up (fun i => (f i).map (xa G)) a (some (xa G o)) = fun i => ((va_up f a (some o)) i).map (xa G) := by
    funext z
    unfold va_up
    split <;> rfl
  rw [nI_clamp (by omega), hf, show ((xa G i, Sum.inl (xcA G t, N, Sum.inr (Sum.inr (Sum.inr (Sum.inr fun i => ((va_up f a (some o)) i).map (xa G)))))) : Nat × va_E) = (xa G i, xe G (.inl (t, (N, .inr (.inr (va_up f a (some o))))))) from rfl, xw_set G n h i _ hi] at hP1
  exact kk H1 locs1 lr hP1 (va_P_size (i := i) hP1 (by omega)) hS1 hL
theorem XV.alen (C : XCx G l own cc nL p s m args meth c) {i N : Nat} {f : Nat → Int32} (hd : decode cc pc = .ok (.arraylength, 1)) (hi : 4 ≤ i) (hn : i < n + 4) (hh : h i = .inl (0, (N, .inl f))) (kk : XV G nL p l e R s m args below meth c Q (pc + 1) ls (.int (nI N) :: st) n h k ks) : XV G nL p l e R s m args below meth c Q pc ls (.ref i :: st) n h k ks := by
  obtain ⟨hx, hb, hml, hown, hts, hlocks, hE, -⟩ := C
  intro H locs lr hP hz hS hL
  exact va_alen (x := (N, .inl f)) (ty := .int) hx hb hE.1 hP (i - 4) 0 (by rw [xw_at G hi hn, hh]; rfl) rfl rfl hd (kk H locs lr hP hz hS hL)
theorem xext_A {G : XG} {U : State} (hE : xEnv G U) {i : Nat} (hi : i < 4) : ¬ xA G (xext G i) := by
  have := (hE.2.1 i hi).1
  intro q
  have q' : xbase G ≤ xext G i := q
  omega
theorem XV.sald (C : XCx G l own cc nL p s m args meth c) {a : Nat} {j : Int32} (hd : decode cc pc = .ok (.iaload, 1)) (hj : j = nI a) (ha : a < xL G) (hN : xL G < 2 ^ 31) (kk : XV G nL p l e R s m args below meth c Q (pc + 1) ls (.int (xxs G a) :: st) n h k ks) : XV G nL p l e R s m args below meth c Q pc ls (.int j :: .ref 0 :: st) n h k ks := by
  subst hj
  obtain ⟨hx, hb, hml, hown, hts, hlocks, hE, -⟩ := C
  intro H locs lr hP hz hS hL
  refine va_sld hx hb hE.2.2.1 (hE.2.1 0 (by omega)).2 (xext_A hE (by omega)) hS (vp_in_nI ha hN) hd ?_
  rw [nI_clamp (by omega)]
  exact kk H locs lr hP hz hS hL
theorem XV.salen (C : XCx G l own cc nL p s m args meth c) (hd : decode cc pc = .ok (.arraylength, 1)) (kk : XV G nL p l e R s m args below meth c Q (pc + 1) ls (.int (nI (xL G)) :: st) n h k ks) : XV G nL p l e R s m args below meth c Q pc ls (.ref 0 :: st) n h k ks := by
  obtain ⟨hx, hb, hml, hown, hts, hlocks, hE, -⟩ := C
  intro H locs lr hP hz hS hL
  exact va_slen hx hb hE.2.2.1 (hE.2.1 0 (by omega)).2 (xext_A hE (by omega)) hS hd (kk H locs lr hP hz hS hL)
theorem XV.tald (C : XCx G l own cc nL p s m args meth c) {i a : Nat} {j : Int32} (hd : decode cc pc = .ok (.iaload, 1)) (hi : 1 ≤ i) (hi4 : i < 4) (hj : j = nI a) (ha : a < 5) (kk : XV G nL p l e R s m args below meth c Q (pc + 1) ls (.int ((XSA i).2 a) :: st) n h k ks) : XV G nL p l e R s m args below meth c Q pc ls (.int j :: .ref i :: st) n h k ks := by
  subst hj
  obtain ⟨hx, hb, hml, hown, hts, hlocks, hE, -⟩ := C
  intro H locs lr hP hz hS hL
  have hxa : xv G (.ref i) = .ref (xext G i) := by show Value.ref (xa G i) = _; unfold xa; rw [if_pos hi4]
  have K := kk H locs lr hP hz hS hL
  rw [List.map_cons, List.map_cons, hxa]
  refine va_ti hx hb (hE.2.2.2.1 i hi hi4).2 hS (vp_in_nI ha (by omega)) (v := .int ((XSA i).2 a)) ?_ hd K
  rw [nI_clamp (by omega)]
theorem XV.gets (C : XCx G l own cc nL p s m args meth c) {i ix : Nat} (hd : decode cc pc = .ok (.getstatic ix, 3)) (hi : 1 ≤ i) (hi4 : i < 4) (hlink : Cond.fieldLink own ix "RopeThreads" (XSA i).1 "[I" ∈ WALL) (kk : XV G nL p l e R s m args below meth c Q (pc + 3) ls (.ref i :: st) n h k ks) : XV G nL p l e R s m args below meth c Q pc ls st n h k ks := by
  obtain ⟨hx, hb, hml, hown, hts, hlocks, hE, -⟩ := C
  intro H locs lr hP hz hS hL
  have hxa : xv G (.ref i) = .ref (xext G i) := by show Value.ref (xa G i) = _; unfold xa; rw [if_pos hi4]
  have K := kk H locs lr hP hz hS hL
  rw [List.map_cons, hxa] at K
  exact va_gets hx hb (hE.2.2.2.1 i hi hi4).1 hS hown (hts _ hlink) (fun _ h9 => h9) hd K
theorem XV.getfN (C : XCx G l own cc nL p s m args meth c) {i ci kf ix : Nat} {q : vw_C} {fs : List Value} {v : Value} (hd : decode cc pc = .ok (.getfield ix, 3)) (hc : XCl[ci]? = some q) (hk : kf < q.2.2) (hlink : Cond.fieldLinkNest own ix (q.2.1 kf).1 (q.2.1 kf).2.1 (q.2.1 kf).2.2.1 "RopeThreads" ∈ XNW) (hi : 4 ≤ i) (hn : i < n + 4) (hh : h i = .inr (ci, fs)) (hv : fs[kf]? = some v) (kk : XV G nL p l e R s m args below meth c Q (pc + 3) ls (v :: st) n h k ks) : XV G nL p l e R s m args below meth c Q pc ls (.ref i :: st) n h k ks := by
  obtain ⟨hx, hb, hml, hown, hts, hlocks, hE, -⟩ := C
  intro H locs lr hP hz hS hL
  have he : (xw G n h)[i - 4]? = some (xa G i, .inr (ci, fs.map (xv G))) := by rw [xw_at G hi hn, hh]; rfl
  obtain ⟨C0, T, N⟩ := q
  exact va_getN (host := "RopeThreads") (D := xD G) (ci := ci) (v := xv G v) (C := C0) (T := T) (N := N) hx hb hts (XCl_in hc) hown hE.1 hP (i - 4) he hc kf hk (va_Nw.use rfl (hE.2.2.2.2.2.1 _ hlink)) (fun _ h9 => h9) (by rw [List.getElem?_map, hv]; rfl) hd (kk H locs lr hP hz hS hL)
theorem XV.putfN (C : XCx G l own cc nL p s m args meth c) {i ci kf ix : Nat} {q : vw_C} {fs : List Value} {v : Value} {ty : FieldType} (hd : decode cc pc = .ok (.putfield ix, 3)) (hc : XCl[ci]? = some q) (hk : kf < q.2.2) (hlink : Cond.fieldLinkNest own ix (q.2.1 kf).1 (q.2.1 kf).2.1 (q.2.1 kf).2.2.1 "RopeThreads" ∈ XNW) (hi : 4 ≤ i) (hn : i < n + 4) (hh : h i = .inr (ci, fs)) (hfin : (q.2.1 kf).2.2.2 = false) (hty : parseFieldDescriptor (q.2.1 kf).2.2.1 = some ty) (hnar : narrow ty (xv G v) = xv G v) (hfit : fits ty (xv G v) = true) (hl : kf < fs.length) (kk : XV G nL p l e R s m args below meth c Q (pc + 3) ls st n (xup h i (.inr (ci, fs.set kf v))) k ks) : XV G nL p l e R s m args below meth c Q pc ls (v :: .ref i :: st) n h k ks := by
  obtain ⟨hx, hb, hml, hown, hts, hlocks, hE, -⟩ := C
  intro H locs lr hP hz hS hL
  have he : (xw G n h)[i - 4]? = some (xa G i, .inr (ci, fs.map (xv G))) := by rw [xw_at G hi hn, hh]; rfl
  obtain ⟨C0, T, N⟩ := q
  obtain ⟨ty0, hty0⟩ := XCl_ty hc
  refine va_putN (host := "RopeThreads") (D := xD G) (ci := ci) (v := xv G v) (ty := ty) (C := C0) (T := T) (N := N) hx hb hts (XCl_in hc) ty0 hty0 (XCl_nm hc) hown hE.1 hP (xw_D G n h) hS (i - 4) he hc kf hk (va_Nw.use rfl (hE.2.2.2.2.2.1 _ hlink)) (fun _ h9 => h9) hfin hty hnar hfit (by rw [List.length_map]; exact hl) hd (fun H1 locs1 hP1 _ hS1 => ?_)
  rw [show ((xa G i, Sum.inr (ci, (fs.map (xv G)).set kf (xv G v))) : Nat × va_E) = (xa G i, xe G (.inr (ci, fs.set kf v))) by rw [← List.map_set]; rfl, xw_set G n h i _ hi] at hP1
  exact kk H1 locs1 lr hP1 (va_P_size (i := i) hP1 (by omega)) hS1 hL
end XHEAP
