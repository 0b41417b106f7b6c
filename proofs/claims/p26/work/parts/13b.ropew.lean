/-! rows anew -/
theorem XV.cast {G : XG} {nL : Nat} {p : Program} {l : Launch} {e : Env} {R : Room} {s : State} {m : MethodId} {args : Array Value} {below : List Frame} {meth : Method} {c : Code} {Q : State → Prop} {pc : Nat} {ls : List (Option Value)} {st : List Value} {n : Nat} {h h' : XH} {k ks : Nat} (he : h = h') (kk : XV G nL p l e R s m args below meth c Q pc ls st n h' k ks) : XV G nL p l e R s m args below meth c Q pc ls st n h k ks := he ▸ kk
theorem ropeC_congr {a : Nat} {r1 r2 : Nat → Int32} (h12 : ∀ k, k < 99 → r1 k = r2 k) : ∀ j, ropeC a r1 j = ropeC a r2 j := by
  intro j
  unfold ropeC
  match j with
  | 0 => show (Sum.inr (2, [.ref (a + 1), .ref (a + 2), .ref (a + 3), .ref (a + 4), .int (r1 0), .int (r1 1), .int (r1 2)]) : XC) = Sum.inr (2, [.ref (a + 1), .ref (a + 2), .ref (a + 3), .ref (a + 4), .int (r2 0), .int (r2 1), .int (r2 2)]); rw [h12 0 (by omega), h12 1 (by omega), h12 2 (by omega)]
  | 1 => exact xar_eq fun s hs => h12 _ (by omega)
  | 2 => exact xar_eq fun s hs => h12 _ (by omega)
  | 3 => exact xar_eq fun s hs => h12 _ (by omega)
  | j + 4 => exact xar_eq fun s hs => h12 _ (by omega)
theorem setRope_congr {h : XH} {a : Nat} {r1 r2 : Nat → Int32} (h12 : ∀ k, k < 99 → r1 k = r2 k) : setRope h a r1 = setRope h a r2 := blk_eq fun i _ => ropeC_congr h12 i
theorem setRope_self {h : XH} {a : Nat} {r : Nat → Int32} (hR : IsRope h a r) : setRope h a r = h := blk_self hR
theorem setRope_set (h : XH) (a : Nat) (r r' : Nat → Int32) : setRope (setRope h a r) a r' = setRope h a r' := blk_blk _ _ _ _ _
theorem upd_ne {f : Nat → Int32} {k j : Nat} {x : Int32} (h : j ≠ k) : upd f k x j = f j := by simp [upd, h]
theorem upd_eq {f : Nat → Int32} {k : Nat} {x : Int32} : upd f k x k = x := by simp [upd]
theorem setRope_f0 (h : XH) (a : Nat) (r : Nat → Int32) (x : Int32) : xup (setRope h a r) a (.inr (2, [.ref (a + 1), .ref (a + 2), .ref (a + 3), .ref (a + 4), .int x, .int (r 1), .int (r 2)])) = setRope h a (upd r 0 x) := by
  refine blk_up (j := 0) (by decide) rfl (fun i hi hne => ?_)
  match i, hne with
  | 1, _ => exact xar_eq fun s hs => upd_ne (by omega)
  | 2, _ => exact xar_eq fun s hs => upd_ne (by omega)
  | 3, _ => exact xar_eq fun s hs => upd_ne (by omega)
  | j + 4, _ => exact xar_eq fun s hs => upd_ne (by omega)
theorem setRope_f1 (h : XH) (a : Nat) (r : Nat → Int32) (x : Int32) : xup (setRope h a r) a (.inr (2, [.ref (a + 1), .ref (a + 2), .ref (a + 3), .ref (a + 4), .int (r 0), .int x, .int (r 2)])) = setRope h a (upd r 1 x) := by
  refine blk_up (j := 0) (by decide) rfl (fun i hi hne => ?_)
  match i, hne with
  | 1, _ => exact xar_eq fun s hs => upd_ne (by omega)
  | 2, _ => exact xar_eq fun s hs => upd_ne (by omega)
  | 3, _ => exact xar_eq fun s hs => upd_ne (by omega)
  | j + 4, _ => exact xar_eq fun s hs => upd_ne (by omega)
theorem setRope_f2 (h : XH) (a : Nat) (r : Nat → Int32) (x : Int32) : xup (setRope h a r) a (.inr (2, [.ref (a + 1), .ref (a + 2), .ref (a + 3), .ref (a + 4), .int (r 0), .int (r 1), .int x])) = setRope h a (upd r 2 x) := by
  refine blk_up (j := 0) (by decide) rfl (fun i hi hne => ?_)
  match i, hne with
  | 1, _ => exact xar_eq fun s hs => upd_ne (by omega)
  | 2, _ => exact xar_eq fun s hs => upd_ne (by omega)
  | 3, _ => exact xar_eq fun s hs => upd_ne (by omega)
  | j + 4, _ => exact xar_eq fun s hs => upd_ne (by omega)
/-- a whole row of cells anew: the array b of the rope, its place o in the row -/
theorem setRope_arr (h : XH) (a : Nat) (r : Nat → Int32) (f : Nat → Int32) (b o : Nat) (hb : (b = 1 ∧ o = 3) ∨ (b = 2 ∧ o = 27) ∨ (b = 3 ∧ o = 51) ∨ (b = 4 ∧ o = 75)) : xup (setRope h a r) (a + b) (xar 24 f) = setRope h a (fun k => if o ≤ k ∧ k < o + 24 then f (k - o) else r k) := by
  refine blk_up (j := b) (by omega) ?_ (fun i hi hne => ?_)
  · rcases hb with ⟨rfl, rfl⟩ | ⟨rfl, rfl⟩ | ⟨rfl, rfl⟩ | ⟨rfl, rfl⟩
    all_goals
      refine xar_eq fun s hs => ?_
      show (if _ then _ else _) = _
      rw [if_pos (by omega)]
      congr 1
      omega
  · match i, hne with
    | 0, _ =>
      show (Sum.inr (2, [.ref (a + 1), .ref (a + 2), .ref (a + 3), .ref (a + 4), .int (if o ≤ 0 ∧ 0 < o + 24 then f (0 - o) else r 0), .int (if o ≤ 1 ∧ 1 < o + 24 then f (1 - o) else r 1), .int (if o ≤ 2 ∧ 2 < o + 24 then f (2 - o) else r 2)]) : XC) = Sum.inr (2, [.ref (a + 1), .ref (a + 2), .ref (a + 3), .ref (a + 4), .int (r 0), .int (r 1), .int (r 2)])
      rw [if_neg (by omega), if_neg (by omega), if_neg (by omega)]
    | 1, _ => exact xar_eq fun s hs => if_neg (by omega)
    | 2, _ => exact xar_eq fun s hs => if_neg (by omega)
    | 3, _ => exact xar_eq fun s hs => if_neg (by omega)
    | 4, _ => exact xar_eq fun s hs => if_neg (by omega)
    | j + 5, _ => omega
theorem setRope_up (h : XH) (a : Nat) (r : Nat → Int32) (b o i : Nat) (x : Int32) (hb : (b = 1 ∧ o = 3) ∨ (b = 2 ∧ o = 27) ∨ (b = 3 ∧ o = 51) ∨ (b = 4 ∧ o = 75)) (hi : i < 24) : xup (setRope h a r) (a + b) (xar 24 (upd (fun s => r (o + s)) i x)) = setRope h a (upd r (o + i) x) := by
  rw [setRope_arr h a r _ b o hb]
  refine setRope_congr fun k hk => ?_
  by_cases hk2 : k = o + i
  · subst hk2
    rw [if_pos (by omega), upd_eq, show o + i - o = i by omega, upd_eq]
  · rw [upd_ne hk2]
    by_cases h3 : o ≤ k ∧ k < o + 24
    · rw [if_pos h3, upd_ne (by omega)]
      congr 1
      omega
    · rw [if_neg h3]
def rBend (r : Nat → Int32) (lo n : Nat) (t : Int32) : Nat → Int32 := fun k => if 3 + lo ≤ k ∧ k < 3 + lo + n then r k + t else r k
def rBendT (r : Nat → Int32) (lo n : Nat) (t : Int32) : Nat → Int32 := upd (rBend r lo n t) 2 (r 2 + t)
def rLook (r : Nat → Int32) (lo n : Nat) (mth : Int32) : Nat → Int32 := fun k => if 51 + lo ≤ k ∧ k < 51 + lo + n then r (k - 24) else if 27 + lo ≤ k ∧ k < 27 + lo + n then brk r (k - 27) else if 75 + lo ≤ k ∧ k < 75 + lo + n then mth else r k
def rNew (q mth : Int32) : Nat → Int32 := fun k => if k = 0 then q else if k = 1 then mth else if 75 ≤ k then mth else 0
theorem rBend_0 (r : Nat → Int32) (lo : Nat) (t : Int32) : rBend r lo 0 t = r := by
  funext k
  unfold rBend
  rw [if_neg (by omega)]
theorem rBend_s (r : Nat → Int32) (lo n : Nat) (t : Int32) : upd (rBend r lo n t) (3 + (lo + n)) (rBend r lo n t (3 + (lo + n)) + t) = rBend r lo (n + 1) t := by
  funext k
  by_cases hk : k = 3 + (lo + n)
  · subst hk
    rw [upd_eq]
    unfold rBend
    rw [if_neg (by omega), if_pos (by omega)]
  · rw [upd_ne hk]
    unfold rBend
    by_cases h1 : 3 + lo ≤ k ∧ k < 3 + lo + n
    · rw [if_pos h1, if_pos (by omega)]
    · rw [if_neg h1, if_neg (by omega)]
theorem rLook_0 (r : Nat → Int32) (lo : Nat) (t : Int32) : rLook r lo 0 t = r := by
  funext k
  unfold rLook
  rw [if_neg (by omega), if_neg (by omega), if_neg (by omega)]
theorem rLook_s (r : Nat → Int32) (lo n : Nat) (t : Int32) (hn : lo + n < 24) : upd (upd (upd (rLook r lo n t) (51 + (lo + n)) (rLook r lo n t (27 + (lo + n)))) (27 + (lo + n)) (brk (upd (rLook r lo n t) (51 + (lo + n)) (rLook r lo n t (27 + (lo + n)))) (lo + n))) (75 + (lo + n)) t = rLook r lo (n + 1) t := by
  have hb : brk (upd (rLook r lo n t) (51 + (lo + n)) (rLook r lo n t (27 + (lo + n)))) (lo + n) = brk r (lo + n) := by
    unfold brk
    rw [upd_ne (by omega), upd_ne (by omega)]
    unfold rLook
    rw [if_neg (by omega), if_neg (by omega), if_neg (by omega), if_neg (by omega), if_neg (by omega), if_neg (by omega)]
  rw [hb]
  funext k
  by_cases h1 : k = 75 + (lo + n)
  · subst h1
    rw [upd_eq]
    unfold rLook
    rw [if_neg (by omega), if_neg (by omega), if_pos (by omega)]
  · rw [upd_ne h1]
    by_cases h2 : k = 27 + (lo + n)
    · subst h2
      rw [upd_eq]
      unfold rLook
      rw [if_neg (by omega), if_pos (by omega), show 27 + (lo + n) - 27 = lo + n by omega]
    · rw [upd_ne h2]
      by_cases h3 : k = 51 + (lo + n)
      · subst h3
        rw [upd_eq]
        unfold rLook
        rw [if_neg (by omega), if_neg (by omega), if_neg (by omega), if_pos (by omega)]
        congr 1
        omega
      · rw [upd_ne h3]
        unfold rLook
        by_cases g1 : 51 + lo ≤ k ∧ k < 51 + lo + n
        · rw [if_pos g1, if_pos (by omega)]
        · rw [if_neg g1]
          by_cases g2 : 27 + lo ≤ k ∧ k < 27 + lo + n
          · rw [if_pos g2, if_neg (by omega), if_pos (by omega)]
          · rw [if_neg g2]
            by_cases g3 : 75 + lo ≤ k ∧ k < 75 + lo + n
            · rw [if_pos g3, if_neg (by omega), if_neg (by omega), if_pos (by omega)]
            · rw [if_neg g3, if_neg (by omega), if_neg (by omega), if_neg (by omega)]
theorem IsB.out {h : XH} {a N b M : Nat} {c d : Nat → XC} (hb : IsB h b M d) (hd : b + M ≤ a ∨ a + N ≤ b) : IsB (blk h a N c) b M d := fun j hj => by
  rw [blk_out (by omega)]
  exact hb j hj
theorem xup_xup (h : XH) (a : Nat) (x y : XC) : xup (xup h a x) a y = xup h a y := by
  funext j
  unfold xup
  split <;> rfl
theorem xup_self {h : XH} {a : Nat} {x : XC} (hx : h a = x) : xup h a x = h := by
  funext j
  unfold xup
  split
  · rename_i hj; rw [hj, hx]
  · rfl
theorem xup_at (h : XH) (a : Nat) (x : XC) : xup h a x a = x := if_pos rfl
theorem xup_ne {h : XH} {a j : Nat} {x : XC} (hj : j ≠ a) : xup h a x j = h j := if_neg hj
def fillF (f : Nat → Int32) (x : Int32) (j : Nat) : Nat → Int32 := fun s => if s < j then x else f s
theorem fillF_s (f : Nat → Int32) (x : Int32) (j : Nat) : upd (fillF f x j) j x = fillF f x (j + 1) := by
  funext s
  by_cases hs : s = j
  · subst hs
    rw [upd_eq]
    unfold fillF
    rw [if_pos (by omega)]
  · rw [upd_ne hs]
    unfold fillF
    by_cases h1 : s < j
    · rw [if_pos h1, if_pos (by omega)]
    · rw [if_neg h1, if_neg (by omega)]
/-- a row of which the array of the place o is all x -/
def rFill (r : Nat → Int32) (o : Nat) (x : Int32) : Nat → Int32 := fun k => if o ≤ k ∧ k < o + 24 then x else r k
/-- .. is that of r2 -/
def rArr (r : Nat → Int32) (o : Nat) (r2 : Nat → Int32) : Nat → Int32 := fun k => if o ≤ k ∧ k < o + 24 then r2 k else r k
theorem setRope_fill (h : XH) (a : Nat) (r : Nat → Int32) (x : Int32) (b o : Nat) (hb : (b = 1 ∧ o = 3) ∨ (b = 2 ∧ o = 27) ∨ (b = 3 ∧ o = 51) ∨ (b = 4 ∧ o = 75)) : xup (setRope h a r) (a + b) (xar 24 (fun _ => x)) = setRope h a (rFill r o x) := setRope_arr h a r _ b o hb
theorem setRope_arr2 (h : XH) (a : Nat) (r r2 : Nat → Int32) (b o : Nat) (hb : (b = 1 ∧ o = 3) ∨ (b = 2 ∧ o = 27) ∨ (b = 3 ∧ o = 51) ∨ (b = 4 ∧ o = 75)) : xup (setRope h a r) (a + b) (xar 24 (fun s => r2 (o + s))) = setRope h a (rArr r o r2) := by
  rw [setRope_arr h a r _ b o hb]
  refine setRope_congr fun k hk => ?_
  unfold rArr
  by_cases h3 : o ≤ k ∧ k < o + 24
  · rw [if_pos h3, if_pos h3, show o + (k - o) = k by omega]
  · rw [if_neg h3, if_neg h3]
theorem rNew_eq (r : Nat → Int32) (q mth : Int32) : ∀ k, k < 99 → upd (upd (upd (rFill (rFill (rFill (rFill r 3 0) 27 0) 51 0) 75 mth) 0 q) 1 mth) 2 0 k = rNew q mth k := by
  intro k hk
  simp only [upd, rFill, rNew]
  by_cases h0 : k = 0
  · subst h0; rfl
  by_cases h1 : k = 1
  · subst h1; rfl
  by_cases h2 : k = 2
  · subst h2; rfl
  rw [if_neg h2, if_neg h1, if_neg h0, if_neg h0, if_neg h1]
  by_cases h3 : 75 ≤ k
  · rw [if_pos (by omega), if_pos h3]
  · rw [if_neg (by omega), if_neg h3]
    by_cases h4 : 51 ≤ k
    · rw [if_pos (by omega)]
    · rw [if_neg (by omega)]
      by_cases h5 : 27 ≤ k
      · rw [if_pos (by omega)]
      · rw [if_neg (by omega), if_pos (by omega)]
theorem rCopy_eq (r r2 : Nat → Int32) : ∀ k, k < 99 → upd (upd (upd (rArr (rArr (rArr (rArr r 3 r2) 27 r2) 51 r2) 75 r2) 0 (r2 0)) 1 (r2 1)) 2 (r2 2) k = r2 k := by
  intro k hk
  simp only [upd, rArr]
  by_cases h0 : k = 0
  · subst h0; rfl
  by_cases h1 : k = 1
  · subst h1; rfl
  by_cases h2 : k = 2
  · subst h2; rfl
  rw [if_neg h2, if_neg h1, if_neg h0]
  by_cases h3 : 75 ≤ k
  · rw [if_pos (by omega)]
  · rw [if_neg (by omega)]
    by_cases h4 : 51 ≤ k
    · rw [if_pos (by omega)]
    · rw [if_neg (by omega)]
      by_cases h5 : 27 ≤ k
      · rw [if_pos (by omega)]
      · rw [if_neg (by omega), if_pos (by omega)]
theorem rInit_eq (r : Nat → Int32) : True := trivial
theorem fillF_0 (f : Nat → Int32) (x : Int32) : fillF f x 0 = f := by
  funext s
  unfold fillF
  rw [if_neg (by omega)]
theorem fillF_all (f : Nat → Int32) (x : Int32) (N : Nat) : xar N (fillF f x N) = xar N (fun _ => x) := xar_eq fun s hs => if_pos hs
/-- a method of a class that has natives of its own -/
theorem XCt.ofF {l : Launch} {G : XG} {md : Prop} {y : MethodName} {bytes : ByteArray} {maxL fr lo mc ms : Nat} {ret : Option FieldType} {av : List Value} {n : Nat} {h : XH} {post : Option Value → Nat → XH → Prop} {px : String → Nat → XH → Prop} (hfl : l.stackTraces = false) (hy : plainFor y = true) (hl : (xlay av).length ≤ maxL)
    (body : ∀ (p : Program) (e : Env) (s : State) (m : MethodId) (args : Array Value) (below : List Frame) (meth : Method) (c : Code), XCx G l y.cls bytes maxL p s m args meth c → meth.sig.returnType = ret → meth.name = y.name → (∀ x ∈ c.exceptionTable.toList, False) → (md → s.heap.size = xbase G + n) →
      XV G maxL p l e ({ frames := fr, cells := mc, slots := ms, locals := lo } : Room) s m args below meth c (XEnd G below post px args s mc ms) 0 (xent maxL av) [] n h 0 0) : XCt l G md (Cond.code y bytes maxL ret) y fr lo mc ms av n h post px := by
  refine MetFree.of_bodySF (code := bytes) (maxLocals := maxL) (ret := ret) hy ?_ ?_
  · intro args s m h hn
    obtain ⟨meth, c, h1, h2, h3, h4, h5, h6, -, -⟩ := Cond.code_spec hn (atoms_spec (ws := Cond.code y bytes maxL ret :: WALL) h _ List.mem_cons_self)
    exact ⟨meth, c, h1, h2, h3, h4, h5, h6⟩
  · intro p e s m args below meth c s₁ B hml hv _
    have hh0 : s₁.heap = s.heap := by rw [B.state]; rfl
    have hnt : ∀ x ∈ c.exceptionTable.toList, False := by
      obtain ⟨meth9, c9, h1, h2, -, -, -, -, h7, -⟩ := Cond.code_spec B.named (atoms_spec (ws := Cond.code y bytes maxL ret :: WALL) B.pre _ List.mem_cons_self)
      cases Option.some.inj (h1.symm.trans B.method)
      cases Option.some.inj (h2.symm.trans (Stand.of_body B).code)
      intro x hx
      rw [Array.isEmpty_iff.mp h7] at hx
      cases hx
    obtain ⟨hargs, hP, hz, hm, hE⟩ := hv
    subst hargs
    have hts0 := atoms_spec (ws := Cond.code y bytes maxL ret :: WALL) B.pre
    have C : XCx G l y.cls bytes maxL p s m (av.map (xv G)).toArray meth c := ⟨B.exec, B.bytes, hml, findClass_of_methodNamed B.named, fun w hw => hts0 w (List.mem_cons_of_mem _ hw), B.notSynchronized, hE, by omega, hfl⟩
    have K := body p e s m _ below meth c C B.returns (name_of_methodNamed B.named B.method).1 hnt hm s.heap [] _ hP hz va_S.rf (xent_has G hl)
    have K2 : W p l e ({ frames := fr, cells := mc, slots := ms, locals := lo } : Room) s m (av.map (xv G)).toArray below meth c s.heap [] 0 0 (XEnd G below post px (av.map (xv G)).toArray s mc ms) (entryFrame m (av.map (xv G)).toArray maxL) := by
      rw [lg_entry_eq]
      exact K
    obtain ⟨t, a1, o, b1, b2, b3⟩ := K2 s₁ hh0 (Stand.of_body B)
    exact ⟨t, o, a1, b1, b2, b3⟩
