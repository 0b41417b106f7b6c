/-! throws, catches, methods with a table -/
def XNM : List String := ["java/lang/RuntimeException", "java/lang/Exception"]
/-- the three exceptions: class, link of the class, link of the constructor -/
def XEX (E : String) (ik ic : Nat) : Prop := (E = XISE ∧ ik = 45 ∧ ic = 49) ∨ (E = XIAE ∧ ik = 135 ∧ ic = 139) ∨ (E = XIOB ∧ ik = 219 ∧ ic = 223)
theorem xat_1 : ∀ w ∈ (vx_atS "RopeThreads" 49 XISE XNM).filter goodWord, w ∈ lw_tbl := by decide +kernel
theorem xat_2 : ∀ w ∈ (vx_atS "RopeThreads" 139 XIAE XNM).filter goodWord, w ∈ lw_tbl := by decide +kernel
theorem xat_3 : ∀ w ∈ (vx_atS "RopeThreads" 223 XIOB XNM).filter goodWord, w ∈ lw_tbl := by decide +kernel
theorem xan_1 : ∀ w ∈ (vx_atS "RopeThreads" 49 XISE XNM).filter (fun w => !goodWord w), w ∈ XNW := by decide +kernel
theorem xan_2 : ∀ w ∈ (vx_atS "RopeThreads" 139 XIAE XNM).filter (fun w => !goodWord w), w ∈ XNW := by decide +kernel
theorem xan_3 : ∀ w ∈ (vx_atS "RopeThreads" 223 XIOB XNM).filter (fun w => !goodWord w), w ∈ XNW := by decide +kernel
theorem xot_1 : ∀ w ∈ Cond.classLink "RopeThreads" 45 XISE :: Cond.initialized XISE :: vx_atS "RopeThreads" 49 XISE XNM, vx_ot w = true := by decide +kernel
theorem xot_2 : ∀ w ∈ Cond.classLink "RopeThreads" 135 XIAE :: Cond.initialized XIAE :: vx_atS "RopeThreads" 139 XIAE XNM, vx_ot w = true := by decide +kernel
theorem xot_3 : ∀ w ∈ Cond.classLink "RopeThreads" 219 XIOB :: Cond.initialized XIOB :: vx_atS "RopeThreads" 223 XIOB XNM, vx_ot w = true := by decide +kernel
theorem xnw_tab : ∀ w ∈ XNW, w.onTables = true := by decide +kernel
theorem xex_all {E : String} {ik ic : Nat} (h : XEX E ik ic) {args : Array Value} {s : State} (hts : ∀ w ∈ WALL, w.before args s = true) (hnw : ∀ w ∈ XNW, va_Nw w s) :
    Bundle.fit E = true ∧ (Cond.classLink "RopeThreads" ik E).before args s = true ∧ (Cond.initialized E).before args s = true ∧ (∀ w ∈ vx_atS "RopeThreads" ic E XNM, w.before args s = true) ∧ (∀ w ∈ Cond.classLink "RopeThreads" ik E :: Cond.initialized E :: vx_atS "RopeThreads" ic E XNM, vx_ot w = true) := by
  have h3 : ∀ w ∈ XNW, w.before args s = true := fun w hw => va_Nw.use (xnw_tab w hw) (hnw w hw)
  rcases h with ⟨rfl, rfl, rfl⟩ | ⟨rfl, rfl, rfl⟩ | ⟨rfl, rfl, rfl⟩
  · exact ⟨by decide +kernel, hts _ wC_C_45, hts _ wN_IllegalStateException, vx_hat (fun w hw => hts w (List.mem_filter.mpr ⟨xat_1 w hw, (List.mem_filter.mp hw).2⟩)) xan_1 h3, xot_1⟩
  · exact ⟨by decide +kernel, hts _ wC_C_135, hts _ wN_IllegalArgumentException, vx_hat (fun w hw => hts w (List.mem_filter.mpr ⟨xat_2 w hw, (List.mem_filter.mp hw).2⟩)) xan_2 h3, xot_2⟩
  · exact ⟨by decide +kernel, hts _ wC_C_219, hts _ wN_IndexOutOfBoundsException, vx_hat (fun w hw => hts w (List.mem_filter.mpr ⟨xat_3 w hw, (List.mem_filter.mp hw).2⟩)) xan_3 h3, xot_3⟩
section XEXC
variable {G : XG} {nL : Nat} {p : Program} {l : Launch} {e : Env} {R : Room} {s : State} {m : MethodId} {args : Array Value} {below : List Frame} {meth : Method} {c : Code} {Q : State → Prop} {own : String} {cc : ByteArray}
variable {pc : Nat} {ls : List (Option Value)} {st : List Value} {n : Nat} {h : XH} {k ks : Nat} {md : Prop}
variable {y : MethodName} {bytes : ByteArray} {maxL fr lo mc ms ix : Nat} {ret : Option FieldType} {av : List Value} {post : Option Value → Nat → XH → Prop} {px : String → Nat → XH → Prop}
/-- 'throw new E("text")' in a method of RopeThreads without a table -/
theorem XV.throwS (C : XCx G l "RopeThreads" cc nL p s m args meth c) (hnt : ∀ x ∈ c.exceptionTable.toList, False) {E text : String} {ik ic is : Nat} (hE : XEX E ik ic) (hs : (is, text) ∈ XSTR)
    (d0 : decode cc pc = .ok (.new ik, 3)) (d3 : decode cc (pc + 3) = .ok (.dup, 1)) (d4 : decode cc (pc + 4) = .ok (.ldc is, 2)) (d6 : decode cc (pc + 6) = .ok (.invokespecial ic, 3)) (d9 : decode cc (pc + 9) = .ok (.athrow, 1))
    (hf : 5 < R.frames) (hl : (st.map fun v => v.category).sum + 82 ≤ R.locals) (hcells : k + 1 ≤ R.cells) (hslots : ks + 6 ≤ R.slots) (h1 : k + 1 ≤ mc) (h2 : ks + 6 ≤ ms) (hp : px E n h) : XV G nL p l e R s m args below meth c (XEnd G below post px args s mc ms) pc ls st n h k ks := by
  obtain ⟨hx, hb, hml, hown, hts, hlocks, hEn, hbs, hfl⟩ := C
  intro H locs lr hP hz hS hL
  obtain ⟨a1, a2, a3, a4, a5⟩ := xex_all hE hts hEn.2.2.2.2.2.1
  obtain ⟨sa, hR⟩ := hEn.2.2.2.2.2.2.1 _ hs
  exact vx_throwS (names := XNM) (A := xA G) hx hb hfl hown a1 (by decide +kernel) a2 a3 hR a4 a5 hEn.2.2.2.2.1.1 hEn.2.2.2.2.1.2 hS (hL.1.trans hml.symm) d0 d3 d4 d6 d9 (fun x hx => (hnt x hx).elim) hf (by rw [xsum]; exact hl) hcells hslots hlocks
    (fun t ht hsz hq => ⟨n, h, hp, hP.kept (fun k' q hk' => hq q.1 ((hP k' q hk').lt)), Nat.le_trans hz hsz, Nat.le_trans hS.1 hsz, fun q h1 h2 => (hq q (Nat.lt_of_lt_of_le h1 hS.1)).trans (hS.2.1 q h1 h2)⟩) hS.2.2 h1 h2
def xset0 (ls : List (Option Value)) (i : Nat) : List (Option Value) := (xclr ls i).set i none
theorem xHas.st0 {lr' : Array Slot} {i : Nat} {v : Value} (hl : ls.length = nL) (h : lv_has lr' nL ((i, v) :: (xas G ls).filter (fun q => !(q.1 == i) && !(q.1 + 1 == i && q.2.category == 2)))) : xHas G lr' nL (xset0 ls i) := by
  refine ⟨h.1, h.2.1, by unfold xset0; rw [List.length_set, xclr_len]; exact hl, fun j w hj => ?_⟩
  unfold xset0 at hj
  by_cases hji : i = j
  · subst hji
    rw [List.getElem?_set] at hj
    split at hj
    · split at hj <;> cases hj
    · rename_i q; exact absurd rfl q
  · rw [List.getElem?_set_ne hji] at hj
    obtain ⟨h1, h2⟩ := xclr_get hj (Ne.symm hji)
    refine h.2.2 (j, xv G w) (List.mem_cons_of_mem _ (List.mem_filter.mpr ⟨xas_mem h1, ?_⟩))
    simp only [Bool.and_eq_true, Bool.not_eq_true', beq_eq_false_iff_ne, Bool.and_eq_false_iff, xv_cat]
    refine ⟨Ne.symm hji, ?_⟩
    by_cases h3 : j + 1 = i
    · exact Or.inr fun q => h2 ⟨h3, q⟩
    · exact Or.inl h3
/-- no row is passed -/
def XPass (_ _ : String) (_ : Nat × Nat × Nat × Nat) : Prop := False
/-- caught: the handler begins with astore a -/
theorem XT.catch (C : XCx G l own cc nL p s m args meth c) {E : String} {hh pre suf : List (Nat × Nat × Nat × Nat)} {z : Nat × Nat × Nat × Nat} {a len : Nat} {i : Instr} (htab : c.exceptionTable.toList = tableOf hh) (hsp : hh = pre ++ z :: suf) (hpass : ∀ w ∈ pre, XPass own E w) (hcov : z.1 ≤ pc ∧ pc < z.2.1) (h0 : z.2.2.2 ≠ 0) (hlink : Cond.classLink own z.2.2.2 E ∈ WALL) (hcast : Cond.castable E E ∈ XNW)
    (hd : decode cc z.2.2.1 = .ok (i, len)) (hi : (i = .astore a ∧ len = 2) ∨ (∃ f : Fin 4, i = .astore_n f ∧ (f : Nat) = a ∧ len = 1)) (han : a < nL) (kk : XV G nL p l e R s m args below meth c Q (z.2.2.1 + len) (xset0 ls a) [] n h k ks) : XT G nL p l e R s m args below meth c Q pc ls E n h k ks := by
  obtain ⟨hx, hb, hml, hown, hts, hlocks, hEn, hbs, hfl⟩ := C
  intro H locs lr q ce rest hP hz hS hL hce hcv hcl
  have hK : ∀ lr', lv_has lr' nL ((a, .ref q) :: (xas G ls).filter (fun q => !(q.1 == a) && !(q.1 + 1 == a && q.2.category == 2))) → W p l e R s m args below meth c H locs k ks Q (F0 m (z.2.2.1 + len) lr' []) := fun lr' h' => kk H locs lr' hP hz hS (xHas.st0 hL.2.2.1 h')
  refine vx_catch (name := E) hown (tableOf pre) ⟨z.1, z.2.1, z.2.2.1, z.2.2.2⟩ (tableOf suf) (by rw [htab, hsp]; unfold tableOf; rw [List.map_append]; rfl) (fun w hw => ?_) (by simp [covers]; exact hcov) h0 (hts _ hlink) (va_Nw.use (xnw_tab _ hcast) (hEn.2.2.2.2.2.1 _ hcast)) hce hcv hcl ?_
  · unfold tableOf at hw
    obtain ⟨w', hw', rfl⟩ := List.mem_map.mp hw
    exact (hpass w' hw').elim
  · rcases hi with ⟨rfl, rfl⟩ | ⟨f, rfl, rfl, rfl⟩
    · exact lv_astore hx hb hd hL.lv han rfl hK
    · exact lv_astore_n hx hb hd rfl hL.lv han rfl hK
/-- a method with a table of its own -/
theorem XCt.ofH {hh : List (Nat × Nat × Nat × Nat)} (hfl : l.stackTraces = false) (hy : plainName y.cls = true) (hl : (xlay av).length ≤ maxL)
    (body : ∀ (p : Program) (e : Env) (s : State) (m : MethodId) (args : Array Value) (below : List Frame) (meth : Method) (c : Code), XCx G l y.cls bytes maxL p s m args meth c → meth.sig.returnType = ret → c.exceptionTable.toList = tableOf hh → (md → s.heap.size = xbase G + n) →
      XV G maxL p l e ({ frames := fr, cells := mc, slots := ms, locals := lo } : Room) s m args below meth c (XEnd G below post px args s mc ms) 0 (xent maxL av) [] n h 0 0) : XCt l G md (Cond.codeWith y bytes maxL ret hh) y fr lo mc ms av n h post px := by
  refine vx_ofWH (cc := bytes) (maxL := maxL) (ret := ret) (hh := hh) hy rfl ?_
  intro p e s m args below meth c s₁ B hml hv
  obtain ⟨hargs, hP, hz, hm, hE⟩ := hv
  subst hargs
  have hx := B.exec
  have hb := B.bytes
  have hr := B.returns
  have hts0 := atoms_spec (ws := Cond.codeWith y bytes maxL ret hh :: WALL) B.pre
  have hown : s.vm.findClass y.cls = some m.cls := findClass_of_methodNamed B.named
  have htab := vx_table (x := y) B (hts0 _ List.mem_cons_self)
  have C : XCx G l y.cls bytes maxL p s m (av.map (xv G)).toArray meth c := ⟨hx, hb, hml, hown, fun w hw => hts0 w (List.mem_cons_of_mem _ hw), B.notSynchronized, hE, by omega, hfl⟩
  have K := body p e s m _ below meth c C hr htab hm s.heap [] _ hP hz va_S.rf (xent_has G hl)
  rw [lg_entry_eq]
  exact K
theorem XV.callSX (C : XCx G l own cc nL p s m args meth c) {hh : List (Nat × Nat × Nat × Nat)} {As rest : List Value} (hM : XCt l G md (Cond.codeWith y bytes maxL ret hh) y fr lo mc ms As n h post px) (hd : decode cc pc = .ok (.invokestatic ix, 3)) (hst : st = As.reverse ++ rest)
    (w1 : Cond.methodLink own ix y ∈ WALL) (w2 : Cond.static y ∈ WALL) (w4 : Cond.initialized y.cls ∈ WALL) (w5 : Cond.codeWith y bytes maxL ret hh ∈ WALL)
    (hy : (y.cls ≠ "java/lang/invoke/MethodHandle" ∧ y.cls ≠ "java/lang/invoke/VarHandle") ∧ (parseMethodDescriptor y.desc).map (fun d => d.parameters.length) = some As.length) (hmd : md → s.heap.size + k = xbase G + n) (hR : fr + 1 ≤ R.frames ∧ 8 + (maxL + 11) + lo ≤ R.locals) (hf : k + mc ≤ R.cells ∧ ks + ms ≤ R.slots) (hw : (rest.map fun v => v.category).sum ≤ 8)
    (kk : ∀ (r : Option Value) (n' : Nat) (h' : XH), post r n' h' → XV G nL p l e R s m args below meth c Q (pc + 3) ls (r.toList ++ rest) n' h' (k + mc) (ks + ms))
    (kx : ∀ (E : String) (n' : Nat) (h' : XH), px E n' h' → XT G nL p l e R s m args below meth c Q pc ls E n' h' (k + mc) (ks + ms)) : XV G nL p l e R s m args below meth c Q pc ls st n h k ks := by
  subst hst
  refine XV.ofRun C (fun H locs lr hP hz hsz hS hL => ?_) kk kx
  obtain ⟨hx, hb0, hml, hown, hts, hlocks, hE, hbs, hfl⟩ := id C
  refine vx_runSX (nL := nL) (Ts := WALL) (own := own) (bytes := bytes) (maxL := maxL) (ret := ret) (hh := hh) (As := As.map (xv G)) (n := As.length) ⟨hx, hb0, hml, hown, hts⟩ hM (vx_cwSW As.length hts (fun w hw => ?_) rfl rfl rfl ⟨hy.1.1, hy.1.2, hy.2⟩ hR) ⟨XPre.blind G md _ n h, fun U hU hW => xpre_of C hP hz (fun q => by have := hmd q; omega) hS hU hW As⟩ rfl (by rw [List.length_map]) hL.1 (by show ((As.reverse ++ rest).map (xv G)) = _; rw [List.map_append, List.map_reverse]) (lv_room (by rw [xsum]; exact hw)) hd hf
  unfold va_wsS at hw
  rcases List.mem_append.mp hw with h9 | h9
  · simp only [List.mem_cons, List.not_mem_nil, or_false] at h9
    rcases h9 with rfl | rfl | rfl
    · exact WALL_good _ w1
    · exact WALL_good _ w2
    · exact WALL_good _ w4
  · exact WALL_good1 w5 _ h9
/-- the private constructor of a nest mate -/
theorem XV.callIN (C : XCx G l own cc nL p s m args meth c) {b : Nat} {As rest : List Value} (hM : XCt l G md (Cond.code y bytes maxL none) y fr lo mc ms (.ref b :: As) n h post px) (hd : decode cc pc = .ok (.invokespecial ix, 3)) (hst : st = As.reverse ++ .ref b :: rest)
    (w1 : Cond.methodLinkNest own ix y "RopeThreads" ∈ XNW) (w2 : Cond.instanceMethod y ∈ WALL) (w4 : Cond.initialized y.cls ∈ WALL) (w5 : Cond.code y bytes maxL none ∈ WALL) (hinit : y.name = "<init>")
    (hy : (y.cls ≠ "java/lang/invoke/MethodHandle" ∧ y.cls ≠ "java/lang/invoke/VarHandle") ∧ (parseMethodDescriptor y.desc).map (fun d => d.parameters.length) = some As.length) (hmd : md → s.heap.size + k = xbase G + n) (hR : fr + 1 ≤ R.frames ∧ 8 + (maxL + 11) + lo ≤ R.locals) (hf : k + mc ≤ R.cells ∧ ks + ms ≤ R.slots) (hw : (rest.map fun v => v.category).sum ≤ 8)
    (kk : ∀ (r : Option Value) (n' : Nat) (h' : XH), post r n' h' → XV G nL p l e R s m args below meth c Q (pc + 3) ls (r.toList ++ rest) n' h' (k + mc) (ks + ms))
    (kx : ∀ (E : String) (n' : Nat) (h' : XH), px E n' h' → XT G nL p l e R s m args below meth c Q pc ls E n' h' (k + mc) (ks + ms)) : XV G nL p l e R s m args below meth c Q pc ls st n h k ks := by
  subst hst
  refine XV.ofRun C (fun H locs lr hP hz hsz hS hL => ?_) kk kx
  obtain ⟨hx, hb0, hml, hown, hts, hlocks, hE, hbs, hfl⟩ := id C
  exact vx_runIN (nL := nL) (Ts := WALL) (own := own) (host := "RopeThreads") (bytes := bytes) (maxL := maxL) (b := xa G b) (As := As.map (xv G)) (n := As.length) ⟨hx, hb0, hml, hown, hts⟩ hM ⟨va_cnB As.length hts (WALL_good1 w5) rfl rfl rfl (hE.2.2.2.2.2.1 _ w1) (hts _ w4) ⟨hy.1.1, hy.1.2, hy.2⟩ hR, hinit, hts _ w2⟩ ⟨XPre.blind G md _ n h, fun U hU hW => xpre_of C hP hz (fun q => by have := hmd q; omega) hS hU hW (.ref b :: As)⟩ rfl (by rw [List.length_map]) hL.1 (by show ((As.reverse ++ .ref b :: rest).map (xv G)) = _; rw [List.map_append, List.map_cons, List.map_reverse]; rfl) (lv_room (by rw [xsum]; exact hw)) hd hf
end XEXC
