/-! contracts, calls, returns, throws -/
def XQ (G : XG) (post : Option Value → Nat → XH → Prop) : State → Outcome → State → Prop := fun st o t => ∃ (r : Option Value) (n' : Nat) (h' : XH), o = .returned (r.map (xv G)) ∧ post r n' h' ∧ va_P (xD G) XCl (xw G n' h') t.heap ∧ xbase G + n' ≤ t.heap.size ∧ va_F (xA G) st t
def XX (G : XG) (px : String → Nat → XH → Prop) : String → State → State → Prop := fun E st t => ∃ (n' : Nat) (h' : XH), px E n' h' ∧ va_P (xD G) XCl (xw G n' h') t.heap ∧ xbase G + n' ≤ t.heap.size ∧ va_F (xA G) st t
def XPre (G : XG) (md : Prop) (av : List Value) (n : Nat) (h : XH) : Array Value → State → Prop := va_Pc (av.map (xv G)) (fun U => va_P (xD G) XCl (xw G n h) U.heap ∧ xbase G + n ≤ U.heap.size ∧ (md → U.heap.size = xbase G + n) ∧ xEnv G U)
def XCt (l : Launch) (G : XG) (md : Prop) (w : Cond) (y : MethodName) (fr lo mc ms : Nat) (av : List Value) (n : Nat) (h : XH) (post : Option Value → Nat → XH → Prop) (px : String → Nat → XH → Prop) : Prop :=
  vx_Met l y (w :: WALL) ({ frames := fr, cells := mc, slots := ms, locals := lo } : Room) (XPre G md av n h) (fun _ => XQ G post) (XX G px) mc ms (xA G)
def XT (G : XG) (nL : Nat) (p : Program) (l : Launch) (e : Env) (R : Room) (s : State) (m : MethodId) (args : Array Value) (below : List Frame) (meth : Method) (c : Code) (Q : State → Prop) (pc : Nat) (ls : List (Option Value)) (E : String) (n : Nat) (h : XH) (k ks : Nat) : Prop :=
  ∀ (H : Heap) (locs : List Loc) (lr : Array Slot) (q : Addr) (ce : Cell) (rest : List Value), va_P (xD G) XCl (xw G n h) H → xbase G + n ≤ H.size → va_S (xA G) s.heap H locs → xHas G lr nL ls → H[q]? = some ce → ce.vm = .none → s.vm.findClass E = some ce.cls → vx_W p l e R s m args below meth c H locs k ks Q (F0 m pc lr rest) q
theorem xnw_warm : ∀ w ∈ XNW, ∀ {s U : State}, s.WarmedH U.vm → va_Nw w s → va_Nw w U := by
  intro w hw s U hW h
  simp only [XNW, List.mem_cons, List.not_mem_nil, or_false] at hw
  rcases hw with rfl | rfl | rfl | rfl | rfl | rfl | rfl | rfl | rfl | rfl | rfl | rfl | rfl | rfl | rfl | rfl | rfl | rfl | rfl | rfl | rfl | rfl | rfl | rfl | rfl | rfl | rfl | rfl <;> first | exact va_Nw.warmD hW h | exact va_Nw.warmC hW h | exact va_Nw.warmF hW h | exact va_Nw.warmM hW h
theorem xEnv.moved {G : XG} {s U : State} {H : Heap} {locs : List Loc} (hW : s.WarmedH U.vm) (hS : va_S (xA G) s.heap H locs) (hU : U.heap = H) (h : xEnv G s) : xEnv G U := by
  obtain ⟨h1, h2, h3, h4, h5, h6, h7, h8, h9⟩ := h
  subst hU
  have hq : ∀ a : Nat, a < s.heap.size → ¬ xA G a → U.heap[a]? = s.heap[a]? := fun a ha hA => hS.2.1 a ha hA
  refine ⟨va_K.moved hW.alike h1, fun i hi => ⟨(h2 i hi).1, Nat.lt_of_lt_of_le (h2 i hi).2 hS.1⟩, ?_, ?_, ?_, ?_, ?_, ?_, ?_⟩
  · refine va_X.moved hW.alike (h3.kept (hq _ (h2 0 (by omega)).2 ?_))
    have := (h2 0 (by omega)).1
    intro q
    have q' : xbase G ≤ xext G 0 := q
    omega
  · exact fun i hi hi4 => ⟨va_Z.moved hW.alike ((h4 i hi hi4).1.kept hq), va_T.moved hW.alike ((h4 i hi hi4).2.kept hq)⟩
  · exact ⟨vx_Zq.moved hW.alike (h5.1.kept hq), vx_Zq.moved hW.alike (h5.2.kept hq)⟩
  · intro w hw
    exact xnw_warm w hw hW (h6 w hw)
  · intro q hq
    obtain ⟨sa, h⟩ := h7 q hq
    exact ⟨sa, vk_R.warm hW h⟩
  · exact trivial
  · exact ⟨va_AO.moved hW.alike h9.1, va_AO.moved hW.alike h9.2⟩
theorem XPre.blind (G : XG) (md : Prop) (av : List Value) (n : Nat) (h : XH) : FrameBlind (XPre G md av n h) := by
  intro a U g mk hp
  obtain ⟨h1, h2, h3, h4, h5⟩ := hp
  exact ⟨h1, h2, h3, h4, xEnv.moved (s := U) (U := U.calling g mk a) (H := U.heap) (locs := []) (State.WarmedH.refl U) va_S.rf rfl h5⟩
theorem WALL_good : GoodIn WALL WALL := fun w hw => ⟨hw, good_of_word (W_good w hw).2⟩
theorem WALL_good1 {w : Cond} (h : w ∈ WALL) : GoodIn WALL (w :: WALL) := fun x hx => by
  rcases List.mem_cons.mp hx with rfl | hx
  · exact WALL_good _ h
  · exact WALL_good _ hx
section XCALL
variable {G : XG} {nL : Nat} {p : Program} {l : Launch} {e : Env} {R : Room} {s : State} {m : MethodId} {args : Array Value} {below : List Frame} {meth : Method} {c : Code} {Q : State → Prop} {own : String} {cc : ByteArray}
variable {pc : Nat} {ls : List (Option Value)} {st : List Value} {n : Nat} {h : XH} {k ks : Nat} {md : Prop}
variable {y : MethodName} {bytes : ByteArray} {maxL fr lo mc ms ix : Nat} {ret : Option FieldType} {av : List Value} {post : Option Value → Nat → XH → Prop} {px : String → Nat → XH → Prop}
theorem xpre_of (C : XCx G l own cc nL p s m args meth c) {H : Heap} {locs : List Loc} {U : State} (hP : va_P (xD G) XCl (xw G n h) H) (hz : xbase G + n ≤ H.size) (hm : md → H.size = xbase G + n) (hS : va_S (xA G) s.heap H locs) (hU : U.heap = H) (hW : s.WarmedH U.vm) (av : List Value) : XPre G md av n h (av.map (xv G)).toArray U :=
  ⟨rfl, by rw [hU]; exact hP, by rw [hU]; exact hz, fun q => by rw [hU]; exact hm q, xEnv.moved hW hS hU C.2.2.2.2.2.2.1⟩
theorem xA_ge (C : XCx G l own cc nL p s m args meth c) : ∀ q, s.heap.size ≤ q → xA G q := fun q hq => Nat.le_trans C.2.2.2.2.2.2.2.1 hq
/-- what a run of a callee gives -/
theorem XV.ofRun (C : XCx G l own cc nL p s m args meth c) {st0 rest : List Value}
    (hr : ∀ (H : Heap) (locs : List Loc) (lr : Array Slot), va_P (xD G) XCl (xw G n h) H → xbase G + n ≤ H.size → H.size ≤ s.heap.size + k → va_S (xA G) s.heap H locs → xHas G lr nL ls → vx_Run p l e R s m args below meth c H locs k ks mc ms (F0 m pc lr (st0.map (xv G))) (rest.map (xv G)) (XQ G post) (XX G px) (xA G))
    (kk : ∀ (r : Option Value) (n' : Nat) (h' : XH), post r n' h' → XV G nL p l e R s m args below meth c Q (pc + 3) ls (r.toList ++ rest) n' h' (k + mc) (ks + ms))
    (kx : ∀ (E : String) (n' : Nat) (h' : XH), px E n' h' → XT G nL p l e R s m args below meth c Q pc ls E n' h' (k + mc) (ks + ms)) : XV G nL p l e R s m args below meth c Q pc ls st0 n h k ks := by
  intro H locs lr hP hz hS hL
  refine W.sized (fun hsz => ?_)
  intro T hT X
  rcases hr H locs lr hP hz hsz hS hL T hT X with ⟨v, st₀, t, T', L, h0, X', hLf, e1, e2, ⟨r, n', h', hv, hp, hP', hz', hF⟩, st⟩ | ⟨q, st₀, t, T', L, E, ce, h0, X', hLf, e1, e2, ⟨n', h', hp, hP', hz', hF⟩, hce, hcv, hcl, st⟩
  · cases hv
    have hS' : va_S (xA G) s.heap T'.heap (locs ++ L) := by
      rw [va_F, h0] at hF
      refine ⟨Nat.le_trans hS.1 (by rw [e1]; exact hF.1), fun q h1 h2 => by rw [e1, hF.2 q (Nat.lt_of_lt_of_le h1 hS.1) h2]; exact hS.2.1 q h1 h2, fun q hq => ?_⟩
      rcases List.mem_append.mp hq with h9 | h9
      · exact hS.2.2 q h9
      · exact hLf q h9
    obtain ⟨t2, a1, b1⟩ := kk r n' h' hp T'.heap (locs ++ L) lr (by rw [e1]; exact hP') (by rw [e1]; exact hz') hS' hL T' rfl X'
    refine ⟨t2, st t2 ?_, b1⟩
    have : (r.toList ++ rest).map (xv G) = (r.map (xv G)).toList ++ rest.map (xv G) := by cases r <;> rfl
    rw [this] at a1
    exact a1
  · have hS' : va_S (xA G) s.heap T'.heap (locs ++ L) := by
      rw [va_F, h0] at hF
      refine ⟨Nat.le_trans hS.1 (by rw [e1]; exact hF.1), fun q h1 h2 => by rw [e1, hF.2 q (Nat.lt_of_lt_of_le h1 hS.1) h2]; exact hS.2.1 q h1 h2, fun q hq => ?_⟩
      rcases List.mem_append.mp hq with h9 | h9
      · exact hS.2.2 q h9
      · exact hLf q h9
    obtain ⟨t2, a1, b1⟩ := kx E n' h' hp T'.heap (locs ++ L) lr q ce (rest.map (xv G)) (by rw [e1]; exact hP') (by rw [e1]; exact hz') hS' hL (by rw [e1]; exact hce) hcv hcl T' rfl X'
    exact ⟨t2, st.trans a1, b1⟩
/-- invokevirtual of a method of the class that is said -/
theorem XV.callV (C : XCx G l own cc nL p s m args meth c) {b ci : Nat} {q : vw_C} {fs As rest : List Value} (hM : XCt l G md (Cond.code y bytes maxL ret) y fr lo mc ms (.ref b :: As) n h post px) (hd : decode cc pc = .ok (.invokevirtual ix, 3)) (hst : st = As.reverse ++ .ref b :: rest) (hb : 4 ≤ b) (hbn : b < n + 4) (hc : XCl[ci]? = some q) (hh : h b = .inr (ci, fs)) (hcl : y.cls = q.1)
    (w1 : Cond.methodLink own ix y ∈ WALL) (w2 : Cond.instanceMethod y ∈ WALL) (w3 : Cond.selects y.cls y y ∈ WALL) (w4 : Cond.initialized y.cls ∈ WALL) (w5 : Cond.code y bytes maxL ret ∈ WALL)
    (hy : (y.cls ≠ "java/lang/invoke/MethodHandle" ∧ y.cls ≠ "java/lang/invoke/VarHandle") ∧ (parseMethodDescriptor y.desc).map (fun d => d.parameters.length) = some As.length) (hmd : md → s.heap.size + k = xbase G + n) (hR : fr + 1 ≤ R.frames ∧ 8 + (maxL + 11) + lo ≤ R.locals) (hf : k + mc ≤ R.cells ∧ ks + ms ≤ R.slots) (hw : (rest.map fun v => v.category).sum ≤ 8)
    (kk : ∀ (r : Option Value) (n' : Nat) (h' : XH), post r n' h' → XV G nL p l e R s m args below meth c Q (pc + 3) ls (r.toList ++ rest) n' h' (k + mc) (ks + ms))
    (kx : ∀ (E : String) (n' : Nat) (h' : XH), px E n' h' → XT G nL p l e R s m args below meth c Q pc ls E n' h' (k + mc) (ks + ms)) : XV G nL p l e R s m args below meth c Q pc ls st n h k ks := by
  subst hst
  refine XV.ofRun C (fun H locs lr hP hz hsz hS hL => ?_) kk kx
  obtain ⟨hx, hb0, hml, hown, hts, hlocks, hE, hbs, hfl⟩ := id C
  have hrec := va_recv (q0 := b - 4) hE.1 hP hc (by rw [xw_at G hb hbn, hh]; rfl)
  refine vx_runV (nL := nL) (Ts := WALL) (own := own) (C := y.cls) (bytes := bytes) (maxL := maxL) (ret := ret) (b := xa G b) (As := As.map (xv G)) (n := As.length) ⟨hx, hb0, hml, hown, hts⟩ hM (cwV As.length hts (fun w hw => ?_) rfl rfl rfl ⟨rfl, hy.1.1, hy.1.2, hy.2⟩ hR) ⟨XPre.blind G md _ n h, by rw [hcl]; exact hrec, fun U hU hW => xpre_of C hP hz (fun q => by have := hmd q; omega) hS hU hW (.ref b :: As)⟩ rfl (by rw [List.length_map]) hL.1 (by show ((As.reverse ++ .ref b :: rest).map (xv G)) = _; rw [List.map_append, List.map_cons, List.map_reverse]; rfl) (lv_room (by rw [xsum]; exact hw)) hd hf
  unfold wsV at hw
  rcases List.mem_append.mp hw with h9 | h9
  · simp only [List.mem_cons, List.not_mem_nil, or_false] at h9
    rcases h9 with rfl | rfl | rfl | rfl
    · exact WALL_good _ w1
    · exact WALL_good _ w2
    · exact WALL_good _ w3
    · exact WALL_good _ w4
  · exact WALL_good1 w5 _ h9
/-- invokestatic -/
theorem XV.callS (C : XCx G l own cc nL p s m args meth c) {As rest : List Value} (hM : XCt l G md (Cond.code y bytes maxL ret) y fr lo mc ms As n h post px) (hd : decode cc pc = .ok (.invokestatic ix, 3)) (hst : st = As.reverse ++ rest)
    (w1 : Cond.methodLink own ix y ∈ WALL) (w2 : Cond.static y ∈ WALL) (w4 : Cond.initialized y.cls ∈ WALL) (w5 : Cond.code y bytes maxL ret ∈ WALL)
    (hy : (y.cls ≠ "java/lang/invoke/MethodHandle" ∧ y.cls ≠ "java/lang/invoke/VarHandle") ∧ (parseMethodDescriptor y.desc).map (fun d => d.parameters.length) = some As.length) (hmd : md → s.heap.size + k = xbase G + n) (hR : fr + 1 ≤ R.frames ∧ 8 + (maxL + 11) + lo ≤ R.locals) (hf : k + mc ≤ R.cells ∧ ks + ms ≤ R.slots) (hw : (rest.map fun v => v.category).sum ≤ 8)
    (kk : ∀ (r : Option Value) (n' : Nat) (h' : XH), post r n' h' → XV G nL p l e R s m args below meth c Q (pc + 3) ls (r.toList ++ rest) n' h' (k + mc) (ks + ms))
    (kx : ∀ (E : String) (n' : Nat) (h' : XH), px E n' h' → XT G nL p l e R s m args below meth c Q pc ls E n' h' (k + mc) (ks + ms)) : XV G nL p l e R s m args below meth c Q pc ls st n h k ks := by
  subst hst
  refine XV.ofRun C (fun H locs lr hP hz hsz hS hL => ?_) kk kx
  obtain ⟨hx, hb0, hml, hown, hts, hlocks, hE, hbs, hfl⟩ := id C
  refine vx_runS (nL := nL) (Ts := WALL) (own := own) (bytes := bytes) (maxL := maxL) (ret := ret) (As := As.map (xv G)) (n := As.length) ⟨hx, hb0, hml, hown, hts⟩ hM (va_cwS As.length hts (fun w hw => ?_) rfl rfl rfl ⟨hy.1.1, hy.1.2, hy.2⟩ hR) ⟨XPre.blind G md _ n h, fun U hU hW => xpre_of C hP hz (fun q => by have := hmd q; omega) hS hU hW As⟩ rfl (by rw [List.length_map]) hL.1 (by show ((As.reverse ++ rest).map (xv G)) = _; rw [List.map_append, List.map_reverse]) (lv_room (by rw [xsum]; exact hw)) hd hf
  unfold va_wsS at hw
  rcases List.mem_append.mp hw with h9 | h9
  · simp only [List.mem_cons, List.not_mem_nil, or_false] at h9
    rcases h9 with rfl | rfl | rfl
    · exact WALL_good _ w1
    · exact WALL_good _ w2
    · exact WALL_good _ w4
  · exact WALL_good1 w5 _ h9
/-- invokespecial of a constructor -/
theorem XV.callI (C : XCx G l own cc nL p s m args meth c) {b : Nat} {As rest : List Value} (hM : XCt l G md (Cond.code y bytes maxL none) y fr lo mc ms (.ref b :: As) n h post px) (hd : decode cc pc = .ok (.invokespecial ix, 3)) (hst : st = As.reverse ++ .ref b :: rest)
    (w1 : Cond.methodLink own ix y ∈ WALL) (w2 : Cond.instanceMethod y ∈ WALL) (w4 : Cond.initialized y.cls ∈ WALL) (w5 : Cond.code y bytes maxL none ∈ WALL) (hinit : y.name = "<init>")
    (hy : (y.cls ≠ "java/lang/invoke/MethodHandle" ∧ y.cls ≠ "java/lang/invoke/VarHandle") ∧ (parseMethodDescriptor y.desc).map (fun d => d.parameters.length) = some As.length) (hmd : md → s.heap.size + k = xbase G + n) (hR : fr + 1 ≤ R.frames ∧ 8 + (maxL + 11) + lo ≤ R.locals) (hf : k + mc ≤ R.cells ∧ ks + ms ≤ R.slots) (hw : (rest.map fun v => v.category).sum ≤ 8)
    (kk : ∀ (r : Option Value) (n' : Nat) (h' : XH), post r n' h' → XV G nL p l e R s m args below meth c Q (pc + 3) ls (r.toList ++ rest) n' h' (k + mc) (ks + ms))
    (kx : ∀ (E : String) (n' : Nat) (h' : XH), px E n' h' → XT G nL p l e R s m args below meth c Q pc ls E n' h' (k + mc) (ks + ms)) : XV G nL p l e R s m args below meth c Q pc ls st n h k ks := by
  subst hst
  refine XV.ofRun C (fun H locs lr hP hz hsz hS hL => ?_) kk kx
  obtain ⟨hx, hb0, hml, hown, hts, hlocks, hE, hbs, hfl⟩ := id C
  exact vx_runI (nL := nL) (Ts := WALL) (own := own) (bytes := bytes) (maxL := maxL) (b := xa G b) (As := As.map (xv G)) (n := As.length) ⟨hx, hb0, hml, hown, hts⟩ hM (cwI As.length hts (WALL_good1 w5) rfl rfl rfl (hts _ w4) (hts _ w1) (hts _ w2) hinit ⟨hy.1.1, hy.1.2, hy.2⟩ hR) ⟨XPre.blind G md _ n h, fun U hU hW => xpre_of C hP hz (fun q => by have := hmd q; omega) hS hU hW (.ref b :: As)⟩ rfl (by rw [List.length_map]) hL.1 (by show ((As.reverse ++ .ref b :: rest).map (xv G)) = _; rw [List.map_append, List.map_cons, List.map_reverse]; rfl) (lv_room (by rw [xsum]; exact hw)) hd hf
abbrev XEnd (G : XG) (below : List Frame) (post : Option Value → Nat → XH → Prop) (px : String → Nat → XH → Prop) (args : Array Value) (s : State) (mc ms : Nat) : State → Prop := vx_MQ below (fun _ => XQ G post) (XX G px) args s mc ms (xA G)
theorem XV.iret (C : XCx G l own cc nL p s m args meth c) {x : Int32} {ty : FieldType} (hd : decode cc pc = .ok (.ireturn, 1)) (hr : meth.sig.returnType = some ty) (hn : narrow ty (.int x) = .int x) (h1 : k ≤ mc) (h2 : ks ≤ ms) (hp : post (some (.int x)) n h) : XV G nL p l e R s m args below meth c (XEnd G below post px args s mc ms) pc ls [.int x] n h k ks := by
  obtain ⟨hx, hb, hml, hown, hts, hlocks, hE, -⟩ := C
  intro H locs lr hP hz hS hL
  refine W.widen h1 h2 (vx_ret ?_)
  exact W.zret hx hb hr hn (fun t ht hW => ⟨some (.int x), n, h, rfl, hp, by rw [ht]; exact hP, by rw [ht]; exact hz, hS.F ht⟩) hS.2.2 hd hlocks
theorem XV.lret (C : XCx G l own cc nL p s m args meth c) {x : Int64} (hd : decode cc pc = .ok (.lreturn, 1)) (hr : meth.sig.returnType = some .long) (h1 : k ≤ mc) (h2 : ks ≤ ms) (hp : post (some (.long x)) n h) : XV G nL p l e R s m args below meth c (XEnd G below post px args s mc ms) pc ls [.long x] n h k ks := by
  obtain ⟨hx, hb, hml, hown, hts, hlocks, hE, -⟩ := C
  intro H locs lr hP hz hS hL
  refine W.widen h1 h2 (vx_ret ?_)
  exact W.lret hx hb hr (fun t ht hW => ⟨some (.long x), n, h, rfl, hp, by rw [ht]; exact hP, by rw [ht]; exact hz, hS.F ht⟩) hS.2.2 hd hlocks
theorem XV.dret (C : XCx G l own cc nL p s m args meth c) {x : UInt64} (hd : decode cc pc = .ok (.dreturn, 1)) (hr : meth.sig.returnType = some .double) (h1 : k ≤ mc) (h2 : ks ≤ ms) (hp : post (some (.double x)) n h) : XV G nL p l e R s m args below meth c (XEnd G below post px args s mc ms) pc ls [.double x] n h k ks := by
  obtain ⟨hx, hb, hml, hown, hts, hlocks, hE, -⟩ := C
  intro H locs lr hP hz hS hL
  refine W.widen h1 h2 (vx_ret ?_)
  exact W.dret hx hb hr (fun t ht hW => ⟨some (.double x), n, h, rfl, hp, by rw [ht]; exact hP, by rw [ht]; exact hz, hS.F ht⟩) hS.2.2 hd hlocks
theorem XV.vret (C : XCx G l own cc nL p s m args meth c) (hd : decode cc pc = .ok (.return_, 1)) (hr : meth.sig.returnType = none) (h1 : k ≤ mc) (h2 : ks ≤ ms) (hp : post none n h) : XV G nL p l e R s m args below meth c (XEnd G below post px args s mc ms) pc ls [] n h k ks := by
  obtain ⟨hx, hb, hml, hown, hts, hlocks, hE, -⟩ := C
  intro H locs lr hP hz hS hL
  refine W.widen h1 h2 (vx_ret ?_)
  exact W.vret hx hb hr (fun t ht hW => ⟨none, n, h, rfl, hp, by rw [ht]; exact hP, by rw [ht]; exact hz, hS.F ht⟩) hS.2.2 hd hlocks
theorem XV.aret (C : XCx G l own cc nL p s m args meth c) {o : Option Nat} {nm : String} (hd : decode cc pc = .ok (.areturn, 1)) (hr : meth.sig.returnType = some (.object nm)) (h1 : k ≤ mc) (h2 : ks ≤ ms) (hp : post (some (va_rf o)) n h) : XV G nL p l e R s m args below meth c (XEnd G below post px args s mc ms) pc ls [va_rf o] n h k ks := by
  obtain ⟨hx, hb, hml, hown, hts, hlocks, hE, -⟩ := C
  intro H locs lr hP hz hS hL
  refine W.widen h1 h2 (vx_ret ?_)
  refine W.aret hx hb hr (Or.inl ⟨nm, rfl⟩) (v := xv G (va_rf o)) ?_ (fun t ht hW => ⟨some (va_rf o), n, h, rfl, hp, by rw [ht]; exact hP, by rw [ht]; exact hz, hS.F ht⟩) hS.2.2 hd hlocks
  cases o with
  | none => exact Or.inl rfl
  | some i => exact Or.inr ⟨_, rfl⟩
/-- a throw that goes on to the caller, where the method has no table -/
theorem XT.out (C : XCx G l own cc nL p s m args meth c) (hnt : ∀ x ∈ c.exceptionTable.toList, False) {E : String} (h1 : k ≤ mc) (h2 : ks ≤ ms) (hp : px E n h) : XT G nL p l e R s m args below meth c (XEnd G below post px args s mc ms) pc ls E n h k ks := by
  obtain ⟨hx, hb, hml, hown, hts, hlocks, hE, -⟩ := C
  intro H locs lr q ce rest hP hz hS hL hce hcv hcl
  exact vx_out (fun x hx => (hnt x hx).elim) hlocks hce hcv hcl (fun t ht hW => ⟨n, h, hp, by rw [ht]; exact hP, by rw [ht]; exact hz, hS.F ht⟩) hS.2.2 h1 h2
def xlay : List Value → List (Option Value)
  | [] => []
  | v :: vs => if v.category = 2 then some v :: none :: xlay vs else some v :: xlay vs
theorem xlay_args (G : XG) : ∀ (av : List Value) (i j : Nat) (v : Value), (xlay av)[j]? = some (some v) → (i + j, xv G v) ∈ lv_args i (av.map (xv G))
  | [], i, j, v, h => by simp [xlay] at h
  | w :: vs, i, j, v, h => by
    unfold xlay at h
    rw [List.map_cons]
    unfold lv_args
    rw [xv_cat]
    split at h
    · rename_i hc
      rw [if_pos hc]
      match j, h with
      | 0, h => cases h; exact List.mem_cons_self
      | 1, h => cases h
      | j + 2, h =>
        have h9 : (xlay vs)[j]? = some (some v) := h
        have := xlay_args G vs (i + 2) j v h9
        rw [show i + (j + 2) = i + 2 + j by omega]
        exact List.mem_cons_of_mem _ this
    · rename_i hc
      rw [if_neg hc]
      match j, h with
      | 0, h => cases h; exact List.mem_cons_self
      | j + 1, h =>
        have h9 : (xlay vs)[j]? = some (some v) := h
        have := xlay_args G vs (i + 1) j v h9
        rw [show i + (j + 1) = i + 1 + j by omega]
        exact List.mem_cons_of_mem _ this
theorem xlay_len : ∀ (av : List Value), (lg_sl av).length = (xlay av).length
  | [] => rfl
  | v :: vs => by
    unfold xlay lg_sl
    rw [List.flatMap_cons, List.length_append]
    have := xlay_len vs
    unfold lg_sl at this
    rw [this]
    split
    · simp; omega
    · simp; omega
theorem xlay_map (G : XG) : ∀ (av : List Value), (lg_sl (av.map (xv G))).length = (xlay av).length := fun av => by
  rw [xlay_len]
  induction av with
  | nil => rfl
  | cons v vs ih =>
    rw [List.map_cons]
    unfold xlay
    rw [xv_cat]
    split
    · simp [ih]
    · simp [ih]
/-- the locals at a method's entry -/
def xent (maxL : Nat) (av : List Value) : List (Option Value) := xlay av ++ List.replicate (maxL - (xlay av).length) none
theorem xent_has (G : XG) {maxL : Nat} {av : List Value} (hl : (xlay av).length ≤ maxL) : xHas G ((lg_sl (av.map (xv G)) ++ List.replicate (maxL - (lg_sl (av.map (xv G))).length) Slot.unset).toArray) maxL (xent maxL av) := by
  obtain ⟨h1, h2, h3⟩ := lv_entry (av.map (xv G)) (n := maxL) (by rw [xlay_map]; exact hl)
  refine ⟨h1, h2, by unfold xent; rw [List.length_append, List.length_replicate]; omega, fun i v hi => ?_⟩
  unfold xent at hi
  by_cases h9 : i < (xlay av).length
  · rw [List.getElem?_append_left h9] at hi
    have := xlay_args G av 0 i v hi
    rw [Nat.zero_add] at this
    exact h3 _ this
  · rw [List.getElem?_append_right (by omega), List.getElem?_replicate] at hi
    split at hi <;> cases hi
theorem XCt.of (hfl : l.stackTraces = false) (hy : plainName y.cls = true) (hl : (xlay av).length ≤ maxL)
    (body : ∀ (p : Program) (e : Env) (s : State) (m : MethodId) (args : Array Value) (below : List Frame) (meth : Method) (c : Code), XCx G l y.cls bytes maxL p s m args meth c → meth.sig.returnType = ret → meth.name = y.name → (∀ x ∈ c.exceptionTable.toList, False) → (md → s.heap.size = xbase G + n) →
      XV G maxL p l e ({ frames := fr, cells := mc, slots := ms, locals := lo } : Room) s m args below meth c (XEnd G below post px args s mc ms) 0 (xent maxL av) [] n h 0 0) : XCt l G md (Cond.code y bytes maxL ret) y fr lo mc ms av n h post px := by
  refine vx_ofW (cc := bytes) (maxL := maxL) (ret := ret) hy rfl ?_
  intro p e s m args below meth c s₁ B hml hnt hv
  obtain ⟨hargs, hP, hz, hm, hE⟩ := hv
  subst hargs
  have hx := B.exec
  have hb := B.bytes
  have hr := B.returns
  have hts0 := atoms_spec (ws := Cond.code y bytes maxL ret :: WALL) B.pre
  have hown : s.vm.findClass y.cls = some m.cls := findClass_of_methodNamed B.named
  have hname := (name_of_methodNamed B.named B.method).1
  have C : XCx G l y.cls bytes maxL p s m (av.map (xv G)).toArray meth c := ⟨hx, hb, hml, hown, fun w hw => hts0 w (List.mem_cons_of_mem _ hw), B.notSynchronized, hE, by omega, hfl⟩
  have K := body p e s m _ below meth c C hr hname hnt hm s.heap [] _ hP hz va_S.rf (xent_has G hl)
  rw [lg_entry_eq]
  exact K
end XCALL
