section
-- ===== PART A: goes FIRST, ahead of the names: the tables' words, and 'selects' of the private methods out of them =====
/-- a private method of a class that the tables say can be made, by its rows of tables_1 -/
def lw_okq (q : MethodName × Nat) : Prop := (q.1.cls ≠ "java/lang/invoke/MethodHandle" ∧ q.1.cls ≠ "java/lang/invoke/VarHandle") ∧ Cond.instantiable q.1.cls q.2 ∈ tables_1 ∧ Cond.privateMethod q.1 ∈ tables_1 ∧ Cond.instanceMethod q.1 ∈ tables_1
theorem lw_p0 : lw_okq (⟨"RopeThreads", "existingRope", "(I)LRopeThreads$Rope;"⟩, 4) := ⟨⟨by decide +kernel, by decide +kernel⟩, List.mem_of_getElem? (i := 16) (by decide +kernel), List.mem_of_getElem? (i := 157) (by decide +kernel), List.mem_of_getElem? (i := 158) (by decide +kernel)⟩
theorem lw_p1 : lw_okq (⟨"java/lang/Throwable", "fillInStackTrace", "(I)Ljava/lang/Throwable;"⟩, 6) := ⟨⟨by decide +kernel, by decide +kernel⟩, List.mem_of_getElem? (i := 203) (by decide +kernel), List.mem_of_getElem? (i := 201) (by decide +kernel), List.mem_of_getElem? (i := 202) (by decide +kernel)⟩
theorem lw_p2 : lw_okq (⟨"RopeThreads", "ropeFigure", "(LRopeThreads$Rope;I)I"⟩, 4) := ⟨⟨by decide +kernel, by decide +kernel⟩, List.mem_of_getElem? (i := 16) (by decide +kernel), List.mem_of_getElem? (i := 387) (by decide +kernel), List.mem_of_getElem? (i := 388) (by decide +kernel)⟩
theorem lw_p3 : lw_okq (⟨"RopeThreads", "countFigure", "(I)I"⟩, 4) := ⟨⟨by decide +kernel, by decide +kernel⟩, List.mem_of_getElem? (i := 16) (by decide +kernel), List.mem_of_getElem? (i := 407) (by decide +kernel), List.mem_of_getElem? (i := 408) (by decide +kernel)⟩
theorem lw_p4 : lw_okq (⟨"RopeThreads", "requireTripsAllowed", "(I)V"⟩, 4) := ⟨⟨by decide +kernel, by decide +kernel⟩, List.mem_of_getElem? (i := 16) (by decide +kernel), List.mem_of_getElem? (i := 441) (by decide +kernel), List.mem_of_getElem? (i := 442) (by decide +kernel)⟩
theorem lw_p5 : lw_okq (⟨"RopeThreads", "windowFigure", "(LRopeThreads$Rope;II)I"⟩, 4) := ⟨⟨by decide +kernel, by decide +kernel⟩, List.mem_of_getElem? (i := 16) (by decide +kernel), List.mem_of_getElem? (i := 503) (by decide +kernel), List.mem_of_getElem? (i := 504) (by decide +kernel)⟩
theorem lw_p6 : lw_okq (⟨"RopeThreads", "tripsToLimit", "(LRopeThreads$Rope;)I"⟩, 4) := ⟨⟨by decide +kernel, by decide +kernel⟩, List.mem_of_getElem? (i := 16) (by decide +kernel), List.mem_of_getElem? (i := 513) (by decide +kernel), List.mem_of_getElem? (i := 514) (by decide +kernel)⟩
theorem lw_p7 : lw_okq (⟨"RopeThreads", "reachesLimit", "(LRopeThreads$Rope;I)Z"⟩, 4) := ⟨⟨by decide +kernel, by decide +kernel⟩, List.mem_of_getElem? (i := 16) (by decide +kernel), List.mem_of_getElem? (i := 517) (by decide +kernel), List.mem_of_getElem? (i := 518) (by decide +kernel)⟩
theorem lw_p8 : lw_okq (⟨"RopeThreads", "lowestUnseen", "()I"⟩, 4) := ⟨⟨by decide +kernel, by decide +kernel⟩, List.mem_of_getElem? (i := 16) (by decide +kernel), List.mem_of_getElem? (i := 531) (by decide +kernel), List.mem_of_getElem? (i := 532) (by decide +kernel)⟩
theorem lw_p9 : lw_okq (⟨"RopeThreads", "reasonIfInspected", "(LRopeThreads$Rope;II)I"⟩, 4) := ⟨⟨by decide +kernel, by decide +kernel⟩, List.mem_of_getElem? (i := 16) (by decide +kernel), List.mem_of_getElem? (i := 535) (by decide +kernel), List.mem_of_getElem? (i := 536) (by decide +kernel)⟩
theorem lw_p10 : lw_okq (⟨"RopeThreads", "shareCounted", "()D"⟩, 4) := ⟨⟨by decide +kernel, by decide +kernel⟩, List.mem_of_getElem? (i := 16) (by decide +kernel), List.mem_of_getElem? (i := 547) (by decide +kernel), List.mem_of_getElem? (i := 548) (by decide +kernel)⟩
def lw_privs_1 : List (MethodName × Nat) := [(⟨"RopeThreads", "existingRope", "(I)LRopeThreads$Rope;"⟩, 4), (⟨"java/lang/Throwable", "fillInStackTrace", "(I)Ljava/lang/Throwable;"⟩, 6), (⟨"RopeThreads", "ropeFigure", "(LRopeThreads$Rope;I)I"⟩, 4), (⟨"RopeThreads", "countFigure", "(I)I"⟩, 4), (⟨"RopeThreads", "requireTripsAllowed", "(I)V"⟩, 4), (⟨"RopeThreads", "windowFigure", "(LRopeThreads$Rope;II)I"⟩, 4), (⟨"RopeThreads", "tripsToLimit", "(LRopeThreads$Rope;)I"⟩, 4), (⟨"RopeThreads", "reachesLimit", "(LRopeThreads$Rope;I)Z"⟩, 4), (⟨"RopeThreads", "lowestUnseen", "()I"⟩, 4), (⟨"RopeThreads", "reasonIfInspected", "(LRopeThreads$Rope;II)I"⟩, 4), (⟨"RopeThreads", "shareCounted", "()D"⟩, 4)]
theorem lw_r1 : ∀ q ∈ lw_privs_1, lw_okq q := List.forall_mem_cons.mpr ⟨lw_p0, List.forall_mem_cons.mpr ⟨lw_p1, List.forall_mem_cons.mpr ⟨lw_p2, List.forall_mem_cons.mpr ⟨lw_p3, List.forall_mem_cons.mpr ⟨lw_p4, List.forall_mem_cons.mpr ⟨lw_p5, List.forall_mem_cons.mpr ⟨lw_p6, List.forall_mem_cons.mpr ⟨lw_p7, List.forall_mem_cons.mpr ⟨lw_p8, List.forall_mem_cons.mpr ⟨lw_p9, List.forall_mem_cons.mpr ⟨lw_p10, fun _ h => absurd h List.not_mem_nil⟩⟩⟩⟩⟩⟩⟩⟩⟩⟩⟩
def lw_privs : List (MethodName × Nat) := lw_privs_1
def lw_tbl : List Cond := k2_sels lw_privs ++ tables_1
theorem lw_privs_ok : ∀ q ∈ lw_privs, lw_okq q := lw_r1
/-- the streams that the claim lets the run draw from -/
abbrev lw_cs : List Choice := [Jvm.Choice.named "NaN.bits"]
theorem lw_bits : nanBits ∈ lw_cs := by first | decide | exact List.mem_cons_self | simp [lw_cs, nanBits]
end
section
/-! ===== BEGIN words of one list among another's, by their places ===== -/
theorem goodIn_r {big : List Cond} (ws : List Cond) (ps : List Nat) (hp : ws = ps.filterMap (fun i => big[i]?)) (h : ws.all goodWord = true) : GoodIn big ws := by
  intro w hw
  have h1 := List.all_eq_true.mp h w hw
  rw [hp] at hw
  obtain ⟨i, -, hi⟩ := List.mem_filterMap.mp hw
  have hm : w ∈ big := by first | exact List.mem_of_getElem? hi | exact List.getElem?_mem hi
  exact ⟨hm, good_of_word h1⟩
theorem goodIn_app {big a b : List Cond} (ha : GoodIn big a) (hb : GoodIn big b) : GoodIn big (a ++ b) := fun w h => (List.mem_append.mp h).elim (ha w) (hb w)
theorem goodIn_ca {big a b : List Cond} {c : Cond} (ha : GoodIn big (c :: a)) (hb : GoodIn big b) : GoodIn big (c :: (a ++ b)) := fun w h => (List.mem_cons.mp h).elim (fun e => ha w (List.mem_cons.mpr (Or.inl e))) (fun h => (List.mem_append.mp h).elim (fun h => ha w (List.mem_cons.mpr (Or.inr h))) (hb w))
theorem goodIn_sub {big ws : List Cond} (hm : ∀ w ∈ ws, w ∈ big) (h : ws.all goodWord = true) : GoodIn big ws := fun w hw => ⟨hm w hw, good_of_word (List.all_eq_true.mp h w hw)⟩
/-! ===== END ===== -/

/-! ===== BEGIN exceptions that leave a method, and their catching by the caller (launches without stack traces) ===== -/
section VXA
/-! The laws vx_back, vx_callV, vx_callS, vx_callSW, vx_throw0, vx_throwS follow proofs of the library, with one case more: JvmDerived/Free/Laws.lean (Back.of_free), Shelf42/LK1.lean (callV, callS), Shelf/KitTraced.lean (throwNew0V, throwNewS). -/
/-- where a method has thrown q: the class by its name, the cell, what was written, the world -/
def vx_T (XC : String → State → State → Prop) (st : State) (q : Addr) (t : State) (mc ms : Nat) (free : Addr → Prop) : Prop :=
  ∃ (E : String) (ce : Cell) (L : List Loc), XC E st t ∧ t.heap[q]? = some ce ∧ ce.vm = .none ∧ st.vm.findClass E = some ce.cls ∧ st.WarmedH t.vm ∧ st.sameButNew ({ t with vm := st.vm } : State) L mc ms ∧ ∀ z ∈ L, free z.base
def vx_Q (Qc : Array Value → State → Outcome → State → Prop) (XC : String → State → State → Prop) (mc ms : Nat) (free : Addr → Prop) : Array Value → State → Outcome → State → Prop := fun a st o t =>
  (Qc a st o t ∧ ∃ L, FrameEnd st o t L mc ms ∧ ∀ q ∈ L, free q.base) ∨ ∃ q, o = .threw q ∧ vx_T XC st q t mc ms free
/-- a callee that returns or throws -/
def vx_Met (l : Launch) (y : MethodName) (ws : List Cond) (rm : Room) (Pc : Array Value → State → Prop) (Qc : Array Value → State → Outcome → State → Prop) (XC : String → State → State → Prop) (mc ms : Nat) (free : Addr → Prop) : Prop :=
  MetFree l y (headSpec ws rm) Pc (fun _ _ _ _ _ => True) (vx_Q Qc XC mc ms free)
def vx_Post (XC : String → State → State → Prop) (mc ms : Nat) (free : Addr → Prop) : Pt → Array Value → Addr → Pt → Prop := fun A a q B =>
  ∃ (g : JFrame) (mk : MethodId) (t : State) (L : List Loc) (E : String) (ce : Cell), B.U.heap = t.heap ∧ B.U.vm = t.vm ∧ XC E (A.U.calling g mk a) t ∧ t.heap[q]? = some ce ∧ ce.vm = .none ∧ A.U.vm.findClass E = some ce.cls ∧ B.locs = A.locs ++ L ∧ (∀ z ∈ L, free z.base) ∧ B.cells = A.cells + mc ∧ B.slots = A.slots + ms
def vx_Back (l : Launch) (R : Room) (p : Program) (e : Env) (below : List Frame) (s : State) (sargs : Array Value) (y : MethodName) (len W9 : Nat)
    (Pre : Pt → Array Value → Prop) (Post : Pt → Array Value → Option Value → Pt → Prop) (PostX : Pt → Array Value → Addr → Pt → Prop) : Prop :=
  ∀ (m : MethodId) (meth : Method) (c : Code) (A : Pt) (g : JFrame) (ig : Instr) (mk : MethodId) (a : Array Value),
    Stand p l e R s m sargs below meth c A.U A.locs A.cells A.slots → g.method = m → g.locals.size = c.maxLocals → decode c.code g.pc = .ok (ig, len) →
    2 * g.monitorRoom + (g.stack.map fun v => v.category).sum ≤ W9 → A.U.methodNamed? y = some mk → Pre A a →
    (∃ (v : Option Value) (B : Pt), Stand p l e R s m sargs below meth c B.U B.locs B.cells B.slots ∧ Post A a v B ∧
      Steps p.tables e below (doInvoke e (A.U.setTop g) [] mk a).1 (B.U.setTop { g with pc := g.pc + len, stack := v.toList ++ g.stack })) ∨
    (∃ (q : Addr) (B : Pt), Stand p l e R s m sargs below meth c B.U B.locs B.cells B.slots ∧ PostX A a q B ∧
      Steps p.tables e below (doInvoke e (A.U.setTop g) [] mk a).1 ((B.U.setTop g).pushFrame (.throwing q)))
section Payer
variable {l : Launch} {R : Room} {p : Program} {e : Env} {below : List Frame} {s : State} {sargs : Array Value} {y : MethodName} {len W9 : Nat}
theorem vx_back {ws : List Cond} {rm : Room} {Pc : Array Value → State → Prop} {Qc : Array Value → State → Outcome → State → Prop} {XC : String → State → State → Prop} {mc ms : Nat} {free : Addr → Prop} {bytes : ByteArray} {maxL : Nat} {ret : Option FieldType}
    (hM : vx_Met l y ws rm Pc Qc XC mc ms free) (hblind : FrameBlind Pc) (hrc : rm.cells = mc) (hrs : rm.slots = ms)
    (hframes : rm.frames + 1 ≤ R.frames) (hlocals : W9 + (maxL + 11) + rm.locals ≤ R.locals)
    (hws : ∀ w ∈ ws, ∀ a' U, s.WarmedH U.vm → w.before a' U = true) (hcode : Cond.code y bytes maxL ret ∈ ws) (hinit : ∀ a' U, s.WarmedH U.vm → (Cond.initialized y.cls).before a' U = true) :
    vx_Back l R p e below s sargs y len W9 (PreOf R mc ms Pc) (PostOf Qc mc ms free) (vx_Post XC mc ms free) := by
  intro m meth c A g ig mk a X hg hsize hdg hW hn hp
  have h1 : (headSpec ws rm).pre.before a A.U = true := atoms_intro fun w hw => hws w hw _ _ X.warmed
  have h2 : (Cond.code y bytes maxL ret).before a A.U = true := hws _ hcode _ _ X.warmed
  have h3 : (Cond.initialized y.cls).before a A.U = true := hinit _ _ X.warmed
  have h4 : A.cells + (headSpec ws rm).room.cells ≤ R.cells := by rw [show (headSpec ws rm).room.cells = mc from hrc]; exact hp.1
  have h5 : A.slots + (headSpec ws rm).room.slots ≤ R.slots := by rw [show (headSpec ws rm).room.slots = ms from hrs]; exact hp.2.1
  have hPc : Pc a (A.U.calling g mk a) := hblind _ _ _ _ hp.2.2
  obtain ⟨U, Ls, c0, s0⟩ := A
  dsimp only [Pt.U, Pt.locs, Pt.cells, Pt.slots] at h1 h2 h3 h4 h5 X hn hPc ⊢
  obtain ⟨methY, cY, hmY, hcY, -, hlY, -, -, -, -⟩ := Cond.code_spec hn h2
  obtain ⟨kY, hkY, -⟩ := className_of_methodNamed hn
  have hinitY : kY.init = .initialized := Cond.initialized_spec (findClass_of_methodNamed hn) hkY h3
  have h : At U g.method c below := by rw [hg]; exact X.here
  have hlocals9 : W9 + (maxL + 11) + (headSpec ws rm).room.locals ≤ R.locals := hlocals
  have happ : (headSpec ws rm).appliesLoose y e.platform (U.calling g mk a) = true :=
    Spec.appliesLoose_calling (g := g) h hdg hn hkY hinitY
      (X.room_calling (g := g) (R' := (headSpec ws rm).room) hsize hmY hcY hframes (by rw [hlY]; omega) h4 h5) h1
  obtain ⟨mid, hmid⟩ := h.above
  have hfr : (U.setTop g).frames = (.java g :: mid) ++ below := by rw [State.frames_setTop' g h.top, hmid]; rfl
  obtain ⟨o, s₂, hsteps, -, hend, hq⟩ := Steps.callFree hM p X.admits X.cas X.clock (acts := []) hfr happ hPc trivial
  have hq' : vx_Q Qc XC mc ms free a (U.calling g mk a) o s₂ := hq
  rw [State.frames_setTop' g h.top] at hend
  obtain ⟨g₀, hg0⟩ := Option.isSome_iff_exists.mp h.top
  obtain ⟨r, hr⟩ := State.topJava?_eq_some.mp hg0
  have hr' : (({ U with heap := s₂.heap, slotsUsed := s₂.slotsUsed } : State).setVm s₂.vm).frames = .java g₀ :: r := hr
  rcases hq' with ⟨hqc, L, hfe, hL⟩ | ⟨q, rfl, E, ce, L, hx, hce, hcv, hcl, hW₂, hsm, hL⟩
  · obtain ⟨⟨v, rfl⟩, hW₂, e2, q2, q3, q4, q5, q6⟩ := id hfe
    have e3 : s₂ = ({ (U.calling g mk a).setFrames s₂.frames with heap := s₂.heap, slotsUsed := s₂.slotsUsed } : State).setVm s₂.vm := by
      have : s₂ = ({ s₂ with vm := (U.calling g mk a).vm } : State).setVm s₂.vm := rfl
      rw [e2] at this
      exact this
    obtain ⟨c₂, i₂, len₂, hc₂, hd₂, hf₂⟩ := hend
    have hW' : U.WarmedH s₂.vm := hW₂
    have hcc : c₂ = c := by
      have h1 : s₂.code? g.method = U.code? g.method := by
        rw [State.code?_eq, State.code?_eq, hW'.alike.method?]
      exact Option.some.inj (hc₂.symm.trans (h1.trans h.code))
    subst hcc
    have hlen : len₂ = len := by rw [hdg] at hd₂; cases hd₂; rfl
    subst hlen
    have hs₂ : s₂ = (({ U with heap := s₂.heap, slotsUsed := s₂.slotsUsed } : State).setVm s₂.vm).setTop { g with pc := g.pc + len₂, stack := v.toList ++ g.stack } := by
      refine e3.trans ?_
      rw [hf₂, State.calling_eq h.top, State.setFrames_setFrames, State.setTop_of_frames _ hr', hr]
      rfl
    have hsame : U.sameButNew ({ U with heap := s₂.heap, slotsUsed := s₂.slotsUsed } : State) L mc ms := by
      refine ⟨?_, q2, q3, q4, q5, q6⟩
      obtain ⟨t, ht, -⟩ := State.frames_cons hr
      show ({ U with heap := s₂.heap, slotsUsed := s₂.slotsUsed } : State) = { U.setFrames U.frames with heap := s₂.heap, slotsUsed := s₂.slotsUsed }
      rw [State.setFrames_self ht]
    subst hg
    refine Or.inl ⟨v, ⟨(({ U with heap := s₂.heap, slotsUsed := s₂.slotsUsed } : State).setVm s₂.vm), Ls ++ L, c0 + mc, s0 + ms⟩,
      ⟨X.admits, X.cas, X.clock, X.frames, X.room, X.hears, X.method, X.code, (X.here.setHeapUsed s₂.heap s₂.slotsUsed).setVm hW'.alike, X.tail, State.WarmedH.trans X.warmed hW', X.limits, X.bytes, X.same.trans (hsame.setVm s.vm)⟩,
      ⟨g, mk, s₂, L, rfl, rfl, hqc, rfl, hL, rfl, rfl⟩, ?_⟩
    show Steps p.tables e below _ ((({ U with heap := s₂.heap, slotsUsed := s₂.slotsUsed } : State).setVm s₂.vm).setTop { g with pc := g.pc + len₂, stack := v.toList ++ g.stack })
    rw [← hs₂]
    exact hsteps
  · obtain ⟨e2, q2, q3, q4, q5, q6⟩ := id hsm
    have e3 : s₂ = ({ (U.calling g mk a).setFrames s₂.frames with heap := s₂.heap, slotsUsed := s₂.slotsUsed } : State).setVm s₂.vm := by
      have : s₂ = ({ s₂ with vm := (U.calling g mk a).vm } : State).setVm s₂.vm := rfl
      rw [e2] at this
      exact this
    have hf₂ : s₂.frames = .throwing q :: .java g :: U.frames.tail := hend
    have hW' : U.WarmedH s₂.vm := hW₂
    have hs₂ : s₂ = ((({ U with heap := s₂.heap, slotsUsed := s₂.slotsUsed } : State).setVm s₂.vm).setTop g).pushFrame (.throwing q) := by
      refine e3.trans ?_
      rw [hf₂, State.calling_eq h.top, State.setFrames_setFrames, State.pushFrame, State.frames_setTop _ hr', State.setTop_of_frames _ hr', State.setFrames_setFrames, hr]
      rfl
    have hsame : U.sameButNew ({ U with heap := s₂.heap, slotsUsed := s₂.slotsUsed } : State) L mc ms := by
      refine ⟨?_, q2, q3, q4, q5, q6⟩
      obtain ⟨t, ht, -⟩ := State.frames_cons hr
      show ({ U with heap := s₂.heap, slotsUsed := s₂.slotsUsed } : State) = { U.setFrames U.frames with heap := s₂.heap, slotsUsed := s₂.slotsUsed }
      rw [State.setFrames_self ht]
    subst hg
    refine Or.inr ⟨q, ⟨(({ U with heap := s₂.heap, slotsUsed := s₂.slotsUsed } : State).setVm s₂.vm), Ls ++ L, c0 + mc, s0 + ms⟩,
      ⟨X.admits, X.cas, X.clock, X.frames, X.room, X.hears, X.method, X.code, (X.here.setHeapUsed s₂.heap s₂.slotsUsed).setVm hW'.alike, X.tail, State.WarmedH.trans X.warmed hW', X.limits, X.bytes, X.same.trans (hsame.setVm s.vm)⟩,
      ⟨g, mk, s₂, L, E, ce, rfl, rfl, hx, hce, hcv, hcl, rfl, hL, rfl, rfl⟩, ?_⟩
    show Steps p.tables e below _ (((({ U with heap := s₂.heap, slotsUsed := s₂.slotsUsed } : State).setVm s₂.vm).setTop g).pushFrame (.throwing q))
    rw [← hs₂]
    exact hsteps
end Payer
section Calls
variable {p : Program} {l : Launch} {e : Env} {R : Room} {s : State} {m : MethodId} {args : Array Value} {below : List Frame} {meth : Method} {c : Code} {T : State} {locs : List Loc} {cells slots : Nat}
theorem vx_callV (X : Stand p l e R s m args below meth c T locs cells slots) (hexec : p.tables.exec = Jvm.exec) {own C : String} {index : Nat} {y : MethodName} {bytes : ByteArray} {maxL : Nat} {ret : Option FieldType}
    (hown : s.vm.findClass own = some m.cls) (hlink : (Cond.methodLink own index y).before args s = true) (hinst : (Cond.instanceMethod y).before args s = true) (hsel : (Cond.selects C y y).before args s = true)
    (hcode : (Cond.code y bytes maxL ret).before args s = true) (hy : y.cls ≠ "java/lang/invoke/MethodHandle" ∧ y.cls ≠ "java/lang/invoke/VarHandle")
    {W9 : Nat} {Pre : Pt → Array Value → Prop} {Post : Pt → Array Value → Option Value → Pt → Prop} {PostX : Pt → Array Value → Addr → Pt → Prop} (hK : vx_Back l R p e below s args y 3 W9 Pre Post PostX)
    {b : Addr} {cellB : Cell} (hcell : T.heap[b]? = some cellB) (hobj : cellB.vm.isStatics = false) (hcls : s.vm.findClass C = some cellB.cls)
    {g : JFrame} (hg : g.method = m) (hsize : g.locals.size = c.maxLocals) {argsL rest : List Value} (hlen : ∀ sig, parseMethodDescriptor y.desc = some sig → argsL.length = sig.parameters.length)
    (hstack : g.stack = argsL.reverse ++ .ref b :: rest) (hW : 2 * g.monitorRoom + (rest.map fun v => v.category).sum ≤ W9) (hdg : decode c.code g.pc = .ok (.invokevirtual index, 3))
    (hpre : ∀ vm₁, s.WarmedH vm₁ → Pre ⟨T.setVm vm₁, locs, cells, slots⟩ (Value.ref b :: argsL).toArray) :
    (∃ (v : Option Value) (vm₁ : Vm) (B : Pt), s.WarmedH vm₁ ∧ Stand p l e R s m args below meth c B.U B.locs B.cells B.slots ∧ Post ⟨T.setVm vm₁, locs, cells, slots⟩ (Value.ref b :: argsL).toArray v B ∧
      ∀ target, Steps p.tables e below (B.U.setTop { g with pc := g.pc + 3, stack := v.toList ++ rest }) target → Steps p.tables e below (T.setTop g) target) ∨
    (∃ (q : Addr) (vm₁ : Vm) (B : Pt), s.WarmedH vm₁ ∧ Stand p l e R s m args below meth c B.U B.locs B.cells B.slots ∧ PostX ⟨T.setVm vm₁, locs, cells, slots⟩ (Value.ref b :: argsL).toArray q B ∧
      Steps p.tables e below (T.setTop g) ((B.U.setTop { g with stack := rest }).pushFrame (.throwing q))) := by
  obtain ⟨mk, methM, hnamed, hmethM, hstM, habM⟩ := Cond.instanceMethod_spec hinst
  obtain ⟨methM', cM, hmethM', -, -, -, -, -, -, hsigM⟩ := Cond.code_spec hnamed hcode
  cases hmethM.symm.trans hmethM'
  obtain ⟨c2, r2, m2, q1, q2, q3, q4, kP, hkP, hkPi⟩ := Cond.selects_spec hsel
  cases hcls.symm.trans q1
  cases (State.methodFound?_of_named hnamed hy).symm.trans q2
  cases hnamed.symm.trans q3
  have hselP : selectMethod e.platform s.vm cellB.cls mk = .method mk := by rw [Launch.admits_selectMethod X.admits]; exact q4
  obtain ⟨vm₁, X₁, hstep₁⟩ := X.invokevirtual hexec hown hlink hnamed hmethM hstM hkP hkPi hy (a := b) (cell := cellB) hcell
    (fun z h => by rw [h] at hobj; cases hobj) hselP hmethM habM hkP hkPi (g := g) hg (argsL := argsL) (rest := rest) (hlen _ hsigM) hstack hdg
  rcases hK m meth c ⟨T.setVm vm₁, locs, cells, slots⟩ { g with stack := rest } (.invokevirtual index) mk (Value.ref b :: argsL).toArray X₁ hg hsize hdg hW (X₁.named hnamed) (hpre vm₁ X₁.warmed) with ⟨v, B, X', hpost, hsteps⟩ | ⟨q, B, X', hpost, hsteps⟩
  · exact Or.inl ⟨v, vm₁, B, X₁.warmed, X', hpost, fun target h => hstep₁ _ fun acts => by rw [doInvoke_state]; exact hsteps.trans h⟩
  · exact Or.inr ⟨q, vm₁, B, X₁.warmed, X', hpost, hstep₁ _ fun acts => by rw [doInvoke_state]; exact hsteps⟩
theorem vx_callS (X : Stand p l e R s m args below meth c T locs cells slots) (hexec : p.tables.exec = Jvm.exec) {own : String} {index : Nat} {y : MethodName} {bytes : ByteArray} {maxL : Nat} {ret : Option FieldType}
    (hown : s.vm.findClass own = some m.cls) (hlink : (Cond.methodLink own index y).before args s = true) (hstat : (Cond.static y).before args s = true) (hinit : (Cond.initialized y.cls).before args s = true)
    (hcode : (Cond.code y bytes maxL ret).before args s = true) (hy : y.cls ≠ "java/lang/invoke/MethodHandle" ∧ y.cls ≠ "java/lang/invoke/VarHandle")
    {W9 : Nat} {Pre : Pt → Array Value → Prop} {Post : Pt → Array Value → Option Value → Pt → Prop} {PostX : Pt → Array Value → Addr → Pt → Prop} (hK : vx_Back l R p e below s args y 3 W9 Pre Post PostX)
    {g : JFrame} (hg : g.method = m) (hsize : g.locals.size = c.maxLocals) {argsL rest : List Value} (hlen : ∀ sig, parseMethodDescriptor y.desc = some sig → argsL.length = sig.parameters.length)
    (hstack : g.stack = argsL.reverse ++ rest) (hW : 2 * g.monitorRoom + (rest.map fun v => v.category).sum ≤ W9) (hdg : decode c.code g.pc = .ok (.invokestatic index, 3))
    (hpre : ∀ vm₁, s.WarmedH vm₁ → Pre ⟨T.setVm vm₁, locs, cells, slots⟩ argsL.toArray) :
    (∃ (v : Option Value) (vm₁ : Vm) (B : Pt), s.WarmedH vm₁ ∧ Stand p l e R s m args below meth c B.U B.locs B.cells B.slots ∧ Post ⟨T.setVm vm₁, locs, cells, slots⟩ argsL.toArray v B ∧
      ∀ target, Steps p.tables e below (B.U.setTop { g with pc := g.pc + 3, stack := v.toList ++ rest }) target → Steps p.tables e below (T.setTop g) target) ∨
    (∃ (q : Addr) (vm₁ : Vm) (B : Pt), s.WarmedH vm₁ ∧ Stand p l e R s m args below meth c B.U B.locs B.cells B.slots ∧ PostX ⟨T.setVm vm₁, locs, cells, slots⟩ argsL.toArray q B ∧
      Steps p.tables e below (T.setTop g) ((B.U.setTop { g with stack := rest }).pushFrame (.throwing q))) := by
  obtain ⟨mk, hnamed⟩ := Cond.code_named hcode
  obtain ⟨methM, cM, hmethM, -, -, -, -, -, -, hsigM⟩ := Cond.code_spec hnamed hcode
  have hstatic : methM.isStatic = true := Cond.static_spec hnamed hmethM hstat
  obtain ⟨kP, hkP, -⟩ := className_of_methodNamed hnamed
  have hinitP : kP.init = .initialized := Cond.initialized_spec (findClass_of_methodNamed hnamed) hkP hinit
  obtain ⟨vm₁, X₁, hstep₁⟩ := X.invokestatic hexec hown hlink hnamed hmethM hstatic hkP hinitP hy (g := g) hg (argsL := argsL) (rest := rest) (hlen _ hsigM) hstack hdg
  rcases hK m meth c ⟨T.setVm vm₁, locs, cells, slots⟩ { g with stack := rest } (.invokestatic index) mk argsL.toArray X₁ hg hsize hdg hW (X₁.named hnamed) (hpre vm₁ X₁.warmed) with ⟨v, B, X', hpost, hsteps⟩ | ⟨q, B, X', hpost, hsteps⟩
  · exact Or.inl ⟨v, vm₁, B, X₁.warmed, X', hpost, fun target h => hstep₁ _ fun acts => by rw [doInvoke_state]; exact hsteps.trans h⟩
  · exact Or.inr ⟨q, vm₁, B, X₁.warmed, X', hpost, hstep₁ _ fun acts => by rw [doInvoke_state]; exact hsteps⟩
end Calls
theorem vx_cls {s : State} {T : State} {vm₁ : Vm} {E : String} {k : ClassId} (hW : s.WarmedH vm₁) (h : (T.setVm vm₁).vm.findClass E = some k) : s.vm.findClass E = some k := by
  have h1 : vm₁.findClass E = some k := h
  rw [hW.alike.findClass] at h1
  exact h1
/-- the method's frame g, with q thrown over it -/
def vx_W (p : Program) (l : Launch) (e : Env) (R : Room) (s : State) (m : MethodId) (args : Array Value) (below : List Frame) (meth : Method) (c : Code) (H : Heap) (locs : List Loc) (cells slots : Nat) (Q : State → Prop) (g : JFrame) (q : Addr) : Prop :=
  ∀ T : State, T.heap = H → Stand p l e R s m args below meth c T locs cells slots → ∃ t, Steps p.tables e below ((T.setTop g).pushFrame (.throwing q)) t ∧ Q t
def vx_Run (p : Program) (l : Launch) (e : Env) (R : Room) (s : State) (m : MethodId) (args : Array Value) (below : List Frame) (meth : Method) (c : Code) (H : Heap) (locs : List Loc) (cells slots mc ms : Nat) (g : JFrame) (rest : List Value) (Qa : State → Outcome → State → Prop) (XC : String → State → State → Prop) (free : Addr → Prop) : Prop :=
  ∀ T : State, T.heap = H → Stand p l e R s m args below meth c T locs cells slots →
    (∃ (v : Option Value) (st₀ t T' : State) (L : List Loc), st₀.heap = H ∧ Stand p l e R s m args below meth c T' (locs ++ L) (cells + mc) (slots + ms) ∧ (∀ q ∈ L, free q.base) ∧ T'.heap = t.heap ∧ T'.vm = t.vm ∧ Qa st₀ (.returned v) t ∧
      Goes p e below T g T' { g with pc := g.pc + 3, stack := v.toList ++ rest }) ∨
    (∃ (q : Addr) (st₀ t T' : State) (L : List Loc) (E : String) (ce : Cell), st₀.heap = H ∧ Stand p l e R s m args below meth c T' (locs ++ L) (cells + mc) (slots + ms) ∧ (∀ z ∈ L, free z.base) ∧ T'.heap = t.heap ∧ T'.vm = t.vm ∧ XC E st₀ t ∧ t.heap[q]? = some ce ∧ ce.vm = .none ∧ s.vm.findClass E = some ce.cls ∧
      Steps p.tables e below (T.setTop g) ((T'.setTop { g with stack := rest }).pushFrame (.throwing q)))
def vx_X {S : Type} (px : S → Prop) (B : String → S → State → Prop) (A : Nat → Prop) : String → State → State → Prop := fun E st t => ∃ u : S, px u ∧ B E u t ∧ va_F A st t
section Runs
variable {p : Program} {l : Launch} {e : Env} {R : Room} {s : State} {m : MethodId} {args : Array Value} {below : List Frame} {meth : Method} {c : Code} {H : Heap} {locs : List Loc} {cells slots : Nat}
variable {y : MethodName} {bytes cc : ByteArray} {maxL nL mc ms n index : Nat} {ret : Option FieldType} {ws : List Cond} {rm : Room} {Pc : Array Value → State → Prop} {Qc : Array Value → State → Outcome → State → Prop} {XC : String → State → State → Prop} {free : Addr → Prop} {Ts : List Cond} {own C : String} {b : Addr} {As rest : List Value} {g : JFrame}
theorem vx_callBack (cb : CallB R s args own index y bytes maxL ret ws rm mc ms n) (hM : vx_Met l y ws rm Pc Qc XC mc ms free) (hbl : FrameBlind Pc) : vx_Back l R p e below s args y 3 8 (PreOf R mc ms Pc) (PostOf Qc mc ms free) (vx_Post XC mc ms free) := by
  obtain ⟨hrc, hrs, hfr, hlo, hws, hcw, -, hini, -⟩ := cb
  exact vx_back (bytes := bytes) (maxL := maxL) (ret := ret) hM hbl hrc hrs hfr hlo hws hcw (fun a' U hW => word_at hW (Or.inl (by first | rfl | simp [Cond.onTables, Cond.keeps, Cond.steady])) hini)
theorem vx_runV (S : CallFix p m c cc nL s args Ts own) (hM : vx_Met l y ws rm Pc Qc XC mc ms free) (cw : CallW R s args own C index y bytes maxL ret ws rm mc ms n) (hp : PreV s H C b Pc As)
    (hg : g.method = m) (hn : As.length = n) (hsize : g.locals.size = nL) (hstack : g.stack = As.reverse ++ .ref b :: rest) (hW : 2 * g.monitorRoom + (rest.map fun v => v.category).sum ≤ 8) (hdg : decode cc g.pc = .ok (.invokevirtual index, 3)) (hf : cells + mc ≤ R.cells ∧ slots + ms ≤ R.slots) :
    vx_Run p l e R s m args below meth c H locs cells slots mc ms g rest (Qc (Value.ref b :: As).toArray) XC free := by
  have hK : vx_Back l R p e below s args y 3 8 (PreOf R mc ms Pc) (PostOf Qc mc ms free) (vx_Post XC mc ms free) := vx_callBack cw.1 hM hp.1
  obtain ⟨⟨-, -, -, -, -, -, hcode, -, hy, hlen, hl⟩, hin, hse⟩ := cw
  obtain ⟨hx, hb, hml, ho, -⟩ := S
  obtain ⟨-, ⟨cellB, hcB, hoB, hclB⟩, hPc⟩ := hp
  intro T hT X
  rcases vx_callV X hx (C := C) (bytes := bytes) (maxL := maxL) (ret := ret) ho hl hin hse hcode hy hK (by rw [hT]; exact hcB) hoB hclB hg (hsize.trans hml.symm) (argsL := As) (rest := rest) (fun sig h => hn.trans (hlen sig h)) hstack hW (by rw [hb]; exact hdg)
    (fun vm₁ hW₁ => ⟨hf.1, hf.2, hPc (T.setVm vm₁) hT hW₁⟩) with ⟨v, vm₁, ⟨U', l2, c2, s2⟩, hW₁, X', ⟨g', mk, t, L, e1, e2, hq, h1, hL, h2, h3⟩, st⟩ | ⟨q, vm₁, ⟨U', l2, c2, s2⟩, hW₁, X', ⟨g', mk, t, L, E, ce, e1, e2, hq, hce, hcv, hcl, h1, hL, h2, h3⟩, st⟩
  · dsimp only [Pt.U, Pt.locs, Pt.cells, Pt.slots] at X' e1 e2 h1 h2 h3 st
    subst h1; subst h2; subst h3
    exact Or.inl ⟨v, (T.setVm vm₁).calling g' mk (Value.ref b :: As).toArray, t, U', L, hT, X', hL, e1, e2, hq, st⟩
  · dsimp only [Pt.U, Pt.locs, Pt.cells, Pt.slots] at X' e1 e2 h1 h2 h3 st hcl
    subst h1; subst h2; subst h3
    exact Or.inr ⟨q, (T.setVm vm₁).calling g' mk (Value.ref b :: As).toArray, t, U', L, E, ce, hT, X', hL, e1, e2, hq, hce, hcv, vx_cls hW₁ hcl, st⟩
theorem vx_runS (S : CallFix p m c cc nL s args Ts own) (hM : vx_Met l y ws rm Pc Qc XC mc ms free) (cw : CallB R s args own index y bytes maxL ret ws rm mc ms n ∧ (Cond.static y).before args s = true) (hp : PreS s H Pc As)
    (hg : g.method = m) (hn : As.length = n) (hsize : g.locals.size = nL) (hstack : g.stack = As.reverse ++ rest) (hW : 2 * g.monitorRoom + (rest.map fun v => v.category).sum ≤ 8) (hdg : decode cc g.pc = .ok (.invokestatic index, 3)) (hf : cells + mc ≤ R.cells ∧ slots + ms ≤ R.slots) :
    vx_Run p l e R s m args below meth c H locs cells slots mc ms g rest (Qc As.toArray) XC free := by
  have hK : vx_Back l R p e below s args y 3 8 (PreOf R mc ms Pc) (PostOf Qc mc ms free) (vx_Post XC mc ms free) := vx_callBack cw.1 hM hp.1
  obtain ⟨⟨-, -, -, -, -, -, hcode, hini, hy, hlen, hl⟩, hstt⟩ := cw
  obtain ⟨hx, hb, hml, ho, -⟩ := S
  intro T hT X
  rcases vx_callS X hx (bytes := bytes) (maxL := maxL) (ret := ret) ho hl hstt hini hcode hy hK hg (hsize.trans hml.symm) (argsL := As) (rest := rest) (fun sig h => hn.trans (hlen sig h)) hstack hW (by rw [hb]; exact hdg)
    (fun vm₁ hW₁ => ⟨hf.1, hf.2, hp.2 (T.setVm vm₁) hT hW₁⟩) with ⟨v, vm₁, ⟨U', l2, c2, s2⟩, hW₁, X', ⟨g', mk, t, L, e1, e2, hq, h1, hL, h2, h3⟩, st⟩ | ⟨q, vm₁, ⟨U', l2, c2, s2⟩, hW₁, X', ⟨g', mk, t, L, E, ce, e1, e2, hq, hce, hcv, hcl, h1, hL, h2, h3⟩, st⟩
  · dsimp only [Pt.U, Pt.locs, Pt.cells, Pt.slots] at X' e1 e2 h1 h2 h3 st
    subst h1; subst h2; subst h3
    exact Or.inl ⟨v, (T.setVm vm₁).calling g' mk As.toArray, t, U', L, hT, X', hL, e1, e2, hq, st⟩
  · dsimp only [Pt.U, Pt.locs, Pt.cells, Pt.slots] at X' e1 e2 h1 h2 h3 st hcl
    subst h1; subst h2; subst h3
    exact Or.inr ⟨q, (T.setVm vm₁).calling g' mk As.toArray, t, U', L, E, ce, hT, X', hL, e1, e2, hq, hce, hcv, vx_cls hW₁ hcl, st⟩
end Runs
section Rows
variable {p : Program} {l : Launch} {e : Env} {R : Room} {s : State} {m : MethodId} {args : Array Value} {below : List Frame} {meth : Method} {c : Code} {H : Heap} {locs : List Loc} {cells slots : Nat} {Q : State → Prop}
variable {mc ms : Nat} {free : Addr → Prop} {A0 A1 : Nat → Prop} {H0 : Heap} {a : Array Value} {pc : Nat} {ls : Array Slot} {st0 rest : List Value}
theorem vx_keep {st₀ t T' : State} {L : List Loc} (h0 : st₀.heap = H) (e1 : T'.heap = t.heap) (hS : va_S A0 H0 H locs) (hA : ∀ q, q < H.size → A1 q → A0 q) (hf : ∀ q, free q → A0 q) (hL : ∀ q ∈ L, free q.base) (hF : va_F A1 st₀ t) :
    H.size ≤ T'.heap.size ∧ (∀ q : Nat, q < H.size → ¬ A1 q → T'.heap[q]? = H[q]?) ∧ va_S A0 H0 T'.heap (locs ++ L) := by
  obtain ⟨hz, hk⟩ := hF
  rw [h0] at hz hk
  exact ⟨by rw [e1]; exact hz, fun q h1 h2 => by rw [e1]; exact hk q h1 h2,
    ⟨Nat.le_trans hS.1 (by rw [e1]; exact hz), fun q h1 h2 => by rw [e1, hk q (Nat.lt_of_lt_of_le h1 hS.1) (fun z => h2 (hA q (Nat.lt_of_lt_of_le h1 hS.1) z))]; exact hS.2.1 q h1 h2, fun q hq => by
      rcases List.mem_append.mp hq with h | h
      · exact hS.2.2 q h
      · exact hf _ (hL q h)⟩⟩
theorem vx_calli {S SX : Type} {post : Int32 → S → Prop} {px : SX → Prop} {B : S → State → Prop} {BX : String → SX → State → Prop} {AX : Nat → Prop} (hr : vx_Run p l e R s m args below meth c H locs cells slots mc ms (F0 m pc ls st0) rest (va_Qi post B A1 a) (vx_X px BX AX) free) (hS : va_S A0 H0 H locs) (hA : ∀ q, q < H.size → A1 q → A0 q) (hf : ∀ q, free q → A0 q) (hAX : ∀ q, q < H.size → AX q → A0 q)
    (kx : ∀ (E : String) (ce : Cell) (q9 : Addr) (u : SX) (t : State) (H1 : Heap) (locs1 : List Loc), t.heap = H1 → s.vm.Alike t.vm → px u → BX E u t → H.size ≤ H1.size → (∀ q : Nat, q < H.size → ¬ AX q → H1[q]? = H[q]?) → va_S A0 H0 H1 locs1 → H1[q9]? = some ce → ce.vm = .none → s.vm.findClass E = some ce.cls → vx_W p l e R s m args below meth c H1 locs1 (cells + mc) (slots + ms) Q (F0 m pc ls rest) q9)
    (kk : ∀ (r : Int32) (u : S) (t : State) (H1 : Heap) (locs1 : List Loc), t.heap = H1 → s.vm.Alike t.vm → post r u → B u t → H.size ≤ H1.size → (∀ q : Nat, q < H.size → ¬ A1 q → H1[q]? = H[q]?) → va_S A0 H0 H1 locs1 → W p l e R s m args below meth c H1 locs1 (cells + mc) (slots + ms) Q (F0 m (pc + 3) ls (.int r :: rest))) : W p l e R s m args below meth c H locs cells slots Q (F0 m pc ls st0) := by
  intro T hT X
  rcases hr T hT X with ⟨v, st₀, t, T', L, h0, X', hL, e1, e2, ⟨⟨r, u, hv, hp, hb⟩, hF⟩, st⟩ | ⟨q, st₀, t, T', L, E, ce, h0, X', hL, e1, e2, ⟨u, hp, hb, hF⟩, hce, hcv, hcl, st⟩
  · cases hv
    obtain ⟨k1, k2, k3⟩ := vx_keep h0 e1 hS hA hf hL hF
    obtain ⟨t2, a1, b1⟩ := kk r u t T'.heap (locs ++ L) e1.symm (by rw [← e2]; exact X'.warmed.alike) hp hb k1 k2 k3 T' rfl X'
    exact ⟨t2, st t2 a1, b1⟩
  · obtain ⟨k1, k2, k3⟩ := vx_keep h0 e1 hS hAX hf hL hF
    obtain ⟨t2, a1, b1⟩ := kx E ce q u t T'.heap (locs ++ L) e1.symm (by rw [← e2]; exact X'.warmed.alike) hp hb k1 k2 k3 (by rw [e1]; exact hce) hcv hcl T' rfl X'
    exact ⟨t2, st.trans a1, b1⟩
theorem vx_calll {S SX : Type} {post : Int64 → S → Prop} {px : SX → Prop} {B : S → State → Prop} {BX : String → SX → State → Prop} {AX : Nat → Prop} (hr : vx_Run p l e R s m args below meth c H locs cells slots mc ms (F0 m pc ls st0) rest (va_Ql post B A1 a) (vx_X px BX AX) free) (hS : va_S A0 H0 H locs) (hA : ∀ q, q < H.size → A1 q → A0 q) (hf : ∀ q, free q → A0 q) (hAX : ∀ q, q < H.size → AX q → A0 q)
    (kx : ∀ (E : String) (ce : Cell) (q9 : Addr) (u : SX) (t : State) (H1 : Heap) (locs1 : List Loc), t.heap = H1 → s.vm.Alike t.vm → px u → BX E u t → H.size ≤ H1.size → (∀ q : Nat, q < H.size → ¬ AX q → H1[q]? = H[q]?) → va_S A0 H0 H1 locs1 → H1[q9]? = some ce → ce.vm = .none → s.vm.findClass E = some ce.cls → vx_W p l e R s m args below meth c H1 locs1 (cells + mc) (slots + ms) Q (F0 m pc ls rest) q9)
    (kk : ∀ (r : Int64) (u : S) (t : State) (H1 : Heap) (locs1 : List Loc), t.heap = H1 → s.vm.Alike t.vm → post r u → B u t → H.size ≤ H1.size → (∀ q : Nat, q < H.size → ¬ A1 q → H1[q]? = H[q]?) → va_S A0 H0 H1 locs1 → W p l e R s m args below meth c H1 locs1 (cells + mc) (slots + ms) Q (F0 m (pc + 3) ls (.long r :: rest))) : W p l e R s m args below meth c H locs cells slots Q (F0 m pc ls st0) := by
  intro T hT X
  rcases hr T hT X with ⟨v, st₀, t, T', L, h0, X', hL, e1, e2, ⟨⟨r, u, hv, hp, hb⟩, hF⟩, st⟩ | ⟨q, st₀, t, T', L, E, ce, h0, X', hL, e1, e2, ⟨u, hp, hb, hF⟩, hce, hcv, hcl, st⟩
  · cases hv
    obtain ⟨k1, k2, k3⟩ := vx_keep h0 e1 hS hA hf hL hF
    obtain ⟨t2, a1, b1⟩ := kk r u t T'.heap (locs ++ L) e1.symm (by rw [← e2]; exact X'.warmed.alike) hp hb k1 k2 k3 T' rfl X'
    exact ⟨t2, st t2 a1, b1⟩
  · obtain ⟨k1, k2, k3⟩ := vx_keep h0 e1 hS hAX hf hL hF
    obtain ⟨t2, a1, b1⟩ := kx E ce q u t T'.heap (locs ++ L) e1.symm (by rw [← e2]; exact X'.warmed.alike) hp hb k1 k2 k3 (by rw [e1]; exact hce) hcv hcl T' rfl X'
    exact ⟨t2, st.trans a1, b1⟩
theorem vx_callf {S SX : Type} {post : UInt32 → S → Prop} {px : SX → Prop} {B : S → State → Prop} {BX : String → SX → State → Prop} {AX : Nat → Prop} (hr : vx_Run p l e R s m args below meth c H locs cells slots mc ms (F0 m pc ls st0) rest (va_Qf post B A1 a) (vx_X px BX AX) free) (hS : va_S A0 H0 H locs) (hA : ∀ q, q < H.size → A1 q → A0 q) (hf : ∀ q, free q → A0 q) (hAX : ∀ q, q < H.size → AX q → A0 q)
    (kx : ∀ (E : String) (ce : Cell) (q9 : Addr) (u : SX) (t : State) (H1 : Heap) (locs1 : List Loc), t.heap = H1 → s.vm.Alike t.vm → px u → BX E u t → H.size ≤ H1.size → (∀ q : Nat, q < H.size → ¬ AX q → H1[q]? = H[q]?) → va_S A0 H0 H1 locs1 → H1[q9]? = some ce → ce.vm = .none → s.vm.findClass E = some ce.cls → vx_W p l e R s m args below meth c H1 locs1 (cells + mc) (slots + ms) Q (F0 m pc ls rest) q9)
    (kk : ∀ (r : UInt32) (u : S) (t : State) (H1 : Heap) (locs1 : List Loc), t.heap = H1 → s.vm.Alike t.vm → post r u → B u t → H.size ≤ H1.size → (∀ q : Nat, q < H.size → ¬ A1 q → H1[q]? = H[q]?) → va_S A0 H0 H1 locs1 → W p l e R s m args below meth c H1 locs1 (cells + mc) (slots + ms) Q (F0 m (pc + 3) ls (.float r :: rest))) : W p l e R s m args below meth c H locs cells slots Q (F0 m pc ls st0) := by
  intro T hT X
  rcases hr T hT X with ⟨v, st₀, t, T', L, h0, X', hL, e1, e2, ⟨⟨r, u, hv, hp, hb⟩, hF⟩, st⟩ | ⟨q, st₀, t, T', L, E, ce, h0, X', hL, e1, e2, ⟨u, hp, hb, hF⟩, hce, hcv, hcl, st⟩
  · cases hv
    obtain ⟨k1, k2, k3⟩ := vx_keep h0 e1 hS hA hf hL hF
    obtain ⟨t2, a1, b1⟩ := kk r u t T'.heap (locs ++ L) e1.symm (by rw [← e2]; exact X'.warmed.alike) hp hb k1 k2 k3 T' rfl X'
    exact ⟨t2, st t2 a1, b1⟩
  · obtain ⟨k1, k2, k3⟩ := vx_keep h0 e1 hS hAX hf hL hF
    obtain ⟨t2, a1, b1⟩ := kx E ce q u t T'.heap (locs ++ L) e1.symm (by rw [← e2]; exact X'.warmed.alike) hp hb k1 k2 k3 (by rw [e1]; exact hce) hcv hcl T' rfl X'
    exact ⟨t2, st.trans a1, b1⟩
theorem vx_calld {S SX : Type} {post : UInt64 → S → Prop} {px : SX → Prop} {B : S → State → Prop} {BX : String → SX → State → Prop} {AX : Nat → Prop} (hr : vx_Run p l e R s m args below meth c H locs cells slots mc ms (F0 m pc ls st0) rest (va_Qd post B A1 a) (vx_X px BX AX) free) (hS : va_S A0 H0 H locs) (hA : ∀ q, q < H.size → A1 q → A0 q) (hf : ∀ q, free q → A0 q) (hAX : ∀ q, q < H.size → AX q → A0 q)
    (kx : ∀ (E : String) (ce : Cell) (q9 : Addr) (u : SX) (t : State) (H1 : Heap) (locs1 : List Loc), t.heap = H1 → s.vm.Alike t.vm → px u → BX E u t → H.size ≤ H1.size → (∀ q : Nat, q < H.size → ¬ AX q → H1[q]? = H[q]?) → va_S A0 H0 H1 locs1 → H1[q9]? = some ce → ce.vm = .none → s.vm.findClass E = some ce.cls → vx_W p l e R s m args below meth c H1 locs1 (cells + mc) (slots + ms) Q (F0 m pc ls rest) q9)
    (kk : ∀ (r : UInt64) (u : S) (t : State) (H1 : Heap) (locs1 : List Loc), t.heap = H1 → s.vm.Alike t.vm → post r u → B u t → H.size ≤ H1.size → (∀ q : Nat, q < H.size → ¬ A1 q → H1[q]? = H[q]?) → va_S A0 H0 H1 locs1 → W p l e R s m args below meth c H1 locs1 (cells + mc) (slots + ms) Q (F0 m (pc + 3) ls (.double r :: rest))) : W p l e R s m args below meth c H locs cells slots Q (F0 m pc ls st0) := by
  intro T hT X
  rcases hr T hT X with ⟨v, st₀, t, T', L, h0, X', hL, e1, e2, ⟨⟨r, u, hv, hp, hb⟩, hF⟩, st⟩ | ⟨q, st₀, t, T', L, E, ce, h0, X', hL, e1, e2, ⟨u, hp, hb, hF⟩, hce, hcv, hcl, st⟩
  · cases hv
    obtain ⟨k1, k2, k3⟩ := vx_keep h0 e1 hS hA hf hL hF
    obtain ⟨t2, a1, b1⟩ := kk r u t T'.heap (locs ++ L) e1.symm (by rw [← e2]; exact X'.warmed.alike) hp hb k1 k2 k3 T' rfl X'
    exact ⟨t2, st t2 a1, b1⟩
  · obtain ⟨k1, k2, k3⟩ := vx_keep h0 e1 hS hAX hf hL hF
    obtain ⟨t2, a1, b1⟩ := kx E ce q u t T'.heap (locs ++ L) e1.symm (by rw [← e2]; exact X'.warmed.alike) hp hb k1 k2 k3 (by rw [e1]; exact hce) hcv hcl T' rfl X'
    exact ⟨t2, st.trans a1, b1⟩
theorem vx_callv {S SX : Type} {post : S → Prop} {px : SX → Prop} {B : S → State → Prop} {BX : String → SX → State → Prop} {AX : Nat → Prop} (hr : vx_Run p l e R s m args below meth c H locs cells slots mc ms (F0 m pc ls st0) rest (va_Qv post B A1 a) (vx_X px BX AX) free) (hS : va_S A0 H0 H locs) (hA : ∀ q, q < H.size → A1 q → A0 q) (hf : ∀ q, free q → A0 q) (hAX : ∀ q, q < H.size → AX q → A0 q)
    (kx : ∀ (E : String) (ce : Cell) (q9 : Addr) (u : SX) (t : State) (H1 : Heap) (locs1 : List Loc), t.heap = H1 → s.vm.Alike t.vm → px u → BX E u t → H.size ≤ H1.size → (∀ q : Nat, q < H.size → ¬ AX q → H1[q]? = H[q]?) → va_S A0 H0 H1 locs1 → H1[q9]? = some ce → ce.vm = .none → s.vm.findClass E = some ce.cls → vx_W p l e R s m args below meth c H1 locs1 (cells + mc) (slots + ms) Q (F0 m pc ls rest) q9)
    (kk : ∀ (u : S) (t : State) (H1 : Heap) (locs1 : List Loc), t.heap = H1 → s.vm.Alike t.vm → post u → B u t → H.size ≤ H1.size → (∀ q : Nat, q < H.size → ¬ A1 q → H1[q]? = H[q]?) → va_S A0 H0 H1 locs1 → W p l e R s m args below meth c H1 locs1 (cells + mc) (slots + ms) Q (F0 m (pc + 3) ls (rest))) : W p l e R s m args below meth c H locs cells slots Q (F0 m pc ls st0) := by
  intro T hT X
  rcases hr T hT X with ⟨v, st₀, t, T', L, h0, X', hL, e1, e2, ⟨⟨u, hv, hp, hb⟩, hF⟩, st⟩ | ⟨q, st₀, t, T', L, E, ce, h0, X', hL, e1, e2, ⟨u, hp, hb, hF⟩, hce, hcv, hcl, st⟩
  · cases hv
    obtain ⟨k1, k2, k3⟩ := vx_keep h0 e1 hS hA hf hL hF
    obtain ⟨t2, a1, b1⟩ := kk u t T'.heap (locs ++ L) e1.symm (by rw [← e2]; exact X'.warmed.alike) hp hb k1 k2 k3 T' rfl X'
    exact ⟨t2, st t2 a1, b1⟩
  · obtain ⟨k1, k2, k3⟩ := vx_keep h0 e1 hS hAX hf hL hF
    obtain ⟨t2, a1, b1⟩ := kx E ce q u t T'.heap (locs ++ L) e1.symm (by rw [← e2]; exact X'.warmed.alike) hp hb k1 k2 k3 (by rw [e1]; exact hce) hcv hcl T' rfl X'
    exact ⟨t2, st.trans a1, b1⟩
/-- caught by the row x of this method's table; the rows ahead don't take it -/
theorem vx_catch {own name : String} {E : String} {ce : Cell} {q : Addr} (hown : s.vm.findClass own = some m.cls) (pre : List ExceptionTableEntry) (x : ExceptionTableEntry) (suf : List ExceptionTableEntry) (hsplit : c.exceptionTable.toList = pre ++ x :: suf)
    (hpass : ∀ z ∈ pre, covers z pc = false ∨ (z.catchType ≠ 0 ∧ ∃ nm : String, (Cond.classLink own z.catchType nm).before args s = true ∧ va_Nc E nm s)) (hx : covers x pc = true) (h0 : x.catchType ≠ 0)
    (hlink : (Cond.classLink own x.catchType name).before args s = true) (hcast : (Cond.castable E name).before args s = true) (hcell : H[q]? = some ce) (hv : ce.vm = .none) (hcl : s.vm.findClass E = some ce.cls)
    (kk : W p l e R s m args below meth c H locs cells slots Q (F0 m x.handlerPc ls [.ref q])) : vx_W p l e R s m args below meth c H locs cells slots Q (F0 m pc ls rest) q := by
  intro T hT X
  have hpl : e.platform.magicAccessors = ({} : Platform).magicAccessors := by rw [X.admits.platform]
  obtain ⟨c3, c4, hc3, hc4, hasg⟩ := Cond.castable_spec hcast
  cases Option.some.inj (hc3.symm.trans hcl)
  obtain ⟨c5, hc5, hcl5⟩ := Cond.classLink_spec hown hlink e.platform hpl
  cases Option.some.inj (hc4.symm.trans hc5)
  obtain ⟨vm', X', st⟩ := X.thenCaughtThrough q (g := F0 m pc ls rest) rfl (Steps.refl _) (by rw [hT]; exact hcell) (by rw [hv]; rfl) (by obtain ⟨k9, h9, -⟩ := Vm.findClass_spec hcl; exact ⟨k9, h9⟩) pre x suf hsplit
    (fun z hz => by
      rcases hpass z hz with h | ⟨hz0, nm, hl1, hn1⟩
      · exact Or.inl h
      · obtain ⟨c6, hc6, hcl6⟩ := Cond.classLink_spec hown hl1 e.platform hpl
        obtain ⟨a8, b8, h1, h2, h3⟩ := hn1
        cases Option.some.inj (h1.symm.trans hcl)
        cases Option.some.inj (h2.symm.trans hc6)
        exact Or.inr ⟨hz0, _, hcl6, h3⟩) hx (Or.inr ⟨h0, c4, hcl5, hasg⟩)
  obtain ⟨t, a1, b1⟩ := kk (T.setVm vm') hT X'
  exact ⟨t, st.trans a1, b1⟩
end Rows
section Ends
variable {p : Program} {l : Launch} {e : Env} {R : Room} {s : State} {m : MethodId} {args : Array Value} {below : List Frame} {meth : Method} {c : Code} {H : Heap} {locs : List Loc} {cells slots : Nat} {Q : State → Prop}
variable {mc ms : Nat} {free : Addr → Prop} {A0 A1 : Nat → Prop} {H0 : Heap} {a : Array Value} {ls : Array Slot} {st0 rest : List Value}
variable {Qc : Array Value → State → Outcome → State → Prop} {XC : String → State → State → Prop}
/-- what a body that may throw owes at its end -/
def vx_MQ (below : List Frame) (Qc : Array Value → State → Outcome → State → Prop) (XC : String → State → State → Prop) (a : Array Value) (s : State) (mc ms : Nat) (free : Addr → Prop) : State → Prop := fun t =>
  ∃ o, t.status = .running ∧ Ended t below o ∧ vx_Q Qc XC mc ms free a s o t
theorem vx_ret {g : JFrame} {mc ms : Nat} (k : W p l e R s m args below meth c H locs cells slots (MQ below Qc args s mc ms free) g) : W p l e R s m args below meth c H locs cells slots (vx_MQ below Qc XC args s mc ms free) g := by
  intro T hT X
  obtain ⟨t, a1, o, b1, b2, b3, b4⟩ := k T hT X
  exact ⟨t, a1, o, b1, b2, Or.inl ⟨b3, b4⟩⟩
/-- not caught here: it goes on to the caller -/
theorem vx_widen {g : JFrame} {q : Addr} {k n : Nat} (h1 : cells ≤ k) (h2 : slots ≤ n) (kk : vx_W p l e R s m args below meth c H locs k n Q g q) : vx_W p l e R s m args below meth c H locs cells slots Q g q := fun T hT X => kk T hT (stand_widen X h1 h2)
theorem vx_out {pc : Nat} {E : String} {ce : Cell} {q : Addr} {mc ms : Nat} (hout : ∀ x ∈ c.exceptionTable.toList, covers x pc = false) (hlocks : meth.locks = false) (hcell : H[q]? = some ce) (hv : ce.vm = .none) (hcl : s.vm.findClass E = some ce.cls)
    (hx : ∀ t : State, t.heap = H → s.vm.Alike t.vm → XC E s t) (hf : ∀ z ∈ locs, free z.base) (hc : cells ≤ mc) (hs : slots ≤ ms) :
    vx_W p l e R s m args below meth c H locs cells slots (vx_MQ below Qc XC args s mc ms free) (F0 m pc ls rest) q := by
  intro T hT X
  obtain ⟨st1, hrun, hend, hW, hsm⟩ := X.leaveThrown q (g := F0 m pc ls rest) rfl rfl rfl hout hlocks
  have hcell9 : (T.setFrames (.throwing q :: below)).heap[q]? = some ce := by
    show T.heap[q]? = some ce
    rw [hT]; exact hcell
  exact ⟨_, st1, .threw q, hrun, hend, Or.inr ⟨q, rfl, E, ce, locs, hx _ hT hW.alike, hcell9, hv, hcl, hW, hsm.mono hc hs, hf⟩⟩
theorem vx_frame {U : State} {k n : Nat} (h : s.sameButNew ({ U with vm := s.vm } : State) locs k n) : s.heap.size ≤ U.heap.size ∧ ∀ q : Nat, q < s.heap.size → (∀ z ∈ locs, z.base ≠ q) → U.heap[q]? = s.heap[q]? := by
  obtain ⟨-, h2, -, -, -, h6⟩ := h
  refine ⟨h2, fun q hq hz => ?_⟩
  obtain ⟨c9, e1, e2, e3, e4⟩ := h6 q _ (Array.getElem?_eq_getElem hq)
  have hs : c9.slots = (s.heap[q]).slots := Array.ext_getElem? fun i => e4 i fun hm => hz _ hm rfl
  have h9 : c9 = s.heap[q] := by
    rw [hs] at e2
    exact e2
  have e5 : U.heap[q]? = some c9 := e1
  rw [e5, h9, Array.getElem?_eq_getElem hq]
/-- the words of a throw but the four that speak of the heap -/
def vx_no (w : Cond) : Bool := decide (w ≠ .isRef (.static Bundle.tN "UNASSIGNED_STACK" Bundle.steD)) && decide (w ≠ .isRef (.static Bundle.tN "SUPPRESSED_SENTINEL" Bundle.listD)) && decide (w ≠ .laysStatic Bundle.tN "UNASSIGNED_STACK" Bundle.steD) && decide (w ≠ .laysStatic Bundle.tN "SUPPRESSED_SENTINEL" Bundle.listD)
def vx_at0 (own : String) (ic : Nat) (X : String) (names : List String) : List Cond := (Bundle.ownAtoms0 own ic X names).filter vx_no
def vx_atS (own : String) (ic : Nat) (X : String) (names : List String) : List Cond := (Bundle.ownAtoms own ic X names).filter vx_no
/-- a word that the tables alone decide, or a good one -/
def vx_ot (w : Cond) : Bool := w.onTables || goodWord w
theorem vx_ot_at {args a' : Array Value} {s U : State} {w : Cond} (hW : s.WarmedH U.vm) (hvm : s.vm = U.vm) (hg : vx_ot w = true) (h : w.before args s = true) : w.before a' U = true := by
  simp only [vx_ot, Bool.or_eq_true] at hg
  rcases hg with hg | hg
  · exact va_tabs hg hvm h
  · exact word_at hW (good_of_word hg) h
/-- a list's words: the good ones out of the method's own list, the others by premises of their own -/
theorem vx_hat {args : Array Value} {s : State} {L B : List Cond} (h1 : ∀ w ∈ L.filter goodWord, w.before args s = true) (h2 : ∀ w ∈ L.filter (fun w => !goodWord w), w ∈ B) (h3 : ∀ w ∈ B, w.before args s = true) : ∀ w ∈ L, w.before args s = true := by
  intro w hw
  by_cases g : goodWord w = true
  · exact h1 w (List.mem_filter.mpr ⟨hw, g⟩)
  · refine h3 w (h2 w (List.mem_filter.mpr ⟨hw, ?_⟩))
    show (!goodWord w) = true
    cases hgw : goodWord w
    · rfl
    · exact absurd hgw g
theorem vx_c {args : Array Value} {s : State} {w : Cond} {B : List Cond} (h : w.before args s = true) (t : ∀ w ∈ B, w.before args s = true) : ∀ w' ∈ w :: B, w'.before args s = true := fun w' h' => (List.mem_cons.mp h').elim (fun e => by rw [e]; exact h) (t w')
theorem vx_n {args : Array Value} {s : State} : ∀ w ∈ ([] : List Cond), w.before args s = true := fun _ h => nomatch h
theorem vx_own {args : Array Value} {s : State} {L : List Cond} (h1 : ∀ w ∈ L.filter vx_no, w.before args s = true)
    (hU : (Cond.isRef (.static Bundle.tN "UNASSIGNED_STACK" Bundle.steD)).before args s = true) (hN : (Cond.isRef (.static Bundle.tN "SUPPRESSED_SENTINEL" Bundle.listD)).before args s = true)
    (lU : (Cond.laysStatic Bundle.tN "UNASSIGNED_STACK" Bundle.steD).before args s = true) (lN : (Cond.laysStatic Bundle.tN "SUPPRESSED_SENTINEL" Bundle.listD).before args s = true) : ∀ w ∈ L, w.before args s = true := by
  intro w hw
  by_cases e1 : w = .isRef (.static Bundle.tN "UNASSIGNED_STACK" Bundle.steD)
  · rw [e1]; exact hU
  · by_cases e2 : w = .isRef (.static Bundle.tN "SUPPRESSED_SENTINEL" Bundle.listD)
    · rw [e2]; exact hN
    · by_cases e3 : w = .laysStatic Bundle.tN "UNASSIGNED_STACK" Bundle.steD
      · rw [e3]; exact lU
      · by_cases e4 : w = .laysStatic Bundle.tN "SUPPRESSED_SENTINEL" Bundle.listD
        · rw [e4]; exact lN
        · exact h1 w (List.mem_filter.mpr ⟨hw, by unfold vx_no; rw [decide_eq_true e1, decide_eq_true e2, decide_eq_true e3, decide_eq_true e4]; rfl⟩)
/-- where a static field lies, its class's statics cell in H -/
def vx_L (C n d : String) (A : Nat → Prop) (U : State) (H : Heap) : Prop := ∃ (c : ClassId) (k : Class) (i : Nat) (f : Field) (a : Nat) (cell : Cell), U.vm.findClass C = some c ∧ U.fieldFound? C n d = some (c, k, i, f) ∧ f.isStatic = true ∧ k.statics = some a ∧ H[a]? = some cell ∧ cell.vm.isStatics = true ∧ cell.cls = c ∧ f.slot < cell.slots.size ∧ k.staticTypes[f.slot]? = some f.type ∧ ¬ A a
theorem vx_L.moved {C n d : String} {A : Nat → Prop} {u U : State} {H : Heap} (hvm : u.vm.Alike U.vm) (h : vx_L C n d A u H) : vx_L C n d A U H := by
  obtain ⟨c, k, i, f, a, cell, h1, h2, h3, h4, h5, h6, h7, h8, h9, h10⟩ := h
  obtain ⟨k', hi', he⟩ := State.fieldFound?_setVm hvm h2
  exact ⟨c, k', i, f, a, cell, by rw [hvm.findClass]; exact h1, hi', h3, by rw [he]; exact h4, h5, h6, h7, h8, by rw [he]; exact h9, h10⟩
theorem vx_L.kept {C n d : String} {A : Nat → Prop} {U : State} {H H1 : Heap} (h : vx_L C n d A U H) (hq : ∀ a : Nat, a < H.size → ¬ A a → H1[a]? = H[a]?) : vx_L C n d A U H1 := by
  obtain ⟨c, k, i, f, a, cell, h1, h2, h3, h4, h5, h6, h7, h8, h9, h10⟩ := h
  exact ⟨c, k, i, f, a, cell, h1, h2, h3, h4, by rw [hq a (Array.getElem?_eq_some_iff.mp h5).1 h10]; exact h5, h6, h7, h8, h9, h10⟩
theorem vx_L.narrow {C n d : String} {A B : Nat → Prop} {U : State} {H : Heap} (h : vx_L C n d A U H) (hAB : ∀ q, B q → A q) : vx_L C n d B U H := by
  obtain ⟨c, k, i, f, a, cell, h1, h2, h3, h4, h5, h6, h7, h8, h9, h10⟩ := h
  exact ⟨c, k, i, f, a, cell, h1, h2, h3, h4, h5, h6, h7, h8, h9, fun z => h10 (hAB _ z)⟩
theorem vx_L.word {C n d : String} {A : Nat → Prop} {s : State} {args : Array Value} (h : vx_L C n d A s s.heap) : (Cond.laysStatic C n d).before args s = true := by
  obtain ⟨c, k, i, f, a, cell, h1, h2, h3, h4, h5, h6, h7, h8, h9, -⟩ := h
  show (Cond.laysStatic C n d).holds args s none s [] = true
  exact Cond.laysStatic_of h1 h2 h3 h4 h5 h6 h7 h8 h9
/-- .. and what it holds: null or some reference -/
def vx_Zq (C n d : String) (A : Nat → Prop) (U : State) (H : Heap) : Prop := va_Zq C n d A U H ∧ vx_L C n d A U H
theorem vx_Zq.moved {C n d : String} {A : Nat → Prop} {u U : State} {H : Heap} (hvm : u.vm.Alike U.vm) (h : vx_Zq C n d A u H) : vx_Zq C n d A U H := ⟨va_Zq.moved hvm h.1, vx_L.moved hvm h.2⟩
theorem vx_Zq.kept {C n d : String} {A : Nat → Prop} {U : State} {H H1 : Heap} (h : vx_Zq C n d A U H) (hq : ∀ a : Nat, a < H.size → ¬ A a → H1[a]? = H[a]?) : vx_Zq C n d A U H1 := ⟨va_Zq.kept h.1 hq, vx_L.kept h.2 hq⟩
theorem vx_Zq.narrow {C n d : String} {A B : Nat → Prop} {U : State} {H : Heap} (h : vx_Zq C n d A U H) (hAB : ∀ q, B q → A q) : vx_Zq C n d B U H := ⟨va_Zq.narrow h.1 hAB, vx_L.narrow h.2 hAB⟩
theorem vx_Zqof {args : Array Value} {s : State} {C n d : String} {A : Nat → Prop} (hl : (Cond.laysStatic C n d).before args s = true) (hini : (Cond.initialized C).before args s = true) (h : (Cond.isRef (.static C n d)).before args s = true) (hA : ∀ a : Nat, a < s.heap.size → ¬ A a) : vx_Zq C n d A s s.heap := by
  refine ⟨va_Zqof hl hini h hA, ?_⟩
  obtain ⟨c, k, i, f, a, cell, h1, h2, h3, h4, h5, h6, h7, h8, h9⟩ := Cond.laysStatic_spec hl
  exact ⟨c, k, i, f, a, cell, h1, h2, h3, h4, h5, h6, h7, h8, h9, hA a (Array.getElem?_eq_some_iff.mp h5).1⟩
theorem vx_isRef {C n d : String} {v : Value} {A : Nat → Prop} {s : State} {args : Array Value} (h : va_Z C n d v A s s.heap) (hv : v.isRef = true) : (Cond.isRef (.static C n d)).before args s = true := by
  obtain ⟨cf, kf, fi, f, a, cell, h1, h2, h3, h4, h5, h6, h7, -⟩ := h
  have he : (Term.static C n d).eval args s none [] s = some v := by
    simp [Term.eval, State.fieldNamed?, h1, h2, h4, h5, h6, h7]
  simp only [Cond.before, Cond.holds, Cond.value, he]
  cases v <;> simp_all [Value.isRef]
theorem vx_isRefq {C n d : String} {A : Nat → Prop} {s : State} {args : Array Value} (h : va_Zq C n d A s s.heap) : (Cond.isRef (.static C n d)).before args s = true := by
  rcases h with h | ⟨t, h⟩
  · exact vx_isRef h rfl
  · exact vx_isRef h rfl
/-- the same frame, seen from here: as if the method were called anew in this heap -/
theorem vx_rebase {T : State} (X : Stand p l e R s m args below meth c T locs cells slots) {R' : Room} (hf : R'.frames ≤ R.frames) (hl : R'.locals ≤ R.locals) (hc : cells + R'.cells ≤ R.cells) (hs : slots + R'.slots ≤ R.slots) :
    Stand p l e R' ((T.setVm s.vm).setFrames (.invoking m args :: below)) m args below meth c T [] 0 0 := by
  have htop : (T.setVm s.vm).topJava?.isSome := X.here.top
  have hF : ((T.setVm s.vm).setFrames (.invoking m args :: below)).frames = .invoking m args :: below := State.frames_setFrames _ (State.cur_lt_of_top htop)
  obtain ⟨g₀, hg0⟩ := Option.isSome_iff_exists.mp htop
  obtain ⟨r, hr⟩ := State.topJava?_eq_some.mp hg0
  have hl9 : e.platform.stackLimits (T.setVm s.vm).me = e.platform.stackLimits s.me := X.limits
  have hb9 : (T.setVm s.vm).me.stackBytes = s.me.stackBytes := X.bytes
  refine ⟨X.admits, X.cas, X.clock, hF, ?_, X.hears, X.method, X.code, X.here, X.tail, X.warmed, ?_, ?_, ?_⟩
  · have h := X.room
    have hU : ((T.setVm s.vm).setFrames (.invoking m args :: below)).localsInUse = s.localsInUse := by
      rw [State.localsInUse_invoking hF (meth := meth) (c := c) X.method X.code, State.localsInUse_invoking X.frames X.method X.code]
    simp only [State.hasRoom, Bool.and_eq_true, decide_eq_true_eq] at h ⊢
    obtain ⟨⟨⟨⟨h1, h2, h3, h4, h5, h6⟩, h7⟩, h8⟩, h9⟩ := h
    rw [X.frames, List.length_cons] at h2 h3
    have q1 := X.heapSize
    have q2 := X.used
    simp only [hF, hU, List.length_cons, State.stackLimits_setFrames, State.stackBytes_setFrames, hl9, hb9]
    refine ⟨⟨⟨⟨by omega, by omega, by omega, by omega, by omega, h6⟩, ?_⟩, ?_⟩, X.book⟩
    · show T.heap.size + R'.cells ≤ e.platform.maxCells
      omega
    · show T.slotsUsed + R'.slots ≤ e.platform.maxSlots
      omega
  · rw [State.stackLimits_setFrames]; rfl
  · rw [State.stackBytes_setFrames]; rfl
  · refine ⟨?_, Nat.le_refl _, Nat.le_refl _, ?_, ?_, fun a c9 h9 => ⟨c9, h9, rfl, rfl, fun _ _ => rfl⟩⟩
    · obtain ⟨t, ht, -⟩ := State.frames_cons hr
      show T.setVm s.vm = { ((T.setVm s.vm).setFrames (.invoking m args :: below)).setFrames (T.setVm s.vm).frames with heap := T.heap, slotsUsed := T.slotsUsed }
      rw [State.setFrames_setFrames, State.setFrames_self ht]
      rfl
    · show T.slotsUsed = T.slotsUsed + ((T.heap.toList.drop T.heap.size).map (·.slots.size)).sum
      rw [List.drop_eq_nil_of_le (Nat.le_of_eq Array.length_toList)]
      rfl
    · show ((T.heap.toList.drop T.heap.size).map (·.slots.size)).sum ≤ 0
      rw [List.drop_eq_nil_of_le (Nat.le_of_eq Array.length_toList)]
      exact Nat.le_refl _
/-- 'throw new E()': new; dup; invokespecial; athrow -/
theorem vx_throw0 {cc : ByteArray} {pc : Nat} (hexec : p.tables.exec = Jvm.exec) (hb : c.code = cc) (hl : l.stackTraces = false) {own cls : String} {names : List String} {ik ic mc ms : Nat} {A : Nat → Prop}
    (hown : s.vm.findClass own = some m.cls) (hcls : Bundle.fit cls = true) (hnames : ∀ n ∈ names, Bundle.fit n = true)
    (hk : (Cond.classLink own ik cls).before args s = true) (hini : (Cond.initialized cls).before args s = true) (hat : ∀ w ∈ vx_at0 own ic cls names, w.before args s = true)
    (hgood : ∀ w ∈ Cond.classLink own ik cls :: Cond.initialized cls :: vx_at0 own ic cls names, vx_ot w = true)
    (hU : vx_Zq Bundle.tN "UNASSIGNED_STACK" Bundle.steD A s s.heap) (hN : vx_Zq Bundle.tN "SUPPRESSED_SENTINEL" Bundle.listD A s s.heap) (hS : va_S A s.heap H locs) (hsize : ls.size = c.maxLocals)
    (d0 : decode cc pc = .ok (.new ik, 3)) (d3 : decode cc (pc + 3) = .ok (.dup, 1)) (d4 : decode cc (pc + 4) = .ok (.invokespecial ic, 3)) (d7 : decode cc (pc + 7) = .ok (.athrow, 1))
    (hout : ∀ x ∈ c.exceptionTable.toList, covers x (pc + 7) = false)
    (hRframes : names.length + 3 < R.frames) (hRlocals : (rest.map fun v => v.category).sum + (13 * (names.length + 1) + 42) ≤ R.locals) (hRcells : cells + 1 ≤ R.cells) (hRslots : slots + 6 ≤ R.slots) (hlocks : meth.locks = false)
    (hx : ∀ t : State, s.vm.Alike t.vm → H.size ≤ t.heap.size → (∀ q : Nat, q < H.size → t.heap[q]? = H[q]?) → XC cls s t)
    (hf : ∀ z ∈ locs, free z.base) (hc : cells + 1 ≤ mc) (hs : slots + 6 ≤ ms) :
    W p l e R s m args below meth c H locs cells slots (vx_MQ below Qc XC args s mc ms free) (F0 m pc ls rest) := by
  intro T hT X
  have htr : e.platform.stackTraces = false := (show e.platform.stackTraces = l.stackTraces by rw [X.admits.platform]).trans hl
  have Y := vx_rebase X (R' := { frames := R.frames, locals := R.locals, cells := 1, slots := 6 }) (Nat.le_refl _) (Nat.le_refl _) hRcells hRslots
  obtain ⟨s', hA⟩ : ∃ z, z = (T.setVm s.vm).setFrames (.invoking m args :: below) := ⟨_, rfl⟩
  rw [← hA] at Y
  have hvm : s'.vm = s.vm := by rw [hA]; rfl
  have hhp : s'.heap = H := by rw [hA]; exact hT
  have hW0 : s.WarmedH s'.vm := by rw [hvm]; exact State.WarmedH.refl s
  have hat' : ∀ w ∈ vx_at0 own ic cls names, w.before args s' = true := fun w hw => vx_ot_at hW0 hvm.symm (hgood w (List.mem_cons_of_mem _ (List.mem_cons_of_mem _ hw))) (hat w hw)
  have hk' : (Cond.classLink own ik cls).before args s' = true := vx_ot_at hW0 hvm.symm (hgood _ List.mem_cons_self) hk
  have hini' : (Cond.initialized cls).before args s' = true := vx_ot_at hW0 hvm.symm (hgood _ (List.mem_cons_of_mem _ List.mem_cons_self)) hini
  have hU' : vx_Zq Bundle.tN "UNASSIGNED_STACK" Bundle.steD A s' s'.heap := by rw [hhp]; exact vx_Zq.moved hW0.alike (hU.kept hS.2.1)
  have hN' : vx_Zq Bundle.tN "SUPPRESSED_SENTINEL" Bundle.listD A s' s'.heap := by rw [hhp]; exact vx_Zq.moved hW0.alike (hN.kept hS.2.1)
  have h : ∀ w ∈ Bundle.ownAtoms0 own ic cls names, w.before args s' = true := vx_own hat' (vx_isRefq hU'.1) (vx_isRefq hN'.1) hU'.2.word hN'.2.word
  have hown' : s'.vm.findClass own = some m.cls := by rw [hvm]; exact hown
  have hins : (Cond.instantiable cls 6).before args s' = true := h _ (by simp [Bundle.ownAtoms0])
  obtain ⟨vm₁, cX, kX, hfX, hkX, -, -, X₁, st1⟩ := Y.newCold hexec (own := own) (C := cls) (index := ik) (n := 6) hown' hk' hins hini'
    (g := F0 m pc ls rest) rfl (by rw [hb]; exact d0) (Nat.le_refl _) (Nat.le_refl _)
  generalize hT1 : (T.setVm vm₁).pushCell { cls := cX, slots := kX.instanceTypes.map defaultValue, vm := .none } = T1 at X₁ st1
  have hcat : (Value.ref T.heap.size).category = 1 := rfl
  have hcellA : T1.heap[T.heap.size]? = some (freshCell cX kX) := by rw [← hT1]; exact State.heap_pushCell_size _ _
  have d3' : decode c.code (pc + 3) = .ok (.dup, 1) := by rw [hb]; exact d3
  obtain ⟨U, hsteps, hrun, hend, hW, hsame, ce, hce, hO⟩ := X₁.ctorThrow0 hexec htr (own := own) (cls := cls) (names := names) (ic := ic) hown' hcls hnames h (fun x hx => nomatch hx) hfX hkX hcellA (by rw [hhp, hT]; exact Nat.le_refl _)
    (g := { method := m, pc := pc + 4, locals := ls, stack := .ref T.heap.size :: .ref T.heap.size :: rest, locked := none }) rfl hsize rfl rfl (rest := rest) rfl
    (by rw [hb]; exact d4) (by rw [hb]; exact d7) hout hRframes (by simp only [List.map_cons, List.sum_cons, hcat]; omega) hlocks
  obtain ⟨f1, f2⟩ := vx_frame hsame
  rw [hhp] at f1 f2
  have hWs : s.WarmedH U.vm := State.WarmedH.trans hW0 hW
  have hcl : s.vm.findClass cls = some ce.cls := by
    have h9 := hO.cls
    rw [hvm] at h9
    exact h9
  have hall : s.sameButNew ({ U with vm := s.vm } : State) locs mc ms := by
    subst hA
    obtain ⟨e1, e2⟩ := hsame
    rw [State.setFrames_setFrames] at e1
    have h2 : (T.setVm s.vm).sameButNew ({ U with vm := s.vm } : State) [] (0 + 1) (0 + 6) := ⟨e1, e2⟩
    have h3 := X.same.trans h2
    rw [List.append_nil] at h3
    exact h3.mono hc hs
  refine ⟨U, ?_, .threw T.heap.size, hrun, hend, Or.inr ⟨T.heap.size, rfl, cls, ce, locs, hx U hWs.alike f1 (fun q hq => f2 q hq (fun z hz => nomatch hz)), hce, hO.vm, hcl, hWs, hall, hf⟩⟩
  refine st1 _ ?_
  show Steps p.tables e below (T1.setTop { method := m, pc := pc + 3, locals := ls, stack := .ref T.heap.size :: rest, locked := none }) _
  jvm_step X₁.here [X₁.here.top, hexec, d3', Value.category]
  exact hsteps
/-- 'throw new E("text")': new; dup; ldc; invokespecial; athrow -/
theorem vx_throwS {cc : ByteArray} {pc : Nat} (hexec : p.tables.exec = Jvm.exec) (hb : c.code = cc) (hl : l.stackTraces = false) {own cls text : String} {names : List String} {ik is ic mc ms sa : Nat} {A : Nat → Prop}
    (hown : s.vm.findClass own = some m.cls) (hcls : Bundle.fit cls = true) (hnames : ∀ n ∈ names, Bundle.fit n = true)
    (hk : (Cond.classLink own ik cls).before args s = true) (hini : (Cond.initialized cls).before args s = true) (hstr : vk_R own is text sa s) (hat : ∀ w ∈ vx_atS own ic cls names, w.before args s = true)
    (hgood : ∀ w ∈ Cond.classLink own ik cls :: Cond.initialized cls :: vx_atS own ic cls names, vx_ot w = true)
    (hU : vx_Zq Bundle.tN "UNASSIGNED_STACK" Bundle.steD A s s.heap) (hN : vx_Zq Bundle.tN "SUPPRESSED_SENTINEL" Bundle.listD A s s.heap) (hS : va_S A s.heap H locs) (hsize : ls.size = c.maxLocals)
    (d0 : decode cc pc = .ok (.new ik, 3)) (d3 : decode cc (pc + 3) = .ok (.dup, 1)) (d4 : decode cc (pc + 4) = .ok (.ldc is, 2)) (d6 : decode cc (pc + 6) = .ok (.invokespecial ic, 3)) (d9 : decode cc (pc + 9) = .ok (.athrow, 1))
    (hout : ∀ x ∈ c.exceptionTable.toList, covers x (pc + 9) = false)
    (hRframes : names.length + 3 < R.frames) (hRlocals : (rest.map fun v => v.category).sum + (13 * (names.length + 1) + 43) ≤ R.locals) (hRcells : cells + 1 ≤ R.cells) (hRslots : slots + 6 ≤ R.slots) (hlocks : meth.locks = false)
    (hx : ∀ t : State, s.vm.Alike t.vm → H.size ≤ t.heap.size → (∀ q : Nat, q < H.size → t.heap[q]? = H[q]?) → XC cls s t)
    (hf : ∀ z ∈ locs, free z.base) (hc : cells + 1 ≤ mc) (hs : slots + 6 ≤ ms) :
    W p l e R s m args below meth c H locs cells slots (vx_MQ below Qc XC args s mc ms free) (F0 m pc ls rest) := by
  intro T hT X
  have htr : e.platform.stackTraces = false := (show e.platform.stackTraces = l.stackTraces by rw [X.admits.platform]).trans hl
  have Y := vx_rebase X (R' := { frames := R.frames, locals := R.locals, cells := 1, slots := 6 }) (Nat.le_refl _) (Nat.le_refl _) hRcells hRslots
  obtain ⟨s', hA⟩ : ∃ z, z = (T.setVm s.vm).setFrames (.invoking m args :: below) := ⟨_, rfl⟩
  rw [← hA] at Y
  have hvm : s'.vm = s.vm := by rw [hA]; rfl
  have hhp : s'.heap = H := by rw [hA]; exact hT
  have hW0 : s.WarmedH s'.vm := by rw [hvm]; exact State.WarmedH.refl s
  have hat' : ∀ w ∈ vx_atS own ic cls names, w.before args s' = true := fun w hw => vx_ot_at hW0 hvm.symm (hgood w (List.mem_cons_of_mem _ (List.mem_cons_of_mem _ hw))) (hat w hw)
  have hk' : (Cond.classLink own ik cls).before args s' = true := vx_ot_at hW0 hvm.symm (hgood _ List.mem_cons_self) hk
  have hini' : (Cond.initialized cls).before args s' = true := vx_ot_at hW0 hvm.symm (hgood _ (List.mem_cons_of_mem _ List.mem_cons_self)) hini
  have hU' : vx_Zq Bundle.tN "UNASSIGNED_STACK" Bundle.steD A s' s'.heap := by rw [hhp]; exact vx_Zq.moved hW0.alike (hU.kept hS.2.1)
  have hN' : vx_Zq Bundle.tN "SUPPRESSED_SENTINEL" Bundle.listD A s' s'.heap := by rw [hhp]; exact vx_Zq.moved hW0.alike (hN.kept hS.2.1)
  have h : ∀ w ∈ Bundle.ownAtoms own ic cls names, w.before args s' = true := vx_own hat' (vx_isRefq hU'.1) (vx_isRefq hN'.1) hU'.2.word hN'.2.word
  have hown' : s'.vm.findClass own = some m.cls := by rw [hvm]; exact hown
  have hins : (Cond.instantiable cls 6).before args s' = true := h _ (by simp [Bundle.ownAtoms])
  obtain ⟨vm₁, cX, kX, hfX, hkX, -, -, X₁, st1⟩ := Y.newCold hexec (own := own) (C := cls) (index := ik) (n := 6) hown' hk' hins hini'
    (g := F0 m pc ls rest) rfl (by rw [hb]; exact d0) (Nat.le_refl _) (Nat.le_refl _)
  generalize hT1 : (T.setVm vm₁).pushCell { cls := cX, slots := kX.instanceTypes.map defaultValue, vm := .none } = T1 at X₁ st1
  have hcat : (Value.ref T.heap.size).category = 1 := rfl
  have hcellA : T1.heap[T.heap.size]? = some (freshCell cX kX) := by rw [← hT1]; exact State.heap_pushCell_size _ _
  have d3' : decode c.code (pc + 3) = .ok (.dup, 1) := by rw [hb]; exact d3
  have d4' : decode c.code (pc + 4) = .ok (.ldc is, 2) := by rw [hb]; exact d4
  have hstr' : vk_R own is text sa s' := vk_R.warm hW0 hstr
  obtain ⟨U, hsteps, hrun, hend, hW, hsame, ce, hce, hO⟩ := X₁.ctorThrowS hexec htr (own := own) (cls := cls) (names := names) (ic := ic) hown' hcls hnames h (fun x hx => nomatch hx) hfX hkX hcellA (by rw [hhp, hT]; exact Nat.le_refl _) (msg := .ref sa) rfl
    (g := { method := m, pc := pc + 6, locals := ls, stack := .ref sa :: .ref T.heap.size :: .ref T.heap.size :: rest, locked := none }) rfl hsize rfl rfl (rest := rest) rfl
    (by rw [hb]; exact d6) (by rw [hb]; exact d9) hout hRframes (by simp only [List.map_cons, List.sum_cons, hcat]; omega) hlocks
  obtain ⟨f1, f2⟩ := vx_frame hsame
  rw [hhp] at f1 f2
  have hWs : s.WarmedH U.vm := State.WarmedH.trans hW0 hW
  have hcl : s.vm.findClass cls = some ce.cls := by
    have h9 := hO.cls
    rw [hvm] at h9
    exact h9
  have hall : s.sameButNew ({ U with vm := s.vm } : State) locs mc ms := by
    subst hA
    obtain ⟨e1, e2⟩ := hsame
    rw [State.setFrames_setFrames] at e1
    have h2 : (T.setVm s.vm).sameButNew ({ U with vm := s.vm } : State) [] (0 + 1) (0 + 6) := ⟨e1, e2⟩
    have h3 := X.same.trans h2
    rw [List.append_nil] at h3
    exact h3.mono hc hs
  refine ⟨U, ?_, .threw T.heap.size, hrun, hend, Or.inr ⟨T.heap.size, rfl, cls, ce, locs, hx U hWs.alike f1 (fun q hq => f2 q hq (fun z hz => nomatch hz)), hce, hO.vm, hcl, hWs, hall, hf⟩⟩
  refine st1 _ ?_
  show Steps p.tables e below (T1.setTop { method := m, pc := pc + 3, locals := ls, stack := .ref T.heap.size :: rest, locked := none }) _
  jvm_step X₁.here [X₁.here.top, hexec, d3', Value.category]
  exact X₁.ldcString hexec (own := own) (text := text) (index := is) (a := sa) hown' hstr'.1 hstr'.2
    (g := { method := m, pc := pc + 4, locals := ls, stack := .ref T.heap.size :: .ref T.heap.size :: rest, locked := none }) rfl d4' _ hsteps
/-- 'throw new E("text")', the text by a wide index -/
theorem vx_throwSW {cc : ByteArray} {pc : Nat} (hexec : p.tables.exec = Jvm.exec) (hb : c.code = cc) (hl : l.stackTraces = false) {own cls text : String} {names : List String} {ik is ic mc ms sa : Nat} {A : Nat → Prop}
    (hown : s.vm.findClass own = some m.cls) (hcls : Bundle.fit cls = true) (hnames : ∀ n ∈ names, Bundle.fit n = true)
    (hk : (Cond.classLink own ik cls).before args s = true) (hini : (Cond.initialized cls).before args s = true) (hstr : vk_R own is text sa s) (hat : ∀ w ∈ vx_atS own ic cls names, w.before args s = true)
    (hgood : ∀ w ∈ Cond.classLink own ik cls :: Cond.initialized cls :: vx_atS own ic cls names, vx_ot w = true)
    (hU : vx_Zq Bundle.tN "UNASSIGNED_STACK" Bundle.steD A s s.heap) (hN : vx_Zq Bundle.tN "SUPPRESSED_SENTINEL" Bundle.listD A s s.heap) (hS : va_S A s.heap H locs) (hsize : ls.size = c.maxLocals)
    (d0 : decode cc pc = .ok (.new ik, 3)) (d3 : decode cc (pc + 3) = .ok (.dup, 1)) (d4 : decode cc (pc + 4) = .ok (.ldc_w is, 3)) (d7 : decode cc (pc + 7) = .ok (.invokespecial ic, 3)) (d10 : decode cc (pc + 10) = .ok (.athrow, 1))
    (hout : ∀ x ∈ c.exceptionTable.toList, covers x (pc + 10) = false)
    (hRframes : names.length + 3 < R.frames) (hRlocals : (rest.map fun v => v.category).sum + (13 * (names.length + 1) + 43) ≤ R.locals) (hRcells : cells + 1 ≤ R.cells) (hRslots : slots + 6 ≤ R.slots) (hlocks : meth.locks = false)
    (hx : ∀ t : State, s.vm.Alike t.vm → H.size ≤ t.heap.size → (∀ q : Nat, q < H.size → t.heap[q]? = H[q]?) → XC cls s t)
    (hf : ∀ z ∈ locs, free z.base) (hc : cells + 1 ≤ mc) (hs : slots + 6 ≤ ms) :
    W p l e R s m args below meth c H locs cells slots (vx_MQ below Qc XC args s mc ms free) (F0 m pc ls rest) := by
  intro T hT X
  have htr : e.platform.stackTraces = false := (show e.platform.stackTraces = l.stackTraces by rw [X.admits.platform]).trans hl
  have Y := vx_rebase X (R' := { frames := R.frames, locals := R.locals, cells := 1, slots := 6 }) (Nat.le_refl _) (Nat.le_refl _) hRcells hRslots
  obtain ⟨s', hA⟩ : ∃ z, z = (T.setVm s.vm).setFrames (.invoking m args :: below) := ⟨_, rfl⟩
  rw [← hA] at Y
  have hvm : s'.vm = s.vm := by rw [hA]; rfl
  have hhp : s'.heap = H := by rw [hA]; exact hT
  have hW0 : s.WarmedH s'.vm := by rw [hvm]; exact State.WarmedH.refl s
  have hat' : ∀ w ∈ vx_atS own ic cls names, w.before args s' = true := fun w hw => vx_ot_at hW0 hvm.symm (hgood w (List.mem_cons_of_mem _ (List.mem_cons_of_mem _ hw))) (hat w hw)
  have hk' : (Cond.classLink own ik cls).before args s' = true := vx_ot_at hW0 hvm.symm (hgood _ List.mem_cons_self) hk
  have hini' : (Cond.initialized cls).before args s' = true := vx_ot_at hW0 hvm.symm (hgood _ (List.mem_cons_of_mem _ List.mem_cons_self)) hini
  have hU' : vx_Zq Bundle.tN "UNASSIGNED_STACK" Bundle.steD A s' s'.heap := by rw [hhp]; exact vx_Zq.moved hW0.alike (hU.kept hS.2.1)
  have hN' : vx_Zq Bundle.tN "SUPPRESSED_SENTINEL" Bundle.listD A s' s'.heap := by rw [hhp]; exact vx_Zq.moved hW0.alike (hN.kept hS.2.1)
  have h : ∀ w ∈ Bundle.ownAtoms own ic cls names, w.before args s' = true := vx_own hat' (vx_isRefq hU'.1) (vx_isRefq hN'.1) hU'.2.word hN'.2.word
  have hown' : s'.vm.findClass own = some m.cls := by rw [hvm]; exact hown
  have hins : (Cond.instantiable cls 6).before args s' = true := h _ (by simp [Bundle.ownAtoms])
  obtain ⟨vm₁, cX, kX, hfX, hkX, -, -, X₁, st1⟩ := Y.newCold hexec (own := own) (C := cls) (index := ik) (n := 6) hown' hk' hins hini'
    (g := F0 m pc ls rest) rfl (by rw [hb]; exact d0) (Nat.le_refl _) (Nat.le_refl _)
  generalize hT1 : (T.setVm vm₁).pushCell { cls := cX, slots := kX.instanceTypes.map defaultValue, vm := .none } = T1 at X₁ st1
  have hcat : (Value.ref T.heap.size).category = 1 := rfl
  have hcellA : T1.heap[T.heap.size]? = some (freshCell cX kX) := by rw [← hT1]; exact State.heap_pushCell_size _ _
  have d3' : decode c.code (pc + 3) = .ok (.dup, 1) := by rw [hb]; exact d3
  have d4' : decode c.code (pc + 4) = .ok (.ldc_w is, 3) := by rw [hb]; exact d4
  have hstr' : vk_R own is text sa s' := vk_R.warm hW0 hstr
  obtain ⟨U, hsteps, hrun, hend, hW, hsame, ce, hce, hO⟩ := X₁.ctorThrowS hexec htr (own := own) (cls := cls) (names := names) (ic := ic) hown' hcls hnames h (fun x hx => nomatch hx) hfX hkX hcellA (by rw [hhp, hT]; exact Nat.le_refl _) (msg := .ref sa) rfl
    (g := { method := m, pc := pc + 7, locals := ls, stack := .ref sa :: .ref T.heap.size :: .ref T.heap.size :: rest, locked := none }) rfl hsize rfl rfl (rest := rest) rfl
    (by rw [hb]; exact d7) (by rw [hb]; exact d10) hout hRframes (by simp only [List.map_cons, List.sum_cons, hcat]; omega) hlocks
  obtain ⟨f1, f2⟩ := vx_frame hsame
  rw [hhp] at f1 f2
  have hWs : s.WarmedH U.vm := State.WarmedH.trans hW0 hW
  have hcl : s.vm.findClass cls = some ce.cls := by
    have h9 := hO.cls
    rw [hvm] at h9
    exact h9
  have hall : s.sameButNew ({ U with vm := s.vm } : State) locs mc ms := by
    subst hA
    obtain ⟨e1, e2⟩ := hsame
    rw [State.setFrames_setFrames] at e1
    have h2 : (T.setVm s.vm).sameButNew ({ U with vm := s.vm } : State) [] (0 + 1) (0 + 6) := ⟨e1, e2⟩
    have h3 := X.same.trans h2
    rw [List.append_nil] at h3
    exact h3.mono hc hs
  refine ⟨U, ?_, .threw T.heap.size, hrun, hend, Or.inr ⟨T.heap.size, rfl, cls, ce, locs, hx U hWs.alike f1 (fun q hq => f2 q hq (fun z hz => nomatch hz)), hce, hO.vm, hcl, hWs, hall, hf⟩⟩
  refine st1 _ ?_
  show Steps p.tables e below (T1.setTop { method := m, pc := pc + 3, locals := ls, stack := .ref T.heap.size :: rest, locked := none }) _
  jvm_step X₁.here [X₁.here.top, hexec, d3', Value.category]
  exact X₁.ldcStringW hexec (own := own) (text := text) (index := is) (a := sa) hown' hstr'.1 hstr'.2
    (g := { method := m, pc := pc + 4, locals := ls, stack := .ref T.heap.size :: .ref T.heap.size :: rest, locked := none }) rfl d4' _ hsteps
end Ends
section Bodies
variable {l : Launch}
theorem vx_ofW {y : MethodName} {ws ws' : List Cond} {rm : Room} {Pc : Array Value → State → Prop} {Qc : Array Value → State → Outcome → State → Prop} {XC : String → State → State → Prop} {mc ms : Nat} {free : Addr → Prop} {cc : ByteArray} {maxL : Nat} {ret : Option FieldType}
    (hy : plainName y.cls = true) (hw : ws = Cond.code y cc maxL ret :: ws')
    (body : ∀ p e s m args below meth c s₁, BodyLoose p l y (headSpec ws rm) cc maxL ret e s m args below meth c s₁ → c.maxLocals = maxL → (∀ x ∈ c.exceptionTable.toList, False) → Pc args s →
      W p l e (headSpec ws rm).room s m args below meth c s.heap [] 0 0 (vx_MQ below Qc XC args s mc ms free) (entryFrame m args maxL)) : vx_Met l y ws rm Pc Qc XC mc ms free := by
  refine MetFree.of_bodyS (code := cc) (maxLocals := maxL) (ret := ret) hy ?_ ?_
  · intro args s m h hn
    obtain ⟨meth, c, h1, h2, h3, h4, h5, h6, -, -⟩ := Cond.code_spec hn (atoms_spec (ws := ws) h _ (by rw [hw]; exact List.mem_cons_self))
    exact ⟨meth, c, h1, h2, h3, h4, h5, h6⟩
  · intro p e s m args below meth c s₁ B hml hP _
    have hh0 : s₁.heap = s.heap := by rw [B.state]; rfl
    have ht : ∀ x ∈ c.exceptionTable.toList, False := by
      obtain ⟨meth9, c9, h1, h2, -, -, -, -, h7, -⟩ := Cond.code_spec B.named (atoms_spec (ws := ws) B.pre _ (by rw [hw]; exact List.mem_cons_self))
      cases Option.some.inj (h1.symm.trans B.method)
      cases Option.some.inj (h2.symm.trans (Stand.of_body B).code)
      intro x hx
      rw [Array.isEmpty_iff.mp h7] at hx
      cases hx
    obtain ⟨t, a1, o, b1, b2, b3⟩ := body p e s m args below meth c s₁ B hml ht hP s₁ hh0 (Stand.of_body B)
    exact ⟨t, o, a1, b1, b2, b3⟩
/-- the table of a body with handlers -/
theorem vx_table {p : Program} {x y : MethodName} {S : Spec} {cc bytes : ByteArray} {maxL maxL' : Nat} {ret ret' : Option FieldType} {e : Env} {s s₁ : State} {m : MethodId} {args : Array Value} {below : List Frame} {meth : Method} {c : Code} {hh : List (Nat × Nat × Nat × Nat)}
    (B : BodyLoose p l y S cc maxL ret e s m args below meth c s₁) (h : (Cond.codeWith y bytes maxL' ret' hh).before args s = true) : c.exceptionTable.toList = tableOf hh := by
  obtain ⟨m9, meth9, c9, hn9, h1, h2, -, -, h6, -⟩ := Cond.codeWith_spec h
  cases Option.some.inj (hn9.symm.trans B.named)
  cases Option.some.inj (h1.symm.trans B.method)
  cases Option.some.inj (h2.symm.trans (Stand.of_body B).code)
  rw [← h6, table_eq]
end Bodies
end VXA
/-! ===== END ===== -/
/-! ===== BEGIN a static call of a method with an exception table ===== -/
section VXS
variable {p : Program} {l : Launch} {e : Env} {R : Room} {s : State} {m : MethodId} {args : Array Value} {below : List Frame} {meth : Method} {c : Code} {T : State} {H : Heap} {locs : List Loc} {cells slots : Nat}
abbrev vx_CSW (R : Room) (s : State) (args : Array Value) (own : String) (index : Nat) (y : MethodName) (bytes : ByteArray) (maxL : Nat) (ret : Option FieldType) (hh : List (Nat × Nat × Nat × Nat)) (ws : List Cond) (rm : Room) (mc ms n : Nat) : Prop :=
  (rm.cells = mc ∧ rm.slots = ms ∧ rm.frames + 1 ≤ R.frames ∧ 8 + (maxL + 11) + rm.locals ≤ R.locals ∧ (∀ w ∈ ws, ∀ (a' : Array Value) (U : State), s.WarmedH U.vm → w.before a' U = true) ∧ Cond.codeWith y bytes maxL ret hh ∈ ws) ∧
  (Cond.codeWith y bytes maxL ret hh).before args s = true ∧ (Cond.initialized y.cls).before args s = true ∧ (y.cls ≠ "java/lang/invoke/MethodHandle" ∧ y.cls ≠ "java/lang/invoke/VarHandle") ∧
  (∀ sig, parseMethodDescriptor y.desc = some sig → n = sig.parameters.length) ∧ (Cond.methodLink own index y).before args s = true ∧ (Cond.static y).before args s = true
theorem vx_cwSW {own : String} {index maxL mc ms : Nat} {y : MethodName} {bytes : ByteArray} {ret : Option FieldType} {hh : List (Nat × Nat × Nat × Nat)} {Ts ws ws' : List Cond} {rm : Room} (n : Nat) (ht : ∀ w ∈ Ts, w.before args s = true) (hT : GoodIn Ts (va_wsS own index y ws)) (hw : ws = Cond.codeWith y bytes maxL ret hh :: ws') (hrc : rm.cells = mc) (hrs : rm.slots = ms)
    (hd : y.cls ≠ "java/lang/invoke/MethodHandle" ∧ y.cls ≠ "java/lang/invoke/VarHandle" ∧ (parseMethodDescriptor y.desc).map (fun d => d.parameters.length) = some n) (hR : rm.frames + 1 ≤ R.frames ∧ 8 + (maxL + 11) + rm.locals ≤ R.locals) :
    vx_CSW R s args own index y bytes maxL ret hh ws rm mc ms n := by
  have ok : ∀ w ∈ va_wsS own index y ws, w.before args s = true := fun w h => ht w (hT w h).1
  have hG : GoodIn Ts ws := fun w h => hT w (by unfold va_wsS; exact List.mem_append_right _ h)
  have hc : Cond.codeWith y bytes maxL ret hh ∈ ws := by rw [hw]; exact List.mem_cons_self
  refine ⟨⟨hrc, hrs, hR.1, hR.2, pay_in ht hG, hc⟩, ht _ (hG _ hc).1, ok _ (by simp [va_wsS]), ⟨hd.1, hd.2.1⟩, fun sig h => ?_, ok _ (by simp [va_wsS]), ok _ (by simp [va_wsS])⟩
  have h2 := hd.2.2
  rw [h] at h2
  exact (Option.some.inj h2).symm
theorem vx_callSW (X : Stand p l e R s m args below meth c T locs cells slots) (hexec : p.tables.exec = Jvm.exec) {own : String} {index : Nat} {y : MethodName} {bytes : ByteArray} {maxL : Nat} {ret : Option FieldType} {hh : List (Nat × Nat × Nat × Nat)}
    (hown : s.vm.findClass own = some m.cls) (hlink : (Cond.methodLink own index y).before args s = true) (hstat : (Cond.static y).before args s = true) (hinit : (Cond.initialized y.cls).before args s = true)
    (hcode : (Cond.codeWith y bytes maxL ret hh).before args s = true) (hy : y.cls ≠ "java/lang/invoke/MethodHandle" ∧ y.cls ≠ "java/lang/invoke/VarHandle")
    {W9 : Nat} {Pre : Pt → Array Value → Prop} {Post : Pt → Array Value → Option Value → Pt → Prop} (hK : Back l R p e below s args y 3 W9 Pre Post)
    {g : JFrame} (hg : g.method = m) (hsize : g.locals.size = c.maxLocals) {argsL rest : List Value} (hlen : ∀ sig, parseMethodDescriptor y.desc = some sig → argsL.length = sig.parameters.length)
    (hstack : g.stack = argsL.reverse ++ rest) (hW : 2 * g.monitorRoom + (rest.map fun v => v.category).sum ≤ W9) (hdg : decode c.code g.pc = .ok (.invokestatic index, 3))
    (hpre : ∀ vm₁, s.WarmedH vm₁ → Pre ⟨T.setVm vm₁, locs, cells, slots⟩ argsL.toArray) :
    ∃ (v : Option Value) (vm₁ : Vm) (B : Pt), s.WarmedH vm₁ ∧ Stand p l e R s m args below meth c B.U B.locs B.cells B.slots ∧ Post ⟨T.setVm vm₁, locs, cells, slots⟩ argsL.toArray v B ∧
      ∀ target, Steps p.tables e below (B.U.setTop { g with pc := g.pc + 3, stack := v.toList ++ rest }) target → Steps p.tables e below (T.setTop g) target := by
  obtain ⟨mk, methM, cM, hnamed, hmethM, -, -, -, -, -, -, hsigM⟩ := Cond.codeWith_spec hcode
  have hstatic : methM.isStatic = true := Cond.static_spec hnamed hmethM hstat
  obtain ⟨kP, hkP, -⟩ := className_of_methodNamed hnamed
  have hinitP : kP.init = .initialized := Cond.initialized_spec (findClass_of_methodNamed hnamed) hkP hinit
  obtain ⟨vm₁, X₁, hstep₁⟩ := X.invokestatic hexec hown hlink hnamed hmethM hstatic hkP hinitP hy (g := g) hg (argsL := argsL) (rest := rest) (hlen _ hsigM) hstack hdg
  obtain ⟨v, B, X', hpost, hsteps⟩ := hK m meth c ⟨T.setVm vm₁, locs, cells, slots⟩ { g with stack := rest } (.invokestatic index) mk argsL.toArray X₁ hg hsize hdg hW (X₁.named hnamed) (hpre vm₁ X₁.warmed)
  exact ⟨v, vm₁, B, X₁.warmed, X', hpost, fun target h => hstep₁ _ fun acts => by rw [doInvoke_state]; exact hsteps.trans h⟩
theorem vx_runSW {y : MethodName} {bytes cc : ByteArray} {maxL nL mc ms n index : Nat} {ret : Option FieldType} {hh : List (Nat × Nat × Nat × Nat)} {ws : List Cond} {rm : Room} {Pc : Array Value → State → Prop} {Qc : Array Value → State → Outcome → State → Prop} {free : Addr → Prop} {Ts : List Cond} {own : String} {As rest : List Value} {g : JFrame}
    (S : CallFix p m c cc nL s args Ts own) (hM : Met l y ws rm Pc Qc mc ms free) (cw : vx_CSW R s args own index y bytes maxL ret hh ws rm mc ms n) (hp : PreS s H Pc As)
    (hg : g.method = m) (hn : As.length = n) (hsize : g.locals.size = nL) (hstack : g.stack = As.reverse ++ rest) (hW : 2 * g.monitorRoom + (rest.map fun v => v.category).sum ≤ 8) (hdg : decode cc g.pc = .ok (.invokestatic index, 3)) (hf : cells + mc ≤ R.cells ∧ slots + ms ≤ R.slots) :
    va_Run p l e R s m args below meth c H locs cells slots mc ms g rest (Qc As.toArray) (free) := by
  obtain ⟨⟨hrc, hrs, hfr, hlo, hws, hcw⟩, hcode, hini, hy, hlen, hl, hstt⟩ := cw
  have hK : Back l R p e below s args y 3 8 (PreOf R mc ms Pc) (PostOf Qc mc ms free) := va_backW (hh := hh) (bytes := bytes) (maxL := maxL) (ret := ret) hM hp.1 hrc hrs hfr hlo hws hcw (fun a' U hW => word_at hW (Or.inl (by first | rfl | simp [Cond.onTables, Cond.keeps, Cond.steady])) hini)
  obtain ⟨hx, hb, hml, ho, -⟩ := S
  intro T hT X
  obtain ⟨v, vm₁, ⟨U', l2, c2, s2⟩, hW₁, X', ⟨g', mk, t, L, e1, e2, hq, h1, hL, h2, h3⟩, st⟩ := vx_callSW X hx (hh := hh) (bytes := bytes) (maxL := maxL) (ret := ret) ho hl hstt hini hcode hy hK hg (hsize.trans hml.symm) (argsL := As) (rest := rest) (fun sig h => hn.trans (hlen sig h)) hstack hW (by rw [hb]; exact hdg)
    (fun vm₁ hW₁ => ⟨hf.1, hf.2, hp.2 (T.setVm vm₁) hT hW₁⟩)
  dsimp only [Pt.U, Pt.locs, Pt.cells, Pt.slots] at X' e1 e2 h1 h2 h3 st
  subst h1; subst h2; subst h3
  exact ⟨v, (T.setVm vm₁).calling g' mk As.toArray, t, U', L, hT, X', hL, e1, e2, hq, st⟩
/-- not caught here, past rows that name other classes: it goes on to the caller -/
theorem vx_outP {p : Program} {l : Launch} {e : Env} {R : Room} {s : State} {m : MethodId} {args : Array Value} {below : List Frame} {meth : Method} {c : Code} {H : Heap} {locs : List Loc} {cells slots : Nat} {free : Addr → Prop} {ls : Array Slot} {rest : List Value} {Qc : Array Value → State → Outcome → State → Prop} {XC : String → State → State → Prop}
    {pc : Nat} {own E : String} {ce : Cell} {q : Addr} {mc ms : Nat} (hown : s.vm.findClass own = some m.cls) (hlocks : meth.locks = false)
    (hpass : ∀ z ∈ c.exceptionTable.toList, covers z pc = false ∨ (z.catchType ≠ 0 ∧ ∃ nm : String, (Cond.classLink own z.catchType nm).before args s = true ∧ va_Nc E nm s)) (hcell : H[q]? = some ce) (hv : ce.vm = .none) (hcl : s.vm.findClass E = some ce.cls)
    (hx : ∀ t : State, t.heap = H → s.vm.Alike t.vm → XC E s t) (hf : ∀ z ∈ locs, free z.base) (hc : cells ≤ mc) (hs : slots ≤ ms) :
    vx_W p l e R s m args below meth c H locs cells slots (vx_MQ below Qc XC args s mc ms free) (F0 m pc ls rest) q := by
  intro T hT X
  have hpl : e.platform.magicAccessors = ({} : Platform).magicAccessors := by rw [X.admits.platform]
  obtain ⟨vm', hW', X', st⟩ := X.outThrough hlocks q (g := F0 m pc ls rest) rfl rfl rfl (cell := ce) (by rw [hT]; exact hcell) (by rw [hv]; rfl)
    (by obtain ⟨k9, h9, -⟩ := Vm.findClass_spec hcl; exact ⟨k9, h9⟩) (fun z hz => by
      rcases hpass z hz with h | ⟨hz0, nm, hl1, hn1⟩
      · exact Or.inl h
      · obtain ⟨c6, hc6, hcl6⟩ := Cond.classLink_spec hown hl1 e.platform hpl
        obtain ⟨a8, b8, h1, h2, h3⟩ := hn1
        cases Option.some.inj (h1.symm.trans hcl)
        cases Option.some.inj (h2.symm.trans hc6)
        exact Or.inr ⟨hz0, _, hcl6, h3⟩)
  obtain ⟨g₀, hfr⟩ := X'.frames_eq
  have hcell9 : ((T.setVm vm').setFrames (.throwing q :: below)).heap[q]? = some ce := by
    show T.heap[q]? = some ce
    rw [hT]; exact hcell
  have hend : Ended ((T.setVm vm').setFrames (.throwing q :: below)) below (.threw q) := State.frames_setFrames _ (State.cur_lt_of_frames hfr)
  refine ⟨(T.setVm vm').setFrames (.throwing q :: below), ?_, .threw q, X'.here.running, hend, Or.inr ⟨q, rfl, E, ce, locs, hx _ hT (X'.ends _).1.alike, hcell9, hv, hcl, (X'.ends _).1, (X'.ends _).2.mono hc hs, hf⟩⟩
  rw [X.pushThrowing_eq]
  exact st
/-- a thing of a world lies in the heap -/
theorem vx_lt {D : va_G} {cl : List vw_C} {ws : va_W} {H1 : Heap} (h : va_P D cl ws H1) {k : Nat} {q : Nat × va_E} (hk : ws[k]? = some q) : q.1 < H1.size := (h k q hk).lt
end VXS
/-! ===== END ===== -/
/-! ===== BEGIN methods with a table of their own: called by a name, returning or throwing ===== -/
section VXH
/-! vx_backW, vx_callVX, vx_callSX, vx_callVW, vx_runVW, vx_runVX, vx_runSX, vx_ofWH follow the same proofs as their sisters above (Free/Laws.lean, Shelf42/LK1.lean); vx_outP calls Shelf42/NT130.lean (outThrough). -/
section
variable {l : Launch} {R : Room} {p : Program} {e : Env} {below : List Frame} {s : State} {sargs : Array Value} {y : MethodName} {len W9 : Nat}
theorem vx_backW {ws : List Cond} {rm : Room} {Pc : Array Value → State → Prop} {Qc : Array Value → State → Outcome → State → Prop} {XC : String → State → State → Prop} {mc ms : Nat} {free : Addr → Prop} {bytes : ByteArray} {maxL : Nat} {ret : Option FieldType} {hh : List (Nat × Nat × Nat × Nat)}
    (hM : vx_Met l y ws rm Pc Qc XC mc ms free) (hblind : FrameBlind Pc) (hrc : rm.cells = mc) (hrs : rm.slots = ms)
    (hframes : rm.frames + 1 ≤ R.frames) (hlocals : W9 + (maxL + 11) + rm.locals ≤ R.locals)
    (hws : ∀ w ∈ ws, ∀ a' U, s.WarmedH U.vm → w.before a' U = true) (hcode : Cond.codeWith y bytes maxL ret hh ∈ ws) (hinit : ∀ a' U, s.WarmedH U.vm → (Cond.initialized y.cls).before a' U = true) :
    vx_Back l R p e below s sargs y len W9 (PreOf R mc ms Pc) (PostOf Qc mc ms free) (vx_Post XC mc ms free) := by
  intro m meth c A g ig mk a X hg hsize hdg hW hn hp
  have h1 : (headSpec ws rm).pre.before a A.U = true := atoms_intro fun w hw => hws w hw _ _ X.warmed
  have h2 : (Cond.codeWith y bytes maxL ret hh).before a A.U = true := hws _ hcode _ _ X.warmed
  have h3 : (Cond.initialized y.cls).before a A.U = true := hinit _ _ X.warmed
  have h4 : A.cells + (headSpec ws rm).room.cells ≤ R.cells := by rw [show (headSpec ws rm).room.cells = mc from hrc]; exact hp.1
  have h5 : A.slots + (headSpec ws rm).room.slots ≤ R.slots := by rw [show (headSpec ws rm).room.slots = ms from hrs]; exact hp.2.1
  have hPc : Pc a (A.U.calling g mk a) := hblind _ _ _ _ hp.2.2
  obtain ⟨U, Ls, c0, s0⟩ := A
  dsimp only [Pt.U, Pt.locs, Pt.cells, Pt.slots] at h1 h2 h3 h4 h5 X hn hPc ⊢
  obtain ⟨m9, methY, cY, hn9, hmY, hcY, -, hlY, -⟩ := Cond.codeWith_spec h2
  cases Option.some.inj (hn9.symm.trans hn)
  obtain ⟨kY, hkY, -⟩ := className_of_methodNamed hn
  have hinitY : kY.init = .initialized := Cond.initialized_spec (findClass_of_methodNamed hn) hkY h3
  have h : At U g.method c below := by rw [hg]; exact X.here
  have hlocals9 : W9 + (maxL + 11) + (headSpec ws rm).room.locals ≤ R.locals := hlocals
  have happ : (headSpec ws rm).appliesLoose y e.platform (U.calling g mk a) = true :=
    Spec.appliesLoose_calling (g := g) h hdg hn hkY hinitY
      (X.room_calling (g := g) (R' := (headSpec ws rm).room) hsize hmY hcY hframes (by rw [hlY]; omega) h4 h5) h1
  obtain ⟨mid, hmid⟩ := h.above
  have hfr : (U.setTop g).frames = (.java g :: mid) ++ below := by rw [State.frames_setTop' g h.top, hmid]; rfl
  obtain ⟨o, s₂, hsteps, -, hend, hq⟩ := Steps.callFree hM p X.admits X.cas X.clock (acts := []) hfr happ hPc trivial
  have hq' : vx_Q Qc XC mc ms free a (U.calling g mk a) o s₂ := hq
  rw [State.frames_setTop' g h.top] at hend
  obtain ⟨g₀, hg0⟩ := Option.isSome_iff_exists.mp h.top
  obtain ⟨r, hr⟩ := State.topJava?_eq_some.mp hg0
  have hr' : (({ U with heap := s₂.heap, slotsUsed := s₂.slotsUsed } : State).setVm s₂.vm).frames = .java g₀ :: r := hr
  rcases hq' with ⟨hqc, L, hfe, hL⟩ | ⟨q, rfl, E, ce, L, hx, hce, hcv, hcl, hW₂, hsm, hL⟩
  · obtain ⟨⟨v, rfl⟩, hW₂, e2, q2, q3, q4, q5, q6⟩ := id hfe
    have e3 : s₂ = ({ (U.calling g mk a).setFrames s₂.frames with heap := s₂.heap, slotsUsed := s₂.slotsUsed } : State).setVm s₂.vm := by
      have : s₂ = ({ s₂ with vm := (U.calling g mk a).vm } : State).setVm s₂.vm := rfl
      rw [e2] at this
      exact this
    obtain ⟨c₂, i₂, len₂, hc₂, hd₂, hf₂⟩ := hend
    have hW' : U.WarmedH s₂.vm := hW₂
    have hcc : c₂ = c := by
      have h1 : s₂.code? g.method = U.code? g.method := by
        rw [State.code?_eq, State.code?_eq, hW'.alike.method?]
      exact Option.some.inj (hc₂.symm.trans (h1.trans h.code))
    subst hcc
    have hlen : len₂ = len := by rw [hdg] at hd₂; cases hd₂; rfl
    subst hlen
    have hs₂ : s₂ = (({ U with heap := s₂.heap, slotsUsed := s₂.slotsUsed } : State).setVm s₂.vm).setTop { g with pc := g.pc + len₂, stack := v.toList ++ g.stack } := by
      refine e3.trans ?_
      rw [hf₂, State.calling_eq h.top, State.setFrames_setFrames, State.setTop_of_frames _ hr', hr]
      rfl
    have hsame : U.sameButNew ({ U with heap := s₂.heap, slotsUsed := s₂.slotsUsed } : State) L mc ms := by
      refine ⟨?_, q2, q3, q4, q5, q6⟩
      obtain ⟨t, ht, -⟩ := State.frames_cons hr
      show ({ U with heap := s₂.heap, slotsUsed := s₂.slotsUsed } : State) = { U.setFrames U.frames with heap := s₂.heap, slotsUsed := s₂.slotsUsed }
      rw [State.setFrames_self ht]
    subst hg
    refine Or.inl ⟨v, ⟨(({ U with heap := s₂.heap, slotsUsed := s₂.slotsUsed } : State).setVm s₂.vm), Ls ++ L, c0 + mc, s0 + ms⟩,
      ⟨X.admits, X.cas, X.clock, X.frames, X.room, X.hears, X.method, X.code, (X.here.setHeapUsed s₂.heap s₂.slotsUsed).setVm hW'.alike, X.tail, State.WarmedH.trans X.warmed hW', X.limits, X.bytes, X.same.trans (hsame.setVm s.vm)⟩,
      ⟨g, mk, s₂, L, rfl, rfl, hqc, rfl, hL, rfl, rfl⟩, ?_⟩
    show Steps p.tables e below _ ((({ U with heap := s₂.heap, slotsUsed := s₂.slotsUsed } : State).setVm s₂.vm).setTop { g with pc := g.pc + len₂, stack := v.toList ++ g.stack })
    rw [← hs₂]
    exact hsteps
  · obtain ⟨e2, q2, q3, q4, q5, q6⟩ := id hsm
    have e3 : s₂ = ({ (U.calling g mk a).setFrames s₂.frames with heap := s₂.heap, slotsUsed := s₂.slotsUsed } : State).setVm s₂.vm := by
      have : s₂ = ({ s₂ with vm := (U.calling g mk a).vm } : State).setVm s₂.vm := rfl
      rw [e2] at this
      exact this
    have hf₂ : s₂.frames = .throwing q :: .java g :: U.frames.tail := hend
    have hW' : U.WarmedH s₂.vm := hW₂
    have hs₂ : s₂ = ((({ U with heap := s₂.heap, slotsUsed := s₂.slotsUsed } : State).setVm s₂.vm).setTop g).pushFrame (.throwing q) := by
      refine e3.trans ?_
      rw [hf₂, State.calling_eq h.top, State.setFrames_setFrames, State.pushFrame, State.frames_setTop _ hr', State.setTop_of_frames _ hr', State.setFrames_setFrames, hr]
      rfl
    have hsame : U.sameButNew ({ U with heap := s₂.heap, slotsUsed := s₂.slotsUsed } : State) L mc ms := by
      refine ⟨?_, q2, q3, q4, q5, q6⟩
      obtain ⟨t, ht, -⟩ := State.frames_cons hr
      show ({ U with heap := s₂.heap, slotsUsed := s₂.slotsUsed } : State) = { U.setFrames U.frames with heap := s₂.heap, slotsUsed := s₂.slotsUsed }
      rw [State.setFrames_self ht]
    subst hg
    refine Or.inr ⟨q, ⟨(({ U with heap := s₂.heap, slotsUsed := s₂.slotsUsed } : State).setVm s₂.vm), Ls ++ L, c0 + mc, s0 + ms⟩,
      ⟨X.admits, X.cas, X.clock, X.frames, X.room, X.hears, X.method, X.code, (X.here.setHeapUsed s₂.heap s₂.slotsUsed).setVm hW'.alike, X.tail, State.WarmedH.trans X.warmed hW', X.limits, X.bytes, X.same.trans (hsame.setVm s.vm)⟩,
      ⟨g, mk, s₂, L, E, ce, rfl, rfl, hx, hce, hcv, hcl, rfl, hL, rfl, rfl⟩, ?_⟩
    show Steps p.tables e below _ (((({ U with heap := s₂.heap, slotsUsed := s₂.slotsUsed } : State).setVm s₂.vm).setTop g).pushFrame (.throwing q))
    rw [← hs₂]
    exact hsteps
end
variable {p : Program} {l : Launch} {e : Env} {R : Room} {s : State} {m : MethodId} {args : Array Value} {below : List Frame} {meth : Method} {c : Code} {T : State} {H : Heap} {locs : List Loc} {cells slots : Nat}
theorem vx_callVX (X : Stand p l e R s m args below meth c T locs cells slots) (hexec : p.tables.exec = Jvm.exec) {own C : String} {index : Nat} {y : MethodName} {bytes : ByteArray} {maxL : Nat} {ret : Option FieldType} {hh : List (Nat × Nat × Nat × Nat)}
    (hown : s.vm.findClass own = some m.cls) (hlink : (Cond.methodLink own index y).before args s = true) (hinst : (Cond.instanceMethod y).before args s = true) (hsel : (Cond.selects C y y).before args s = true)
    (hcode : (Cond.codeWith y bytes maxL ret hh).before args s = true) (hy : y.cls ≠ "java/lang/invoke/MethodHandle" ∧ y.cls ≠ "java/lang/invoke/VarHandle")
    {W9 : Nat} {Pre : Pt → Array Value → Prop} {Post : Pt → Array Value → Option Value → Pt → Prop} {PostX : Pt → Array Value → Addr → Pt → Prop} (hK : vx_Back l R p e below s args y 3 W9 Pre Post PostX)
    {b : Addr} {cellB : Cell} (hcell : T.heap[b]? = some cellB) (hobj : cellB.vm.isStatics = false) (hcls : s.vm.findClass C = some cellB.cls)
    {g : JFrame} (hg : g.method = m) (hsize : g.locals.size = c.maxLocals) {argsL rest : List Value} (hlen : ∀ sig, parseMethodDescriptor y.desc = some sig → argsL.length = sig.parameters.length)
    (hstack : g.stack = argsL.reverse ++ .ref b :: rest) (hW : 2 * g.monitorRoom + (rest.map fun v => v.category).sum ≤ W9) (hdg : decode c.code g.pc = .ok (.invokevirtual index, 3))
    (hpre : ∀ vm₁, s.WarmedH vm₁ → Pre ⟨T.setVm vm₁, locs, cells, slots⟩ (Value.ref b :: argsL).toArray) :
    (∃ (v : Option Value) (vm₁ : Vm) (B : Pt), s.WarmedH vm₁ ∧ Stand p l e R s m args below meth c B.U B.locs B.cells B.slots ∧ Post ⟨T.setVm vm₁, locs, cells, slots⟩ (Value.ref b :: argsL).toArray v B ∧
      ∀ target, Steps p.tables e below (B.U.setTop { g with pc := g.pc + 3, stack := v.toList ++ rest }) target → Steps p.tables e below (T.setTop g) target) ∨
    (∃ (q : Addr) (vm₁ : Vm) (B : Pt), s.WarmedH vm₁ ∧ Stand p l e R s m args below meth c B.U B.locs B.cells B.slots ∧ PostX ⟨T.setVm vm₁, locs, cells, slots⟩ (Value.ref b :: argsL).toArray q B ∧
      Steps p.tables e below (T.setTop g) ((B.U.setTop { g with stack := rest }).pushFrame (.throwing q))) := by
  obtain ⟨mk, methM, hnamed, hmethM, hstM, habM⟩ := Cond.instanceMethod_spec hinst
  obtain ⟨m8, methM', cM, hn8, hmethM', -, -, -, -, -, -, hsigM⟩ := Cond.codeWith_spec hcode
  cases Option.some.inj (hn8.symm.trans hnamed)
  cases hmethM.symm.trans hmethM'
  obtain ⟨c2, r2, m2, q1, q2, q3, q4, kP, hkP, hkPi⟩ := Cond.selects_spec hsel
  cases hcls.symm.trans q1
  cases (State.methodFound?_of_named hnamed hy).symm.trans q2
  cases hnamed.symm.trans q3
  have hselP : selectMethod e.platform s.vm cellB.cls mk = .method mk := by rw [Launch.admits_selectMethod X.admits]; exact q4
  obtain ⟨vm₁, X₁, hstep₁⟩ := X.invokevirtual hexec hown hlink hnamed hmethM hstM hkP hkPi hy (a := b) (cell := cellB) hcell
    (fun z h => by rw [h] at hobj; cases hobj) hselP hmethM habM hkP hkPi (g := g) hg (argsL := argsL) (rest := rest) (hlen _ hsigM) hstack hdg
  rcases hK m meth c ⟨T.setVm vm₁, locs, cells, slots⟩ { g with stack := rest } (.invokevirtual index) mk (Value.ref b :: argsL).toArray X₁ hg hsize hdg hW (X₁.named hnamed) (hpre vm₁ X₁.warmed) with ⟨v, B, X', hpost, hsteps⟩ | ⟨q, B, X', hpost, hsteps⟩
  · exact Or.inl ⟨v, vm₁, B, X₁.warmed, X', hpost, fun target h => hstep₁ _ fun acts => by rw [doInvoke_state]; exact hsteps.trans h⟩
  · exact Or.inr ⟨q, vm₁, B, X₁.warmed, X', hpost, hstep₁ _ fun acts => by rw [doInvoke_state]; exact hsteps⟩
theorem vx_callSX (X : Stand p l e R s m args below meth c T locs cells slots) (hexec : p.tables.exec = Jvm.exec) {own : String} {index : Nat} {y : MethodName} {bytes : ByteArray} {maxL : Nat} {ret : Option FieldType} {hh : List (Nat × Nat × Nat × Nat)}
    (hown : s.vm.findClass own = some m.cls) (hlink : (Cond.methodLink own index y).before args s = true) (hstat : (Cond.static y).before args s = true) (hinit : (Cond.initialized y.cls).before args s = true)
    (hcode : (Cond.codeWith y bytes maxL ret hh).before args s = true) (hy : y.cls ≠ "java/lang/invoke/MethodHandle" ∧ y.cls ≠ "java/lang/invoke/VarHandle")
    {W9 : Nat} {Pre : Pt → Array Value → Prop} {Post : Pt → Array Value → Option Value → Pt → Prop} {PostX : Pt → Array Value → Addr → Pt → Prop} (hK : vx_Back l R p e below s args y 3 W9 Pre Post PostX)
    {g : JFrame} (hg : g.method = m) (hsize : g.locals.size = c.maxLocals) {argsL rest : List Value} (hlen : ∀ sig, parseMethodDescriptor y.desc = some sig → argsL.length = sig.parameters.length)
    (hstack : g.stack = argsL.reverse ++ rest) (hW : 2 * g.monitorRoom + (rest.map fun v => v.category).sum ≤ W9) (hdg : decode c.code g.pc = .ok (.invokestatic index, 3))
    (hpre : ∀ vm₁, s.WarmedH vm₁ → Pre ⟨T.setVm vm₁, locs, cells, slots⟩ argsL.toArray) :
    (∃ (v : Option Value) (vm₁ : Vm) (B : Pt), s.WarmedH vm₁ ∧ Stand p l e R s m args below meth c B.U B.locs B.cells B.slots ∧ Post ⟨T.setVm vm₁, locs, cells, slots⟩ argsL.toArray v B ∧
      ∀ target, Steps p.tables e below (B.U.setTop { g with pc := g.pc + 3, stack := v.toList ++ rest }) target → Steps p.tables e below (T.setTop g) target) ∨
    (∃ (q : Addr) (vm₁ : Vm) (B : Pt), s.WarmedH vm₁ ∧ Stand p l e R s m args below meth c B.U B.locs B.cells B.slots ∧ PostX ⟨T.setVm vm₁, locs, cells, slots⟩ argsL.toArray q B ∧
      Steps p.tables e below (T.setTop g) ((B.U.setTop { g with stack := rest }).pushFrame (.throwing q))) := by
  obtain ⟨mk, methM, cM, hnamed, hmethM, -, -, -, -, -, -, hsigM⟩ := Cond.codeWith_spec hcode
  have hstatic : methM.isStatic = true := Cond.static_spec hnamed hmethM hstat
  obtain ⟨kP, hkP, -⟩ := className_of_methodNamed hnamed
  have hinitP : kP.init = .initialized := Cond.initialized_spec (findClass_of_methodNamed hnamed) hkP hinit
  obtain ⟨vm₁, X₁, hstep₁⟩ := X.invokestatic hexec hown hlink hnamed hmethM hstatic hkP hinitP hy (g := g) hg (argsL := argsL) (rest := rest) (hlen _ hsigM) hstack hdg
  rcases hK m meth c ⟨T.setVm vm₁, locs, cells, slots⟩ { g with stack := rest } (.invokestatic index) mk argsL.toArray X₁ hg hsize hdg hW (X₁.named hnamed) (hpre vm₁ X₁.warmed) with ⟨v, B, X', hpost, hsteps⟩ | ⟨q, B, X', hpost, hsteps⟩
  · exact Or.inl ⟨v, vm₁, B, X₁.warmed, X', hpost, fun target h => hstep₁ _ fun acts => by rw [doInvoke_state]; exact hsteps.trans h⟩
  · exact Or.inr ⟨q, vm₁, B, X₁.warmed, X', hpost, hstep₁ _ fun acts => by rw [doInvoke_state]; exact hsteps⟩
theorem vx_callVW (X : Stand p l e R s m args below meth c T locs cells slots) (hexec : p.tables.exec = Jvm.exec) {own C : String} {index : Nat} {y : MethodName} {bytes : ByteArray} {maxL : Nat} {ret : Option FieldType} {hh : List (Nat × Nat × Nat × Nat)}
    (hown : s.vm.findClass own = some m.cls) (hlink : (Cond.methodLink own index y).before args s = true) (hinst : (Cond.instanceMethod y).before args s = true) (hsel : (Cond.selects C y y).before args s = true)
    (hcode : (Cond.codeWith y bytes maxL ret hh).before args s = true) (hy : y.cls ≠ "java/lang/invoke/MethodHandle" ∧ y.cls ≠ "java/lang/invoke/VarHandle")
    {W9 : Nat} {Pre : Pt → Array Value → Prop} {Post : Pt → Array Value → Option Value → Pt → Prop} (hK : Back l R p e below s args y 3 W9 Pre Post)
    {b : Addr} {cellB : Cell} (hcell : T.heap[b]? = some cellB) (hobj : cellB.vm.isStatics = false) (hcls : s.vm.findClass C = some cellB.cls)
    {g : JFrame} (hg : g.method = m) (hsize : g.locals.size = c.maxLocals) {argsL rest : List Value} (hlen : ∀ sig, parseMethodDescriptor y.desc = some sig → argsL.length = sig.parameters.length)
    (hstack : g.stack = argsL.reverse ++ .ref b :: rest) (hW : 2 * g.monitorRoom + (rest.map fun v => v.category).sum ≤ W9) (hdg : decode c.code g.pc = .ok (.invokevirtual index, 3))
    (hpre : ∀ vm₁, s.WarmedH vm₁ → Pre ⟨T.setVm vm₁, locs, cells, slots⟩ (Value.ref b :: argsL).toArray) :
    ∃ (v : Option Value) (vm₁ : Vm) (B : Pt), s.WarmedH vm₁ ∧ Stand p l e R s m args below meth c B.U B.locs B.cells B.slots ∧ Post ⟨T.setVm vm₁, locs, cells, slots⟩ (Value.ref b :: argsL).toArray v B ∧
      ∀ target, Steps p.tables e below (B.U.setTop { g with pc := g.pc + 3, stack := v.toList ++ rest }) target → Steps p.tables e below (T.setTop g) target := by
  obtain ⟨mk, methM, hnamed, hmethM, hstM, habM⟩ := Cond.instanceMethod_spec hinst
  obtain ⟨m8, methM', cM, hn8, hmethM', -, -, -, -, -, -, hsigM⟩ := Cond.codeWith_spec hcode
  cases Option.some.inj (hn8.symm.trans hnamed)
  cases hmethM.symm.trans hmethM'
  obtain ⟨c2, r2, m2, q1, q2, q3, q4, kP, hkP, hkPi⟩ := Cond.selects_spec hsel
  cases hcls.symm.trans q1
  cases (State.methodFound?_of_named hnamed hy).symm.trans q2
  cases hnamed.symm.trans q3
  have hselP : selectMethod e.platform s.vm cellB.cls mk = .method mk := by rw [Launch.admits_selectMethod X.admits]; exact q4
  obtain ⟨vm₁, X₁, hstep₁⟩ := X.invokevirtual hexec hown hlink hnamed hmethM hstM hkP hkPi hy (a := b) (cell := cellB) hcell
    (fun z h => by rw [h] at hobj; cases hobj) hselP hmethM habM hkP hkPi (g := g) hg (argsL := argsL) (rest := rest) (hlen _ hsigM) hstack hdg
  obtain ⟨v, B, X', hpost, hsteps⟩ := hK m meth c ⟨T.setVm vm₁, locs, cells, slots⟩ { g with stack := rest } (.invokevirtual index) mk (Value.ref b :: argsL).toArray X₁ hg hsize hdg hW (X₁.named hnamed) (hpre vm₁ X₁.warmed)
  exact ⟨v, vm₁, B, X₁.warmed, X', hpost, fun target h => hstep₁ _ fun acts => by rw [doInvoke_state]; exact hsteps.trans h⟩
abbrev vx_CVW (R : Room) (s : State) (args : Array Value) (own C : String) (index : Nat) (y : MethodName) (bytes : ByteArray) (maxL : Nat) (ret : Option FieldType) (hh : List (Nat × Nat × Nat × Nat)) (ws : List Cond) (rm : Room) (mc ms n : Nat) : Prop :=
  (rm.cells = mc ∧ rm.slots = ms ∧ rm.frames + 1 ≤ R.frames ∧ 8 + (maxL + 11) + rm.locals ≤ R.locals ∧ (∀ w ∈ ws, ∀ (a' : Array Value) (U : State), s.WarmedH U.vm → w.before a' U = true) ∧ Cond.codeWith y bytes maxL ret hh ∈ ws) ∧
  (Cond.codeWith y bytes maxL ret hh).before args s = true ∧ (Cond.initialized y.cls).before args s = true ∧ (y.cls ≠ "java/lang/invoke/MethodHandle" ∧ y.cls ≠ "java/lang/invoke/VarHandle") ∧
  (∀ sig, parseMethodDescriptor y.desc = some sig → n = sig.parameters.length) ∧ (Cond.methodLink own index y).before args s = true ∧ (Cond.instanceMethod y).before args s = true ∧ (Cond.selects C y y).before args s = true
theorem vx_cwVW {own C : String} {index maxL mc ms : Nat} {y : MethodName} {bytes : ByteArray} {ret : Option FieldType} {hh : List (Nat × Nat × Nat × Nat)} {Ts ws ws' : List Cond} {rm : Room} (n : Nat) (ht : ∀ w ∈ Ts, w.before args s = true) (hT : GoodIn Ts (wsV own index C y ws)) (hw : ws = Cond.codeWith y bytes maxL ret hh :: ws') (hrc : rm.cells = mc) (hrs : rm.slots = ms)
    (hd : y.cls = C ∧ y.cls ≠ "java/lang/invoke/MethodHandle" ∧ y.cls ≠ "java/lang/invoke/VarHandle" ∧ (parseMethodDescriptor y.desc).map (fun d => d.parameters.length) = some n) (hR : rm.frames + 1 ≤ R.frames ∧ 8 + (maxL + 11) + rm.locals ≤ R.locals) :
    vx_CVW R s args own C index y bytes maxL ret hh ws rm mc ms n := by
  obtain ⟨hC, hd⟩ := hd
  subst hC
  have ok : ∀ w ∈ wsV own index y.cls y ws, w.before args s = true := fun w h => ht w (hT w h).1
  have hG : GoodIn Ts ws := fun w h => hT w (by unfold wsV; exact List.mem_append_right _ h)
  have hc : Cond.codeWith y bytes maxL ret hh ∈ ws := by rw [hw]; exact List.mem_cons_self
  refine ⟨⟨hrc, hrs, hR.1, hR.2, pay_in ht hG, hc⟩, ht _ (hG _ hc).1, ok _ (by simp [wsV]), ⟨hd.1, hd.2.1⟩, fun sig h => ?_, ok _ (by simp [wsV]), ok _ (by simp [wsV]), ok _ (by simp [wsV])⟩
  have h2 := hd.2.2
  rw [h] at h2
  exact (Option.some.inj h2).symm
theorem vx_runVW {y : MethodName} {bytes cc : ByteArray} {maxL nL mc ms n index : Nat} {ret : Option FieldType} {hh : List (Nat × Nat × Nat × Nat)} {ws : List Cond} {rm : Room} {Pc : Array Value → State → Prop} {Qc : Array Value → State → Outcome → State → Prop} {free : Addr → Prop} {Ts : List Cond} {own C : String} {b : Addr} {As rest : List Value} {g : JFrame}
    (S : CallFix p m c cc nL s args Ts own) (hM : Met l y ws rm Pc Qc mc ms free) (cw : vx_CVW R s args own C index y bytes maxL ret hh ws rm mc ms n) (hp : PreV s H C b Pc As)
    (hg : g.method = m) (hn : As.length = n) (hsize : g.locals.size = nL) (hstack : g.stack = As.reverse ++ .ref b :: rest) (hW : 2 * g.monitorRoom + (rest.map fun v => v.category).sum ≤ 8) (hdg : decode cc g.pc = .ok (.invokevirtual index, 3)) (hf : cells + mc ≤ R.cells ∧ slots + ms ≤ R.slots) :
    va_Run p l e R s m args below meth c H locs cells slots mc ms g rest (Qc (Value.ref b :: As).toArray) free := by
  obtain ⟨⟨hrc, hrs, hfr, hlo, hws, hcw⟩, hcode, hini, hy, hlen, hl, hin, hse⟩ := cw
  have hK : Back l R p e below s args y 3 8 (PreOf R mc ms Pc) (PostOf Qc mc ms free) := va_backW (hh := hh) (bytes := bytes) (maxL := maxL) (ret := ret) hM hp.1 hrc hrs hfr hlo hws hcw (fun a' U hW => word_at hW (Or.inl (by first | rfl | simp [Cond.onTables, Cond.keeps, Cond.steady])) hini)
  obtain ⟨hx, hb, hml, ho, -⟩ := S
  obtain ⟨-, ⟨cellB, hcB, hoB, hclB⟩, hPc⟩ := hp
  intro T hT X
  obtain ⟨v, vm₁, ⟨U', l2, c2, s2⟩, hW₁, X', ⟨g', mk, t, L, e1, e2, hq, h1, hL, h2, h3⟩, st⟩ := vx_callVW X hx (C := C) (hh := hh) (bytes := bytes) (maxL := maxL) (ret := ret) ho hl hin hse hcode hy hK (by rw [hT]; exact hcB) hoB hclB hg (hsize.trans hml.symm) (argsL := As) (rest := rest) (fun sig h => hn.trans (hlen sig h)) hstack hW (by rw [hb]; exact hdg)
    (fun vm₁ hW₁ => ⟨hf.1, hf.2, hPc (T.setVm vm₁) hT hW₁⟩)
  dsimp only [Pt.U, Pt.locs, Pt.cells, Pt.slots] at X' e1 e2 h1 h2 h3 st
  subst h1; subst h2; subst h3
  exact ⟨v, (T.setVm vm₁).calling g' mk (Value.ref b :: As).toArray, t, U', L, hT, X', hL, e1, e2, hq, st⟩
section
variable {y : MethodName} {bytes cc : ByteArray} {maxL nL mc ms n index : Nat} {ret : Option FieldType} {ws : List Cond} {rm : Room} {Pc : Array Value → State → Prop} {Qc : Array Value → State → Outcome → State → Prop} {XC : String → State → State → Prop} {free : Addr → Prop} {Ts : List Cond} {own C : String} {b : Addr} {As rest : List Value} {g : JFrame}
theorem vx_runVX {hh : List (Nat × Nat × Nat × Nat)} (S : CallFix p m c cc nL s args Ts own) (hM : vx_Met l y ws rm Pc Qc XC mc ms free) (cw : vx_CVW R s args own C index y bytes maxL ret hh ws rm mc ms n) (hp : PreV s H C b Pc As)
    (hg : g.method = m) (hn : As.length = n) (hsize : g.locals.size = nL) (hstack : g.stack = As.reverse ++ .ref b :: rest) (hW : 2 * g.monitorRoom + (rest.map fun v => v.category).sum ≤ 8) (hdg : decode cc g.pc = .ok (.invokevirtual index, 3)) (hf : cells + mc ≤ R.cells ∧ slots + ms ≤ R.slots) :
    vx_Run p l e R s m args below meth c H locs cells slots mc ms g rest (Qc (Value.ref b :: As).toArray) XC free := by
  obtain ⟨⟨hrc, hrs, hfr, hlo, hws, hcw⟩, hcode, hini, hy, hlen, hl, hin, hse⟩ := cw
  have hK : vx_Back l R p e below s args y 3 8 (PreOf R mc ms Pc) (PostOf Qc mc ms free) (vx_Post XC mc ms free) := vx_backW (hh := hh) (bytes := bytes) (maxL := maxL) (ret := ret) hM hp.1 hrc hrs hfr hlo hws hcw (fun a' U hW => word_at hW (Or.inl (by first | rfl | simp [Cond.onTables, Cond.keeps, Cond.steady])) hini)
  obtain ⟨hx, hb, hml, ho, -⟩ := S
  obtain ⟨-, ⟨cellB, hcB, hoB, hclB⟩, hPc⟩ := hp
  intro T hT X
  rcases vx_callVX X hx (C := C) (hh := hh) (bytes := bytes) (maxL := maxL) (ret := ret) ho hl hin hse hcode hy hK (by rw [hT]; exact hcB) hoB hclB hg (hsize.trans hml.symm) (argsL := As) (rest := rest) (fun sig h => hn.trans (hlen sig h)) hstack hW (by rw [hb]; exact hdg)
    (fun vm₁ hW₁ => ⟨hf.1, hf.2, hPc (T.setVm vm₁) hT hW₁⟩) with ⟨v, vm₁, ⟨U', l2, c2, s2⟩, hW₁, X', ⟨g', mk, t, L, e1, e2, hq, h1, hL, h2, h3⟩, st⟩ | ⟨q, vm₁, ⟨U', l2, c2, s2⟩, hW₁, X', ⟨g', mk, t, L, E, ce, e1, e2, hq, hce, hcv, hcl, h1, hL, h2, h3⟩, st⟩
  · dsimp only [Pt.U, Pt.locs, Pt.cells, Pt.slots] at X' e1 e2 h1 h2 h3 st
    subst h1; subst h2; subst h3
    exact Or.inl ⟨v, (T.setVm vm₁).calling g' mk (Value.ref b :: As).toArray, t, U', L, hT, X', hL, e1, e2, hq, st⟩
  · dsimp only [Pt.U, Pt.locs, Pt.cells, Pt.slots] at X' e1 e2 h1 h2 h3 st hcl
    subst h1; subst h2; subst h3
    exact Or.inr ⟨q, (T.setVm vm₁).calling g' mk (Value.ref b :: As).toArray, t, U', L, E, ce, hT, X', hL, e1, e2, hq, hce, hcv, vx_cls hW₁ hcl, st⟩
theorem vx_runSX {hh : List (Nat × Nat × Nat × Nat)} (S : CallFix p m c cc nL s args Ts own) (hM : vx_Met l y ws rm Pc Qc XC mc ms free) (cw : vx_CSW R s args own index y bytes maxL ret hh ws rm mc ms n) (hp : PreS s H Pc As)
    (hg : g.method = m) (hn : As.length = n) (hsize : g.locals.size = nL) (hstack : g.stack = As.reverse ++ rest) (hW : 2 * g.monitorRoom + (rest.map fun v => v.category).sum ≤ 8) (hdg : decode cc g.pc = .ok (.invokestatic index, 3)) (hf : cells + mc ≤ R.cells ∧ slots + ms ≤ R.slots) :
    vx_Run p l e R s m args below meth c H locs cells slots mc ms g rest (Qc As.toArray) XC free := by
  obtain ⟨⟨hrc, hrs, hfr, hlo, hws, hcw⟩, hcode, hini, hy, hlen, hl, hstt⟩ := cw
  have hK : vx_Back l R p e below s args y 3 8 (PreOf R mc ms Pc) (PostOf Qc mc ms free) (vx_Post XC mc ms free) := vx_backW (hh := hh) (bytes := bytes) (maxL := maxL) (ret := ret) hM hp.1 hrc hrs hfr hlo hws hcw (fun a' U hW => word_at hW (Or.inl (by first | rfl | simp [Cond.onTables, Cond.keeps, Cond.steady])) hini)
  obtain ⟨hx, hb, hml, ho, -⟩ := S
  intro T hT X
  rcases vx_callSX X hx (hh := hh) (bytes := bytes) (maxL := maxL) (ret := ret) ho hl hstt hini hcode hy hK hg (hsize.trans hml.symm) (argsL := As) (rest := rest) (fun sig h => hn.trans (hlen sig h)) hstack hW (by rw [hb]; exact hdg)
    (fun vm₁ hW₁ => ⟨hf.1, hf.2, hp.2 (T.setVm vm₁) hT hW₁⟩) with ⟨v, vm₁, ⟨U', l2, c2, s2⟩, hW₁, X', ⟨g', mk, t, L, e1, e2, hq, h1, hL, h2, h3⟩, st⟩ | ⟨q, vm₁, ⟨U', l2, c2, s2⟩, hW₁, X', ⟨g', mk, t, L, E, ce, e1, e2, hq, hce, hcv, hcl, h1, hL, h2, h3⟩, st⟩
  · dsimp only [Pt.U, Pt.locs, Pt.cells, Pt.slots] at X' e1 e2 h1 h2 h3 st
    subst h1; subst h2; subst h3
    exact Or.inl ⟨v, (T.setVm vm₁).calling g' mk As.toArray, t, U', L, hT, X', hL, e1, e2, hq, st⟩
  · dsimp only [Pt.U, Pt.locs, Pt.cells, Pt.slots] at X' e1 e2 h1 h2 h3 st hcl
    subst h1; subst h2; subst h3
    exact Or.inr ⟨q, (T.setVm vm₁).calling g' mk As.toArray, t, U', L, E, ce, hT, X', hL, e1, e2, hq, hce, hcv, vx_cls hW₁ hcl, st⟩
end
end VXH
theorem vx_ofWH {l : Launch} {y : MethodName} {ws ws' : List Cond} {rm : Room} {Pc : Array Value → State → Prop} {Qc : Array Value → State → Outcome → State → Prop} {XC : String → State → State → Prop} {mc ms : Nat} {free : Addr → Prop} {cc : ByteArray} {maxL : Nat} {ret : Option FieldType} {hh : List (Nat × Nat × Nat × Nat)}
    (hy : plainName y.cls = true) (hw : ws = Cond.codeWith y cc maxL ret hh :: ws')
    (body : ∀ p e s m args below meth c s₁, BodyLoose p l y (headSpec ws rm) cc maxL ret e s m args below meth c s₁ → c.maxLocals = maxL → Pc args s →
      W p l e (headSpec ws rm).room s m args below meth c s.heap [] 0 0 (vx_MQ below Qc XC args s mc ms free) (entryFrame m args maxL)) : vx_Met l y ws rm Pc Qc XC mc ms free := by
  refine MetFree.of_bodyS (code := cc) (maxLocals := maxL) (ret := ret) hy ?_ ?_
  · intro args s m h hn
    obtain ⟨m9, meth, c, hn9, h1, h2, h3, h4, -, h5, h6, -⟩ := Cond.codeWith_spec (atoms_spec (ws := ws) h _ (by rw [hw]; exact List.mem_cons_self))
    cases hn.symm.trans hn9
    exact ⟨meth, c, h1, h2, h3, h4, h5, h6⟩
  · intro p e s m args below meth c s₁ B hml hP _
    have hh0 : s₁.heap = s.heap := by rw [B.state]; rfl
    obtain ⟨t, a1, o, b1, b2, b3⟩ := body p e s m args below meth c s₁ B hml hP s₁ hh0 (Stand.of_body B)
    exact ⟨t, o, a1, b1, b2, b3⟩
/-! ===== END ===== -/

/-! ===== BEGIN a constructor that throws (launches without stack traces) ===== -/
section VXIA
variable {p : Program} {l : Launch} {e : Env} {R : Room} {s : State} {m : MethodId} {args : Array Value} {below : List Frame} {meth : Method} {c : Code} {T : State} {locs : List Loc} {cells slots : Nat}
theorem vx_callI (X : Stand p l e R s m args below meth c T locs cells slots) (hexec : p.tables.exec = Jvm.exec) {own : String} {index : Nat} {y : MethodName} {bytes : ByteArray} {maxL : Nat}
    (hown : s.vm.findClass own = some m.cls) (hy1 : y.name = "<init>") (hlink : (Cond.methodLink own index y).before args s = true) (hinst : (Cond.instanceMethod y).before args s = true)
    (hcode : (Cond.code y bytes maxL none).before args s = true) (hy : y.cls ≠ "java/lang/invoke/MethodHandle" ∧ y.cls ≠ "java/lang/invoke/VarHandle")
    {W9 : Nat} {Pre : Pt → Array Value → Prop} {Post : Pt → Array Value → Option Value → Pt → Prop} {PostX : Pt → Array Value → Addr → Pt → Prop} (hK : vx_Back l R p e below s args y 3 W9 Pre Post PostX)
    {g : JFrame} (hg : g.method = m) (hsize : g.locals.size = c.maxLocals) {a : Addr} {argsL rest : List Value} (hlen : ∀ sig, parseMethodDescriptor y.desc = some sig → argsL.length = sig.parameters.length)
    (hstack : g.stack = argsL.reverse ++ .ref a :: rest) (hW : 2 * g.monitorRoom + (rest.map fun v => v.category).sum ≤ W9) (hdg : decode c.code g.pc = .ok (.invokespecial index, 3))
    (hpre : ∀ vm₁, s.WarmedH vm₁ → Pre ⟨T.setVm vm₁, locs, cells, slots⟩ (Value.ref a :: argsL).toArray) :
    (∃ (v : Option Value) (vm₁ : Vm) (B : Pt), s.WarmedH vm₁ ∧ Stand p l e R s m args below meth c B.U B.locs B.cells B.slots ∧ Post ⟨T.setVm vm₁, locs, cells, slots⟩ (Value.ref a :: argsL).toArray v B ∧
      ∀ target, Steps p.tables e below (B.U.setTop { g with pc := g.pc + 3, stack := v.toList ++ rest }) target → Steps p.tables e below (T.setTop g) target) ∨
    (∃ (q : Addr) (vm₁ : Vm) (B : Pt), s.WarmedH vm₁ ∧ Stand p l e R s m args below meth c B.U B.locs B.cells B.slots ∧ PostX ⟨T.setVm vm₁, locs, cells, slots⟩ (Value.ref a :: argsL).toArray q B ∧
      Steps p.tables e below (T.setTop g) ((B.U.setTop { g with stack := rest }).pushFrame (.throwing q))) := by
  subst hg
  have hpl : e.platform.magicAccessors = ({} : Platform).magicAccessors := by rw [X.admits.platform]
  obtain ⟨mk, methM, cM, kP, vm₁, hnamed, hmethM, hcodeM, -, hlocalsM, -, hkP, -, hW₁, hstep₁⟩ := Steps.initColdArgs (e := e) X.here hexec X.warmed hpl hown hy1 hy hlink hinst hcode (f := g) rfl hlen hstack hdg
  have X₁ := X.noted hW₁
  rcases hK g.method meth c ⟨T.setVm vm₁, locs, cells, slots⟩ { g with stack := rest } (.invokespecial index) mk (Value.ref a :: argsL).toArray X₁ rfl hsize hdg hW (X₁.named hnamed) (hpre vm₁ X₁.warmed) with ⟨v, B, X', hpost, hsteps⟩ | ⟨q, B, X', hpost, hsteps⟩
  · exact Or.inl ⟨v, vm₁, B, X₁.warmed, X', hpost, fun target h => hstep₁ _ fun acts => by rw [doInvoke_state]; exact hsteps.trans h⟩
  · exact Or.inr ⟨q, vm₁, B, X₁.warmed, X', hpost, hstep₁ _ fun acts => by rw [doInvoke_state]; exact hsteps⟩
end VXIA
section VXIB
variable {p : Program} {l : Launch} {e : Env} {R : Room} {s : State} {m : MethodId} {args : Array Value} {below : List Frame} {meth : Method} {c : Code} {H : Heap} {locs : List Loc} {cells slots : Nat}
variable {y : MethodName} {bytes cc : ByteArray} {maxL nL mc ms n index : Nat} {ret : Option FieldType} {ws : List Cond} {rm : Room} {Pc : Array Value → State → Prop} {Qc : Array Value → State → Outcome → State → Prop} {XC : String → State → State → Prop} {free : Addr → Prop} {Ts : List Cond} {own C : String} {b : Addr} {As rest : List Value} {g : JFrame}
theorem vx_runI (S : CallFix p m c cc nL s args Ts own) (hM : vx_Met l y ws rm Pc Qc XC mc ms free) (cw : CallB R s args own index y bytes maxL none ws rm mc ms n ∧ y.name = "<init>" ∧ (Cond.instanceMethod y).before args s = true) (hp : PreS s H Pc (.ref b :: As))
    (hg : g.method = m) (hn : As.length = n) (hsize : g.locals.size = nL) (hstack : g.stack = As.reverse ++ .ref b :: rest) (hW : 2 * g.monitorRoom + (rest.map fun v => v.category).sum ≤ 8) (hdg : decode cc g.pc = .ok (.invokespecial index, 3)) (hf : cells + mc ≤ R.cells ∧ slots + ms ≤ R.slots) :
    vx_Run p l e R s m args below meth c H locs cells slots mc ms g rest (Qc (Value.ref b :: As).toArray) XC free := by
  have hK : vx_Back l R p e below s args y 3 8 (PreOf R mc ms Pc) (PostOf Qc mc ms free) (vx_Post XC mc ms free) := vx_callBack cw.1 hM hp.1
  obtain ⟨⟨-, -, -, -, -, -, hcode, -, hy, hlen, hl⟩, hy1, hin⟩ := cw
  obtain ⟨hx, hb, hml, ho, -⟩ := S
  have hPc := hp.2
  intro T hT X
  rcases vx_callI X hx (bytes := bytes) (maxL := maxL) ho hy1 hl hin hcode hy hK hg (hsize.trans hml.symm) (a := b) (argsL := As) (rest := rest) (fun sig h => hn.trans (hlen sig h)) hstack hW (by rw [hb]; exact hdg)
    (fun vm₁ hW₁ => ⟨hf.1, hf.2, hPc (T.setVm vm₁) hT hW₁⟩) with ⟨v, vm₁, ⟨U', l2, c2, s2⟩, hW₁, X', ⟨g', mk, t, L, e1, e2, hq, h1, hL, h2, h3⟩, st⟩ | ⟨q, vm₁, ⟨U', l2, c2, s2⟩, hW₁, X', ⟨g', mk, t, L, E, ce, e1, e2, hq, hce, hcv, hcl, h1, hL, h2, h3⟩, st⟩
  · dsimp only [Pt.U, Pt.locs, Pt.cells, Pt.slots] at X' e1 e2 h1 h2 h3 st
    subst h1; subst h2; subst h3
    exact Or.inl ⟨v, (T.setVm vm₁).calling g' mk (Value.ref b :: As).toArray, t, U', L, hT, X', hL, e1, e2, hq, st⟩
  · dsimp only [Pt.U, Pt.locs, Pt.cells, Pt.slots] at X' e1 e2 h1 h2 h3 st hcl
    subst h1; subst h2; subst h3
    exact Or.inr ⟨q, (T.setVm vm₁).calling g' mk (Value.ref b :: As).toArray, t, U', L, E, ce, hT, X', hL, e1, e2, hq, hce, hcv, vx_cls hW₁ hcl, st⟩
end VXIB
/-! ===== END ===== -/
/-! ===== BEGIN a private constructor of a nest mate that throws ===== -/
section VXIC
variable {p : Program} {l : Launch} {e : Env} {R : Room} {s : State} {m : MethodId} {args : Array Value} {below : List Frame} {meth : Method} {c : Code} {T : State} {locs : List Loc} {cells slots : Nat}
theorem vx_callIN (X : Stand p l e R s m args below meth c T locs cells slots) (hexec : p.tables.exec = Jvm.exec) {own : String} {index : Nat} {host : String} {y : MethodName} {bytes : ByteArray} {maxL : Nat}
    (hown : s.vm.findClass own = some m.cls) (hy1 : y.name = "<init>") (hlink : (Cond.methodLinkNest own index y host).before args s = true) (hinst : (Cond.instanceMethod y).before args s = true)
    (hcode : (Cond.code y bytes maxL none).before args s = true) (hy : y.cls ≠ "java/lang/invoke/MethodHandle" ∧ y.cls ≠ "java/lang/invoke/VarHandle")
    {W9 : Nat} {Pre : Pt → Array Value → Prop} {Post : Pt → Array Value → Option Value → Pt → Prop} {PostX : Pt → Array Value → Addr → Pt → Prop} (hK : vx_Back l R p e below s args y 3 W9 Pre Post PostX)
    {g : JFrame} (hg : g.method = m) (hsize : g.locals.size = c.maxLocals) {a : Addr} {argsL rest : List Value} (hlen : ∀ sig, parseMethodDescriptor y.desc = some sig → argsL.length = sig.parameters.length)
    (hstack : g.stack = argsL.reverse ++ .ref a :: rest) (hW : 2 * g.monitorRoom + (rest.map fun v => v.category).sum ≤ W9) (hdg : decode c.code g.pc = .ok (.invokespecial index, 3))
    (hpre : ∀ vm₁, s.WarmedH vm₁ → Pre ⟨T.setVm vm₁, locs, cells, slots⟩ (Value.ref a :: argsL).toArray) :
    (∃ (v : Option Value) (vm₁ : Vm) (B : Pt), s.WarmedH vm₁ ∧ Stand p l e R s m args below meth c B.U B.locs B.cells B.slots ∧ Post ⟨T.setVm vm₁, locs, cells, slots⟩ (Value.ref a :: argsL).toArray v B ∧
      ∀ target, Steps p.tables e below (B.U.setTop { g with pc := g.pc + 3, stack := v.toList ++ rest }) target → Steps p.tables e below (T.setTop g) target) ∨
    (∃ (q : Addr) (vm₁ : Vm) (B : Pt), s.WarmedH vm₁ ∧ Stand p l e R s m args below meth c B.U B.locs B.cells B.slots ∧ PostX ⟨T.setVm vm₁, locs, cells, slots⟩ (Value.ref a :: argsL).toArray q B ∧
      Steps p.tables e below (T.setTop g) ((B.U.setTop { g with stack := rest }).pushFrame (.throwing q))) := by
  subst hg
  have hpl : e.platform.magicAccessors = ({} : Platform).magicAccessors := by rw [X.admits.platform]
  obtain ⟨mk, methM, cM, kP, vm₁, hnamed, hmethM, hcodeM, -, hlocalsM, -, hkP, -, hW₁, hstep₁⟩ := Steps.initColdArgsNest (e := e) X.here hexec X.warmed hpl hown hy1 hy hlink hinst hcode (f := g) rfl hlen hstack hdg
  have X₁ := X.noted hW₁
  rcases hK g.method meth c ⟨T.setVm vm₁, locs, cells, slots⟩ { g with stack := rest } (.invokespecial index) mk (Value.ref a :: argsL).toArray X₁ rfl hsize hdg hW (X₁.named hnamed) (hpre vm₁ X₁.warmed) with ⟨v, B, X', hpost, hsteps⟩ | ⟨q, B, X', hpost, hsteps⟩
  · exact Or.inl ⟨v, vm₁, B, X₁.warmed, X', hpost, fun target h => hstep₁ _ fun acts => by rw [doInvoke_state]; exact hsteps.trans h⟩
  · exact Or.inr ⟨q, vm₁, B, X₁.warmed, X', hpost, hstep₁ _ fun acts => by rw [doInvoke_state]; exact hsteps⟩
end VXIC
section VXID
variable {p : Program} {l : Launch} {e : Env} {R : Room} {s : State} {m : MethodId} {args : Array Value} {below : List Frame} {meth : Method} {c : Code} {H : Heap} {locs : List Loc} {cells slots : Nat}
theorem vx_runIN {y : MethodName} {bytes cc : ByteArray} {maxL nL mc ms n index : Nat} {ws : List Cond} {rm : Room} {Pc : Array Value → State → Prop} {Qc : Array Value → State → Outcome → State → Prop} {XC : String → State → State → Prop} {free : Addr → Prop} {Ts : List Cond} {own host : String} {b : Addr} {As rest : List Value} {g : JFrame}
    (S : CallFix p m c cc nL s args Ts own) (hM : vx_Met l y ws rm Pc Qc XC mc ms free) (cw : va_CN R s args own index y host bytes maxL none ws rm mc ms n ∧ y.name = "<init>" ∧ (Cond.instanceMethod y).before args s = true) (hp : PreS s H Pc (.ref b :: As))
    (hg : g.method = m) (hn : As.length = n) (hsize : g.locals.size = nL) (hstack : g.stack = As.reverse ++ .ref b :: rest) (hW : 2 * g.monitorRoom + (rest.map fun v => v.category).sum ≤ 8) (hdg : decode cc g.pc = .ok (.invokespecial index, 3)) (hf : cells + mc ≤ R.cells ∧ slots + ms ≤ R.slots) :
    vx_Run p l e R s m args below meth c H locs cells slots mc ms g rest (Qc (Value.ref b :: As).toArray) XC free := by
  obtain ⟨⟨⟨hrc, hrs, hfr, hlo, hws, hcw⟩, hcode, hini, hy, hlen, hl⟩, hx1, hx2⟩ := cw
  have hK : vx_Back l R p e below s args y 3 8 (PreOf R mc ms Pc) (PostOf Qc mc ms free) (vx_Post XC mc ms free) := vx_back (bytes := bytes) (maxL := maxL) (ret := none) hM hp.1 hrc hrs hfr hlo hws hcw (fun a' U hW => word_at hW (Or.inl (by first | rfl | simp [Cond.onTables, Cond.keeps, Cond.steady])) hini)
  obtain ⟨hx, hb, hml, ho, -⟩ := S
  have hPc := hp.2
  intro T hT X
  rcases vx_callIN X hx (bytes := bytes) (maxL := maxL) ho hx1 hl hx2 hcode hy hK hg (hsize.trans hml.symm) (a := b) (argsL := As) (rest := rest) (fun sig h => hn.trans (hlen sig h)) hstack hW (by rw [hb]; exact hdg)
    (fun vm₁ hW₁ => ⟨hf.1, hf.2, hPc (T.setVm vm₁) hT hW₁⟩) with ⟨v, vm₁, ⟨U', l2, c2, s2⟩, hW₁, X', ⟨g', mk, t, L, e1, e2, hq, h1, hL, h2, h3⟩, st⟩ | ⟨q, vm₁, ⟨U', l2, c2, s2⟩, hW₁, X', ⟨g', mk, t, L, E, ce, e1, e2, hq, hce, hcv, hcl, h1, hL, h2, h3⟩, st⟩
  · dsimp only [Pt.U, Pt.locs, Pt.cells, Pt.slots] at X' e1 e2 h1 h2 h3 st
    subst h1; subst h2; subst h3
    exact Or.inl ⟨v, (T.setVm vm₁).calling g' mk (Value.ref b :: As).toArray, t, U', L, hT, X', hL, e1, e2, hq, st⟩
  · dsimp only [Pt.U, Pt.locs, Pt.cells, Pt.slots] at X' e1 e2 h1 h2 h3 st hcl
    subst h1; subst h2; subst h3
    exact Or.inr ⟨q, (T.setVm vm₁).calling g' mk (Value.ref b :: As).toArray, t, U', L, E, ce, hT, X', hL, e1, e2, hq, hce, hcv, vx_cls hW₁ hcl, st⟩
end VXID
/-! ===== END ===== -/
end
section
/-! names, words -/
def WALL : List Cond := lw_tbl.filter goodWord
theorem mem_W (k : Nat) {w : Cond} (h : lw_tbl[k]? = some w) (g : goodWord w = true) : w ∈ WALL := List.mem_filter.mpr ⟨List.mem_of_getElem? h, g⟩
theorem W_good : ∀ w ∈ WALL, w ∈ lw_tbl ∧ goodWord w = true := fun w h => List.mem_filter.mp h
def F_E : u_T := fun k => match k with
  | 0 => ("RopeThreads$Elevator", "settings", "[I", true)
  | 1 => ("RopeThreads$Elevator", "places", "[LRopeThreads$Rope;", true)
  | 2 => ("RopeThreads$Elevator", "ropes", "I", false)
  | 3 => ("RopeThreads$Elevator", "month", "I", false)
  | 4 => ("RopeThreads$Elevator", "trips", "I", false)
  | 5 => ("RopeThreads$Elevator", "inspected", "I", false)
  | _ => ("RopeThreads$Elevator", "swaps", "I", false)
def ft_E : Nat → FieldType := fun k => match k with
  | 0 => .array .int
  | 1 => .array (.object "RopeThreads$Rope")
  | 2 => .int
  | 3 => .int
  | 4 => .int
  | 5 => .int
  | _ => .int
theorem n_E : ∀ a, a < 7 → ∀ b, b < 7 → a ≠ b → (F_E a).2.1 ≠ (F_E b).2.1 := by decide +kernel
theorem ft_E_ok : ∀ k, k < 7 → parseFieldDescriptor (F_E k).2.2.1 = some (ft_E k) := by decide +kernel
def F_H : u_T := fun k => match k with
  | 0 => ("RopeThreads$History", "ring", "[LRopeThreads$Elevator;", true)
  | 1 => ("RopeThreads$History", "oldest", "I", false)
  | _ => ("RopeThreads$History", "kept", "I", false)
def ft_H : Nat → FieldType := fun k => match k with
  | 0 => .array (.object "RopeThreads$Elevator")
  | 1 => .int
  | _ => .int
theorem n_H : ∀ a, a < 3 → ∀ b, b < 3 → a ≠ b → (F_H a).2.1 ≠ (F_H b).2.1 := by decide +kernel
theorem ft_H_ok : ∀ k, k < 3 → parseFieldDescriptor (F_H k).2.2.1 = some (ft_H k) := by decide +kernel
def F_R : u_T := fun k => match k with
  | 0 => ("RopeThreads$Rope", "bends", "[I", true)
  | 1 => ("RopeThreads$Rope", "counts", "[I", true)
  | 2 => ("RopeThreads$Rope", "countsAhead", "[I", true)
  | 3 => ("RopeThreads$Rope", "lookMonths", "[I", true)
  | 4 => ("RopeThreads$Rope", "quality", "I", false)
  | 5 => ("RopeThreads$Rope", "hungMonth", "I", false)
  | _ => ("RopeThreads$Rope", "trips", "I", false)
def ft_R : Nat → FieldType := fun k => match k with
  | 0 => .array .int
  | 1 => .array .int
  | 2 => .array .int
  | 3 => .array .int
  | 4 => .int
  | 5 => .int
  | _ => .int
theorem n_R : ∀ a, a < 7 → ∀ b, b < 7 → a ≠ b → (F_R a).2.1 ≠ (F_R b).2.1 := by decide +kernel
theorem ft_R_ok : ∀ k, k < 7 → parseFieldDescriptor (F_R k).2.2.1 = some (ft_R k) := by decide +kernel
def F_T : u_T := fun k => match k with
  | 0 => ("RopeThreads$TripText", "signs", "[I", true)
  | 1 => ("RopeThreads$TripText", "froms", "[I", true)
  | 2 => ("RopeThreads$TripText", "tos", "[I", true)
  | 3 => ("RopeThreads$TripText", "times", "[I", true)
  | 4 => ("RopeThreads$TripText", "length", "I", false)
  | _ => ("RopeThreads$TripText", "parts", "I", false)
def ft_T : Nat → FieldType := fun k => match k with
  | 0 => .array .int
  | 1 => .array .int
  | 2 => .array .int
  | 3 => .array .int
  | 4 => .int
  | _ => .int
theorem n_T : ∀ a, a < 6 → ∀ b, b < 6 → a ≠ b → (F_T a).2.1 ≠ (F_T b).2.1 := by decide +kernel
theorem ft_T_ok : ∀ k, k < 6 → parseFieldDescriptor (F_T k).2.2.1 = some (ft_T k) := by decide +kernel
def F_C : u_T := fun k => match k with
  | 0 => ("RopeThreads", "now", "LRopeThreads$Elevator;", true)
  | 1 => ("RopeThreads", "history", "LRopeThreads$History;", true)
  | 2 => ("RopeThreads", "text", "LRopeThreads$TripText;", true)
  | _ => ("RopeThreads", "supposed", "LRopeThreads$Rope;", true)
def ft_C : Nat → FieldType := fun k => match k with
  | 0 => .object "RopeThreads$Elevator"
  | 1 => .object "RopeThreads$History"
  | 2 => .object "RopeThreads$TripText"
  | _ => .object "RopeThreads$Rope"
theorem n_C : ∀ a, a < 4 → ∀ b, b < 4 → a ≠ b → (F_C a).2.1 ≠ (F_C b).2.1 := by decide +kernel
theorem ft_C_ok : ∀ k, k < 4 → parseFieldDescriptor (F_C k).2.2.1 = some (ft_C k) := by decide +kernel
def yC_existingRope : MethodName := ⟨"RopeThreads", "existingRope", "(I)LRopeThreads$Rope;"⟩
def yJT_fillInStackTrace : MethodName := ⟨"java/lang/Throwable", "fillInStackTrace", "(I)Ljava/lang/Throwable;"⟩
def yC_ropeFigure : MethodName := ⟨"RopeThreads", "ropeFigure", "(LRopeThreads$Rope;I)I"⟩
def yC_countFigure : MethodName := ⟨"RopeThreads", "countFigure", "(I)I"⟩
def yC_requireTripsAllowed : MethodName := ⟨"RopeThreads", "requireTripsAllowed", "(I)V"⟩
def yC_windowFigure : MethodName := ⟨"RopeThreads", "windowFigure", "(LRopeThreads$Rope;II)I"⟩
def yC_tripsToLimit : MethodName := ⟨"RopeThreads", "tripsToLimit", "(LRopeThreads$Rope;)I"⟩
def yC_reachesLimit : MethodName := ⟨"RopeThreads", "reachesLimit", "(LRopeThreads$Rope;I)Z"⟩
def yC_lowestUnseen : MethodName := ⟨"RopeThreads", "lowestUnseen", "()I"⟩
def yC_reasonIfInspected : MethodName := ⟨"RopeThreads", "reasonIfInspected", "(LRopeThreads$Rope;II)I"⟩
def yC_shareCounted : MethodName := ⟨"RopeThreads", "shareCounted", "()D"⟩
def yC_init : MethodName := ⟨"RopeThreads", "<init>", "()V"⟩
def yJO_init : MethodName := ⟨"java/lang/Object", "<init>", "()V"⟩
def yE_init : MethodName := ⟨"RopeThreads$Elevator", "<init>", "()V"⟩
def yR_init : MethodName := ⟨"RopeThreads$Rope", "<init>", "()V"⟩
def yH_init : MethodName := ⟨"RopeThreads$History", "<init>", "()V"⟩
def yT_init : MethodName := ⟨"RopeThreads$TripText", "<init>", "()V"⟩
def yC_cut : MethodName := ⟨"RopeThreads", "cut", "(I)I"⟩
def yE_ropeAt : MethodName := ⟨"RopeThreads$Elevator", "ropeAt", "(I)LRopeThreads$Rope;"⟩
def yJT_init : MethodName := ⟨"java/lang/Throwable", "<init>", "()V"⟩
def yJT_fillInStackTrace2 : MethodName := ⟨"java/lang/Throwable", "fillInStackTrace", "()Ljava/lang/Throwable;"⟩
def yJT_init2 : MethodName := ⟨"java/lang/Throwable", "<init>", "(Ljava/lang/String;)V"⟩
def yH_keep : MethodName := ⟨"RopeThreads$History", "keep", "(LRopeThreads$Elevator;)V"⟩
def yJM_floorMod : MethodName := ⟨"java/lang/Math", "floorMod", "(II)I"⟩
def yE_copyFrom : MethodName := ⟨"RopeThreads$Elevator", "copyFrom", "(LRopeThreads$Elevator;)V"⟩
def yJS_arraycopy : MethodName := ⟨"java/lang/System", "arraycopy", "(Ljava/lang/Object;ILjava/lang/Object;II)V"⟩
def yR_copyFrom : MethodName := ⟨"RopeThreads$Rope", "copyFrom", "(LRopeThreads$Rope;)V"⟩
def yE_removeRope : MethodName := ⟨"RopeThreads$Elevator", "removeRope", "(I)V"⟩
def yC_swap : MethodName := ⟨"RopeThreads", "swap", "(II)I"⟩
def yC_requireRange : MethodName := ⟨"RopeThreads", "requireRange", "(III)V"⟩
def yR_allBroken : MethodName := ⟨"RopeThreads$Rope", "allBroken", "()I"⟩
def yR_sumOfBroken : MethodName := ⟨"RopeThreads$Rope", "sumOfBroken", "(II)I"⟩
def yR_broken : MethodName := ⟨"RopeThreads$Rope", "broken", "(I)I"⟩
def yR_renew : MethodName := ⟨"RopeThreads$Rope", "renew", "(II)V"⟩
def yJA_fill : MethodName := ⟨"java/util/Arrays", "fill", "([II)V"⟩
def yC_inspect : MethodName := ⟨"RopeThreads", "inspect", "(III)I"⟩
def yC_requireSections : MethodName := ⟨"RopeThreads", "requireSections", "(II)V"⟩
def yC_requireIndex : MethodName := ⟨"RopeThreads", "requireIndex", "(II)V"⟩
def yR_allCounts : MethodName := ⟨"RopeThreads$Rope", "allCounts", "()I"⟩
def yR_sumOfCounts : MethodName := ⟨"RopeThreads$Rope", "sumOfCounts", "(II)I"⟩
def yR_lookAt : MethodName := ⟨"RopeThreads$Rope", "lookAt", "(III)V"⟩
def yC_set : MethodName := ⟨"RopeThreads", "set", "(II)I"⟩
def yC_pass : MethodName := ⟨"RopeThreads", "pass", "(I)I"⟩
def yE_ropesToRetire : MethodName := ⟨"RopeThreads$Elevator", "ropesToRetire", "()I"⟩
def yE_reasonFor : MethodName := ⟨"RopeThreads$Elevator", "reasonFor", "(LRopeThreads$Rope;)I"⟩
def yR_greatestCounts : MethodName := ⟨"RopeThreads$Rope", "greatestCounts", "(I)I"⟩
def yJM_max : MethodName := ⟨"java/lang/Math", "max", "(II)I"⟩
def yR_greatestGrowth : MethodName := ⟨"RopeThreads$Rope", "greatestGrowth", "()I"⟩
def yE_monthsLeft : MethodName := ⟨"RopeThreads$Elevator", "monthsLeft", "(LRopeThreads$Rope;)I"⟩
def yR_oldestLook : MethodName := ⟨"RopeThreads$Rope", "oldestLook", "()I"⟩
def yJM_min : MethodName := ⟨"java/lang/Math", "min", "(II)I"⟩
def yC_rope : MethodName := ⟨"RopeThreads", "rope", "(II)I"⟩
def yR_windowOfGreatestCounts : MethodName := ⟨"RopeThreads$Rope", "windowOfGreatestCounts", "(I)I"⟩
def yR_greatestBroken : MethodName := ⟨"RopeThreads$Rope", "greatestBroken", "(I)I"⟩
def yC_count : MethodName := ⟨"RopeThreads", "count", "(I)I"⟩
def yE_canRun : MethodName := ⟨"RopeThreads$Elevator", "canRun", "()Z"⟩
def yE_brokenOfRopes : MethodName := ⟨"RopeThreads$Elevator", "brokenOfRopes", "()I"⟩
def yE_countsOfRopes : MethodName := ⟨"RopeThreads$Elevator", "countsOfRopes", "()I"⟩
def yL_low : MethodName := ⟨"RopeThreadsLaw", "low", "(II)I"⟩
def yL_cell : MethodName := ⟨"RopeThreadsLaw", "cell", "([II)I"⟩
def yL_trip : MethodName := ⟨"RopeThreadsLaw", "trip", "(LRopeThreads;III)I"⟩
def yC_trip : MethodName := ⟨"RopeThreads", "trip", "(III)I"⟩
def yE_travel : MethodName := ⟨"RopeThreads$Elevator", "travel", "(III)V"⟩
def yR_bend : MethodName := ⟨"RopeThreads$Rope", "bend", "(III)V"⟩
def yL_hang : MethodName := ⟨"RopeThreadsLaw", "hang", "(LRopeThreads;I)I"⟩
def yC_hang : MethodName := ⟨"RopeThreads", "hang", "(I)I"⟩
def yE_addRope : MethodName := ⟨"RopeThreads$Elevator", "addRope", "(I)V"⟩
def yL_undo : MethodName := ⟨"RopeThreadsLaw", "undo", "(LRopeThreads;)I"⟩
def yC_undo : MethodName := ⟨"RopeThreads", "undo", "()I"⟩
def yH_giveBack : MethodName := ⟨"RopeThreads$History", "giveBack", "(LRopeThreads$Elevator;)V"⟩
def yL_lift : MethodName := ⟨"RopeThreadsLaw", "lift", "(LRopeThreads;)Z"⟩
def yL_rope : MethodName := ⟨"RopeThreadsLaw", "rope", "(LRopeThreads;I)Z"⟩
def yC_section : MethodName := ⟨"RopeThreads", "section", "(III)I"⟩
def yR_sectionFigure : MethodName := ⟨"RopeThreads$Rope", "sectionFigure", "(II)I"⟩
def yC_window : MethodName := ⟨"RopeThreads", "window", "(III)I"⟩
def yE_windows : MethodName := ⟨"RopeThreads$Elevator", "windows", "()I"⟩
def yC_tripsLeft : MethodName := ⟨"RopeThreads", "tripsLeft", "(I)I"⟩
def yC_setting : MethodName := ⟨"RopeThreads", "setting", "(I)I"⟩
def yC_unseen : MethodName := ⟨"RopeThreads", "unseen", "()I"⟩
def yC_ifInspected : MethodName := ⟨"RopeThreads", "ifInspected", "(III)I"⟩
def yC_countedShare : MethodName := ⟨"RopeThreads", "countedShare", "()D"⟩
abbrev bC_init : ByteArray := prog_1_method_1_code
abbrev bE_init : ByteArray := prog_2_method_1_code
abbrev bR_init : ByteArray := prog_4_method_1_code
abbrev bH_init : ByteArray := prog_3_method_1_code
abbrev bT_init : ByteArray := prog_5_method_1_code
abbrev bC_cut : ByteArray := prog_1_method_3_code
abbrev bC_existingRope : ByteArray := prog_1_method_25_code
abbrev bE_ropeAt : ByteArray := prog_2_method_3_code
abbrev bJT_init : ByteArray := prog_16_method_1_code
abbrev bJT_init2 : ByteArray := prog_16_method_2_code
abbrev bH_keep : ByteArray := prog_3_method_2_code
abbrev bJM_floorMod : ByteArray := prog_12_method_50_code
abbrev bE_copyFrom : ByteArray := prog_2_method_2_code
abbrev bR_copyFrom : ByteArray := prog_4_method_3_code
abbrev bE_removeRope : ByteArray := prog_2_method_5_code
abbrev bC_swap : ByteArray := prog_1_method_4_code
abbrev bC_requireRange : ByteArray := prog_1_method_27_code
abbrev bR_allBroken : ByteArray := prog_4_method_10_code
abbrev bR_sumOfBroken : ByteArray := prog_4_method_8_code
abbrev bR_broken : ByteArray := prog_4_method_6_code
abbrev bR_renew : ByteArray := prog_4_method_2_code
abbrev bJA_fill : ByteArray := prog_17_method_103_code
abbrev bC_inspect : ByteArray := prog_1_method_5_code
abbrev bC_requireSections : ByteArray := prog_1_method_28_code
abbrev bC_requireIndex : ByteArray := prog_1_method_26_code
abbrev bR_allCounts : ByteArray := prog_4_method_9_code
abbrev bR_sumOfCounts : ByteArray := prog_4_method_7_code
abbrev bR_lookAt : ByteArray := prog_4_method_5_code
abbrev bC_set : ByteArray := prog_1_method_6_code
abbrev bC_pass : ByteArray := prog_1_method_8_code
abbrev bE_ropesToRetire : ByteArray := prog_2_method_10_code
abbrev bE_reasonFor : ByteArray := prog_2_method_8_code
abbrev bR_greatestCounts : ByteArray := prog_4_method_11_code
abbrev bJM_max : ByteArray := prog_12_method_65_code
abbrev bR_greatestGrowth : ByteArray := prog_4_method_16_code
abbrev bE_monthsLeft : ByteArray := prog_2_method_9_code
abbrev bR_oldestLook : ByteArray := prog_4_method_17_code
abbrev bJM_min : ByteArray := prog_12_method_69_code
abbrev bC_rope : ByteArray := prog_1_method_14_code
abbrev bC_ropeFigure : ByteArray := prog_1_method_30_code
abbrev bR_windowOfGreatestCounts : ByteArray := prog_4_method_12_code
abbrev bR_greatestBroken : ByteArray := prog_4_method_13_code
abbrev bC_count : ByteArray := prog_1_method_17_code
abbrev bC_countFigure : ByteArray := prog_1_method_32_code
abbrev bE_canRun : ByteArray := prog_2_method_11_code
abbrev bE_brokenOfRopes : ByteArray := prog_2_method_13_code
abbrev bE_countsOfRopes : ByteArray := prog_2_method_12_code
abbrev bL_low : ByteArray := method_2_code
abbrev bL_cell : ByteArray := method_3_code
abbrev bL_trip : ByteArray := method_4_code
abbrev bC_trip : ByteArray := prog_1_method_7_code
abbrev bC_requireTripsAllowed : ByteArray := prog_1_method_29_code
abbrev bE_travel : ByteArray := prog_2_method_6_code
abbrev bR_bend : ByteArray := prog_4_method_4_code
abbrev bL_hang : ByteArray := method_5_code
abbrev bC_hang : ByteArray := prog_1_method_2_code
abbrev bE_addRope : ByteArray := prog_2_method_4_code
abbrev bL_undo : ByteArray := method_6_code
abbrev bC_undo : ByteArray := prog_1_method_13_code
abbrev bH_giveBack : ByteArray := prog_3_method_3_code
abbrev bL_lift : ByteArray := method_8_code
abbrev bL_rope : ByteArray := method_7_code
abbrev bC_section : ByteArray := prog_1_method_15_code
abbrev bR_sectionFigure : ByteArray := prog_4_method_18_code
abbrev bC_window : ByteArray := prog_1_method_16_code
abbrev bE_windows : ByteArray := prog_2_method_7_code
abbrev bC_windowFigure : ByteArray := prog_1_method_31_code
abbrev bC_tripsLeft : ByteArray := prog_1_method_21_code
abbrev bC_tripsToLimit : ByteArray := prog_1_method_34_code
abbrev bC_reachesLimit : ByteArray := prog_1_method_35_code
abbrev bC_setting : ByteArray := prog_1_method_18_code
abbrev bC_unseen : ByteArray := prog_1_method_22_code
abbrev bC_lowestUnseen : ByteArray := prog_1_method_36_code
abbrev bC_reasonIfInspected : ByteArray := prog_1_method_33_code
abbrev bC_ifInspected : ByteArray := prog_1_method_19_code
abbrev bC_countedShare : ByteArray := prog_1_method_23_code
abbrev bC_shareCounted : ByteArray := prog_1_method_37_code
theorem wV_C_existingRope : Cond.selects "RopeThreads" yC_existingRope yC_existingRope ∈ WALL := mem_W 0 (by decide +kernel) rfl
theorem wV_JT_fillInStackTrace : Cond.selects "java/lang/Throwable" yJT_fillInStackTrace yJT_fillInStackTrace ∈ WALL := mem_W 1 (by decide +kernel) rfl
theorem wV_C_ropeFigure : Cond.selects "RopeThreads" yC_ropeFigure yC_ropeFigure ∈ WALL := mem_W 2 (by decide +kernel) rfl
theorem wV_C_countFigure : Cond.selects "RopeThreads" yC_countFigure yC_countFigure ∈ WALL := mem_W 3 (by decide +kernel) rfl
theorem wV_C_requireTripsAllowed : Cond.selects "RopeThreads" yC_requireTripsAllowed yC_requireTripsAllowed ∈ WALL := mem_W 4 (by decide +kernel) rfl
theorem wV_C_windowFigure : Cond.selects "RopeThreads" yC_windowFigure yC_windowFigure ∈ WALL := mem_W 5 (by decide +kernel) rfl
theorem wV_C_tripsToLimit : Cond.selects "RopeThreads" yC_tripsToLimit yC_tripsToLimit ∈ WALL := mem_W 6 (by decide +kernel) rfl
theorem wV_C_reachesLimit : Cond.selects "RopeThreads" yC_reachesLimit yC_reachesLimit ∈ WALL := mem_W 7 (by decide +kernel) rfl
theorem wV_C_lowestUnseen : Cond.selects "RopeThreads" yC_lowestUnseen yC_lowestUnseen ∈ WALL := mem_W 8 (by decide +kernel) rfl
theorem wV_C_reasonIfInspected : Cond.selects "RopeThreads" yC_reasonIfInspected yC_reasonIfInspected ∈ WALL := mem_W 9 (by decide +kernel) rfl
theorem wV_C_shareCounted : Cond.selects "RopeThreads" yC_shareCounted yC_shareCounted ∈ WALL := mem_W 10 (by decide +kernel) rfl
theorem wN_L : Cond.initialized "RopeThreadsLaw" ∈ WALL := mem_W 11 (by decide +kernel) rfl
theorem wN_C : Cond.initialized "RopeThreads" ∈ WALL := mem_W 12 (by decide +kernel) rfl
theorem wN_E : Cond.initialized "RopeThreads$Elevator" ∈ WALL := mem_W 13 (by decide +kernel) rfl
theorem wN_R : Cond.initialized "RopeThreads$Rope" ∈ WALL := mem_W 14 (by decide +kernel) rfl
theorem wN_H : Cond.initialized "RopeThreads$History" ∈ WALL := mem_W 15 (by decide +kernel) rfl
theorem wN_T : Cond.initialized "RopeThreads$TripText" ∈ WALL := mem_W 16 (by decide +kernel) rfl
theorem wN_JT : Cond.initialized "java/lang/Throwable" ∈ WALL := mem_W 17 (by decide +kernel) rfl
theorem wN_Exception : Cond.initialized "java/lang/Exception" ∈ WALL := mem_W 18 (by decide +kernel) rfl
theorem wN_RuntimeException : Cond.initialized "java/lang/RuntimeException" ∈ WALL := mem_W 19 (by decide +kernel) rfl
theorem wN_IllegalArgumentException : Cond.initialized "java/lang/IllegalArgumentException" ∈ WALL := mem_W 20 (by decide +kernel) rfl
theorem wN_JM : Cond.initialized "java/lang/Math" ∈ WALL := mem_W 21 (by decide +kernel) rfl
theorem wN_IllegalStateException : Cond.initialized "java/lang/IllegalStateException" ∈ WALL := mem_W 22 (by decide +kernel) rfl
theorem wN_JS : Cond.initialized "java/lang/System" ∈ WALL := mem_W 23 (by decide +kernel) rfl
theorem wN_JA : Cond.initialized "java/util/Arrays" ∈ WALL := mem_W 24 (by decide +kernel) rfl
theorem wN_IndexOutOfBoundsException : Cond.initialized "java/lang/IndexOutOfBoundsException" ∈ WALL := mem_W 25 (by decide +kernel) rfl
theorem wC_L_10 : Cond.classLink "RopeThreadsLaw" 10 "RopeThreads" ∈ WALL := mem_W 26 (by decide +kernel) rfl
theorem wA_C : Cond.instantiable "RopeThreads" 4 ∈ WALL := mem_W 27 (by decide +kernel) rfl
theorem wM_L_59 : Cond.methodLink "RopeThreadsLaw" 59 yC_init ∈ WALL := mem_W 28 (by decide +kernel) rfl
theorem wI_C_init : Cond.instanceMethod yC_init ∈ WALL := mem_W 29 (by decide +kernel) rfl
set_option maxRecDepth 30000 in
theorem wB_C_init : Cond.code yC_init prog_1_method_1_code 1 none ∈ WALL := mem_W 30 rfl rfl
theorem wM_C_1 : Cond.methodLink "RopeThreads" 1 yJO_init ∈ WALL := mem_W 31 (by decide +kernel) rfl
theorem wI_JO_init : Cond.instanceMethod yJO_init ∈ WALL := mem_W 32 (by decide +kernel) rfl
theorem wB_objL : Cond.code Lib.objectInit ⟨#[0xb1]⟩ 1 none ∈ WALL := mem_W 33 rfl rfl
theorem wC_C_7 : Cond.classLink "RopeThreads" 7 "RopeThreads$Elevator" ∈ WALL := mem_W 34 (by decide +kernel) rfl
theorem wA_E : Cond.instantiable "RopeThreads$Elevator" 7 ∈ WALL := mem_W 35 (by decide +kernel) rfl
theorem wM_C_9 : Cond.methodLink "RopeThreads" 9 yE_init ∈ WALL := mem_W 36 (by decide +kernel) rfl
theorem wI_E_init : Cond.instanceMethod yE_init ∈ WALL := mem_W 37 (by decide +kernel) rfl
set_option maxRecDepth 30000 in
theorem wB_E_init : Cond.code yE_init prog_2_method_1_code 2 none ∈ WALL := mem_W 38 rfl rfl
theorem wM_E_3 : Cond.methodLink "RopeThreads$Elevator" 3 yJO_init ∈ WALL := mem_W 39 (by decide +kernel) rfl
theorem wC_E_15 : Cond.classLink "RopeThreads$Elevator" 15 "RopeThreads$Rope" ∈ WALL := mem_W 40 (by decide +kernel) rfl
theorem wA_R : Cond.instantiable "RopeThreads$Rope" 7 ∈ WALL := mem_W 44 (by decide +kernel) rfl
theorem wI_R_init : Cond.instanceMethod yR_init ∈ WALL := mem_W 46 (by decide +kernel) rfl
set_option maxRecDepth 30000 in
theorem wB_R_init : Cond.code yR_init prog_4_method_1_code 1 none ∈ WALL := mem_W 47 rfl rfl
theorem wM_R_3 : Cond.methodLink "RopeThreads$Rope" 3 yJO_init ∈ WALL := mem_W 48 (by decide +kernel) rfl
theorem wF_R_9 : Cond.fieldLink "RopeThreads$Rope" 9 "RopeThreads$Rope" "bends" "[I" ∈ WALL := mem_W 49 (by decide +kernel) rfl
theorem wF_R_15 : Cond.fieldLink "RopeThreads$Rope" 15 "RopeThreads$Rope" "counts" "[I" ∈ WALL := mem_W 50 (by decide +kernel) rfl
theorem wF_R_18 : Cond.fieldLink "RopeThreads$Rope" 18 "RopeThreads$Rope" "countsAhead" "[I" ∈ WALL := mem_W 51 (by decide +kernel) rfl
theorem wF_R_21 : Cond.fieldLink "RopeThreads$Rope" 21 "RopeThreads$Rope" "lookMonths" "[I" ∈ WALL := mem_W 52 (by decide +kernel) rfl
theorem wF_R_24 : Cond.fieldLink "RopeThreads$Rope" 24 "RopeThreads$Rope" "quality" "I" ∈ WALL := mem_W 53 (by decide +kernel) rfl
theorem wF_R_28 : Cond.fieldLink "RopeThreads$Rope" 28 "RopeThreads$Rope" "hungMonth" "I" ∈ WALL := mem_W 55 (by decide +kernel) rfl
theorem wF_R_31 : Cond.fieldLink "RopeThreads$Rope" 31 "RopeThreads$Rope" "trips" "I" ∈ WALL := mem_W 57 (by decide +kernel) rfl
theorem wR_74 : Cond.arrayClass Jvm.ClassFile.FieldType.int ∈ WALL := mem_W 74 (by decide +kernel) rfl
theorem wF_E_9 : Cond.fieldLink "RopeThreads$Elevator" 9 "RopeThreads$Elevator" "settings" "[I" ∈ WALL := mem_W 75 (by decide +kernel) rfl
theorem wF_E_17 : Cond.fieldLink "RopeThreads$Elevator" 17 "RopeThreads$Elevator" "places" "[LRopeThreads$Rope;" ∈ WALL := mem_W 77 (by decide +kernel) rfl
theorem wF_E_21 : Cond.fieldLink "RopeThreads$Elevator" 21 "RopeThreads$Elevator" "ropes" "I" ∈ WALL := mem_W 78 (by decide +kernel) rfl
theorem wF_E_25 : Cond.fieldLink "RopeThreads$Elevator" 25 "RopeThreads$Elevator" "month" "I" ∈ WALL := mem_W 80 (by decide +kernel) rfl
theorem wF_E_28 : Cond.fieldLink "RopeThreads$Elevator" 28 "RopeThreads$Elevator" "trips" "I" ∈ WALL := mem_W 82 (by decide +kernel) rfl
theorem wF_E_31 : Cond.fieldLink "RopeThreads$Elevator" 31 "RopeThreads$Elevator" "inspected" "I" ∈ WALL := mem_W 84 (by decide +kernel) rfl
theorem wF_E_34 : Cond.fieldLink "RopeThreads$Elevator" 34 "RopeThreads$Elevator" "swaps" "I" ∈ WALL := mem_W 86 (by decide +kernel) rfl
theorem wC_C_16 : Cond.classLink "RopeThreads" 16 "RopeThreads$History" ∈ WALL := mem_W 103 (by decide +kernel) rfl
theorem wA_H : Cond.instantiable "RopeThreads$History" 3 ∈ WALL := mem_W 104 (by decide +kernel) rfl
theorem wM_C_18 : Cond.methodLink "RopeThreads" 18 yH_init ∈ WALL := mem_W 105 (by decide +kernel) rfl
theorem wI_H_init : Cond.instanceMethod yH_init ∈ WALL := mem_W 106 (by decide +kernel) rfl
set_option maxRecDepth 30000 in
theorem wB_H_init : Cond.code yH_init prog_3_method_1_code 2 none ∈ WALL := mem_W 107 rfl rfl
theorem wM_H_3 : Cond.methodLink "RopeThreads$History" 3 yJO_init ∈ WALL := mem_W 108 (by decide +kernel) rfl
theorem wC_H_9 : Cond.classLink "RopeThreads$History" 9 "RopeThreads$Elevator" ∈ WALL := mem_W 109 (by decide +kernel) rfl
theorem wM_H_24 : Cond.methodLink "RopeThreads$History" 24 yE_init ∈ WALL := mem_W 111 (by decide +kernel) rfl
theorem wF_H_11 : Cond.fieldLink "RopeThreads$History" 11 "RopeThreads$History" "ring" "[LRopeThreads$Elevator;" ∈ WALL := mem_W 112 (by decide +kernel) rfl
theorem wF_H_17 : Cond.fieldLink "RopeThreads$History" 17 "RopeThreads$History" "oldest" "I" ∈ WALL := mem_W 113 (by decide +kernel) rfl
theorem wF_H_21 : Cond.fieldLink "RopeThreads$History" 21 "RopeThreads$History" "kept" "I" ∈ WALL := mem_W 114 (by decide +kernel) rfl
theorem wC_C_23 : Cond.classLink "RopeThreads" 23 "RopeThreads$TripText" ∈ WALL := mem_W 123 (by decide +kernel) rfl
theorem wA_T : Cond.instantiable "RopeThreads$TripText" 6 ∈ WALL := mem_W 124 (by decide +kernel) rfl
theorem wI_T_init : Cond.instanceMethod yT_init ∈ WALL := mem_W 126 (by decide +kernel) rfl
set_option maxRecDepth 30000 in
theorem wB_T_init : Cond.code yT_init prog_5_method_1_code 1 none ∈ WALL := mem_W 127 rfl rfl
theorem wM_T_3 : Cond.methodLink "RopeThreads$TripText" 3 yJO_init ∈ WALL := mem_W 128 (by decide +kernel) rfl
theorem wF_T_9 : Cond.fieldLink "RopeThreads$TripText" 9 "RopeThreads$TripText" "signs" "[I" ∈ WALL := mem_W 129 (by decide +kernel) rfl
theorem wF_T_15 : Cond.fieldLink "RopeThreads$TripText" 15 "RopeThreads$TripText" "froms" "[I" ∈ WALL := mem_W 130 (by decide +kernel) rfl
theorem wF_T_18 : Cond.fieldLink "RopeThreads$TripText" 18 "RopeThreads$TripText" "tos" "[I" ∈ WALL := mem_W 131 (by decide +kernel) rfl
theorem wF_T_21 : Cond.fieldLink "RopeThreads$TripText" 21 "RopeThreads$TripText" "times" "[I" ∈ WALL := mem_W 132 (by decide +kernel) rfl
theorem wF_T_24 : Cond.fieldLink "RopeThreads$TripText" 24 "RopeThreads$TripText" "length" "I" ∈ WALL := mem_W 133 (by decide +kernel) rfl
theorem wF_T_28 : Cond.fieldLink "RopeThreads$TripText" 28 "RopeThreads$TripText" "parts" "I" ∈ WALL := mem_W 134 (by decide +kernel) rfl
theorem wC_C_30 : Cond.classLink "RopeThreads" 30 "RopeThreads$Rope" ∈ WALL := mem_W 148 (by decide +kernel) rfl
theorem wF_C_10 : Cond.fieldLink "RopeThreads" 10 "RopeThreads" "now" "LRopeThreads$Elevator;" ∈ WALL := mem_W 150 (by decide +kernel) rfl
theorem wF_C_19 : Cond.fieldLink "RopeThreads" 19 "RopeThreads" "history" "LRopeThreads$History;" ∈ WALL := mem_W 151 (by decide +kernel) rfl
theorem wF_C_26 : Cond.fieldLink "RopeThreads" 26 "RopeThreads" "text" "LRopeThreads$TripText;" ∈ WALL := mem_W 152 (by decide +kernel) rfl
theorem wF_C_33 : Cond.fieldLink "RopeThreads" 33 "RopeThreads" "supposed" "LRopeThreads$Rope;" ∈ WALL := mem_W 153 (by decide +kernel) rfl
theorem wM_L_79 : Cond.methodLink "RopeThreadsLaw" 79 yC_cut ∈ WALL := mem_W 163 (by decide +kernel) rfl
theorem wI_C_cut : Cond.instanceMethod yC_cut ∈ WALL := mem_W 164 (by decide +kernel) rfl
theorem wV_C_cut : Cond.selects "RopeThreads" yC_cut yC_cut ∈ WALL := mem_W 165 (by decide +kernel) rfl
set_option maxRecDepth 30000 in
theorem wB_C_cut : Cond.code yC_cut prog_1_method_3_code 2 (some .int) ∈ WALL := mem_W 166 rfl rfl
theorem wM_C_60 : Cond.methodLink "RopeThreads" 60 yC_existingRope ∈ WALL := mem_W 167 (by decide +kernel) rfl
theorem wI_C_existingRope : Cond.instanceMethod yC_existingRope ∈ WALL := mem_W 169 (by decide +kernel) rfl
set_option maxRecDepth 30000 in
theorem wB_C_existingRope : Cond.code yC_existingRope prog_1_method_25_code 3 (some (.object "RopeThreads$Rope")) ∈ WALL := mem_W 170 rfl rfl
theorem wM_C_205 : Cond.methodLink "RopeThreads" 205 yE_ropeAt ∈ WALL := mem_W 171 (by decide +kernel) rfl
theorem wI_E_ropeAt : Cond.instanceMethod yE_ropeAt ∈ WALL := mem_W 172 (by decide +kernel) rfl
theorem wV_E_ropeAt : Cond.selects "RopeThreads$Elevator" yE_ropeAt yE_ropeAt ∈ WALL := mem_W 173 (by decide +kernel) rfl
set_option maxRecDepth 30000 in
theorem wB_E_ropeAt : Cond.code yE_ropeAt prog_2_method_3_code 2 (some (.object "RopeThreads$Rope")) ∈ WALL := mem_W 174 rfl rfl
theorem wC_C_219 : Cond.classLink "RopeThreads" 219 "java/lang/IndexOutOfBoundsException" ∈ WALL := mem_W 175 (by decide +kernel) rfl
theorem wA_IndexOutOfBoundsException : Cond.instantiable "java/lang/IndexOutOfBoundsException" 6 ∈ WALL := mem_W 176 (by decide +kernel) rfl
theorem wF_JT_198 : Cond.fieldLink "java/lang/Throwable" 198 "java/lang/Throwable" "backtrace" "Ljava/lang/Object;" ∈ WALL := mem_W 196 (by decide +kernel) rfl
theorem wI_JT_init : Cond.instanceMethod yJT_init ∈ WALL := mem_W 198 (by decide +kernel) rfl
set_option maxRecDepth 30000 in
theorem wB_JT_init : Cond.code yJT_init prog_16_method_1_code 1 none ∈ WALL := mem_W 199 rfl rfl
theorem wM_JT_1 : Cond.methodLink "java/lang/Throwable" 1 yJO_init ∈ WALL := mem_W 200 (by decide +kernel) rfl
theorem wF_JT_13 : Cond.fieldLink "java/lang/Throwable" 13 "java/lang/Throwable" "UNASSIGNED_STACK" "[Ljava/lang/StackTraceElement;" ∈ WALL := mem_W 201 (by decide +kernel) rfl
theorem wF_JT_20 : Cond.fieldLink "java/lang/Throwable" 20 "java/lang/Throwable" "SUPPRESSED_SENTINEL" "Ljava/util/List;" ∈ WALL := mem_W 203 (by decide +kernel) rfl
theorem wM_JT_27 : Cond.methodLink "java/lang/Throwable" 27 yJT_fillInStackTrace2 ∈ WALL := mem_W 205 (by decide +kernel) rfl
theorem wI_JT_fillInStackTrace2 : Cond.instanceMethod yJT_fillInStackTrace2 ∈ WALL := mem_W 206 (by decide +kernel) rfl
theorem wM_JT_202 : Cond.methodLink "java/lang/Throwable" 202 yJT_fillInStackTrace ∈ WALL := mem_W 211 (by decide +kernel) rfl
theorem wI_JT_fillInStackTrace : Cond.instanceMethod yJT_fillInStackTrace ∈ WALL := mem_W 213 (by decide +kernel) rfl
theorem wA_JT : Cond.instantiable "java/lang/Throwable" 6 ∈ WALL := mem_W 214 (by decide +kernel) rfl
theorem wX_JT_fillInStackTrace : Cond.native yJT_fillInStackTrace ∈ WALL := mem_W 215 (by decide +kernel) rfl
theorem wM_C_223 : Cond.methodLink "RopeThreads" 223 ⟨"java/lang/IndexOutOfBoundsException", "<init>", "(Ljava/lang/String;)V"⟩ ∈ WALL := mem_W 217 (by decide +kernel) rfl
theorem wI_JT_init2 : Cond.instanceMethod yJT_init2 ∈ WALL := mem_W 227 (by decide +kernel) rfl
set_option maxRecDepth 30000 in
theorem wB_JT_init2 : Cond.code yJT_init2 prog_16_method_2_code 2 none ∈ WALL := mem_W 228 rfl rfl
theorem wF_JT_31 : Cond.fieldLink "java/lang/Throwable" 31 "java/lang/Throwable" "detailMessage" "Ljava/lang/String;" ∈ WALL := mem_W 230 (by decide +kernel) rfl
theorem wF_JT_7 : Cond.fieldLink "java/lang/Throwable" 7 "java/lang/Throwable" "cause" "Ljava/lang/Throwable;" ∈ WALL := mem_W 231 (by decide +kernel) rfl
theorem wF_JT_17 : Cond.fieldLink "java/lang/Throwable" 17 "java/lang/Throwable" "stackTrace" "[Ljava/lang/StackTraceElement;" ∈ WALL := mem_W 232 (by decide +kernel) rfl
theorem wF_JT_24 : Cond.fieldLink "java/lang/Throwable" 24 "java/lang/Throwable" "suppressedExceptions" "Ljava/util/List;" ∈ WALL := mem_W 233 (by decide +kernel) rfl
theorem wR_242 : Cond.arrayClass Jvm.ClassFile.FieldType.byte ∈ WALL := mem_W 242 (by decide +kernel) rfl
theorem wM_C_52 : Cond.methodLink "RopeThreads" 52 yH_keep ∈ WALL := mem_W 243 (by decide +kernel) rfl
theorem wI_H_keep : Cond.instanceMethod yH_keep ∈ WALL := mem_W 244 (by decide +kernel) rfl
theorem wV_H_keep : Cond.selects "RopeThreads$History" yH_keep yH_keep ∈ WALL := mem_W 245 (by decide +kernel) rfl
set_option maxRecDepth 30000 in
theorem wB_H_keep : Cond.code yH_keep prog_3_method_2_code 3 none ∈ WALL := mem_W 246 rfl rfl
theorem wM_H_25 : Cond.methodLink "RopeThreads$History" 25 yJM_floorMod ∈ WALL := mem_W 247 (by decide +kernel) rfl
theorem wS_JM_floorMod : Cond.static yJM_floorMod ∈ WALL := mem_W 248 (by decide +kernel) rfl
set_option maxRecDepth 30000 in
theorem wB_JM_floorMod : Cond.code yJM_floorMod prog_12_method_50_code 3 (some .int) ∈ WALL := mem_W 249 rfl rfl
theorem wM_H_31 : Cond.methodLink "RopeThreads$History" 31 yE_copyFrom ∈ WALL := mem_W 250 (by decide +kernel) rfl
theorem wI_E_copyFrom : Cond.instanceMethod yE_copyFrom ∈ WALL := mem_W 251 (by decide +kernel) rfl
theorem wV_E_copyFrom : Cond.selects "RopeThreads$Elevator" yE_copyFrom yE_copyFrom ∈ WALL := mem_W 252 (by decide +kernel) rfl
set_option maxRecDepth 30000 in
theorem wB_E_copyFrom : Cond.code yE_copyFrom prog_2_method_2_code 5 none ∈ WALL := mem_W 253 rfl rfl
theorem wM_E_41 : Cond.methodLink "RopeThreads$Elevator" 41 yJS_arraycopy ∈ WALL := mem_W 254 (by decide +kernel) rfl
theorem wS_JS_arraycopy : Cond.static yJS_arraycopy ∈ WALL := mem_W 255 (by decide +kernel) rfl
theorem wX_JS_arraycopy : Cond.native yJS_arraycopy ∈ WALL := mem_W 256 (by decide +kernel) rfl
theorem wM_E_47 : Cond.methodLink "RopeThreads$Elevator" 47 yR_copyFrom ∈ WALL := mem_W 257 (by decide +kernel) rfl
theorem wI_R_copyFrom : Cond.instanceMethod yR_copyFrom ∈ WALL := mem_W 258 (by decide +kernel) rfl
theorem wV_R_copyFrom : Cond.selects "RopeThreads$Rope" yR_copyFrom yR_copyFrom ∈ WALL := mem_W 259 (by decide +kernel) rfl
set_option maxRecDepth 30000 in
theorem wB_R_copyFrom : Cond.code yR_copyFrom prog_4_method_3_code 2 none ∈ WALL := mem_W 260 rfl rfl
theorem wM_R_40 : Cond.methodLink "RopeThreads$Rope" 40 yJS_arraycopy ∈ WALL := mem_W 261 (by decide +kernel) rfl
theorem wM_C_64 : Cond.methodLink "RopeThreads" 64 yE_removeRope ∈ WALL := mem_W 262 (by decide +kernel) rfl
theorem wI_E_removeRope : Cond.instanceMethod yE_removeRope ∈ WALL := mem_W 263 (by decide +kernel) rfl
theorem wV_E_removeRope : Cond.selects "RopeThreads$Elevator" yE_removeRope yE_removeRope ∈ WALL := mem_W 264 (by decide +kernel) rfl
set_option maxRecDepth 30000 in
theorem wB_E_removeRope : Cond.code yE_removeRope prog_2_method_5_code 5 none ∈ WALL := mem_W 265 rfl rfl
theorem wM_E_51 : Cond.methodLink "RopeThreads$Elevator" 51 yE_ropeAt ∈ WALL := mem_W 266 (by decide +kernel) rfl
theorem wM_L_82 : Cond.methodLink "RopeThreadsLaw" 82 yC_swap ∈ WALL := mem_W 267 (by decide +kernel) rfl
theorem wI_C_swap : Cond.instanceMethod yC_swap ∈ WALL := mem_W 268 (by decide +kernel) rfl
theorem wV_C_swap : Cond.selects "RopeThreads" yC_swap yC_swap ∈ WALL := mem_W 269 (by decide +kernel) rfl
set_option maxRecDepth 30000 in
theorem wB_C_swap : Cond.code yC_swap prog_1_method_4_code 5 (some .int) ∈ WALL := mem_W 270 rfl rfl
theorem wM_C_37 : Cond.methodLink "RopeThreads" 37 yC_requireRange ∈ WALL := mem_W 271 (by decide +kernel) rfl
theorem wS_C_requireRange : Cond.static yC_requireRange ∈ WALL := mem_W 272 (by decide +kernel) rfl
set_option maxRecDepth 30000 in
theorem wB_C_requireRange : Cond.code yC_requireRange prog_1_method_27_code 3 none ∈ WALL := mem_W 273 rfl rfl
theorem wC_C_135 : Cond.classLink "RopeThreads" 135 "java/lang/IllegalArgumentException" ∈ WALL := mem_W 274 (by decide +kernel) rfl
theorem wA_IllegalArgumentException : Cond.instantiable "java/lang/IllegalArgumentException" 6 ∈ WALL := mem_W 275 (by decide +kernel) rfl
theorem wM_C_139 : Cond.methodLink "RopeThreads" 139 ⟨"java/lang/IllegalArgumentException", "<init>", "(Ljava/lang/String;)V"⟩ ∈ WALL := mem_W 284 (by decide +kernel) rfl
theorem wM_C_67 : Cond.methodLink "RopeThreads" 67 yR_allBroken ∈ WALL := mem_W 290 (by decide +kernel) rfl
theorem wI_R_allBroken : Cond.instanceMethod yR_allBroken ∈ WALL := mem_W 291 (by decide +kernel) rfl
theorem wV_R_allBroken : Cond.selects "RopeThreads$Rope" yR_allBroken yR_allBroken ∈ WALL := mem_W 292 (by decide +kernel) rfl
set_option maxRecDepth 30000 in
theorem wB_R_allBroken : Cond.code yR_allBroken prog_4_method_10_code 1 (some .int) ∈ WALL := mem_W 293 rfl rfl
theorem wM_R_54 : Cond.methodLink "RopeThreads$Rope" 54 yR_sumOfBroken ∈ WALL := mem_W 294 (by decide +kernel) rfl
theorem wI_R_sumOfBroken : Cond.instanceMethod yR_sumOfBroken ∈ WALL := mem_W 295 (by decide +kernel) rfl
theorem wV_R_sumOfBroken : Cond.selects "RopeThreads$Rope" yR_sumOfBroken yR_sumOfBroken ∈ WALL := mem_W 296 (by decide +kernel) rfl
set_option maxRecDepth 30000 in
theorem wB_R_sumOfBroken : Cond.code yR_sumOfBroken prog_4_method_8_code 5 (some .int) ∈ WALL := mem_W 297 rfl rfl
theorem wM_R_46 : Cond.methodLink "RopeThreads$Rope" 46 yR_broken ∈ WALL := mem_W 298 (by decide +kernel) rfl
theorem wI_R_broken : Cond.instanceMethod yR_broken ∈ WALL := mem_W 299 (by decide +kernel) rfl
theorem wV_R_broken : Cond.selects "RopeThreads$Rope" yR_broken yR_broken ∈ WALL := mem_W 300 (by decide +kernel) rfl
set_option maxRecDepth 30000 in
theorem wB_R_broken : Cond.code yR_broken prog_4_method_6_code 2 (some .int) ∈ WALL := mem_W 301 rfl rfl
theorem wM_C_74 : Cond.methodLink "RopeThreads" 74 yR_renew ∈ WALL := mem_W 302 (by decide +kernel) rfl
theorem wI_R_renew : Cond.instanceMethod yR_renew ∈ WALL := mem_W 303 (by decide +kernel) rfl
theorem wV_R_renew : Cond.selects "RopeThreads$Rope" yR_renew yR_renew ∈ WALL := mem_W 304 (by decide +kernel) rfl
set_option maxRecDepth 30000 in
theorem wB_R_renew : Cond.code yR_renew prog_4_method_2_code 3 none ∈ WALL := mem_W 305 rfl rfl
theorem wM_R_34 : Cond.methodLink "RopeThreads$Rope" 34 yJA_fill ∈ WALL := mem_W 306 (by decide +kernel) rfl
theorem wS_JA_fill : Cond.static yJA_fill ∈ WALL := mem_W 307 (by decide +kernel) rfl
set_option maxRecDepth 30000 in
theorem wB_JA_fill : Cond.code yJA_fill prog_17_method_103_code 4 none ∈ WALL := mem_W 308 rfl rfl
theorem wM_L_73 : Cond.methodLink "RopeThreadsLaw" 73 yC_inspect ∈ WALL := mem_W 309 (by decide +kernel) rfl
theorem wI_C_inspect : Cond.instanceMethod yC_inspect ∈ WALL := mem_W 310 (by decide +kernel) rfl
theorem wV_C_inspect : Cond.selects "RopeThreads" yC_inspect yC_inspect ∈ WALL := mem_W 311 (by decide +kernel) rfl
set_option maxRecDepth 30000 in
theorem wB_C_inspect : Cond.code yC_inspect prog_1_method_5_code 6 (some .int) ∈ WALL := mem_W 312 rfl rfl
theorem wM_C_81 : Cond.methodLink "RopeThreads" 81 yC_requireSections ∈ WALL := mem_W 313 (by decide +kernel) rfl
theorem wS_C_requireSections : Cond.static yC_requireSections ∈ WALL := mem_W 314 (by decide +kernel) rfl
set_option maxRecDepth 30000 in
theorem wB_C_requireSections : Cond.code yC_requireSections prog_1_method_28_code 2 none ∈ WALL := mem_W 315 rfl rfl
theorem wM_C_93 : Cond.methodLink "RopeThreads" 93 yC_requireIndex ∈ WALL := mem_W 316 (by decide +kernel) rfl
theorem wS_C_requireIndex : Cond.static yC_requireIndex ∈ WALL := mem_W 317 (by decide +kernel) rfl
set_option maxRecDepth 30000 in
theorem wB_C_requireIndex : Cond.code yC_requireIndex prog_1_method_26_code 2 none ∈ WALL := mem_W 318 rfl rfl
theorem wM_C_84 : Cond.methodLink "RopeThreads" 84 yR_allCounts ∈ WALL := mem_W 321 (by decide +kernel) rfl
theorem wI_R_allCounts : Cond.instanceMethod yR_allCounts ∈ WALL := mem_W 322 (by decide +kernel) rfl
theorem wV_R_allCounts : Cond.selects "RopeThreads$Rope" yR_allCounts yR_allCounts ∈ WALL := mem_W 323 (by decide +kernel) rfl
set_option maxRecDepth 30000 in
theorem wB_R_allCounts : Cond.code yR_allCounts prog_4_method_9_code 1 (some .int) ∈ WALL := mem_W 324 rfl rfl
theorem wM_R_50 : Cond.methodLink "RopeThreads$Rope" 50 yR_sumOfCounts ∈ WALL := mem_W 325 (by decide +kernel) rfl
theorem wI_R_sumOfCounts : Cond.instanceMethod yR_sumOfCounts ∈ WALL := mem_W 326 (by decide +kernel) rfl
theorem wV_R_sumOfCounts : Cond.selects "RopeThreads$Rope" yR_sumOfCounts yR_sumOfCounts ∈ WALL := mem_W 327 (by decide +kernel) rfl
set_option maxRecDepth 30000 in
theorem wB_R_sumOfCounts : Cond.code yR_sumOfCounts prog_4_method_7_code 5 (some .int) ∈ WALL := mem_W 328 rfl rfl
theorem wM_C_87 : Cond.methodLink "RopeThreads" 87 yR_lookAt ∈ WALL := mem_W 329 (by decide +kernel) rfl
theorem wI_R_lookAt : Cond.instanceMethod yR_lookAt ∈ WALL := mem_W 330 (by decide +kernel) rfl
theorem wV_R_lookAt : Cond.selects "RopeThreads$Rope" yR_lookAt yR_lookAt ∈ WALL := mem_W 331 (by decide +kernel) rfl
set_option maxRecDepth 30000 in
theorem wB_R_lookAt : Cond.code yR_lookAt prog_4_method_5_code 5 none ∈ WALL := mem_W 332 rfl rfl
theorem wM_L_85 : Cond.methodLink "RopeThreadsLaw" 85 yC_set ∈ WALL := mem_W 333 (by decide +kernel) rfl
theorem wI_C_set : Cond.instanceMethod yC_set ∈ WALL := mem_W 334 (by decide +kernel) rfl
theorem wV_C_set : Cond.selects "RopeThreads" yC_set yC_set ∈ WALL := mem_W 335 (by decide +kernel) rfl
set_option maxRecDepth 30000 in
theorem wB_C_set : Cond.code yC_set prog_1_method_6_code 4 (some .int) ∈ WALL := mem_W 336 rfl rfl
theorem wF_C_96 : Cond.fieldLink "RopeThreads" 96 "RopeThreads" "LEAST_VALUES" "[I" ∈ WALL := mem_W 337 (by decide +kernel) rfl
theorem wF_C_100 : Cond.fieldLink "RopeThreads" 100 "RopeThreads" "MOST_VALUES" "[I" ∈ WALL := mem_W 339 (by decide +kernel) rfl
theorem wM_L_76 : Cond.methodLink "RopeThreadsLaw" 76 yC_pass ∈ WALL := mem_W 341 (by decide +kernel) rfl
theorem wI_C_pass : Cond.instanceMethod yC_pass ∈ WALL := mem_W 342 (by decide +kernel) rfl
theorem wV_C_pass : Cond.selects "RopeThreads" yC_pass yC_pass ∈ WALL := mem_W 343 (by decide +kernel) rfl
set_option maxRecDepth 30000 in
theorem wB_C_pass : Cond.code yC_pass prog_1_method_8_code 2 (some .int) ∈ WALL := mem_W 344 rfl rfl
theorem wC_C_45 : Cond.classLink "RopeThreads" 45 "java/lang/IllegalStateException" ∈ WALL := mem_W 345 (by decide +kernel) rfl
theorem wA_IllegalStateException : Cond.instantiable "java/lang/IllegalStateException" 6 ∈ WALL := mem_W 346 (by decide +kernel) rfl
theorem wM_C_49 : Cond.methodLink "RopeThreads" 49 ⟨"java/lang/IllegalStateException", "<init>", "(Ljava/lang/String;)V"⟩ ∈ WALL := mem_W 355 (by decide +kernel) rfl
theorem wM_C_117 : Cond.methodLink "RopeThreads" 117 yE_ropesToRetire ∈ WALL := mem_W 361 (by decide +kernel) rfl
theorem wI_E_ropesToRetire : Cond.instanceMethod yE_ropesToRetire ∈ WALL := mem_W 362 (by decide +kernel) rfl
theorem wV_E_ropesToRetire : Cond.selects "RopeThreads$Elevator" yE_ropesToRetire yE_ropesToRetire ∈ WALL := mem_W 363 (by decide +kernel) rfl
set_option maxRecDepth 30000 in
theorem wB_E_ropesToRetire : Cond.code yE_ropesToRetire prog_2_method_10_code 4 (some .int) ∈ WALL := mem_W 364 rfl rfl
theorem wM_E_90 : Cond.methodLink "RopeThreads$Elevator" 90 yE_reasonFor ∈ WALL := mem_W 365 (by decide +kernel) rfl
theorem wI_E_reasonFor : Cond.instanceMethod yE_reasonFor ∈ WALL := mem_W 366 (by decide +kernel) rfl
theorem wV_E_reasonFor : Cond.selects "RopeThreads$Elevator" yE_reasonFor yE_reasonFor ∈ WALL := mem_W 367 (by decide +kernel) rfl
set_option maxRecDepth 30000 in
theorem wB_E_reasonFor : Cond.code yE_reasonFor prog_2_method_8_code 2 (some .int) ∈ WALL := mem_W 368 rfl rfl
theorem wM_E_72 : Cond.methodLink "RopeThreads$Elevator" 72 yR_greatestCounts ∈ WALL := mem_W 369 (by decide +kernel) rfl
theorem wI_R_greatestCounts : Cond.instanceMethod yR_greatestCounts ∈ WALL := mem_W 370 (by decide +kernel) rfl
theorem wV_R_greatestCounts : Cond.selects "RopeThreads$Rope" yR_greatestCounts yR_greatestCounts ∈ WALL := mem_W 371 (by decide +kernel) rfl
set_option maxRecDepth 30000 in
theorem wB_R_greatestCounts : Cond.code yR_greatestCounts prog_4_method_11_code 4 (some .int) ∈ WALL := mem_W 372 rfl rfl
theorem wM_R_57 : Cond.methodLink "RopeThreads$Rope" 57 yJM_max ∈ WALL := mem_W 373 (by decide +kernel) rfl
theorem wS_JM_max : Cond.static yJM_max ∈ WALL := mem_W 374 (by decide +kernel) rfl
set_option maxRecDepth 30000 in
theorem wB_JM_max : Cond.code yJM_max prog_12_method_65_code 2 (some .int) ∈ WALL := mem_W 375 rfl rfl
theorem wM_E_76 : Cond.methodLink "RopeThreads$Elevator" 76 yR_allCounts ∈ WALL := mem_W 376 (by decide +kernel) rfl
theorem wM_E_80 : Cond.methodLink "RopeThreads$Elevator" 80 yR_greatestGrowth ∈ WALL := mem_W 377 (by decide +kernel) rfl
theorem wI_R_greatestGrowth : Cond.instanceMethod yR_greatestGrowth ∈ WALL := mem_W 378 (by decide +kernel) rfl
theorem wV_R_greatestGrowth : Cond.selects "RopeThreads$Rope" yR_greatestGrowth yR_greatestGrowth ∈ WALL := mem_W 379 (by decide +kernel) rfl
set_option maxRecDepth 30000 in
theorem wB_R_greatestGrowth : Cond.code yR_greatestGrowth prog_4_method_16_code 3 (some .int) ∈ WALL := mem_W 380 rfl rfl
theorem wM_E_83 : Cond.methodLink "RopeThreads$Elevator" 83 yE_monthsLeft ∈ WALL := mem_W 381 (by decide +kernel) rfl
theorem wI_E_monthsLeft : Cond.instanceMethod yE_monthsLeft ∈ WALL := mem_W 382 (by decide +kernel) rfl
theorem wV_E_monthsLeft : Cond.selects "RopeThreads$Elevator" yE_monthsLeft yE_monthsLeft ∈ WALL := mem_W 383 (by decide +kernel) rfl
set_option maxRecDepth 30000 in
theorem wB_E_monthsLeft : Cond.code yE_monthsLeft prog_2_method_9_code 2 (some .int) ∈ WALL := mem_W 384 rfl rfl
theorem wM_E_87 : Cond.methodLink "RopeThreads$Elevator" 87 yR_oldestLook ∈ WALL := mem_W 385 (by decide +kernel) rfl
theorem wI_R_oldestLook : Cond.instanceMethod yR_oldestLook ∈ WALL := mem_W 386 (by decide +kernel) rfl
theorem wV_R_oldestLook : Cond.selects "RopeThreads$Rope" yR_oldestLook yR_oldestLook ∈ WALL := mem_W 387 (by decide +kernel) rfl
set_option maxRecDepth 30000 in
theorem wB_R_oldestLook : Cond.code yR_oldestLook prog_4_method_17_code 3 (some .int) ∈ WALL := mem_W 388 rfl rfl
theorem wM_R_68 : Cond.methodLink "RopeThreads$Rope" 68 yJM_min ∈ WALL := mem_W 389 (by decide +kernel) rfl
theorem wS_JM_min : Cond.static yJM_min ∈ WALL := mem_W 390 (by decide +kernel) rfl
set_option maxRecDepth 30000 in
theorem wB_JM_min : Cond.code yJM_min prog_12_method_69_code 2 (some .int) ∈ WALL := mem_W 391 rfl rfl
theorem wM_E_65 : Cond.methodLink "RopeThreads$Elevator" 65 yJM_max ∈ WALL := mem_W 392 (by decide +kernel) rfl
theorem wM_L_25 : Cond.methodLink "RopeThreadsLaw" 25 yC_rope ∈ WALL := mem_W 393 (by decide +kernel) rfl
theorem wI_C_rope : Cond.instanceMethod yC_rope ∈ WALL := mem_W 394 (by decide +kernel) rfl
theorem wV_C_rope : Cond.selects "RopeThreads" yC_rope yC_rope ∈ WALL := mem_W 395 (by decide +kernel) rfl
set_option maxRecDepth 30000 in
theorem wB_C_rope : Cond.code yC_rope prog_1_method_14_code 4 (some .int) ∈ WALL := mem_W 396 rfl rfl
theorem wM_C_163 : Cond.methodLink "RopeThreads" 163 yC_ropeFigure ∈ WALL := mem_W 397 (by decide +kernel) rfl
theorem wI_C_ropeFigure : Cond.instanceMethod yC_ropeFigure ∈ WALL := mem_W 399 (by decide +kernel) rfl
set_option maxRecDepth 30000 in
theorem wB_C_ropeFigure : Cond.code yC_ropeFigure prog_1_method_30_code 4 (some .int) ∈ WALL := mem_W 400 rfl rfl
theorem wM_C_242 : Cond.methodLink "RopeThreads" 242 yR_greatestCounts ∈ WALL := mem_W 401 (by decide +kernel) rfl
theorem wM_C_245 : Cond.methodLink "RopeThreads" 245 yR_windowOfGreatestCounts ∈ WALL := mem_W 402 (by decide +kernel) rfl
theorem wI_R_windowOfGreatestCounts : Cond.instanceMethod yR_windowOfGreatestCounts ∈ WALL := mem_W 403 (by decide +kernel) rfl
theorem wV_R_windowOfGreatestCounts : Cond.selects "RopeThreads$Rope" yR_windowOfGreatestCounts yR_windowOfGreatestCounts ∈ WALL := mem_W 404 (by decide +kernel) rfl
set_option maxRecDepth 30000 in
theorem wB_R_windowOfGreatestCounts : Cond.code yR_windowOfGreatestCounts prog_4_method_12_code 4 (some .int) ∈ WALL := mem_W 405 rfl rfl
theorem wM_R_62 : Cond.methodLink "RopeThreads$Rope" 62 yR_greatestCounts ∈ WALL := mem_W 406 (by decide +kernel) rfl
theorem wM_C_248 : Cond.methodLink "RopeThreads" 248 yR_greatestBroken ∈ WALL := mem_W 407 (by decide +kernel) rfl
theorem wI_R_greatestBroken : Cond.instanceMethod yR_greatestBroken ∈ WALL := mem_W 408 (by decide +kernel) rfl
theorem wV_R_greatestBroken : Cond.selects "RopeThreads$Rope" yR_greatestBroken yR_greatestBroken ∈ WALL := mem_W 409 (by decide +kernel) rfl
set_option maxRecDepth 30000 in
theorem wB_R_greatestBroken : Cond.code yR_greatestBroken prog_4_method_13_code 4 (some .int) ∈ WALL := mem_W 410 rfl rfl
theorem wM_C_251 : Cond.methodLink "RopeThreads" 251 yE_reasonFor ∈ WALL := mem_W 411 (by decide +kernel) rfl
theorem wM_C_254 : Cond.methodLink "RopeThreads" 254 yE_monthsLeft ∈ WALL := mem_W 412 (by decide +kernel) rfl
theorem wM_L_29 : Cond.methodLink "RopeThreadsLaw" 29 yC_count ∈ WALL := mem_W 413 (by decide +kernel) rfl
theorem wI_C_count : Cond.instanceMethod yC_count ∈ WALL := mem_W 414 (by decide +kernel) rfl
theorem wV_C_count : Cond.selects "RopeThreads" yC_count yC_count ∈ WALL := mem_W 415 (by decide +kernel) rfl
set_option maxRecDepth 30000 in
theorem wB_C_count : Cond.code yC_count prog_1_method_17_code 2 (some .int) ∈ WALL := mem_W 416 rfl rfl
theorem wM_C_178 : Cond.methodLink "RopeThreads" 178 yC_countFigure ∈ WALL := mem_W 417 (by decide +kernel) rfl
theorem wI_C_countFigure : Cond.instanceMethod yC_countFigure ∈ WALL := mem_W 419 (by decide +kernel) rfl
set_option maxRecDepth 30000 in
theorem wB_C_countFigure : Cond.code yC_countFigure prog_1_method_32_code 2 (some .int) ∈ WALL := mem_W 420 rfl rfl
theorem wM_C_230 : Cond.methodLink "RopeThreads" 230 yE_canRun ∈ WALL := mem_W 421 (by decide +kernel) rfl
theorem wI_E_canRun : Cond.instanceMethod yE_canRun ∈ WALL := mem_W 422 (by decide +kernel) rfl
theorem wV_E_canRun : Cond.selects "RopeThreads$Elevator" yE_canRun yE_canRun ∈ WALL := mem_W 423 (by decide +kernel) rfl
set_option maxRecDepth 30000 in
theorem wB_E_canRun : Cond.code yE_canRun prog_2_method_11_code 1 (some .boolean) ∈ WALL := mem_W 424 rfl rfl
theorem wM_E_93 : Cond.methodLink "RopeThreads$Elevator" 93 yE_ropesToRetire ∈ WALL := mem_W 425 (by decide +kernel) rfl
theorem wM_C_264 : Cond.methodLink "RopeThreads" 264 yE_brokenOfRopes ∈ WALL := mem_W 426 (by decide +kernel) rfl
theorem wI_E_brokenOfRopes : Cond.instanceMethod yE_brokenOfRopes ∈ WALL := mem_W 427 (by decide +kernel) rfl
theorem wV_E_brokenOfRopes : Cond.selects "RopeThreads$Elevator" yE_brokenOfRopes yE_brokenOfRopes ∈ WALL := mem_W 428 (by decide +kernel) rfl
set_option maxRecDepth 30000 in
theorem wB_E_brokenOfRopes : Cond.code yE_brokenOfRopes prog_2_method_13_code 4 (some .int) ∈ WALL := mem_W 429 rfl rfl
theorem wM_E_96 : Cond.methodLink "RopeThreads$Elevator" 96 yR_allBroken ∈ WALL := mem_W 430 (by decide +kernel) rfl
theorem wM_C_267 : Cond.methodLink "RopeThreads" 267 yE_countsOfRopes ∈ WALL := mem_W 431 (by decide +kernel) rfl
theorem wI_E_countsOfRopes : Cond.instanceMethod yE_countsOfRopes ∈ WALL := mem_W 432 (by decide +kernel) rfl
theorem wV_E_countsOfRopes : Cond.selects "RopeThreads$Elevator" yE_countsOfRopes yE_countsOfRopes ∈ WALL := mem_W 433 (by decide +kernel) rfl
set_option maxRecDepth 30000 in
theorem wB_E_countsOfRopes : Cond.code yE_countsOfRopes prog_2_method_12_code 4 (some .int) ∈ WALL := mem_W 434 rfl rfl
theorem wM_L_64 : Cond.methodLink "RopeThreadsLaw" 64 yL_low ∈ WALL := mem_W 435 (by decide +kernel) rfl
theorem wS_L_low : Cond.static yL_low ∈ WALL := mem_W 436 (by decide +kernel) rfl
set_option maxRecDepth 30000 in
theorem wB_L_low : Cond.code yL_low method_2_code 2 (some .int) ∈ WALL := mem_W 437 rfl rfl
theorem wK_L_7 : Cond.constant "RopeThreadsLaw" 7 (2147483647) ∈ WALL := mem_W 438 (by decide +kernel) rfl
theorem wM_L_60 : Cond.methodLink "RopeThreadsLaw" 60 yL_cell ∈ WALL := mem_W 439 (by decide +kernel) rfl
theorem wS_L_cell : Cond.static yL_cell ∈ WALL := mem_W 440 (by decide +kernel) rfl
set_option maxRecDepth 30000 in
theorem wB_L_cell : Cond.code yL_cell method_3_code 2 (some .int) ∈ WALL := mem_W 441 rfl rfl
theorem wK_L_8 : Cond.constant "RopeThreadsLaw" 8 (40503) ∈ WALL := mem_W 442 (by decide +kernel) rfl
theorem wM_L_70 : Cond.methodLink "RopeThreadsLaw" 70 yL_trip ∈ WALL := mem_W 443 (by decide +kernel) rfl
theorem wS_L_trip : Cond.static yL_trip ∈ WALL := mem_W 444 (by decide +kernel) rfl
set_option maxRecDepth 30000 in
theorem wB_L_trip : Cond.codeWith yL_trip method_4_code 5 (some .int) [(0, 7, 8, 15)] ∈ WALL := mem_W 445 rfl rfl
theorem wC_L_15 : Cond.classLink "RopeThreadsLaw" 15 "java/lang/IllegalStateException" ∈ WALL := mem_W 446 (by decide +kernel) rfl
theorem wM_L_9 : Cond.methodLink "RopeThreadsLaw" 9 yC_trip ∈ WALL := mem_W 447 (by decide +kernel) rfl
theorem wI_C_trip : Cond.instanceMethod yC_trip ∈ WALL := mem_W 448 (by decide +kernel) rfl
theorem wV_C_trip : Cond.selects "RopeThreads" yC_trip yC_trip ∈ WALL := mem_W 449 (by decide +kernel) rfl
set_option maxRecDepth 30000 in
theorem wB_C_trip : Cond.code yC_trip prog_1_method_7_code 4 (some .int) ∈ WALL := mem_W 450 rfl rfl
theorem wM_C_106 : Cond.methodLink "RopeThreads" 106 yC_requireTripsAllowed ∈ WALL := mem_W 451 (by decide +kernel) rfl
theorem wI_C_requireTripsAllowed : Cond.instanceMethod yC_requireTripsAllowed ∈ WALL := mem_W 453 (by decide +kernel) rfl
set_option maxRecDepth 30000 in
theorem wB_C_requireTripsAllowed : Cond.code yC_requireTripsAllowed prog_1_method_29_code 2 none ∈ WALL := mem_W 454 rfl rfl
theorem wK_C_233 : Cond.constant "RopeThreads" 233 (99999) ∈ WALL := mem_W 455 (by decide +kernel) rfl
theorem wM_C_109 : Cond.methodLink "RopeThreads" 109 yE_travel ∈ WALL := mem_W 457 (by decide +kernel) rfl
theorem wI_E_travel : Cond.instanceMethod yE_travel ∈ WALL := mem_W 458 (by decide +kernel) rfl
theorem wV_E_travel : Cond.selects "RopeThreads$Elevator" yE_travel yE_travel ∈ WALL := mem_W 459 (by decide +kernel) rfl
set_option maxRecDepth 30000 in
theorem wB_E_travel : Cond.code yE_travel prog_2_method_6_code 8 none ∈ WALL := mem_W 460 rfl rfl
theorem wM_E_59 : Cond.methodLink "RopeThreads$Elevator" 59 yJM_min ∈ WALL := mem_W 461 (by decide +kernel) rfl
theorem wM_E_68 : Cond.methodLink "RopeThreads$Elevator" 68 yR_bend ∈ WALL := mem_W 462 (by decide +kernel) rfl
theorem wI_R_bend : Cond.instanceMethod yR_bend ∈ WALL := mem_W 463 (by decide +kernel) rfl
theorem wV_R_bend : Cond.selects "RopeThreads$Rope" yR_bend yR_bend ∈ WALL := mem_W 464 (by decide +kernel) rfl
set_option maxRecDepth 30000 in
theorem wB_R_bend : Cond.code yR_bend prog_4_method_4_code 5 none ∈ WALL := mem_W 465 rfl rfl
theorem wM_L_67 : Cond.methodLink "RopeThreadsLaw" 67 yL_hang ∈ WALL := mem_W 466 (by decide +kernel) rfl
theorem wS_L_hang : Cond.static yL_hang ∈ WALL := mem_W 467 (by decide +kernel) rfl
set_option maxRecDepth 30000 in
theorem wB_L_hang : Cond.codeWith yL_hang method_5_code 3 (some .int) [(0, 5, 6, 15)] ∈ WALL := mem_W 468 rfl rfl
theorem wM_L_17 : Cond.methodLink "RopeThreadsLaw" 17 yC_hang ∈ WALL := mem_W 469 (by decide +kernel) rfl
theorem wI_C_hang : Cond.instanceMethod yC_hang ∈ WALL := mem_W 470 (by decide +kernel) rfl
theorem wV_C_hang : Cond.selects "RopeThreads" yC_hang yC_hang ∈ WALL := mem_W 471 (by decide +kernel) rfl
set_option maxRecDepth 30000 in
theorem wB_C_hang : Cond.code yC_hang prog_1_method_2_code 2 (some .int) ∈ WALL := mem_W 472 rfl rfl
theorem wM_C_56 : Cond.methodLink "RopeThreads" 56 yE_addRope ∈ WALL := mem_W 474 (by decide +kernel) rfl
theorem wI_E_addRope : Cond.instanceMethod yE_addRope ∈ WALL := mem_W 475 (by decide +kernel) rfl
theorem wV_E_addRope : Cond.selects "RopeThreads$Elevator" yE_addRope yE_addRope ∈ WALL := mem_W 476 (by decide +kernel) rfl
set_option maxRecDepth 30000 in
theorem wB_E_addRope : Cond.code yE_addRope prog_2_method_4_code 3 none ∈ WALL := mem_W 477 rfl rfl
theorem wM_E_55 : Cond.methodLink "RopeThreads$Elevator" 55 yR_renew ∈ WALL := mem_W 478 (by decide +kernel) rfl
theorem wM_L_88 : Cond.methodLink "RopeThreadsLaw" 88 yL_undo ∈ WALL := mem_W 479 (by decide +kernel) rfl
theorem wS_L_undo : Cond.static yL_undo ∈ WALL := mem_W 480 (by decide +kernel) rfl
set_option maxRecDepth 30000 in
theorem wB_L_undo : Cond.codeWith yL_undo method_6_code 2 (some .int) [(0, 4, 5, 15)] ∈ WALL := mem_W 481 rfl rfl
theorem wM_L_21 : Cond.methodLink "RopeThreadsLaw" 21 yC_undo ∈ WALL := mem_W 482 (by decide +kernel) rfl
theorem wI_C_undo : Cond.instanceMethod yC_undo ∈ WALL := mem_W 483 (by decide +kernel) rfl
theorem wV_C_undo : Cond.selects "RopeThreads" yC_undo yC_undo ∈ WALL := mem_W 484 (by decide +kernel) rfl
set_option maxRecDepth 30000 in
theorem wB_C_undo : Cond.code yC_undo prog_1_method_13_code 1 (some .int) ∈ WALL := mem_W 485 rfl rfl
theorem wM_C_160 : Cond.methodLink "RopeThreads" 160 yH_giveBack ∈ WALL := mem_W 487 (by decide +kernel) rfl
theorem wI_H_giveBack : Cond.instanceMethod yH_giveBack ∈ WALL := mem_W 488 (by decide +kernel) rfl
theorem wV_H_giveBack : Cond.selects "RopeThreads$History" yH_giveBack yH_giveBack ∈ WALL := mem_W 489 (by decide +kernel) rfl
set_option maxRecDepth 30000 in
theorem wB_H_giveBack : Cond.code yH_giveBack prog_3_method_3_code 3 none ∈ WALL := mem_W 490 rfl rfl
theorem wM_L_91 : Cond.methodLink "RopeThreadsLaw" 91 yL_lift ∈ WALL := mem_W 491 (by decide +kernel) rfl
theorem wS_L_lift : Cond.static yL_lift ∈ WALL := mem_W 492 (by decide +kernel) rfl
set_option maxRecDepth 30000 in
theorem wB_L_lift : Cond.code yL_lift method_8_code 9 (some .boolean) ∈ WALL := mem_W 493 rfl rfl
theorem wM_L_44 : Cond.methodLink "RopeThreadsLaw" 44 yL_rope ∈ WALL := mem_W 494 (by decide +kernel) rfl
theorem wS_L_rope : Cond.static yL_rope ∈ WALL := mem_W 495 (by decide +kernel) rfl
set_option maxRecDepth 30000 in
theorem wB_L_rope : Cond.code yL_rope method_7_code 6 (some .boolean) ∈ WALL := mem_W 496 rfl rfl
theorem wM_L_32 : Cond.methodLink "RopeThreadsLaw" 32 yC_section ∈ WALL := mem_W 497 (by decide +kernel) rfl
theorem wI_C_section : Cond.instanceMethod yC_section ∈ WALL := mem_W 498 (by decide +kernel) rfl
theorem wV_C_section : Cond.selects "RopeThreads" yC_section yC_section ∈ WALL := mem_W 499 (by decide +kernel) rfl
set_option maxRecDepth 30000 in
theorem wB_C_section : Cond.code yC_section prog_1_method_15_code 5 (some .int) ∈ WALL := mem_W 500 rfl rfl
theorem wM_C_167 : Cond.methodLink "RopeThreads" 167 yR_sectionFigure ∈ WALL := mem_W 501 (by decide +kernel) rfl
theorem wI_R_sectionFigure : Cond.instanceMethod yR_sectionFigure ∈ WALL := mem_W 502 (by decide +kernel) rfl
theorem wV_R_sectionFigure : Cond.selects "RopeThreads$Rope" yR_sectionFigure yR_sectionFigure ∈ WALL := mem_W 503 (by decide +kernel) rfl
set_option maxRecDepth 30000 in
theorem wB_R_sectionFigure : Cond.code yR_sectionFigure prog_4_method_18_code 3 (some .int) ∈ WALL := mem_W 504 rfl rfl
theorem wM_L_35 : Cond.methodLink "RopeThreadsLaw" 35 yC_window ∈ WALL := mem_W 505 (by decide +kernel) rfl
theorem wI_C_window : Cond.instanceMethod yC_window ∈ WALL := mem_W 506 (by decide +kernel) rfl
theorem wV_C_window : Cond.selects "RopeThreads" yC_window yC_window ∈ WALL := mem_W 507 (by decide +kernel) rfl
set_option maxRecDepth 30000 in
theorem wB_C_window : Cond.code yC_window prog_1_method_16_code 5 (some .int) ∈ WALL := mem_W 508 rfl rfl
theorem wM_C_171 : Cond.methodLink "RopeThreads" 171 yE_windows ∈ WALL := mem_W 509 (by decide +kernel) rfl
theorem wI_E_windows : Cond.instanceMethod yE_windows ∈ WALL := mem_W 510 (by decide +kernel) rfl
theorem wV_E_windows : Cond.selects "RopeThreads$Elevator" yE_windows yE_windows ∈ WALL := mem_W 511 (by decide +kernel) rfl
set_option maxRecDepth 30000 in
theorem wB_E_windows : Cond.code yE_windows prog_2_method_7_code 1 (some .int) ∈ WALL := mem_W 512 rfl rfl
theorem wM_C_174 : Cond.methodLink "RopeThreads" 174 yC_windowFigure ∈ WALL := mem_W 513 (by decide +kernel) rfl
theorem wI_C_windowFigure : Cond.instanceMethod yC_windowFigure ∈ WALL := mem_W 515 (by decide +kernel) rfl
set_option maxRecDepth 30000 in
theorem wB_C_windowFigure : Cond.code yC_windowFigure prog_1_method_31_code 5 (some .int) ∈ WALL := mem_W 516 rfl rfl
theorem wM_C_258 : Cond.methodLink "RopeThreads" 258 yR_sumOfCounts ∈ WALL := mem_W 517 (by decide +kernel) rfl
theorem wM_C_261 : Cond.methodLink "RopeThreads" 261 yR_sumOfBroken ∈ WALL := mem_W 518 (by decide +kernel) rfl
theorem wM_L_38 : Cond.methodLink "RopeThreadsLaw" 38 yC_tripsLeft ∈ WALL := mem_W 519 (by decide +kernel) rfl
theorem wI_C_tripsLeft : Cond.instanceMethod yC_tripsLeft ∈ WALL := mem_W 520 (by decide +kernel) rfl
theorem wV_C_tripsLeft : Cond.selects "RopeThreads" yC_tripsLeft yC_tripsLeft ∈ WALL := mem_W 521 (by decide +kernel) rfl
set_option maxRecDepth 30000 in
theorem wB_C_tripsLeft : Cond.code yC_tripsLeft prog_1_method_21_code 2 (some .int) ∈ WALL := mem_W 522 rfl rfl
theorem wM_C_188 : Cond.methodLink "RopeThreads" 188 yC_tripsToLimit ∈ WALL := mem_W 523 (by decide +kernel) rfl
theorem wI_C_tripsToLimit : Cond.instanceMethod yC_tripsToLimit ∈ WALL := mem_W 525 (by decide +kernel) rfl
set_option maxRecDepth 30000 in
theorem wB_C_tripsToLimit : Cond.code yC_tripsToLimit prog_1_method_34_code 6 (some .int) ∈ WALL := mem_W 526 rfl rfl
theorem wM_C_274 : Cond.methodLink "RopeThreads" 274 yC_reachesLimit ∈ WALL := mem_W 527 (by decide +kernel) rfl
theorem wI_C_reachesLimit : Cond.instanceMethod yC_reachesLimit ∈ WALL := mem_W 529 (by decide +kernel) rfl
set_option maxRecDepth 30000 in
theorem wB_C_reachesLimit : Cond.code yC_reachesLimit prog_1_method_35_code 3 (some .boolean) ∈ WALL := mem_W 530 rfl rfl
theorem wM_C_270 : Cond.methodLink "RopeThreads" 270 yR_copyFrom ∈ WALL := mem_W 531 (by decide +kernel) rfl
theorem wM_C_278 : Cond.methodLink "RopeThreads" 278 yR_bend ∈ WALL := mem_W 532 (by decide +kernel) rfl
theorem wM_L_41 : Cond.methodLink "RopeThreadsLaw" 41 yC_setting ∈ WALL := mem_W 533 (by decide +kernel) rfl
theorem wI_C_setting : Cond.instanceMethod yC_setting ∈ WALL := mem_W 534 (by decide +kernel) rfl
theorem wV_C_setting : Cond.selects "RopeThreads" yC_setting yC_setting ∈ WALL := mem_W 535 (by decide +kernel) rfl
set_option maxRecDepth 30000 in
theorem wB_C_setting : Cond.code yC_setting prog_1_method_18_code 2 (some .int) ∈ WALL := mem_W 536 rfl rfl
theorem wM_L_49 : Cond.methodLink "RopeThreadsLaw" 49 yC_unseen ∈ WALL := mem_W 537 (by decide +kernel) rfl
theorem wI_C_unseen : Cond.instanceMethod yC_unseen ∈ WALL := mem_W 538 (by decide +kernel) rfl
theorem wV_C_unseen : Cond.selects "RopeThreads" yC_unseen yC_unseen ∈ WALL := mem_W 539 (by decide +kernel) rfl
set_option maxRecDepth 30000 in
theorem wB_C_unseen : Cond.code yC_unseen prog_1_method_22_code 1 (some .int) ∈ WALL := mem_W 540 rfl rfl
theorem wM_C_192 : Cond.methodLink "RopeThreads" 192 yC_lowestUnseen ∈ WALL := mem_W 541 (by decide +kernel) rfl
theorem wI_C_lowestUnseen : Cond.instanceMethod yC_lowestUnseen ∈ WALL := mem_W 543 (by decide +kernel) rfl
set_option maxRecDepth 30000 in
theorem wB_C_lowestUnseen : Cond.code yC_lowestUnseen prog_1_method_36_code 4 (some .int) ∈ WALL := mem_W 544 rfl rfl
theorem wM_C_182 : Cond.methodLink "RopeThreads" 182 yC_reasonIfInspected ∈ WALL := mem_W 545 (by decide +kernel) rfl
theorem wI_C_reasonIfInspected : Cond.instanceMethod yC_reasonIfInspected ∈ WALL := mem_W 547 (by decide +kernel) rfl
set_option maxRecDepth 30000 in
theorem wB_C_reasonIfInspected : Cond.code yC_reasonIfInspected prog_1_method_33_code 4 (some .int) ∈ WALL := mem_W 548 rfl rfl
theorem wM_L_52 : Cond.methodLink "RopeThreadsLaw" 52 yC_ifInspected ∈ WALL := mem_W 549 (by decide +kernel) rfl
theorem wI_C_ifInspected : Cond.instanceMethod yC_ifInspected ∈ WALL := mem_W 550 (by decide +kernel) rfl
theorem wV_C_ifInspected : Cond.selects "RopeThreads" yC_ifInspected yC_ifInspected ∈ WALL := mem_W 551 (by decide +kernel) rfl
set_option maxRecDepth 30000 in
theorem wB_C_ifInspected : Cond.code yC_ifInspected prog_1_method_19_code 5 (some .int) ∈ WALL := mem_W 552 rfl rfl
theorem wM_L_55 : Cond.methodLink "RopeThreadsLaw" 55 yC_countedShare ∈ WALL := mem_W 553 (by decide +kernel) rfl
theorem wI_C_countedShare : Cond.instanceMethod yC_countedShare ∈ WALL := mem_W 554 (by decide +kernel) rfl
theorem wV_C_countedShare : Cond.selects "RopeThreads" yC_countedShare yC_countedShare ∈ WALL := mem_W 555 (by decide +kernel) rfl
set_option maxRecDepth 30000 in
theorem wB_C_countedShare : Cond.code yC_countedShare prog_1_method_23_code 1 (some .double) ∈ WALL := mem_W 556 rfl rfl
theorem wM_C_195 : Cond.methodLink "RopeThreads" 195 yC_shareCounted ∈ WALL := mem_W 557 (by decide +kernel) rfl
theorem wI_C_shareCounted : Cond.instanceMethod yC_shareCounted ∈ WALL := mem_W 559 (by decide +kernel) rfl
set_option maxRecDepth 30000 in
theorem wB_C_shareCounted : Cond.code yC_shareCounted prog_1_method_37_code 2 (some .double) ∈ WALL := mem_W 560 rfl rfl
theorem inW_of {ws : List Cond} (ps : List Nat) (h : ws = ps.filterMap (fun i => lw_tbl[i]?)) (g : ws.all goodWord = true) : ∀ w ∈ ws, w ∈ WALL := by
  intro w hw
  have h1 := List.all_eq_true.mp g w hw
  rw [h] at hw
  obtain ⟨i, -, hi⟩ := List.mem_filterMap.mp hw
  exact mem_W i hi h1
theorem i_E : ∀ w ∈ u_ws "RopeThreads$Elevator" F_E 7, w ∈ WALL := inW_of [88, 90, 92, 94, 96, 98, 100] (by decide +kernel) (by decide +kernel)
theorem i_H : ∀ w ∈ u_ws "RopeThreads$History" F_H 3, w ∈ WALL := inW_of [116, 118, 120] (by decide +kernel) (by decide +kernel)
theorem i_R : ∀ w ∈ u_ws "RopeThreads$Rope" F_R 7, w ∈ WALL := inW_of [59, 61, 63, 65, 67, 69, 71] (by decide +kernel) (by decide +kernel)
theorem i_T : ∀ w ∈ u_ws "RopeThreads$TripText" F_T 6, w ∈ WALL := inW_of [135, 137, 139, 141, 143, 145] (by decide +kernel) (by decide +kernel)
theorem i_C : ∀ w ∈ u_ws "RopeThreads" F_C 4, w ∈ WALL := inW_of [154, 156, 158, 160] (by decide +kernel) (by decide +kernel)
end
section
/-! THE V LAYER: methods walked over virtual addresses (i < 4: externals; 4 + j: the j-th object made since the law's entry) -/
abbrev XC : Type := (Nat × (Nat × ((Nat → Int32) ⊕ ((Nat → Int64) ⊕ (Nat → Option Nat))))) ⊕ (Nat × List Value)
abbrev XH : Type := Nat → XC
abbrev XG : Type := (Nat → ClassId) × (va_G × ((Nat → Nat) × (Nat × (Nat × (Nat → Int32)))))
def xcA (G : XG) : Nat → ClassId := G.1
def xD (G : XG) : va_G := G.2.1
def xext (G : XG) : Nat → Nat := G.2.2.1
def xbase (G : XG) : Nat := G.2.2.2.1
def xL (G : XG) : Nat := G.2.2.2.2.1
def xxs (G : XG) : Nat → Int32 := G.2.2.2.2.2
def xa (G : XG) (i : Nat) : Nat := if i < 4 then xext G i else xbase G + (i - 4)
def xv (G : XG) (v : Value) : Value := match v with
  | .ref i => .ref (xa G i)
  | .int x => .int x
  | .long x => .long x
  | .float x => .float x
  | .double x => .double x
  | .null => .null
  | .retAddr x => .retAddr x
def xe (G : XG) (c : XC) : va_E := match c with
  | .inl (k, (n, .inl f)) => .inl (xcA G k, (n, .inl f))
  | .inl (k, (n, .inr (.inl f))) => .inl (xcA G k, (n, .inr (.inl f)))
  | .inl (k, (n, .inr (.inr f))) => .inl (xcA G k, (n, .inr (.inr (.inr (.inr (fun i => (f i).map (xa G)))))))
  | .inr (ci, fs) => .inr (ci, fs.map (xv G))
def xw (G : XG) (n : Nat) (h : XH) : va_W := (List.range n).map (fun j => (xbase G + j, xe G (h (j + 4))))
abbrev XCl : List vw_C := [("RopeThreads$Elevator", F_E, 7), ("RopeThreads$History", F_H, 3), ("RopeThreads$Rope", F_R, 7), ("RopeThreads$TripText", F_T, 6), ("RopeThreads", F_C, 4)]
def xtys (G : XG) : List (ClassId × FieldType) := [(xcA G 0, .int), (xcA G 1, .int), (xcA G 2, .object "RopeThreads$Elevator"), (xcA G 3, .object "RopeThreads$Rope")]
def xA (G : XG) : Nat → Prop := fun q => xbase G ≤ q
theorem xv_cat (G : XG) (v : Value) : (xv G v).category = v.category := by cases v <;> rfl
theorem xw_get (G : XG) {n : Nat} (h : XH) {j : Nat} (hj : j < n) : (xw G n h)[j]? = some (xbase G + j, xe G (h (j + 4))) := by
  unfold xw
  rw [List.getElem?_map, List.getElem?_range hj]
  rfl
theorem xw_len (G : XG) (n : Nat) (h : XH) : (xw G n h).length = n := by simp [xw]
theorem xw_D (G : XG) (n : Nat) (h : XH) : va_D (xA G) (xw G n h) := by
  have key : ∀ (k : Nat) (q : Nat × va_E), (xw G n h)[k]? = some q → q.1 = xbase G + k := by
    intro k q hk
    have hl : k < n := by
      have := (List.getElem?_eq_some_iff.mp hk).1
      rwa [xw_len] at this
    rw [xw_get G h hl] at hk
    cases hk
    rfl
  refine ⟨fun i j p q hi hj hpq => ?_, fun k q hk => ?_⟩
  · have h1 := key i p hi
    have h2 := key j q hj
    omega
  · have h1 := key k q hk
    show xbase G ≤ q.1
    omega
/-- one cell anew -/
def xup (h : XH) (i : Nat) (c : XC) : XH := fun j => if j = i then c else h j
theorem xw_set (G : XG) (n : Nat) (h : XH) (i : Nat) (c : XC) (hi : 4 ≤ i) : (xw G n h).set (i - 4) (xa G i, xe G c) = xw G n (xup h i c) := by
  apply List.ext_getElem?
  intro k
  by_cases hk : k < n
  · by_cases hki : i - 4 = k
    · subst hki
      rw [List.getElem?_set_self (by rw [xw_len]; exact hk), xw_get G _ hk]
      unfold xa xup
      rw [if_neg (by omega), if_pos (by omega)]
    · rw [List.getElem?_set_ne hki, xw_get G _ hk, xw_get G _ hk]
      unfold xup
      rw [if_neg (by omega)]
  · rw [List.getElem?_eq_none (by rw [List.length_set, xw_len]; omega), List.getElem?_eq_none (by rw [xw_len]; omega)]
theorem xw_push (G : XG) (n : Nat) (h : XH) (c : XC) : xw G n h ++ [(xbase G + n, xe G c)] = xw G (n + 1) (xup h (n + 4) c) := by
  unfold xw
  rw [List.range_succ, List.map_append]
  congr 1
  · apply List.map_congr_left
    intro j hj
    rw [List.mem_range] at hj
    unfold xup
    rw [if_neg (by omega)]
  · simp [xup]
/-- words that are not good ones, held by what they say -/
def XNW : List Cond := [.declares ⟨"java/lang/RuntimeException", "<init>", "()V"⟩, .declares ⟨"java/lang/RuntimeException", "<init>", "(Ljava/lang/String;)V"⟩, .declares ⟨"java/lang/Exception", "<init>", "()V"⟩, .declares ⟨"java/lang/Exception", "<init>", "(Ljava/lang/String;)V"⟩, .declares ⟨"java/lang/Throwable", "<init>", "()V"⟩, .declares ⟨"java/lang/Throwable", "<init>", "(Ljava/lang/String;)V"⟩, .castable "java/lang/IllegalArgumentException" "java/lang/IllegalArgumentException", .castable "java/lang/IllegalStateException" "java/lang/IllegalStateException", .castable "java/lang/IndexOutOfBoundsException" "java/lang/IndexOutOfBoundsException",
  .fieldLinkNest "RopeThreads$Elevator" 37 "RopeThreads" "FIRST_VALUES" "[I" "RopeThreads",
  .fieldLinkNest "RopeThreads" 236 "RopeThreads$Rope" "quality" "I" "RopeThreads",
  .fieldLinkNest "RopeThreads" 239 "RopeThreads$Rope" "hungMonth" "I" "RopeThreads",
  .fieldLinkNest "RopeThreads" 257 "RopeThreads$Rope" "trips" "I" "RopeThreads",
  .fieldLinkNest "RopeThreads" 103 "RopeThreads$Elevator" "settings" "[I" "RopeThreads",
  .fieldLinkNest "RopeThreads" 41 "RopeThreads$Elevator" "ropes" "I" "RopeThreads",
  .fieldLinkNest "RopeThreads" 71 "RopeThreads$Elevator" "month" "I" "RopeThreads",
  .fieldLinkNest "RopeThreads" 112 "RopeThreads$Elevator" "trips" "I" "RopeThreads",
  .fieldLinkNest "RopeThreads" 90 "RopeThreads$Elevator" "inspected" "I" "RopeThreads",
  .fieldLinkNest "RopeThreads" 78 "RopeThreads$Elevator" "swaps" "I" "RopeThreads",
  .fieldLinkNest "RopeThreads" 155 "RopeThreads$History" "kept" "I" "RopeThreads",
  .methodLinkNest "RopeThreads$Elevator" 40 ⟨"RopeThreads$Rope", "<init>", "()V"⟩ "RopeThreads",
  .methodLinkNest "RopeThreads" 25 ⟨"RopeThreads$TripText", "<init>", "()V"⟩ "RopeThreads",
  .methodLinkNest "RopeThreads" 32 ⟨"RopeThreads$Rope", "<init>", "()V"⟩ "RopeThreads"]
def XSTR : List (Nat × String) := [(226, "a value is out of range"), (47, "there are 5 ropes"), (221, "there is no such rope"), (224, "there is no such number"), (228, "the last section is ahead of the first one"), (234, "the elevator cannot run, or there would be too many trips"), (115, "the month would be above 2000"), (158, "there is no saved state")]
/-- the static arrays: name, what they hold -/
def XSA : Nat → String × (Nat → Int32) := fun i => match i with
  | 1 => ("LEAST_VALUES", fun _ => 1)
  | 2 => ("MOST_VALUES", fun j => if j = 0 then 12 else if j = 1 then 99 else if j = 2 then 999 else if j = 3 then 99 else 60)
  | _ => ("FIRST_VALUES", fun j => if j = 0 then 4 else if j = 1 then 8 else if j = 2 then 20 else if j = 3 then 5 else 3)
def XIOB : String := "java/lang/IndexOutOfBoundsException"
def XIAE : String := "java/lang/IllegalArgumentException"
def XISE : String := "java/lang/IllegalStateException"
/-- what a state U gives everywhere: tables, script, statics, strings -/
def xEnv (G : XG) (U : State) : Prop :=
  va_K (xD G) XCl (xtys G) U ∧
  (∀ i, i < 4 → xext G i < xbase G ∧ xext G i < U.heap.size) ∧
  va_X (xext G 0) (xL G) (xxs G) U U.heap ∧
  (∀ i, 1 ≤ i → i < 4 → va_Z "RopeThreads" (XSA i).1 "[I" (.ref (xext G i)) (xA G) U U.heap ∧ va_T .int (xext G i) 5 (fun j => .int ((XSA i).2 j)) (xA G) U U.heap) ∧
  (vx_Zq Bundle.tN "UNASSIGNED_STACK" Bundle.steD (xA G) U U.heap ∧ vx_Zq Bundle.tN "SUPPRESSED_SENTINEL" Bundle.listD (xA G) U U.heap) ∧
  (∀ w ∈ XNW, va_Nw w U) ∧
  (∀ q ∈ XSTR, ∃ sa, vk_R "RopeThreads" q.1 q.2 sa U) ∧
  (va_Nc XIAE XIOB U ∧ va_Nc XISE XIOB U ∧ va_Nc XISE XIAE U) ∧
  (va_AO "RopeThreads$Rope" U ∧ va_AO "RopeThreads$Elevator" U)
end
section
/-! XV: at an instruction; xstep: the pure instructions -/
def xHas (G : XG) (lr : Array Slot) (nL : Nat) (ls : List (Option Value)) : Prop := lr.size = nL ∧ lv_wf lr ∧ ls.length = nL ∧ ∀ (i : Nat) (v : Value), ls[i]? = some (some v) → lr[i]? = some (.val (xv G v))
def XCx (G : XG) (l : Launch) (own : String) (cc : ByteArray) (nL : Nat) (p : Program) (s : State) (m : MethodId) (args : Array Value) (meth : Method) (c : Code) : Prop :=
  p.tables.exec = Jvm.exec ∧ c.code = cc ∧ c.maxLocals = nL ∧ s.vm.findClass own = some m.cls ∧ (∀ w ∈ WALL, w.before args s = true) ∧ meth.locks = false ∧ xEnv G s ∧ xbase G ≤ s.heap.size ∧ l.stackTraces = false
def XV (G : XG) (nL : Nat) (p : Program) (l : Launch) (e : Env) (R : Room) (s : State) (m : MethodId) (args : Array Value) (below : List Frame) (meth : Method) (c : Code) (Q : State → Prop) (pc : Nat) (ls : List (Option Value)) (st : List Value) (n : Nat) (h : XH) (k ks : Nat) : Prop :=
  ∀ (H : Heap) (locs : List Loc) (lr : Array Slot), va_P (xD G) XCl (xw G n h) H → xbase G + n ≤ H.size → va_S (xA G) s.heap H locs → xHas G lr nL ls → W p l e R s m args below meth c H locs k ks Q (F0 m pc lr (st.map (xv G)))
/-- a local's value, v at i -/
def xld (ls : List (Option Value)) (i : Nat) : Option Value := match ls[i]? with
  | some (some v) => some v
  | _ => none
def xclr (ls : List (Option Value)) (i : Nat) : List (Option Value) := match i with
  | 0 => ls
  | j + 1 => match xld ls j with
    | some v => if v.category = 2 then ls.set j none else ls
    | none => ls
def xset1 (ls : List (Option Value)) (i : Nat) (v : Value) : List (Option Value) := (xclr ls i).set i (some v)
def xset2 (ls : List (Option Value)) (i : Nat) (v : Value) : List (Option Value) := ((xclr ls i).set i (some v)).set (i + 1) none
abbrev XS : Type := Nat × (List (Option Value) × List Value)
def xbi (ls : List (Option Value)) (st : List Value) (pc : Nat) (f : Int32 → Int32 → Int32) : Option XS := match st with
  | .int y :: .int x :: r => some (pc, (ls, .int (f x y) :: r))
  | _ => none
def xbl (ls : List (Option Value)) (st : List Value) (pc : Nat) (f : Int64 → Int64 → Int64) : Option XS := match st with
  | .long y :: .long x :: r => some (pc, (ls, .long (f x y) :: r))
  | _ => none
def xldi (ls : List (Option Value)) (st : List Value) (pc i : Nat) : Option XS := match xld ls i with
  | some (.int x) => some (pc, (ls, .int x :: st))
  | _ => none
def xldl (ls : List (Option Value)) (st : List Value) (pc i : Nat) : Option XS := match xld ls i with
  | some (.long x) => some (pc, (ls, .long x :: st))
  | _ => none
def xldd (ls : List (Option Value)) (st : List Value) (pc i : Nat) : Option XS := match xld ls i with
  | some (.double x) => some (pc, (ls, .double x :: st))
  | _ => none
def xlda (ls : List (Option Value)) (st : List Value) (pc i : Nat) : Option XS := match xld ls i with
  | some (.ref x) => some (pc, (ls, .ref x :: st))
  | some .null => some (pc, (ls, .null :: st))
  | _ => none
def xsti (ls : List (Option Value)) (st : List Value) (pc i : Nat) : Option XS := match st with
  | .int x :: r => if i < ls.length then some (pc, (xset1 ls i (.int x), r)) else none
  | _ => none
def xsta (ls : List (Option Value)) (st : List Value) (pc i : Nat) : Option XS := match st with
  | .ref x :: r => if i < ls.length then some (pc, (xset1 ls i (.ref x), r)) else none
  | .null :: r => if i < ls.length then some (pc, (xset1 ls i .null, r)) else none
  | _ => none
def xstl (ls : List (Option Value)) (st : List Value) (pc i : Nat) : Option XS := match st with
  | .long x :: r => if i + 1 < ls.length then some (pc, (xset2 ls i (.long x), r)) else none
  | _ => none
def xstd (ls : List (Option Value)) (st : List Value) (pc i : Nat) : Option XS := match st with
  | .double x :: r => if i + 1 < ls.length then some (pc, (xset2 ls i (.double x), r)) else none
  | _ => none
def xinc (ls : List (Option Value)) (st : List Value) (pc i : Nat) (d : Int) : Option XS := match xld ls i with
  | some (.int x) => if i < ls.length then some (pc, (xset1 ls i (.int (x + Int32.ofInt d)), st)) else none
  | _ => none
def xjmp (ls : List (Option Value)) (st : List Value) (t : Int) : Option XS := match t with
  | .ofNat n => some (n, (ls, st))
  | _ => none
def xstep (i : Instr) (pc : Nat) (ls : List (Option Value)) (st : List Value) : Option XS := match i with
  | .iconst n => some (pc + 1, (ls, .int (Int32.ofInt n) :: st))
  | .bipush n => some (pc + 2, (ls, .int (Int8.ofInt n).toInt32 :: st))
  | .sipush n => some (pc + 3, (ls, .int (Int16.ofInt n).toInt32 :: st))
  | .lconst n => some (pc + 1, (ls, .long (Int64.ofNat (n : Nat)) :: st))
  | .aconst_null => some (pc + 1, (ls, .null :: st))
  | .iload k => xldi ls st (pc + 2) k
  | .iload_n k => xldi ls st (pc + 1) k
  | .lload k => xldl ls st (pc + 2) k
  | .lload_n k => xldl ls st (pc + 1) k
  | .dload k => xldd ls st (pc + 2) k
  | .dload_n k => xldd ls st (pc + 1) k
  | .aload k => xlda ls st (pc + 2) k
  | .aload_n k => xlda ls st (pc + 1) k
  | .istore k => xsti ls st (pc + 2) k
  | .istore_n k => xsti ls st (pc + 1) k
  | .lstore k => xstl ls st (pc + 2) k
  | .lstore_n k => xstl ls st (pc + 1) k
  | .dstore k => xstd ls st (pc + 2) k
  | .dstore_n k => xstd ls st (pc + 1) k
  | .astore k => xsta ls st (pc + 2) k
  | .astore_n k => xsta ls st (pc + 1) k
  | .iinc k d => xinc ls st (pc + 3) k d
  | .iadd => xbi ls st (pc + 1) (fun x y => x + y)
  | .isub => xbi ls st (pc + 1) (fun x y => x - y)
  | .imul => xbi ls st (pc + 1) (fun x y => x * y)
  | .iand => xbi ls st (pc + 1) (fun x y => x &&& y)
  | .ixor => xbi ls st (pc + 1) (fun x y => x ^^^ y)
  | .ladd => xbl ls st (pc + 1) (fun x y => x + y)
  | .lsub => xbl ls st (pc + 1) (fun x y => x - y)
  | .lmul => xbl ls st (pc + 1) (fun x y => x * y)
  | .lcmp => match st with
    | .long y :: .long x :: r => some (pc + 1, (ls, .int (lg_cmp x y) :: r))
    | _ => none
  | .dcmp op => match st with
    | .double y :: .double x :: r => some (pc + 1, (ls, .int (Op.cmpValue (FP.dcmp x y) op) :: r))
    | _ => none
  | .i2l => match st with
    | .int x :: r => some (pc + 1, (ls, .long x.toInt64 :: r))
    | _ => none
  | .i2d => match st with
    | .int x :: r => some (pc + 1, (ls, .double (FP.i2d x) :: r))
    | _ => none
  | .d2l => match st with
    | .double x :: r => some (pc + 1, (ls, .long (FP.d2l x) :: r))
    | _ => none
  | .lshl => match st with
    | .int y :: .long x :: r => some (pc + 1, (ls, .long (x <<< (y.toInt64 &&& 63)) :: r))
    | _ => none
  | .dup => match st with
    | v :: r => if v.category = 1 then some (pc + 1, (ls, v :: v :: r)) else none
    | _ => none
  | .dup2 => match st with
    | v :: w :: r => if v.category = 1 then (if w.category = 1 then some (pc + 1, (ls, v :: w :: v :: w :: r)) else none) else none
    | _ => none
  | .pop => match st with
    | v :: r => if v.category = 1 then some (pc + 1, (ls, r)) else none
    | _ => none
  | .goto d => xjmp ls st ((pc : Int) + d)
  | _ => none
/-- the length that a pure instruction must have -/
def xlen (i : Instr) : Nat := match i with
  | .bipush _ | .iload _ | .lload _ | .dload _ | .aload _ | .istore _ | .lstore _ | .dstore _ | .astore _ => 2
  | .sipush _ | .iinc .. | .goto _ => 3
  | _ => 1
theorem xld_ls {ls : List (Option Value)} {i : Nat} {v : Value} (h : xld ls i = some v) : ls[i]? = some (some v) := by
  unfold xld at h
  split at h
  · cases h; assumption
  · cases h
theorem xclr_get {ls : List (Option Value)} {i j : Nat} {w : Value} (h : (xclr ls i)[j]? = some (some w)) (hne : j ≠ i) : ls[j]? = some (some w) ∧ ¬ (j + 1 = i ∧ w.category = 2) := by
  unfold xclr at h
  cases i with
  | zero => exact ⟨h, fun q => by omega⟩
  | succ i' =>
    dsimp only at h
    split at h
    · rename_i v hv
      split at h
      · rename_i hc
        by_cases hj : i' = j
        · subst hj
          rw [List.getElem?_set] at h
          simp at h
        · rw [List.getElem?_set_ne hj] at h
          exact ⟨h, fun q => hj (by omega)⟩
      · rename_i hc
        refine ⟨h, fun q => ?_⟩
        have hj : j = i' := by omega
        subst hj
        rw [xld_ls hv] at h
        cases h
        exact hc q.2
    · rename_i hv
      refine ⟨h, fun q => ?_⟩
      have hj : j = i' := by omega
      subst hj
      unfold xld at hv
      rw [h] at hv
      cases hv
theorem xclr_len (ls : List (Option Value)) (i : Nat) : (xclr ls i).length = ls.length := by
  unfold xclr
  split
  · rfl
  · split
    · split
      · exact List.length_set ..
      · rfl
    · rfl
def xas (G : XG) (ls : List (Option Value)) : List (Nat × Value) := (List.range ls.length).filterMap (fun i => (xld ls i).map (fun v => (i, xv G v)))
theorem xas_mem {G : XG} {ls : List (Option Value)} {i : Nat} {v : Value} (h : ls[i]? = some (some v)) : (i, xv G v) ∈ xas G ls := by
  unfold xas
  rw [List.mem_filterMap]
  have hl := (List.getElem?_eq_some_iff.mp h).1
  refine ⟨i, List.mem_range.mpr hl, ?_⟩
  unfold xld
  rw [h]
  rfl
theorem xHas.lv {G : XG} {lr : Array Slot} {nL : Nat} {ls : List (Option Value)} (h : xHas G lr nL ls) : lv_has lr nL (xas G ls) := by
  refine ⟨h.1, h.2.1, fun q hq => ?_⟩
  unfold xas at hq
  rw [List.mem_filterMap] at hq
  obtain ⟨i, -, hi⟩ := hq
  cases hx : xld ls i with
  | none => rw [hx] at hi; cases hi
  | some v =>
    rw [hx] at hi
    cases hi
    exact h.2.2.2 i v (xld_ls hx)
theorem xHas.st1 {G : XG} {lr' : Array Slot} {nL i : Nat} {v : Value} {ls : List (Option Value)} (hl : ls.length = nL) (h : lv_has lr' nL ((i, xv G v) :: (xas G ls).filter (fun q => !(q.1 == i) && !(q.1 + 1 == i && q.2.category == 2)))) : xHas G lr' nL (xset1 ls i v) := by
  refine ⟨h.1, h.2.1, by unfold xset1; rw [List.length_set, xclr_len]; exact hl, fun j w hj => ?_⟩
  unfold xset1 at hj
  by_cases hji : i = j
  · subst hji
    rw [List.getElem?_set] at hj
    split at hj
    · split at hj
      · cases hj
        exact h.2.2 (i, xv G v) List.mem_cons_self
      · cases hj
    · rename_i q; exact absurd rfl q
  · rw [List.getElem?_set_ne hji] at hj
    obtain ⟨h1, h2⟩ := xclr_get hj (Ne.symm hji)
    refine h.2.2 (j, xv G w) (List.mem_cons_of_mem _ (List.mem_filter.mpr ⟨xas_mem h1, ?_⟩))
    simp only [Bool.and_eq_true, Bool.not_eq_true', beq_eq_false_iff_ne, Bool.and_eq_false_iff, xv_cat]
    refine ⟨Ne.symm hji, ?_⟩
    by_cases h3 : j + 1 = i
    · exact Or.inr fun q => h2 ⟨h3, q⟩
    · exact Or.inl h3
theorem xHas.st2 {G : XG} {lr' : Array Slot} {nL i : Nat} {v : Value} {ls : List (Option Value)} (hl : ls.length = nL) (h : lv_has lr' nL ((i, xv G v) :: (xas G ls).filter (fun q => !(q.1 == i) && (!(q.1 == i + 1) && !(q.1 + 1 == i && q.2.category == 2))))) : xHas G lr' nL (xset2 ls i v) := by
  refine ⟨h.1, h.2.1, by unfold xset2; rw [List.length_set, List.length_set, xclr_len]; exact hl, fun j w hj => ?_⟩
  unfold xset2 at hj
  by_cases hj1 : i + 1 = j
  · subst hj1
    rw [List.getElem?_set] at hj
    split at hj
    · split at hj <;> cases hj
    · rename_i q; exact absurd rfl q
  · rw [List.getElem?_set_ne hj1] at hj
    by_cases hji : i = j
    · subst hji
      rw [List.getElem?_set] at hj
      split at hj
      · split at hj
        · cases hj
          exact h.2.2 (i, xv G v) List.mem_cons_self
        · cases hj
      · rename_i q; exact absurd rfl q
    · rw [List.getElem?_set_ne hji] at hj
      obtain ⟨h1, h2⟩ := xclr_get hj (Ne.symm hji)
      refine h.2.2 (j, xv G w) (List.mem_cons_of_mem _ (List.mem_filter.mpr ⟨xas_mem h1, ?_⟩))
      simp only [Bool.and_eq_true, Bool.not_eq_true', beq_eq_false_iff_ne, Bool.and_eq_false_iff, xv_cat]
      refine ⟨Ne.symm hji, Ne.symm hj1, ?_⟩
      by_cases h3 : j + 1 = i
      · exact Or.inr fun q => h2 ⟨h3, q⟩
      · exact Or.inl h3
section XSTEP
variable {G : XG} {nL : Nat} {p : Program} {l : Launch} {e : Env} {R : Room} {s : State} {m : MethodId} {args : Array Value} {below : List Frame} {meth : Method} {c : Code} {Q : State → Prop} {own : String} {cc : ByteArray}
variable {pc : Nat} {ls : List (Option Value)} {st : List Value} {n : Nat} {h : XH} {k ks : Nat}
set_option maxHeartbeats 4000000 in
theorem XV.step1 (C : XCx G l own cc nL p s m args meth c) {i : Instr} {len : Nat} {q : XS} (hd : decode cc pc = .ok (i, len)) (hl : len = xlen i) (hs : xstep i pc ls st = some q) (kk : XV G nL p l e R s m args below meth c Q q.1 q.2.1 q.2.2 n h k ks) : XV G nL p l e R s m args below meth c Q pc ls st n h k ks := by
  obtain ⟨hx, hb, -⟩ := C
  subst hl
  intro H locs lr hP hz hS hL
  have kk' : ∀ lr', xHas G lr' nL q.2.1 → W p l e R s m args below meth c H locs k ks Q (F0 m q.1 lr' (q.2.2.map (xv G))) := fun lr' hL' => kk H locs lr' hP hz hS hL'
  clear kk
  have hlen := hL.2.2.1
  cases i
  case iconst n => cases hs; exact lv_iconst hx hb hd rfl (kk' _ hL)
  case bipush n => cases hs; exact lv_bipush hx hb hd rfl (kk' _ hL)
  case sipush n => cases hs; exact lv_sipush hx hb hd rfl (kk' _ hL)
  case lconst n => cases hs; exact lv_lconst hx hb hd rfl (kk' _ hL)
  case aconst_null => cases hs; exact lv_null hx hb hd (kk' _ hL)
  case iload i =>
    simp only [xstep, xldi] at hs
    split at hs <;> cases hs
    rename_i x hq
    exact lv_iload hx hb hd (hL.2.2.2 _ _ (xld_ls hq)) (kk' _ hL)
  case iload_n i =>
    simp only [xstep, xldi] at hs
    split at hs <;> cases hs
    rename_i x hq
    exact lv_iload_n hx hb hd rfl (hL.2.2.2 _ _ (xld_ls hq)) (kk' _ hL)
  case lload i =>
    simp only [xstep, xldl] at hs
    split at hs <;> cases hs
    rename_i x hq
    exact lv_lload hx hb hd (hL.2.2.2 _ _ (xld_ls hq)) (kk' _ hL)
  case lload_n i =>
    simp only [xstep, xldl] at hs
    split at hs <;> cases hs
    rename_i x hq
    exact lv_lload_n hx hb hd rfl (hL.2.2.2 _ _ (xld_ls hq)) (kk' _ hL)
  case dload i =>
    simp only [xstep, xldd] at hs
    split at hs <;> cases hs
    rename_i x hq
    exact lv_dload hx hb hd (hL.2.2.2 _ _ (xld_ls hq)) (kk' _ hL)
  case dload_n i =>
    simp only [xstep, xldd] at hs
    split at hs <;> cases hs
    rename_i x hq
    exact lv_dload_n hx hb hd rfl (hL.2.2.2 _ _ (xld_ls hq)) (kk' _ hL)
  case aload i =>
    simp only [xstep, xlda] at hs
    split at hs <;> cases hs
    · rename_i x hq
      exact lv_aload hx hb hd (hL.2.2.2 _ _ (xld_ls hq)) (kk' _ hL)
    · rename_i hq
      exact lv_aloadN hx hb hd (hL.2.2.2 _ _ (xld_ls hq)) (kk' _ hL)
  case aload_n i =>
    simp only [xstep, xlda] at hs
    split at hs <;> cases hs
    · rename_i x hq
      exact lv_aload_n hx hb hd rfl (hL.2.2.2 _ _ (xld_ls hq)) (kk' _ hL)
    · rename_i hq
      exact lv_aload_nN hx hb hd rfl (hL.2.2.2 _ _ (xld_ls hq)) (kk' _ hL)
  case istore i =>
    simp only [xstep, xsti] at hs
    split at hs
    · rename_i x r
      split at hs <;> cases hs
      rename_i hi
      exact lv_istore hx hb hd hL.lv (by omega) rfl (fun lr' h' => kk' _ (xHas.st1 (v := .int x) hlen h'))
    · cases hs
  case istore_n i =>
    simp only [xstep, xsti] at hs
    split at hs
    · rename_i x r
      split at hs <;> cases hs
      rename_i hi
      exact lv_istore_n hx hb hd rfl hL.lv (by omega) rfl (fun lr' h' => kk' _ (xHas.st1 (v := .int x) hlen h'))
    · cases hs
  case astore i =>
    simp only [xstep, xsta] at hs
    split at hs
    · rename_i x r
      split at hs <;> cases hs
      rename_i hi
      exact lv_astore hx hb hd hL.lv (by omega) rfl (fun lr' h' => kk' _ (xHas.st1 (v := .ref x) hlen h'))
    · rename_i r
      split at hs <;> cases hs
      rename_i hi
      exact lv_astoreN hx hb hd hL.lv (by omega) rfl (fun lr' h' => kk' _ (xHas.st1 (v := .null) hlen h'))
    · cases hs
  case astore_n i =>
    simp only [xstep, xsta] at hs
    split at hs
    · rename_i x r
      split at hs <;> cases hs
      rename_i hi
      exact lv_astore_n hx hb hd rfl hL.lv (by omega) rfl (fun lr' h' => kk' _ (xHas.st1 (v := .ref x) hlen h'))
    · rename_i r
      split at hs <;> cases hs
      rename_i hi
      exact lv_astore_nN hx hb hd rfl hL.lv (by omega) rfl (fun lr' h' => kk' _ (xHas.st1 (v := .null) hlen h'))
    · cases hs
  case lstore i =>
    simp only [xstep, xstl] at hs
    split at hs
    · rename_i x r
      split at hs <;> cases hs
      rename_i hi
      exact lv_lstore hx hb hd hL.lv (by omega) rfl (fun lr' h' => kk' _ (xHas.st2 (v := .long x) hlen h'))
    · cases hs
  case lstore_n i =>
    simp only [xstep, xstl] at hs
    split at hs
    · rename_i x r
      split at hs <;> cases hs
      rename_i hi
      exact lv_lstore_n hx hb hd rfl hL.lv (by omega) rfl (fun lr' h' => kk' _ (xHas.st2 (v := .long x) hlen h'))
    · cases hs
  case dstore i =>
    simp only [xstep, xstd] at hs
    split at hs
    · rename_i x r
      split at hs <;> cases hs
      rename_i hi
      exact lv_dstore hx hb hd hL.lv (by omega) rfl (fun lr' h' => kk' _ (xHas.st2 (v := .double x) hlen h'))
    · cases hs
  case dstore_n i =>
    simp only [xstep, xstd] at hs
    split at hs
    · rename_i x r
      split at hs <;> cases hs
      rename_i hi
      exact lv_dstore_n hx hb hd rfl hL.lv (by omega) rfl (fun lr' h' => kk' _ (xHas.st2 (v := .double x) hlen h'))
    · cases hs
  case iinc i d =>
    simp only [xstep, xinc] at hs
    split at hs
    · rename_i x hq
      split at hs <;> cases hs
      rename_i hi
      obtain ⟨kp, hkp⟩ := List.getElem?_of_mem (xas_mem (G := G) (xld_ls hq))
      exact lv_iinc hx hb hd hL.lv hkp rfl (by omega) rfl (fun lr' h' => kk' _ (xHas.st1 (v := .int (x + Int32.ofInt d)) hlen h'))
    · cases hs
  case iadd =>
    simp only [xstep, xbi] at hs
    split at hs <;> cases hs
    exact lv_iadd hx hb hd (kk' _ hL)
  case isub =>
    simp only [xstep, xbi] at hs
    split at hs <;> cases hs
    exact lv_isub hx hb hd (kk' _ hL)
  case imul =>
    simp only [xstep, xbi] at hs
    split at hs <;> cases hs
    exact lv_imul hx hb hd (kk' _ hL)
  case iand =>
    simp only [xstep, xbi] at hs
    split at hs <;> cases hs
    exact lv_iand hx hb hd (kk' _ hL)
  case ixor =>
    simp only [xstep, xbi] at hs
    split at hs <;> cases hs
    exact lv_ixor hx hb hd (kk' _ hL)
  case ladd =>
    simp only [xstep, xbl] at hs
    split at hs <;> cases hs
    exact lv_ladd hx hb hd (kk' _ hL)
  case lsub =>
    simp only [xstep, xbl] at hs
    split at hs <;> cases hs
    exact lv_lsub hx hb hd (kk' _ hL)
  case lmul =>
    simp only [xstep, xbl] at hs
    split at hs <;> cases hs
    exact lv_lmul hx hb hd (kk' _ hL)
  case lcmp =>
    simp only [xstep] at hs
    split at hs <;> cases hs
    exact W.lcmp hx hb hd (kk' _ hL)
  case dcmp op =>
    simp only [xstep] at hs
    split at hs <;> cases hs
    exact lv_dcmp hx hb hd (kk' _ hL)
  case i2l =>
    simp only [xstep] at hs
    split at hs <;> cases hs
    exact lv_i2l hx hb hd rfl (kk' _ hL)
  case i2d =>
    simp only [xstep] at hs
    split at hs <;> cases hs
    exact lv_i2d hx hb hd (kk' _ hL)
  case d2l =>
    simp only [xstep] at hs
    split at hs <;> cases hs
    exact lv_d2l hx hb hd (kk' _ hL)
  case lshl =>
    simp only [xstep] at hs
    split at hs <;> cases hs
    exact lv_lshl hx hb hd rfl (kk' _ hL)
  case dup =>
    simp only [xstep] at hs
    split at hs
    · split at hs <;> cases hs
      rename_i hc
      exact lv_dup hx hb hd (by rw [xv_cat]; exact hc) (kk' _ hL)
    · cases hs
  case dup2 =>
    simp only [xstep] at hs
    split at hs
    · split at hs
      · split at hs <;> cases hs
        rename_i hc hc2
        exact lv_dup2_11 hx hb hd (by rw [xv_cat]; exact hc) (by rw [xv_cat]; exact hc2) (kk' _ hL)
      · cases hs
    · cases hs
  case pop =>
    simp only [xstep] at hs
    split at hs
    · split at hs <;> cases hs
      rename_i hc
      exact lv_pop hx hb hd (by rw [xv_cat]; exact hc) (kk' _ hL)
    · cases hs
  case goto d =>
    simp only [xstep, xjmp] at hs
    split at hs <;> cases hs
    rename_i t ht
    exact lv_goto hx hb hd (by rw [ht]; rfl) (kk' _ hL)
  all_goals exact absurd hs (by simp [xstep])
end XSTEP
end
section
/-! runs of pure instructions; fields, arrays, branches -/
def xlk (tbl : List (Nat × (Instr × Nat))) (pc : Nat) : Option (Instr × Nat) := match tbl with
  | [] => none
  | (a, i) :: t => if a = pc then some i else xlk t pc
theorem xlk_ok {cc : ByteArray} {tbl : List (Nat × (Instr × Nat))} (ht : ∀ a ∈ tbl, decode cc a.1 = .ok a.2) {pc : Nat} {q : Instr × Nat} (h : xlk tbl pc = some q) : decode cc pc = .ok q := by
  induction tbl with
  | nil => cases h
  | cons a t ih =>
    obtain ⟨a, i⟩ := a
    unfold xlk at h
    split at h
    · rename_i hq
      subst hq
      cases h
      have h1 := ht (a, q) List.mem_cons_self
      exact h1
    · exact ih (fun b hb => ht b (List.mem_cons_of_mem _ hb)) h
def xrun (tbl : List (Nat × (Instr × Nat))) : Nat → XS → Option XS
  | 0, q => some q
  | k + 1, q => match xlk tbl q.1 with
    | some (i, len) => if len = xlen i then (match xstep i q.1 q.2.1 q.2.2 with
      | some q' => xrun tbl k q'
      | none => none) else none
    | none => none
theorem W.sized {p : Program} {l : Launch} {e : Env} {R : Room} {s : State} {m : MethodId} {args : Array Value} {below : List Frame} {meth : Method} {c : Code} {H : Heap} {locs : List Loc} {cells slots : Nat} {Q : State → Prop} {g : JFrame} (kk : H.size ≤ s.heap.size + cells → W p l e R s m args below meth c H locs cells slots Q g) : W p l e R s m args below meth c H locs cells slots Q g := fun T hT X => kk (by rw [← hT]; exact X.heapSize) T hT X
theorem XCl_eq {ci : Nat} {q : vw_C} (h : XCl[ci]? = some q) : (q.1 = "RopeThreads$Elevator" ∧ q.2.1 = F_E ∧ q.2.2 = 7) ∨ (q.1 = "RopeThreads$History" ∧ q.2.1 = F_H ∧ q.2.2 = 3) ∨ (q.1 = "RopeThreads$Rope" ∧ q.2.1 = F_R ∧ q.2.2 = 7) ∨ (q.1 = "RopeThreads$TripText" ∧ q.2.1 = F_T ∧ q.2.2 = 6) ∨ (q.1 = "RopeThreads" ∧ q.2.1 = F_C ∧ q.2.2 = 4) := by
  have hm := List.mem_of_getElem? h
  rcases List.mem_cons.mp hm with e | hm
  · rw [e]; exact Or.inl ⟨rfl, rfl, rfl⟩
  rcases List.mem_cons.mp hm with e | hm
  · rw [e]; exact Or.inr (Or.inl ⟨rfl, rfl, rfl⟩)
  rcases List.mem_cons.mp hm with e | hm
  · rw [e]; exact Or.inr (Or.inr (Or.inl ⟨rfl, rfl, rfl⟩))
  rcases List.mem_cons.mp hm with e | hm
  · rw [e]; exact Or.inr (Or.inr (Or.inr (Or.inl ⟨rfl, rfl, rfl⟩)))
  rcases List.mem_cons.mp hm with e | hm
  · rw [e]; exact Or.inr (Or.inr (Or.inr (Or.inr ⟨rfl, rfl, rfl⟩)))
  cases hm
theorem XCl_in {ci : Nat} {q : vw_C} (h : XCl[ci]? = some q) : ∀ w ∈ u_ws q.1 q.2.1 q.2.2, w ∈ WALL := by
  rcases XCl_eq h with ⟨a, b, c⟩ | ⟨a, b, c⟩ | ⟨a, b, c⟩ | ⟨a, b, c⟩ | ⟨a, b, c⟩ <;> rw [a, b, c]
  · exact i_E
  · exact i_H
  · exact i_R
  · exact i_T
  · exact i_C
theorem XCl_ty {ci : Nat} {q : vw_C} (h : XCl[ci]? = some q) : ∃ ty0 : Nat → FieldType, ∀ k, k < q.2.2 → parseFieldDescriptor (q.2.1 k).2.2.1 = some (ty0 k) := by
  rcases XCl_eq h with ⟨a, b, c⟩ | ⟨a, b, c⟩ | ⟨a, b, c⟩ | ⟨a, b, c⟩ | ⟨a, b, c⟩ <;> rw [b, c]
  · exact ⟨_, ft_E_ok⟩
  · exact ⟨_, ft_H_ok⟩
  · exact ⟨_, ft_R_ok⟩
  · exact ⟨_, ft_T_ok⟩
  · exact ⟨_, ft_C_ok⟩
theorem XCl_nm {ci : Nat} {q : vw_C} (h : XCl[ci]? = some q) : ∀ a, a < q.2.2 → ∀ b, b < q.2.2 → a ≠ b → (q.2.1 a).2.1 ≠ (q.2.1 b).2.1 := by
  rcases XCl_eq h with ⟨a, b, c⟩ | ⟨a, b, c⟩ | ⟨a, b, c⟩ | ⟨a, b, c⟩ | ⟨a, b, c⟩ <;> rw [b, c]
  · exact n_E
  · exact n_H
  · exact n_R
  · exact n_T
  · exact n_C
theorem xa_in (G : XG) {i : Nat} (hi : 4 ≤ i) : xa G i = xbase G + (i - 4) := by unfold xa; rw [if_neg (by omega)]
theorem xw_at (G : XG) {n i : Nat} {h : XH} (hi : 4 ≤ i) (hn : i < n + 4) : (xw G n h)[i - 4]? = some (xa G i, xe G (h i)) := by
  rw [xw_get G h (by omega), xa_in G hi, show i - 4 + 4 = i by omega]
theorem va_P_size {G : XG} {n i : Nat} {h : XH} {H : Heap} {D : va_G} {cl : List vw_C} (hP : va_P D cl (xw G n h) H) (hn : 0 < n) : xbase G + n ≤ H.size := by
  have h1 := (hP (n - 1) _ (xw_get G h (by omega))).lt
  have h2 : xbase G + (n - 1) < H.size := h1
  omega
theorem xtys_get (G : XG) {k : Nat} {q : ClassId × FieldType} (h : (xtys G)[k]? = some q) : q.1 = xcA G k := by
  match k, h with
  | 0, h => cases h; rfl
  | 1, h => cases h; rfl
  | 2, h => cases h; rfl
  | 3, h => cases h; rfl
  | j + 4, h => simp [xtys] at h
section XHEAP
variable {G : XG} {nL : Nat} {p : Program} {l : Launch} {e : Env} {R : Room} {s : State} {m : MethodId} {args : Array Value} {below : List Frame} {meth : Method} {c : Code} {Q : State → Prop} {own : String} {cc : ByteArray}
variable {pc : Nat} {ls : List (Option Value)} {st : List Value} {n : Nat} {h : XH} {k ks : Nat}
theorem XV.run (C : XCx G l own cc nL p s m args meth c) {tbl : List (Nat × (Instr × Nat))} (ht : ∀ a ∈ tbl, decode cc a.1 = .ok a.2) (j : Nat) {q : XS} (hr : xrun tbl j (pc, (ls, st)) = some q) (kk : XV G nL p l e R s m args below meth c Q q.1 q.2.1 q.2.2 n h k ks) : XV G nL p l e R s m args below meth c Q pc ls st n h k ks := by
  induction j generalizing pc ls st with
  | zero => cases hr; exact kk
  | succ j ih =>
    unfold xrun at hr
    split at hr
    · rename_i i len hl
      split at hr
      · rename_i hlen
        split at hr
        · rename_i q' hq'
          exact XV.step1 C (xlk_ok ht hl) hlen hq' (ih hr)
        · cases hr
      · cases hr
    · cases hr
/-- weaker locals, other budget -/
theorem XV.locs (ls' : List (Option Value)) (hlen : ls'.length = ls.length) (hsub : ∀ (i : Nat) (v : Value), ls'[i]? = some (some v) → ls[i]? = some (some v)) (kk : XV G nL p l e R s m args below meth c Q pc ls' st n h k ks) : XV G nL p l e R s m args below meth c Q pc ls st n h k ks := fun H locs lr hP hz hS hL => kk H locs lr hP hz hS ⟨hL.1, hL.2.1, hlen.trans hL.2.2.1, fun i v hi => hL.2.2.2 i v (hsub i v hi)⟩
theorem XV.widen {k' ks' : Nat} (h1 : k ≤ k') (h2 : ks ≤ ks') (kk : XV G nL p l e R s m args below meth c Q pc ls st n h k' ks') : XV G nL p l e R s m args below meth c Q pc ls st n h k ks := fun H locs lr hP hz hS hL => W.widen h1 h2 (kk H locs lr hP hz hS hL)
theorem XV.heap {h' : XH} (he : ∀ i, 4 ≤ i → i < n + 4 → h' i = h i) (kk : XV G nL p l e R s m args below meth c Q pc ls st n h' k ks) : XV G nL p l e R s m args below meth c Q pc ls st n h k ks := by
  have hw : xw G n h' = xw G n h := by
    apply List.map_congr_left
    intro j hj
    rw [List.mem_range] at hj
    rw [he (j + 4) (by omega) (by omega)]
  intro H locs lr hP hz hS hL
  exact kk H locs lr (by rw [hw]; exact hP) hz hS hL
theorem XV.getf (C : XCx G l own cc nL p s m args meth c) {i ci kf ix : Nat} {q : vw_C} {fs : List Value} {v : Value} (hd : decode cc pc = .ok (.getfield ix, 3)) (hc : XCl[ci]? = some q) (hk : kf < q.2.2) (hlink : Cond.fieldLink own ix (q.2.1 kf).1 (q.2.1 kf).2.1 (q.2.1 kf).2.2.1 ∈ WALL) (hi : 4 ≤ i) (hn : i < n + 4) (hh : h i = .inr (ci, fs)) (hv : fs[kf]? = some v) (kk : XV G nL p l e R s m args below meth c Q (pc + 3) ls (v :: st) n h k ks) : XV G nL p l e R s m args below meth c Q pc ls (.ref i :: st) n h k ks := by
  obtain ⟨hx, hb, hml, hown, hts, hlocks, hE, -⟩ := C
  intro H locs lr hP hz hS hL
  have he : (xw G n h)[i - 4]? = some (xa G i, .inr (ci, fs.map (xv G))) := by rw [xw_at G hi hn, hh]; rfl
  obtain ⟨C0, T, N⟩ := q
  exact va_get (D := xD G) (ci := ci) (v := xv G v) (C := C0) (T := T) (N := N) hx hb hts (XCl_in hc) hown hE.1 hP (i - 4) he hc kf hk (hts _ hlink) (fun _ h9 => h9) (by rw [List.getElem?_map, hv]; rfl) hd (kk H locs lr hP hz hS hL)
theorem XV.putf (C : XCx G l own cc nL p s m args meth c) {i ci kf ix : Nat} {q : vw_C} {fs : List Value} {v : Value} {ty : FieldType} (hd : decode cc pc = .ok (.putfield ix, 3)) (hc : XCl[ci]? = some q) (hk : kf < q.2.2) (hlink : Cond.fieldLink own ix (q.2.1 kf).1 (q.2.1 kf).2.1 (q.2.1 kf).2.2.1 ∈ WALL) (hi : 4 ≤ i) (hn : i < n + 4) (hh : h i = .inr (ci, fs)) (hfin : (q.2.1 kf).2.2.2 = false) (hty : parseFieldDescriptor (q.2.1 kf).2.2.1 = some ty) (hnar : narrow ty (xv G v) = xv G v) (hfit : fits ty (xv G v) = true) (hl : kf < fs.length) (kk : XV G nL p l e R s m args below meth c Q (pc + 3) ls st n (xup h i (.inr (ci, fs.set kf v))) k ks) : XV G nL p l e R s m args below meth c Q pc ls (v :: .ref i :: st) n h k ks := by
  obtain ⟨hx, hb, hml, hown, hts, hlocks, hE, -⟩ := C
  intro H locs lr hP hz hS hL
  have he : (xw G n h)[i - 4]? = some (xa G i, .inr (ci, fs.map (xv G))) := by rw [xw_at G hi hn, hh]; rfl
  obtain ⟨C0, T, N⟩ := q
  obtain ⟨ty0, hty0⟩ := XCl_ty hc
  refine va_put (D := xD G) (ci := ci) (v := xv G v) (ty := ty) (C := C0) (T := T) (N := N) hx hb hts (XCl_in hc) ty0 hty0 (XCl_nm hc) hown hE.1 hP (xw_D G n h) hS (i - 4) he hc kf hk (hts _ hlink) (fun _ h9 => h9) hfin hty hnar hfit (by rw [List.length_map]; exact hl) hd (fun H1 locs1 hP1 _ hS1 => ?_)
  rw [show ((xa G i, Sum.inr (ci, (fs.map (xv G)).set kf (xv G v))) : Nat × va_E) = (xa G i, xe G (.inr (ci, fs.set kf v))) by rw [← List.map_set]; rfl, xw_set G n h i _ hi] at hP1
  exact kk H1 locs1 lr hP1 (va_P_size (i := i) hP1 (by omega)) hS1 hL
theorem XV.putF (C : XCx G l own cc nL p s m args meth c) {i ci kf ix : Nat} {q : vw_C} {fs : List Value} {v : Value} {ty : FieldType} (hin2 : meth.name = "<init>") (hd : decode cc pc = .ok (.putfield ix, 3)) (hc : XCl[ci]? = some q) (hk : kf < q.2.2) (hlink : Cond.fieldLink own ix (q.2.1 kf).1 (q.2.1 kf).2.1 (q.2.1 kf).2.2.1 ∈ WALL) (hi : 4 ≤ i) (hn : i < n + 4) (hh : h i = .inr (ci, fs)) (hfin : (q.2.1 kf).2.2.2 = true) (hdecl : (q.2.1 kf).1 = own) (hty : parseFieldDescriptor (q.2.1 kf).2.2.1 = some ty) (hnar : narrow ty (xv G v) = xv G v) (hfit : fits ty (xv G v) = true) (hl : kf < fs.length) (kk : XV G nL p l e R s m args below meth c Q (pc + 3) ls st n (xup h i (.inr (ci, fs.set kf v))) k ks) : XV G nL p l e R s m args below meth c Q pc ls (v :: .ref i :: st) n h k ks := by
  obtain ⟨hx, hb, hml, hown, hts, hlocks, hE, -⟩ := C
  intro H locs lr hP hz hS hL
  have he : (xw G n h)[i - 4]? = some (xa G i, .inr (ci, fs.map (xv G))) := by rw [xw_at G hi hn, hh]; rfl
  obtain ⟨C0, T, N⟩ := q
  obtain ⟨ty0, hty0⟩ := XCl_ty hc
  refine va_putF (D := xD G) (ci := ci) (v := xv G v) (ty := ty) (C := C0) (T := T) (N := N) hx hb hts (XCl_in hc) ty0 hty0 (XCl_nm hc) hown hE.1 hP (xw_D G n h) hS (i - 4) he hc kf hk (hts _ hlink) (fun _ h9 => h9) hfin hin2 hdecl hty hnar hfit (by rw [List.length_map]; exact hl) hd (fun H1 locs1 hP1 _ hS1 => ?_)
  rw [show ((xa G i, Sum.inr (ci, (fs.map (xv G)).set kf (xv G v))) : Nat × va_E) = (xa G i, xe G (.inr (ci, fs.set kf v))) by rw [← List.map_set]; rfl, xw_set G n h i _ hi] at hP1
  exact kk H1 locs1 lr hP1 (va_P_size (i := i) hP1 (by omega)) hS1 hL
theorem XV.iald0 (C : XCx G l own cc nL p s m args meth c) {i N : Nat} {f : Nat → Int32} {j : Int32} (hd : decode cc pc = .ok (.iaload, 1)) (hi : 4 ≤ i) (hn : i < n + 4) (hh : h i = .inl (0, (N, .inl f))) (hin : vp_in j N) (kk : XV G nL p l e R s m args below meth c Q (pc + 1) ls (.int (f j.toNatClampNeg) :: st) n h k ks) : XV G nL p l e R s m args below meth c Q pc ls (.int j :: .ref i :: st) n h k ks := by
  obtain ⟨hx, hb, hml, hown, hts, hlocks, hE, -⟩ := C
  intro H locs lr hP hz hS hL
  exact va_iald hx hb hE.1 hP (i - 4) 0 (by rw [xw_at G hi hn, hh]; rfl) rfl hin hd (kk H locs lr hP hz hS hL)
theorem XV.iald (C : XCx G l own cc nL p s m args meth c) {i N a : Nat} {f : Nat → Int32} {j : Int32} (hd : decode cc pc = .ok (.iaload, 1)) (hi : 4 ≤ i) (hn : i < n + 4) (hh : h i = .inl (0, (N, .inl f))) (hj : j = nI a) (ha : a < N) (hN : N < 2 ^ 31) (kk : XV G nL p l e R s m args below meth c Q (pc + 1) ls (.int (f a) :: st) n h k ks) : XV G nL p l e R s m args below meth c Q pc ls (.int j :: .ref i :: st) n h k ks := by
  subst hj
  refine XV.iald0 C hd hi hn hh (vp_in_nI ha hN) ?_
  rw [nI_clamp (by omega)]
  exact kk
theorem XV.iast0 (C : XCx G l own cc nL p s m args meth c) {i N : Nat} {f : Nat → Int32} {j x : Int32} (hd : decode cc pc = .ok (.iastore, 1)) (hi : 4 ≤ i) (hn : i < n + 4) (hh : h i = .inl (0, (N, .inl f))) (hin : vp_in j N) (kk : XV G nL p l e R s m args below meth c Q (pc + 1) ls st n (xup h i (.inl (0, (N, .inl (upd f j.toNatClampNeg x))))) k ks) : XV G nL p l e R s m args below meth c Q pc ls (.int x :: .int j :: .ref i :: st) n h k ks := by
  obtain ⟨hx, hb, hml, hown, hts, hlocks, hE, -⟩ := C
  intro H locs lr hP hz hS hL
  refine va_iast hx hb hE.1 hP (xw_D G n h) hS (i - 4) 0 (by rw [xw_at G hi hn, hh]; rfl) rfl hin hd (fun H1 locs1 hP1 _ hS1 => ?_)
  rw [show ((xa G i, Sum.inl (xcA G 0, N, Sum.inl (upd f j.toNatClampNeg x))) : Nat × va_E) = (xa G i, xe G (.inl (0, (N, .inl (upd f j.toNatClampNeg x))))) from rfl, xw_set G n h i _ hi] at hP1
  exact kk H1 locs1 lr hP1 (va_P_size (i := i) hP1 (by omega)) hS1 hL
theorem XV.iast (C : XCx G l own cc nL p s m args meth c) {i N a : Nat} {f : Nat → Int32} {j x : Int32} (hd : decode cc pc = .ok (.iastore, 1)) (hi : 4 ≤ i) (hn : i < n + 4) (hh : h i = .inl (0, (N, .inl f))) (hj : j = nI a) (ha : a < N) (hN : N < 2 ^ 31) (kk : XV G nL p l e R s m args below meth c Q (pc + 1) ls st n (xup h i (.inl (0, (N, .inl (upd f a x))))) k ks) : XV G nL p l e R s m args below meth c Q pc ls (.int x :: .int j :: .ref i :: st) n h k ks := by
  subst hj
  refine XV.iast0 C hd hi hn hh (vp_in_nI ha hN) ?_
  rw [nI_clamp (by omega)]
  exact kk
theorem xv_rf (G : XG) (o : Option Nat) : xv G (va_rf o) = va_rf (o.map (xa G)) := by cases o <;> rfl
theorem XV.aald (C : XCx G l own cc nL p s m args meth c) {i N a t : Nat} {Cn : String} {f : Nat → Option Nat} {j : Int32} (hd : decode cc pc = .ok (.aaload, 1)) (hi : 4 ≤ i) (hn : i < n + 4) (hh : h i = .inl (t, (N, .inr (.inr f)))) (ht : (xtys G)[t]? = some (xcA G t, .object Cn)) (hj : j = nI a) (ha : a < N) (hN : N < 2 ^ 31) (kk : XV G nL p l e R s m args below meth c Q (pc + 1) ls (va_rf (f a) :: st) n h k ks) : XV G nL p l e R s m args below meth c Q pc ls (.int j :: .ref i :: st) n h k ks := by
  subst hj
  obtain ⟨hx, hb, hml, hown, hts, hlocks, hE, -⟩ := C
  intro H locs lr hP hz hS hL
  refine va_aldq (n := N) (f := fun i => (f i).map (xa G)) hx hb hE.1 hP (i - 4) t (by rw [xw_at G hi hn, hh]; rfl) ht (vp_in_nI ha hN) hd ?_
  rw [nI_clamp (by omega), ← xv_rf]
  exact kk H locs lr hP hz hS hL
theorem XV.aast (C : XCx G l own cc nL p s m args meth c) {i N a t o ci : Nat} {q : vw_C} {fs : List Value} {f : Nat → Option Nat} {j : Int32} (hd : decode cc pc = .ok (.aastore, 1)) (hi : 4 ≤ i) (hn : i < n + 4) (hh : h i = .inl (t, (N, .inr (.inr f)))) (ht : (xtys G)[t]? = some (xcA G t, .object q.1)) (hoi : 4 ≤ o) (hon : o < n + 4) (hc : XCl[ci]? = some q) (ho : h o = .inr (ci, fs)) (hj : j = nI a) (ha : a < N) (hN : N < 2 ^ 31) (kk : XV G nL p l e R s m args below meth c Q (pc + 1) ls st n (xup h i (.inl (t, (N, .inr (.inr (va_up f a (some o))))))) k ks) : XV G nL p l e R s m args below meth c Q pc ls (.ref o :: .int j :: .ref i :: st) n h k ks := by
  subst hj
  obtain ⟨hx, hb, hml, hown, hts, hlocks, hE, -⟩ := C
  intro H locs lr hP hz hS hL
  refine va_astq (n := N) (f := fun i => (f i).map (xa G)) hx hb hE.1 hP (xw_D G n h) hS (i - 4) t (o - 4) ci (by rw [xw_at G hi hn, hh]; rfl) ht (by rw [xw_at G hoi hon, ho]; rfl) hc (vp_in_nI ha hN) hd (fun H1 locs1 hP1 _ hS1 => ?_)
  have hf : va_up (fun i => (f i).map (xa G)) a (some (xa G o)) = fun i => ((va_up f a (some o)) i).map (xa G) := by
    funext z
    unfold va_up
    split <;> rfl
  rw [nI_clamp (by omega), hf, show ((xa G i, Sum.inl (xcA G t, N, Sum.inr (Sum.inr (Sum.inr (Sum.inr fun i => ((va_up f a (some o)) i).map (xa G)))))) : Nat × va_E) = (xa G i, xe G (.inl (t, (N, .inr (.inr (va_up f a (some o))))))) from rfl, xw_set G n h i _ hi] at hP1
  exact kk H1 locs1 lr hP1 (va_P_size (i := i) hP1 (by omega)) hS1 hL
theorem XV.alen (C : XCx G l own cc nL p s m args meth c) {i N : Nat} {f : Nat → Int32} (hd : decode cc pc = .ok (.arraylength, 1)) (hi : 4 ≤ i) (hn : i < n + 4) (hh : h i = .inl (0, (N, .inl f))) (kk : XV G nL p l e R s m args below meth c Q (pc + 1) ls (.int (nI N) :: st) n h k ks) : XV G nL p l e R s m args below meth c Q pc ls (.ref i :: st) n h k ks := by
  obtain ⟨hx, hb, hml, hown, hts, hlocks, hE, -⟩ := C
  intro H locs lr hP hz hS hL
  exact va_alen (x := (N, .inl f)) (ty := .int) hx hb hE.1 hP (i - 4) 0 (by rw [xw_at G hi hn, hh]; rfl) rfl rfl hd (kk H locs lr hP hz hS hL)
theorem xext_A {G : XG} {U : State} (hE : xEnv G U) {i : Nat} (hi : i < 4) : ¬ xA G (xext G i) := by
  have := (hE.2.1 i hi).1
  intro q
  have q' : xbase G ≤ xext G i := q
  omega
theorem XV.sald (C : XCx G l own cc nL p s m args meth c) {a : Nat} {j : Int32} (hd : decode cc pc = .ok (.iaload, 1)) (hj : j = nI a) (ha : a < xL G) (hN : xL G < 2 ^ 31) (kk : XV G nL p l e R s m args below meth c Q (pc + 1) ls (.int (xxs G a) :: st) n h k ks) : XV G nL p l e R s m args below meth c Q pc ls (.int j :: .ref 0 :: st) n h k ks := by
  subst hj
  obtain ⟨hx, hb, hml, hown, hts, hlocks, hE, -⟩ := C
  intro H locs lr hP hz hS hL
  refine va_sld hx hb hE.2.2.1 (hE.2.1 0 (by omega)).2 (xext_A hE (by omega)) hS (vp_in_nI ha hN) hd ?_
  rw [nI_clamp (by omega)]
  exact kk H locs lr hP hz hS hL
theorem XV.salen (C : XCx G l own cc nL p s m args meth c) (hd : decode cc pc = .ok (.arraylength, 1)) (kk : XV G nL p l e R s m args below meth c Q (pc + 1) ls (.int (nI (xL G)) :: st) n h k ks) : XV G nL p l e R s m args below meth c Q pc ls (.ref 0 :: st) n h k ks := by
  obtain ⟨hx, hb, hml, hown, hts, hlocks, hE, -⟩ := C
  intro H locs lr hP hz hS hL
  exact va_slen hx hb hE.2.2.1 (hE.2.1 0 (by omega)).2 (xext_A hE (by omega)) hS hd (kk H locs lr hP hz hS hL)
theorem XV.tald (C : XCx G l own cc nL p s m args meth c) {i a : Nat} {j : Int32} (hd : decode cc pc = .ok (.iaload, 1)) (hi : 1 ≤ i) (hi4 : i < 4) (hj : j = nI a) (ha : a < 5) (kk : XV G nL p l e R s m args below meth c Q (pc + 1) ls (.int ((XSA i).2 a) :: st) n h k ks) : XV G nL p l e R s m args below meth c Q pc ls (.int j :: .ref i :: st) n h k ks := by
  subst hj
  obtain ⟨hx, hb, hml, hown, hts, hlocks, hE, -⟩ := C
  intro H locs lr hP hz hS hL
  have hxa : xv G (.ref i) = .ref (xext G i) := by show Value.ref (xa G i) = _; unfold xa; rw [if_pos hi4]
  have K := kk H locs lr hP hz hS hL
  rw [List.map_cons, List.map_cons, hxa]
  refine va_ti hx hb (hE.2.2.2.1 i hi hi4).2 hS (vp_in_nI ha (by omega)) (v := .int ((XSA i).2 a)) ?_ hd K
  rw [nI_clamp (by omega)]
theorem XV.gets (C : XCx G l own cc nL p s m args meth c) {i ix : Nat} (hd : decode cc pc = .ok (.getstatic ix, 3)) (hi : 1 ≤ i) (hi4 : i < 4) (hlink : Cond.fieldLink own ix "RopeThreads" (XSA i).1 "[I" ∈ WALL) (kk : XV G nL p l e R s m args below meth c Q (pc + 3) ls (.ref i :: st) n h k ks) : XV G nL p l e R s m args below meth c Q pc ls st n h k ks := by
  obtain ⟨hx, hb, hml, hown, hts, hlocks, hE, -⟩ := C
  intro H locs lr hP hz hS hL
  have hxa : xv G (.ref i) = .ref (xext G i) := by show Value.ref (xa G i) = _; unfold xa; rw [if_pos hi4]
  have K := kk H locs lr hP hz hS hL
  rw [List.map_cons, hxa] at K
  exact va_gets hx hb (hE.2.2.2.1 i hi hi4).1 hS hown (hts _ hlink) (fun _ h9 => h9) hd K
theorem XV.getfN (C : XCx G l own cc nL p s m args meth c) {i ci kf ix : Nat} {q : vw_C} {fs : List Value} {v : Value} (hd : decode cc pc = .ok (.getfield ix, 3)) (hc : XCl[ci]? = some q) (hk : kf < q.2.2) (hlink : Cond.fieldLinkNest own ix (q.2.1 kf).1 (q.2.1 kf).2.1 (q.2.1 kf).2.2.1 "RopeThreads" ∈ XNW) (hi : 4 ≤ i) (hn : i < n + 4) (hh : h i = .inr (ci, fs)) (hv : fs[kf]? = some v) (kk : XV G nL p l e R s m args below meth c Q (pc + 3) ls (v :: st) n h k ks) : XV G nL p l e R s m args below meth c Q pc ls (.ref i :: st) n h k ks := by
  obtain ⟨hx, hb, hml, hown, hts, hlocks, hE, -⟩ := C
  intro H locs lr hP hz hS hL
  have he : (xw G n h)[i - 4]? = some (xa G i, .inr (ci, fs.map (xv G))) := by rw [xw_at G hi hn, hh]; rfl
  obtain ⟨C0, T, N⟩ := q
  exact va_getN (host := "RopeThreads") (D := xD G) (ci := ci) (v := xv G v) (C := C0) (T := T) (N := N) hx hb hts (XCl_in hc) hown hE.1 hP (i - 4) he hc kf hk (va_Nw.use rfl (hE.2.2.2.2.2.1 _ hlink)) (fun _ h9 => h9) (by rw [List.getElem?_map, hv]; rfl) hd (kk H locs lr hP hz hS hL)
theorem XV.putfN (C : XCx G l own cc nL p s m args meth c) {i ci kf ix : Nat} {q : vw_C} {fs : List Value} {v : Value} {ty : FieldType} (hd : decode cc pc = .ok (.putfield ix, 3)) (hc : XCl[ci]? = some q) (hk : kf < q.2.2) (hlink : Cond.fieldLinkNest own ix (q.2.1 kf).1 (q.2.1 kf).2.1 (q.2.1 kf).2.2.1 "RopeThreads" ∈ XNW) (hi : 4 ≤ i) (hn : i < n + 4) (hh : h i = .inr (ci, fs)) (hfin : (q.2.1 kf).2.2.2 = false) (hty : parseFieldDescriptor (q.2.1 kf).2.2.1 = some ty) (hnar : narrow ty (xv G v) = xv G v) (hfit : fits ty (xv G v) = true) (hl : kf < fs.length) (kk : XV G nL p l e R s m args below meth c Q (pc + 3) ls st n (xup h i (.inr (ci, fs.set kf v))) k ks) : XV G nL p l e R s m args below meth c Q pc ls (v :: .ref i :: st) n h k ks := by
  obtain ⟨hx, hb, hml, hown, hts, hlocks, hE, -⟩ := C
  intro H locs lr hP hz hS hL
  have he : (xw G n h)[i - 4]? = some (xa G i, .inr (ci, fs.map (xv G))) := by rw [xw_at G hi hn, hh]; rfl
  obtain ⟨C0, T, N⟩ := q
  obtain ⟨ty0, hty0⟩ := XCl_ty hc
  refine va_putN (host := "RopeThreads") (D := xD G) (ci := ci) (v := xv G v) (ty := ty) (C := C0) (T := T) (N := N) hx hb hts (XCl_in hc) ty0 hty0 (XCl_nm hc) hown hE.1 hP (xw_D G n h) hS (i - 4) he hc kf hk (va_Nw.use rfl (hE.2.2.2.2.2.1 _ hlink)) (fun _ h9 => h9) hfin hty hnar hfit (by rw [List.length_map]; exact hl) hd (fun H1 locs1 hP1 _ hS1 => ?_)
  rw [show ((xa G i, Sum.inr (ci, (fs.map (xv G)).set kf (xv G v))) : Nat × va_E) = (xa G i, xe G (.inr (ci, fs.set kf v))) by rw [← List.map_set]; rfl, xw_set G n h i _ hi] at hP1
  exact kk H1 locs1 lr hP1 (va_P_size (i := i) hP1 (by omega)) hS1 hL
end XHEAP
end
section
/-! branches, divisions, constants, doubles, null, switches, copies, Math, new objects -/
theorem wB_maxL : Cond.code Lib.Math.max.name Lib.Math.max.code 2 (some .int) ∈ WALL := wB_JM_max
theorem wB_minL : Cond.code Lib.Math.min.name Lib.Math.min.code 2 (some .int) ∈ WALL := wB_JM_min
section XBR
variable {G : XG} {nL : Nat} {p : Program} {l : Launch} {e : Env} {R : Room} {s : State} {m : MethodId} {args : Array Value} {below : List Frame} {meth : Method} {c : Code} {Q : State → Prop} {own : String} {cc : ByteArray}
variable {pc : Nat} {ls : List (Option Value)} {st : List Value} {n : Nat} {h : XH} {k ks : Nat}
theorem XV.icmp_eq (C : XCx G l own cc nL p s m args meth c) {x y : Int32} {off : Int} {tgt : Nat} (hd : decode cc pc = .ok (.if_icmp .eq off, 3)) (ht : (pc : Int) + off = (tgt : Int)) (kt : x = y → XV G nL p l e R s m args below meth c Q tgt ls st n h k ks) (kf : ¬ (x = y) → XV G nL p l e R s m args below meth c Q (pc + 3) ls st n h k ks) : XV G nL p l e R s m args below meth c Q pc ls (.int y :: .int x :: st) n h k ks :=
  fun H locs lr hP hz hS hL => lv_icmp_eq C.1 C.2.1 hd ht (fun q => kt q H locs lr hP hz hS hL) (fun q => kf q H locs lr hP hz hS hL)
theorem XV.if_eq (C : XCx G l own cc nL p s m args meth c) {x : Int32} {off : Int} {tgt : Nat} (hd : decode cc pc = .ok (.ifCond .eq off, 3)) (ht : (pc : Int) + off = (tgt : Int)) (kt : x = 0 → XV G nL p l e R s m args below meth c Q tgt ls st n h k ks) (kf : ¬ (x = 0) → XV G nL p l e R s m args below meth c Q (pc + 3) ls st n h k ks) : XV G nL p l e R s m args below meth c Q pc ls (.int x :: st) n h k ks :=
  fun H locs lr hP hz hS hL => lv_if_eq C.1 C.2.1 hd ht (fun q => kt q H locs lr hP hz hS hL) (fun q => kf q H locs lr hP hz hS hL)
theorem XV.icmp_ne (C : XCx G l own cc nL p s m args meth c) {x y : Int32} {off : Int} {tgt : Nat} (hd : decode cc pc = .ok (.if_icmp .ne off, 3)) (ht : (pc : Int) + off = (tgt : Int)) (kt : ¬ x = y → XV G nL p l e R s m args below meth c Q tgt ls st n h k ks) (kf : x = y → XV G nL p l e R s m args below meth c Q (pc + 3) ls st n h k ks) : XV G nL p l e R s m args below meth c Q pc ls (.int y :: .int x :: st) n h k ks :=
  fun H locs lr hP hz hS hL => lv_icmp_ne C.1 C.2.1 hd ht (fun q => kt q H locs lr hP hz hS hL) (fun q => kf q H locs lr hP hz hS hL)
theorem XV.if_ne (C : XCx G l own cc nL p s m args meth c) {x : Int32} {off : Int} {tgt : Nat} (hd : decode cc pc = .ok (.ifCond .ne off, 3)) (ht : (pc : Int) + off = (tgt : Int)) (kt : ¬ x = 0 → XV G nL p l e R s m args below meth c Q tgt ls st n h k ks) (kf : x = 0 → XV G nL p l e R s m args below meth c Q (pc + 3) ls st n h k ks) : XV G nL p l e R s m args below meth c Q pc ls (.int x :: st) n h k ks :=
  fun H locs lr hP hz hS hL => lv_if_ne C.1 C.2.1 hd ht (fun q => kt q H locs lr hP hz hS hL) (fun q => kf q H locs lr hP hz hS hL)
theorem XV.icmp_lt (C : XCx G l own cc nL p s m args meth c) {x y : Int32} {off : Int} {tgt : Nat} (hd : decode cc pc = .ok (.if_icmp .lt off, 3)) (ht : (pc : Int) + off = (tgt : Int)) (kt : x < y → XV G nL p l e R s m args below meth c Q tgt ls st n h k ks) (kf : ¬ (x < y) → XV G nL p l e R s m args below meth c Q (pc + 3) ls st n h k ks) : XV G nL p l e R s m args below meth c Q pc ls (.int y :: .int x :: st) n h k ks :=
  fun H locs lr hP hz hS hL => lv_icmp_lt C.1 C.2.1 hd ht (fun q => kt q H locs lr hP hz hS hL) (fun q => kf q H locs lr hP hz hS hL)
theorem XV.if_lt (C : XCx G l own cc nL p s m args meth c) {x : Int32} {off : Int} {tgt : Nat} (hd : decode cc pc = .ok (.ifCond .lt off, 3)) (ht : (pc : Int) + off = (tgt : Int)) (kt : x < 0 → XV G nL p l e R s m args below meth c Q tgt ls st n h k ks) (kf : ¬ (x < 0) → XV G nL p l e R s m args below meth c Q (pc + 3) ls st n h k ks) : XV G nL p l e R s m args below meth c Q pc ls (.int x :: st) n h k ks :=
  fun H locs lr hP hz hS hL => lv_if_lt C.1 C.2.1 hd ht (fun q => kt q H locs lr hP hz hS hL) (fun q => kf q H locs lr hP hz hS hL)
theorem XV.icmp_ge (C : XCx G l own cc nL p s m args meth c) {x y : Int32} {off : Int} {tgt : Nat} (hd : decode cc pc = .ok (.if_icmp .ge off, 3)) (ht : (pc : Int) + off = (tgt : Int)) (kt : y ≤ x → XV G nL p l e R s m args below meth c Q tgt ls st n h k ks) (kf : ¬ (y ≤ x) → XV G nL p l e R s m args below meth c Q (pc + 3) ls st n h k ks) : XV G nL p l e R s m args below meth c Q pc ls (.int y :: .int x :: st) n h k ks :=
  fun H locs lr hP hz hS hL => lv_icmp_ge C.1 C.2.1 hd ht (fun q => kt q H locs lr hP hz hS hL) (fun q => kf q H locs lr hP hz hS hL)
theorem XV.if_ge (C : XCx G l own cc nL p s m args meth c) {x : Int32} {off : Int} {tgt : Nat} (hd : decode cc pc = .ok (.ifCond .ge off, 3)) (ht : (pc : Int) + off = (tgt : Int)) (kt : 0 ≤ x → XV G nL p l e R s m args below meth c Q tgt ls st n h k ks) (kf : ¬ (0 ≤ x) → XV G nL p l e R s m args below meth c Q (pc + 3) ls st n h k ks) : XV G nL p l e R s m args below meth c Q pc ls (.int x :: st) n h k ks :=
  fun H locs lr hP hz hS hL => lv_if_ge C.1 C.2.1 hd ht (fun q => kt q H locs lr hP hz hS hL) (fun q => kf q H locs lr hP hz hS hL)
theorem XV.icmp_gt (C : XCx G l own cc nL p s m args meth c) {x y : Int32} {off : Int} {tgt : Nat} (hd : decode cc pc = .ok (.if_icmp .gt off, 3)) (ht : (pc : Int) + off = (tgt : Int)) (kt : y < x → XV G nL p l e R s m args below meth c Q tgt ls st n h k ks) (kf : ¬ (y < x) → XV G nL p l e R s m args below meth c Q (pc + 3) ls st n h k ks) : XV G nL p l e R s m args below meth c Q pc ls (.int y :: .int x :: st) n h k ks :=
  fun H locs lr hP hz hS hL => lv_icmp_gt C.1 C.2.1 hd ht (fun q => kt q H locs lr hP hz hS hL) (fun q => kf q H locs lr hP hz hS hL)
theorem XV.if_gt (C : XCx G l own cc nL p s m args meth c) {x : Int32} {off : Int} {tgt : Nat} (hd : decode cc pc = .ok (.ifCond .gt off, 3)) (ht : (pc : Int) + off = (tgt : Int)) (kt : 0 < x → XV G nL p l e R s m args below meth c Q tgt ls st n h k ks) (kf : ¬ (0 < x) → XV G nL p l e R s m args below meth c Q (pc + 3) ls st n h k ks) : XV G nL p l e R s m args below meth c Q pc ls (.int x :: st) n h k ks :=
  fun H locs lr hP hz hS hL => lv_if_gt C.1 C.2.1 hd ht (fun q => kt q H locs lr hP hz hS hL) (fun q => kf q H locs lr hP hz hS hL)
theorem XV.icmp_le (C : XCx G l own cc nL p s m args meth c) {x y : Int32} {off : Int} {tgt : Nat} (hd : decode cc pc = .ok (.if_icmp .le off, 3)) (ht : (pc : Int) + off = (tgt : Int)) (kt : x ≤ y → XV G nL p l e R s m args below meth c Q tgt ls st n h k ks) (kf : ¬ (x ≤ y) → XV G nL p l e R s m args below meth c Q (pc + 3) ls st n h k ks) : XV G nL p l e R s m args below meth c Q pc ls (.int y :: .int x :: st) n h k ks :=
  fun H locs lr hP hz hS hL => lv_icmp_le C.1 C.2.1 hd ht (fun q => kt q H locs lr hP hz hS hL) (fun q => kf q H locs lr hP hz hS hL)
theorem XV.if_le (C : XCx G l own cc nL p s m args meth c) {x : Int32} {off : Int} {tgt : Nat} (hd : decode cc pc = .ok (.ifCond .le off, 3)) (ht : (pc : Int) + off = (tgt : Int)) (kt : x ≤ 0 → XV G nL p l e R s m args below meth c Q tgt ls st n h k ks) (kf : ¬ (x ≤ 0) → XV G nL p l e R s m args below meth c Q (pc + 3) ls st n h k ks) : XV G nL p l e R s m args below meth c Q pc ls (.int x :: st) n h k ks :=
  fun H locs lr hP hz hS hL => lv_if_le C.1 C.2.1 hd ht (fun q => kt q H locs lr hP hz hS hL) (fun q => kf q H locs lr hP hz hS hL)
theorem XV.null_r (C : XCx G l own cc nL p s m args meth c) {i : Nat} {off : Int} (hd : decode cc pc = .ok (.ifnull off, 3)) (kk : XV G nL p l e R s m args below meth c Q (pc + 3) ls st n h k ks) : XV G nL p l e R s m args below meth c Q pc ls (.ref i :: st) n h k ks :=
  fun H locs lr hP hz hS hL => lv_ifnull C.1 C.2.1 hd (kk H locs lr hP hz hS hL)
theorem XV.null_n (C : XCx G l own cc nL p s m args meth c) {off : Int} {tgt : Nat} (hd : decode cc pc = .ok (.ifnull off, 3)) (ht : (pc : Int) + off = (tgt : Int)) (kk : XV G nL p l e R s m args below meth c Q tgt ls st n h k ks) : XV G nL p l e R s m args below meth c Q pc ls (.null :: st) n h k ks :=
  fun H locs lr hP hz hS hL => lv_ifnullN C.1 C.2.1 hd ht (kk H locs lr hP hz hS hL)
theorem XV.nonnull_r (C : XCx G l own cc nL p s m args meth c) {i : Nat} {off : Int} {tgt : Nat} (hd : decode cc pc = .ok (.ifnonnull off, 3)) (ht : (pc : Int) + off = (tgt : Int)) (kk : XV G nL p l e R s m args below meth c Q tgt ls st n h k ks) : XV G nL p l e R s m args below meth c Q pc ls (.ref i :: st) n h k ks :=
  fun H locs lr hP hz hS hL => lv_ifnonnull C.1 C.2.1 hd ht (kk H locs lr hP hz hS hL)
theorem XV.nonnull_n (C : XCx G l own cc nL p s m args meth c) {off : Int} (hd : decode cc pc = .ok (.ifnonnull off, 3)) (kk : XV G nL p l e R s m args below meth c Q (pc + 3) ls st n h k ks) : XV G nL p l e R s m args below meth c Q pc ls (.null :: st) n h k ks :=
  fun H locs lr hP hz hS hL => lv_ifnonnullN C.1 C.2.1 hd (kk H locs lr hP hz hS hL)
theorem XV.idiv (C : XCx G l own cc nL p s m args meth c) {x y : Int32} (hd : decode cc pc = .ok (.idiv, 1)) (hne : ¬ y = 0) (kk : XV G nL p l e R s m args below meth c Q (pc + 1) ls (.int (x / y) :: st) n h k ks) : XV G nL p l e R s m args below meth c Q pc ls (.int y :: .int x :: st) n h k ks :=
  fun H locs lr hP hz hS hL => lv_idiv C.1 C.2.1 hd hne (kk H locs lr hP hz hS hL)
theorem XV.irem (C : XCx G l own cc nL p s m args meth c) {x y : Int32} (hd : decode cc pc = .ok (.irem, 1)) (hne : ¬ y = 0) (kk : XV G nL p l e R s m args below meth c Q (pc + 1) ls (.int (x - x / y * y) :: st) n h k ks) : XV G nL p l e R s m args below meth c Q pc ls (.int y :: .int x :: st) n h k ks :=
  fun H locs lr hP hz hS hL => lv_irem C.1 C.2.1 hd hne (kk H locs lr hP hz hS hL)
theorem XV.ldc (C : XCx G l own cc nL p s m args meth c) {ix : Nat} {v : Int32} (hd : decode cc pc = .ok (.ldc ix, 2)) (hw : Cond.constant own ix v ∈ WALL) (kk : XV G nL p l e R s m args below meth c Q (pc + 2) ls (.int v :: st) n h k ks) : XV G nL p l e R s m args below meth c Q pc ls st n h k ks :=
  fun H locs lr hP hz hS hL => lv_ldc C.1 C.2.1 C.2.2.2.1 (C.2.2.2.2.1 _ hw) hd (kk H locs lr hP hz hS hL)
theorem XV.ldc2 (C : XCx G l own cc nL p s m args meth c) {ix : Nat} {v : Int64} (hd : decode cc pc = .ok (.ldc2_w ix, 3)) (hw : Cond.constantLong own ix v ∈ WALL) (kk : XV G nL p l e R s m args below meth c Q (pc + 3) ls (.long v :: st) n h k ks) : XV G nL p l e R s m args below meth c Q pc ls st n h k ks :=
  fun H locs lr hP hz hS hL => lv_ldc2 C.1 C.2.1 C.2.2.2.1 (C.2.2.2.2.1 _ hw) hd (kk H locs lr hP hz hS hL)
theorem XV.ldc2d (C : XCx G l own cc nL p s m args meth c) {ix : Nat} {v : UInt64} (hd : decode cc pc = .ok (.ldc2_w ix, 3)) (hw : Cond.constantDouble own ix v ∈ WALL) (kk : XV G nL p l e R s m args below meth c Q (pc + 3) ls (.double v :: st) n h k ks) : XV G nL p l e R s m args below meth c Q pc ls st n h k ks :=
  fun H locs lr hP hz hS hL => lv_ldc2d C.1 C.2.1 C.2.2.2.1 (C.2.2.2.2.1 _ hw) hd (kk H locs lr hP hz hS hL)
theorem XV.dconst0 (C : XCx G l own cc nL p s m args meth c) (hd : decode cc pc = .ok (.dconst 0, 1)) (kk : XV G nL p l e R s m args below meth c Q (pc + 1) ls (.double FP.dconst0 :: st) n h k ks) : XV G nL p l e R s m args below meth c Q pc ls st n h k ks :=
  fun H locs lr hP hz hS hL => lv_dconst0 C.1 C.2.1 hd (kk H locs lr hP hz hS hL)
theorem XV.dconst1 (C : XCx G l own cc nL p s m args meth c) (hd : decode cc pc = .ok (.dconst 1, 1)) (kk : XV G nL p l e R s m args below meth c Q (pc + 1) ls (.double FP.dconst1 :: st) n h k ks) : XV G nL p l e R s m args below meth c Q pc ls st n h k ks :=
  fun H locs lr hP hz hS hL => lv_dconst1 C.1 C.2.1 hd (kk H locs lr hP hz hS hL)
theorem XV.ddiv (C : XCx G l own cc nL p s m args meth c) {x y : UInt64} (hd : decode cc pc = .ok (.ddiv, 1)) (hne : vf_n64 (FP.ddiv x y)) (kk : XV G nL p l e R s m args below meth c Q (pc + 1) ls (.double (FP.ddiv x y) :: st) n h k ks) : XV G nL p l e R s m args below meth c Q pc ls (.double y :: .double x :: st) n h k ks :=
  fun H locs lr hP hz hS hL => lv_ddiv C.1 C.2.1 hd hne (kk H locs lr hP hz hS hL)
theorem XV.dmul (C : XCx G l own cc nL p s m args meth c) {x y : UInt64} (hd : decode cc pc = .ok (.dmul, 1)) (hne : vf_n64 (FP.dmul x y)) (kk : XV G nL p l e R s m args below meth c Q (pc + 1) ls (.double (FP.dmul x y) :: st) n h k ks) : XV G nL p l e R s m args below meth c Q pc ls (.double y :: .double x :: st) n h k ks :=
  fun H locs lr hP hz hS hL => lv_dmul C.1 C.2.1 hd hne (kk H locs lr hP hz hS hL)
theorem XV.dsub (C : XCx G l own cc nL p s m args meth c) {x y : UInt64} (hd : decode cc pc = .ok (.dsub, 1)) (hne : vf_n64 (FP.dsub x y)) (kk : XV G nL p l e R s m args below meth c Q (pc + 1) ls (.double (FP.dsub x y) :: st) n h k ks) : XV G nL p l e R s m args below meth c Q pc ls (.double y :: .double x :: st) n h k ks :=
  fun H locs lr hP hz hS hL => lv_dsub C.1 C.2.1 hd hne (kk H locs lr hP hz hS hL)
theorem XV.tabOut (C : XCx G l own cc nL p s m args meth c) {dflt lo hi : Int} {offs : Array Int} {len : Nat} {x : Int32} {tgt : Nat} (hd : decode cc pc = .ok (.tableswitch dflt lo hi offs, len)) (hx : x.toInt < lo ∨ hi < x.toInt) (ht : (pc : Int) + dflt = (tgt : Int)) (kk : XV G nL p l e R s m args below meth c Q tgt ls st n h k ks) : XV G nL p l e R s m args below meth c Q pc ls (.int x :: st) n h k ks :=
  fun H locs lr hP hz hS hL => lv_tableOut C.1 C.2.1 hd hx ht (kk H locs lr hP hz hS hL)
theorem XV.tabIn (C : XCx G l own cc nL p s m args meth c) {dflt lo hi : Int} {offs : Array Int} {len : Nat} {x : Int32} {off : Int} {tgt : Nat} (hd : decode cc pc = .ok (.tableswitch dflt lo hi offs, len)) (h1 : ¬ x.toInt < lo) (h2 : ¬ hi < x.toInt) (ho : offs[(x.toInt - lo).toNat]? = some off) (ht : (pc : Int) + off = (tgt : Int)) (kk : XV G nL p l e R s m args below meth c Q tgt ls st n h k ks) : XV G nL p l e R s m args below meth c Q pc ls (.int x :: st) n h k ks :=
  fun H locs lr hP hz hS hL => lv_tableIn C.1 C.2.1 hd h1 h2 ho ht (kk H locs lr hP hz hS hL)
theorem xsum (G : XG) (st : List Value) : (((st.map (xv G)).map fun v => v.category).sum) = (st.map fun v => v.category).sum := by
  rw [List.map_map]
  congr 1
  apply List.map_congr_left
  intro v _
  exact xv_cat G v
theorem XV.mmax (C : XCx G l own cc nL p s m args meth c) {ix : Nat} {x y : Int32} (hd : decode cc pc = .ok (.invokestatic ix, 3)) (hw : Cond.methodLink own ix Lib.Math.max.name ∈ WALL) (hf : 1 ≤ R.frames) (hl : (st.map fun v => v.category).sum + 13 ≤ R.locals) (hc : k ≤ R.cells) (hs : ks ≤ R.slots) (kk : XV G nL p l e R s m args below meth c Q (pc + 3) ls (.int (if x < y then y else x) :: st) n h k ks) : XV G nL p l e R s m args below meth c Q pc ls (.int y :: .int x :: st) n h k ks :=
  fun H locs lr hP hz hS hL => va_mmax C.1 C.2.1 (C.2.2.1.trans hL.1.symm) C.2.2.2.1 (C.2.2.2.2.1 _ hw) (C.2.2.2.2.1 _ wS_JM_max) (C.2.2.2.2.1 _ wN_JM) (C.2.2.2.2.1 _ wB_maxL) hf (by rw [xsum]; exact hl) hc hs hd (kk H locs lr hP hz hS hL)
theorem XV.mmin (C : XCx G l own cc nL p s m args meth c) {ix : Nat} {x y : Int32} (hd : decode cc pc = .ok (.invokestatic ix, 3)) (hw : Cond.methodLink own ix Lib.Math.min.name ∈ WALL) (hf : 1 ≤ R.frames) (hl : (st.map fun v => v.category).sum + 13 ≤ R.locals) (hc : k ≤ R.cells) (hs : ks ≤ R.slots) (kk : XV G nL p l e R s m args below meth c Q (pc + 3) ls (.int (if y < x then y else x) :: st) n h k ks) : XV G nL p l e R s m args below meth c Q pc ls (.int y :: .int x :: st) n h k ks :=
  fun H locs lr hP hz hS hL => va_mmin C.1 C.2.1 (C.2.2.1.trans hL.1.symm) C.2.2.2.1 (C.2.2.2.2.1 _ hw) (C.2.2.2.2.1 _ wS_JM_min) (C.2.2.2.2.1 _ wN_JM) (C.2.2.2.2.1 _ wB_minL) hf (by rw [xsum]; exact hl) hc hs hd (kk H locs lr hP hz hS hL)
/-- System.arraycopy of whole int arrays, from 0 to 0 -/
theorem XV.copy (C : XCx G l own cc nL p s m args meth c) {ix i j N : Nat} {f g : Nat → Int32} {len : Int32} (hd : decode cc pc = .ok (.invokestatic ix, 3)) (hw : Cond.methodLink own ix arraycopyName ∈ WALL) (hi : 4 ≤ i) (hin : i < n + 4) (hj : 4 ≤ j) (hjn : j < n + 4) (hhi : h i = .inl (0, (N, .inl f))) (hhj : h j = .inl (0, (N, .inl g))) (hlen : len = nI N) (hN : N < 2 ^ 31) (hf : 1 ≤ R.frames) (hl : (st.map fun v => v.category).sum + 18 ≤ R.locals) (kk : XV G nL p l e R s m args below meth c Q (pc + 3) ls st n (xup h j (.inl (0, (N, .inl (fun q => if q < N then f q else g q))))) k ks) : XV G nL p l e R s m args below meth c Q pc ls (.int len :: .int 0 :: .ref j :: .int 0 :: .ref i :: st) n h k ks := by
  obtain ⟨hx, hb, hml, hown, hts, hlocks, hE, -⟩ := C
  intro H locs lr hP hz hS hL
  subst hlen
  refine va_copyi (n0 := N) (n1 := N) (f := f) (g := g) (ty := .int) hx hb (hml.trans hL.1.symm) hown (hts _ hw) (hts _ wX_JS_arraycopy) (hts _ wS_JS_arraycopy) (hts _ wN_JS) hE.1 hP (xw_D G n h) hS (i - 4) (j - 4) 0 0 (by rw [xw_at G hi hin, hhi]; rfl) (by rw [xw_at G hj hjn, hhj]; rfl) rfl rfl rfl (by decide) (by decide) (nI_pos hN) (by rw [nI_clamp hN]; exact Nat.le_of_eq (Nat.zero_add N)) (by rw [nI_clamp hN]; exact Nat.le_of_eq (Nat.zero_add N)) (fun _ _ => rfl) hf (by rw [xsum, nativeFrameWords_plain 5 (by decide)]; exact hl) hd (fun H1 locs1 hP1 _ hS1 => ?_)
  have hcp : va_cpy f g (0 : Int32).toNatClampNeg (0 : Int32).toNatClampNeg (nI N).toNatClampNeg = (fun q => if q < N then f q else g q) := by
    rw [nI_clamp hN]
    funext q
    show (if 0 ≤ q ∧ q < 0 + N then f (0 + (q - 0)) else g q) = _
    by_cases hq : q < N
    · rw [if_pos ⟨Nat.zero_le _, by omega⟩, if_pos hq]
      congr 1
      omega
    · rw [if_neg (fun z => hq (by omega)), if_neg hq]
  rw [hcp, show ((xa G j, Sum.inl (xcA G 0, N, Sum.inl (fun q => if q < N then f q else g q))) : Nat × va_E) = (xa G j, xe G (.inl (0, (N, .inl (fun q => if q < N then f q else g q))))) from rfl, xw_set G n h j _ hj] at hP1
  exact kk H1 locs1 lr hP1 (va_P_size (i := j) hP1 (by omega)) hS1 hL
theorem XV.objInit (C : XCx G l own cc nL p s m args meth c) {ix i : Nat} (hd : decode cc pc = .ok (.invokespecial ix, 3)) (hw : Cond.methodLink own ix Lib.objectInit ∈ WALL) (hf : 1 ≤ R.frames) (hl : (st.map fun v => v.category).sum + 12 ≤ R.locals) (kk : XV G nL p l e R s m args below meth c Q (pc + 3) ls st n h k ks) : XV G nL p l e R s m args below meth c Q pc ls (.ref i :: st) n h k ks := by
  obtain ⟨hx, hb, hml, hown, hts, hlocks, hE, -⟩ := C
  intro H locs lr hP hz hS hL
  refine W.objInit (a := xa G i) (rest := st.map (xv G)) hx hb hown (hts _ hw) (hts _ wI_JO_init) (hts _ wB_objL) rfl (hL.1.trans hml.symm) rfl hd hf (by rw [xsum]; show 2 * 0 + _ + 12 ≤ _; omega) ?_
  exact kk H locs lr hP hz hS hL
theorem XV.new (C : XCx G l own cc nL p s m args meth c) {ix ci : Nat} {q : vw_C} {fs : List Value} (hd : decode cc pc = .ok (.new ix, 3)) (hc : XCl[ci]? = some q) (hw : Cond.classLink own ix q.1 ∈ WALL) (hw2 : Cond.instantiable q.1 q.2.2 ∈ WALL) (hw3 : Cond.initialized q.1 ∈ WALL) (hfs : ∀ (j : Nat) (ty : FieldType), j < q.2.2 → parseFieldDescriptor (q.2.1 j).2.2.1 = some ty → defaultValue ty = vp_V (fs.map (xv G)) j) (hex : s.heap.size + k = xbase G + n) (hcells : k + 1 ≤ R.cells) (hslots : ks + q.2.2 ≤ R.slots) (kk : XV G nL p l e R s m args below meth c Q (pc + 3) ls (.ref (n + 4) :: st) (n + 1) (xup h (n + 4) (.inr (ci, fs))) (k + 1) (ks + q.2.2)) : XV G nL p l e R s m args below meth c Q pc ls st n h k ks := by
  obtain ⟨hx, hb, hml, hown, hts, hlocks, hE, -⟩ := C
  intro H locs lr hP hz hS hL
  refine W.sized (fun hsz => ?_)
  have hsize : H.size = xbase G + n := by omega
  obtain ⟨C0, T, N⟩ := q
  obtain ⟨ty0, hty0⟩ := XCl_ty hc
  have hKn := hE.1.1 ci _ hc
  refine W.newcK hx hb hown (hts _ hw) (hts _ hw2) (hts _ hw3) rfl hd hcells hslots hKn.2.1 rfl fun H1 kC hkC e1 z1 o1 => ?_
  have hk : ∀ (k : Nat) (x : Nat × va_E), (xw G n h)[k]? = some x → H1[x.1]? = H[x.1]? := fun k x hx => o1 x.1 ((hP k x hx).lt)
  have hS1 : va_S (xA G) s.heap H1 locs := ⟨Nat.le_trans hS.1 (by omega), fun x h1 h2 => (o1 x (Nat.lt_of_lt_of_le h1 hS.1)).trans (hS.2.1 x h1 h2), hS.2.2⟩
  have hP1 : va_P (xD G) XCl (xw G n h ++ [(xbase G + n, xe G (.inr (ci, fs)))]) H1 := by
    refine (hP.kept hk).app (fun k x hx => ?_)
    have hz : k < 1 := (List.getElem?_eq_some_iff.mp hx).1
    rw [show k = 0 by omega] at hx
    cases hx
    rw [hsize] at e1
    exact ⟨_, hc, (u_born ty0 hts (XCl_in hc) hKn hkC e1 hty0).to (fun j hj => hfs j _ hj (hty0 j hj))⟩
  rw [xw_push] at hP1
  have hr : Value.ref H.size = xv G (.ref (n + 4)) := by
    show Value.ref H.size = Value.ref (xa G (n + 4))
    rw [xa_in G (by omega), hsize]
    rfl
  have K := kk H1 locs lr hP1 (by omega) hS1 hL
  rw [List.map_cons, ← hr] at K
  exact K
theorem XV.newI (C : XCx G l own cc nL p s m args meth c) {N : Nat} {x : Int32} (hd : decode cc pc = .ok (.newarray .int, 2)) (hw : Cond.arrayClass .int ∈ WALL) (hx0 : x = nI N) (hN : N < 100000) (hex : s.heap.size + k = xbase G + n) (hcells : k + 1 ≤ R.cells) (hslots : ks + N ≤ R.slots) (kk : XV G nL p l e R s m args below meth c Q (pc + 2) ls (.ref (n + 4) :: st) (n + 1) (xup h (n + 4) (.inl (0, (N, .inl (fun _ => 0))))) (k + 1) (ks + N)) : XV G nL p l e R s m args below meth c Q pc ls (.int x :: st) n h k ks := by
  obtain ⟨hx, hb, hml, hown, hts, hlocks, hE, -⟩ := C
  intro H locs lr hP hz hS hL
  subst hx0
  refine W.sized (fun hsz => ?_)
  have hsize : H.size = xbase G + n := by omega
  refine va_newaK (atype := .int) (N := N) hx hb (hts _ hw) rfl hd rfl (nI_pos (by omega)) (nI_clamp (by omega)) (by show N * 4 ≤ _; omega) hcells hslots rfl fun H1 cA e1 z1 o1 hAr hNm => ?_
  have hcA : cA = xcA G 0 := by
    have h1 := (hE.1.2 0 (xcA G 0, .int) rfl).2
    have h2 : s.vm.findClass ("[" ++ (FieldType.int).toString) = some (xcA G 0) := h1
    have h3 : s.vm.findClass ("[" ++ (FieldType.int).toString) = some cA := hNm
    exact Option.some.inj (h3.symm.trans h2)
  subst hcA
  have hk : ∀ (k : Nat) (x : Nat × va_E), (xw G n h)[k]? = some x → H1[x.1]? = H[x.1]? := fun k x hx => o1 x.1 ((hP k x hx).lt)
  have hS1 : va_S (xA G) s.heap H1 locs := ⟨Nat.le_trans hS.1 (by omega), fun x h1 h2 => (o1 x (Nat.lt_of_lt_of_le h1 hS.1)).trans (hS.2.1 x h1 h2), hS.2.2⟩
  have hP1 : va_P (xD G) XCl (xw G n h ++ [(xbase G + n, xe G (.inl (0, (N, .inl (fun _ => 0)))))]) H1 := by
    refine (hP.kept hk).app (fun k x hx => ?_)
    have hz : k < 1 := (List.getElem?_eq_some_iff.mp hx).1
    rw [show k = 0 by omega] at hx
    cases hx
    rw [hsize] at e1
    exact e1
  rw [xw_push] at hP1
  have hr : Value.ref H.size = xv G (.ref (n + 4)) := by
    show Value.ref H.size = Value.ref (xa G (n + 4))
    rw [xa_in G (by omega), hsize]
    rfl
  have K := kk H1 locs lr hP1 (by omega) hS1 hL
  rw [List.map_cons, ← hr] at K
  exact K
theorem XV.newA (C : XCx G l own cc nL p s m args meth c) {ix N t : Nat} {Cn : String} {x : Int32} (hd : decode cc pc = .ok (.anewarray ix, 3)) (hw : Cond.classLink own ix Cn ∈ WALL) (hAO : va_AO Cn s) (ht : (xtys G)[t]? = some (xcA G t, .object Cn)) (hx0 : x = nI N) (hN : N < 100000) (hex : s.heap.size + k = xbase G + n) (hcells : k + 1 ≤ R.cells) (hslots : ks + N ≤ R.slots) (kk : XV G nL p l e R s m args below meth c Q (pc + 3) ls (.ref (n + 4) :: st) (n + 1) (xup h (n + 4) (.inl (t, (N, .inr (.inr (fun _ => none)))))) (k + 1) (ks + N)) : XV G nL p l e R s m args below meth c Q pc ls (.int x :: st) n h k ks := by
  obtain ⟨hx, hb, hml, hown, hts, hlocks, hE, -⟩ := C
  intro H locs lr hP hz hS hL
  subst hx0
  refine W.sized (fun hsz => ?_)
  have hsize : H.size = xbase G + n := by omega
  have hcl : (nI N).toNatClampNeg = N := nI_clamp (by omega)
  refine W.anew hx hb hown (hts _ hw) (va_AO.use hAO) rfl hd rfl (nI_pos (by omega)) (by rw [hcl]; omega) hcells (by rw [hcl]; exact hslots) fun cA kA comp f1 f2 f3 f4 => ?_
  rw [hcl]
  generalize hH1 : H.push ({ cls := cA, slots := Array.replicate N .null, vm := .none } : Cell) = H1
  have z1 : H1.size = H.size + 1 := by rw [← hH1, Array.size_push]
  have e1 : H1[H.size]? = some (arrV cA N (fun _ => .null)) := by rw [← hH1, Array.getElem?_push_size, ← arrV_new]
  have o1 : ∀ q : Nat, q < H.size → H1[q]? = H[q]? := fun q hq => by rw [← hH1, Array.getElem?_push, if_neg (Nat.ne_of_lt hq)]
  have hcA : cA = xcA G t := by
    obtain ⟨kA', comp', -, -, -, g4⟩ := (hE.1.2 t (xcA G t, .object Cn) ht).2
    exact Option.some.inj (f1.symm.trans g4)
  subst hcA
  have hk : ∀ (k : Nat) (x : Nat × va_E), (xw G n h)[k]? = some x → H1[x.1]? = H[x.1]? := fun k x hx => o1 x.1 ((hP k x hx).lt)
  have hS1 : va_S (xA G) s.heap H1 locs := ⟨Nat.le_trans hS.1 (by omega), fun x h1 h2 => (o1 x (Nat.lt_of_lt_of_le h1 hS.1)).trans (hS.2.1 x h1 h2), hS.2.2⟩
  have hP1 : va_P (xD G) XCl (xw G n h ++ [(xbase G + n, xe G (.inl (t, (N, .inr (.inr (fun _ => none))))))]) H1 := by
    refine (hP.kept hk).app (fun k x hx => ?_)
    have hz : k < 1 := (List.getElem?_eq_some_iff.mp hx).1
    rw [show k = 0 by omega] at hx
    cases hx
    rw [hsize] at e1
    exact e1
  rw [xw_push] at hP1
  have hr : Value.ref H.size = xv G (.ref (n + 4)) := by
    show Value.ref H.size = Value.ref (xa G (n + 4))
    rw [xa_in G (by omega), hsize]
    rfl
  have K := kk H1 locs lr hP1 (by omega) hS1 hL
  rw [List.map_cons, ← hr] at K
  exact K
end XBR
end
section
/-! contracts, calls, returns, throws -/
def XQ (G : XG) (post : Option Value → Nat → XH → Prop) : State → Outcome → State → Prop := fun st o t => ∃ (r : Option Value) (n' : Nat) (h' : XH), o = .returned (r.map (xv G)) ∧ post r n' h' ∧ va_P (xD G) XCl (xw G n' h') t.heap ∧ xbase G + n' ≤ t.heap.size ∧ va_F (xA G) st t
def XX (G : XG) (px : String → Nat → XH → Prop) : String → State → State → Prop := fun E st t => ∃ (n' : Nat) (h' : XH), px E n' h' ∧ va_P (xD G) XCl (xw G n' h') t.heap ∧ xbase G + n' ≤ t.heap.size ∧ va_F (xA G) st t
def XPre (G : XG) (md : Prop) (av : List Value) (n : Nat) (h : XH) : Array Value → State → Prop := va_Pc (av.map (xv G)) (fun U => va_P (xD G) XCl (xw G n h) U.heap ∧ xbase G + n ≤ U.heap.size ∧ (md → U.heap.size = xbase G + n) ∧ xEnv G U)
def XCt (l : Launch) (G : XG) (md : Prop) (w : Cond) (y : MethodName) (fr lo mc ms : Nat) (av : List Value) (n : Nat) (h : XH) (post : Option Value → Nat → XH → Prop) (px : String → Nat → XH → Prop) : Prop :=
  vx_Met l y (w :: WALL) ({ frames := fr, cells := mc, slots := ms, locals := lo } : Room) (XPre G md av n h) (fun _ => XQ G post) (XX G px) mc ms (xA G)
def XT (G : XG) (nL : Nat) (p : Program) (l : Launch) (e : Env) (R : Room) (s : State) (m : MethodId) (args : Array Value) (below : List Frame) (meth : Method) (c : Code) (Q : State → Prop) (pc : Nat) (ls : List (Option Value)) (E : String) (n : Nat) (h : XH) (k ks : Nat) : Prop :=
  ∀ (H : Heap) (locs : List Loc) (lr : Array Slot) (q : Addr) (ce : Cell) (rest : List Value), va_P (xD G) XCl (xw G n h) H → xbase G + n ≤ H.size → va_S (xA G) s.heap H locs → xHas G lr nL ls → H[q]? = some ce → ce.vm = .none → s.vm.findClass E = some ce.cls → vx_W p l e R s m args below meth c H locs k ks Q (F0 m pc lr rest) q
theorem xnw_warm : ∀ w ∈ XNW, ∀ {s U : State}, s.WarmedH U.vm → va_Nw w s → va_Nw w U := by
  intro w hw s U hW h
  simp only [XNW, List.mem_cons, List.not_mem_nil, or_false] at hw
  rcases hw with rfl | rfl | rfl | rfl | rfl | rfl | rfl | rfl | rfl | rfl | rfl | rfl | rfl | rfl | rfl | rfl | rfl | rfl | rfl | rfl | rfl | rfl | rfl | rfl | rfl | rfl | rfl | rfl <;> first | exact va_Nw.warmD hW h | exact va_Nw.warmC hW h | exact va_Nw.warmF hW h | exact va_Nw.warmM hW h
theorem xEnv.moved {G : XG} {s U : State} {H : Heap} {locs : List Loc} (hW : s.WarmedH U.vm) (hS : va_S (xA G) s.heap H locs) (hU : U.heap = H) (h : xEnv G s) : xEnv G U := by
  obtain ⟨h1, h2, h3, h4, h5, h6, h7, h8, h9⟩ := h
  subst hU
  have hq : ∀ a : Nat, a < s.heap.size → ¬ xA G a → U.heap[a]? = s.heap[a]? := fun a ha hA => hS.2.1 a ha hA
  refine ⟨va_K.moved hW.alike h1, fun i hi => ⟨(h2 i hi).1, Nat.lt_of_lt_of_le (h2 i hi).2 hS.1⟩, ?_, ?_, ?_, ?_, ?_, ?_, ?_⟩
  · refine va_X.moved hW.alike (h3.kept (hq _ (h2 0 (by omega)).2 ?_))
    have := (h2 0 (by omega)).1
    intro q
    have q' : xbase G ≤ xext G 0 := q
    omega
  · exact fun i hi hi4 => ⟨va_Z.moved hW.alike ((h4 i hi hi4).1.kept hq), va_T.moved hW.alike ((h4 i hi hi4).2.kept hq)⟩
  · exact ⟨vx_Zq.moved hW.alike (h5.1.kept hq), vx_Zq.moved hW.alike (h5.2.kept hq)⟩
  · intro w hw
    exact xnw_warm w hw hW (h6 w hw)
  · intro q hq
    obtain ⟨sa, h⟩ := h7 q hq
    exact ⟨sa, vk_R.warm hW h⟩
  · exact ⟨va_Nc.moved hW.alike h8.1, va_Nc.moved hW.alike h8.2.1, va_Nc.moved hW.alike h8.2.2⟩
  · exact ⟨va_AO.moved hW.alike h9.1, va_AO.moved hW.alike h9.2⟩
theorem XPre.blind (G : XG) (md : Prop) (av : List Value) (n : Nat) (h : XH) : FrameBlind (XPre G md av n h) := by
  intro a U g mk hp
  obtain ⟨h1, h2, h3, h4, h5⟩ := hp
  exact ⟨h1, h2, h3, h4, xEnv.moved (s := U) (U := U.calling g mk a) (H := U.heap) (locs := []) (State.WarmedH.refl U) va_S.rf rfl h5⟩
theorem WALL_good : GoodIn WALL WALL := fun w hw => ⟨hw, good_of_word (W_good w hw).2⟩
theorem WALL_good1 {w : Cond} (h : w ∈ WALL) : GoodIn WALL (w :: WALL) := fun x hx => by
  rcases List.mem_cons.mp hx with rfl | hx
  · exact WALL_good _ h
  · exact WALL_good _ hx
section XCALL
variable {G : XG} {nL : Nat} {p : Program} {l : Launch} {e : Env} {R : Room} {s : State} {m : MethodId} {args : Array Value} {below : List Frame} {meth : Method} {c : Code} {Q : State → Prop} {own : String} {cc : ByteArray}
variable {pc : Nat} {ls : List (Option Value)} {st : List Value} {n : Nat} {h : XH} {k ks : Nat} {md : Prop}
variable {y : MethodName} {bytes : ByteArray} {maxL fr lo mc ms ix : Nat} {ret : Option FieldType} {av : List Value} {post : Option Value → Nat → XH → Prop} {px : String → Nat → XH → Prop}
theorem xpre_of (C : XCx G l own cc nL p s m args meth c) {H : Heap} {locs : List Loc} {U : State} (hP : va_P (xD G) XCl (xw G n h) H) (hz : xbase G + n ≤ H.size) (hm : md → H.size = xbase G + n) (hS : va_S (xA G) s.heap H locs) (hU : U.heap = H) (hW : s.WarmedH U.vm) (av : List Value) : XPre G md av n h (av.map (xv G)).toArray U :=
  ⟨rfl, by rw [hU]; exact hP, by rw [hU]; exact hz, fun q => by rw [hU]; exact hm q, xEnv.moved hW hS hU C.2.2.2.2.2.2.1⟩
theorem xA_ge (C : XCx G l own cc nL p s m args meth c) : ∀ q, s.heap.size ≤ q → xA G q := fun q hq => Nat.le_trans C.2.2.2.2.2.2.2.1 hq
/-- what a run of a callee gives -/
theorem XV.ofRun (C : XCx G l own cc nL p s m args meth c) {st0 rest : List Value}
    (hr : ∀ (H : Heap) (locs : List Loc) (lr : Array Slot), va_P (xD G) XCl (xw G n h) H → xbase G + n ≤ H.size → H.size ≤ s.heap.size + k → va_S (xA G) s.heap H locs → xHas G lr nL ls → vx_Run p l e R s m args below meth c H locs k ks mc ms (F0 m pc lr (st0.map (xv G))) (rest.map (xv G)) (XQ G post) (XX G px) (xA G))
    (kk : ∀ (r : Option Value) (n' : Nat) (h' : XH), post r n' h' → XV G nL p l e R s m args below meth c Q (pc + 3) ls (r.toList ++ rest) n' h' (k + mc) (ks + ms))
    (kx : ∀ (E : String) (n' : Nat) (h' : XH), px E n' h' → XT G nL p l e R s m args below meth c Q pc ls E n' h' (k + mc) (ks + ms)) : XV G nL p l e R s m args below meth c Q pc ls st0 n h k ks := by
  intro H locs lr hP hz hS hL
  refine W.sized (fun hsz => ?_)
  intro T hT X
  rcases hr H locs lr hP hz hsz hS hL T hT X with ⟨v, st₀, t, T', L, h0, X', hLf, e1, e2, ⟨r, n', h', hv, hp, hP', hz', hF⟩, st⟩ | ⟨q, st₀, t, T', L, E, ce, h0, X', hLf, e1, e2, ⟨n', h', hp, hP', hz', hF⟩, hce, hcv, hcl, st⟩
  · cases hv
    have hS' : va_S (xA G) s.heap T'.heap (locs ++ L) := by
      rw [va_F, h0] at hF
      refine ⟨Nat.le_trans hS.1 (by rw [e1]; exact hF.1), fun q h1 h2 => by rw [e1, hF.2 q (Nat.lt_of_lt_of_le h1 hS.1) h2]; exact hS.2.1 q h1 h2, fun q hq => ?_⟩
      rcases List.mem_append.mp hq with h9 | h9
      · exact hS.2.2 q h9
      · exact hLf q h9
    obtain ⟨t2, a1, b1⟩ := kk r n' h' hp T'.heap (locs ++ L) lr (by rw [e1]; exact hP') (by rw [e1]; exact hz') hS' hL T' rfl X'
    refine ⟨t2, st t2 ?_, b1⟩
    have : (r.toList ++ rest).map (xv G) = (r.map (xv G)).toList ++ rest.map (xv G) := by cases r <;> rfl
    rw [this] at a1
    exact a1
  · have hS' : va_S (xA G) s.heap T'.heap (locs ++ L) := by
      rw [va_F, h0] at hF
      refine ⟨Nat.le_trans hS.1 (by rw [e1]; exact hF.1), fun q h1 h2 => by rw [e1, hF.2 q (Nat.lt_of_lt_of_le h1 hS.1) h2]; exact hS.2.1 q h1 h2, fun q hq => ?_⟩
      rcases List.mem_append.mp hq with h9 | h9
      · exact hS.2.2 q h9
      · exact hLf q h9
    obtain ⟨t2, a1, b1⟩ := kx E n' h' hp T'.heap (locs ++ L) lr q ce (rest.map (xv G)) (by rw [e1]; exact hP') (by rw [e1]; exact hz') hS' hL (by rw [e1]; exact hce) hcv hcl T' rfl X'
    exact ⟨t2, st.trans a1, b1⟩
/-- invokevirtual of a method of the class that is said -/
theorem XV.callV (C : XCx G l own cc nL p s m args meth c) {b ci : Nat} {q : vw_C} {fs As rest : List Value} (hM : XCt l G md (Cond.code y bytes maxL ret) y fr lo mc ms (.ref b :: As) n h post px) (hd : decode cc pc = .ok (.invokevirtual ix, 3)) (hst : st = As.reverse ++ .ref b :: rest) (hb : 4 ≤ b) (hbn : b < n + 4) (hc : XCl[ci]? = some q) (hh : h b = .inr (ci, fs)) (hcl : y.cls = q.1)
    (w1 : Cond.methodLink own ix y ∈ WALL) (w2 : Cond.instanceMethod y ∈ WALL) (w3 : Cond.selects y.cls y y ∈ WALL) (w4 : Cond.initialized y.cls ∈ WALL) (w5 : Cond.code y bytes maxL ret ∈ WALL)
    (hy : (y.cls ≠ "java/lang/invoke/MethodHandle" ∧ y.cls ≠ "java/lang/invoke/VarHandle") ∧ (parseMethodDescriptor y.desc).map (fun d => d.parameters.length) = some As.length) (hmd : md → s.heap.size + k = xbase G + n) (hR : fr + 1 ≤ R.frames ∧ 8 + (maxL + 11) + lo ≤ R.locals) (hf : k + mc ≤ R.cells ∧ ks + ms ≤ R.slots) (hw : (rest.map fun v => v.category).sum ≤ 8)
    (kk : ∀ (r : Option Value) (n' : Nat) (h' : XH), post r n' h' → XV G nL p l e R s m args below meth c Q (pc + 3) ls (r.toList ++ rest) n' h' (k + mc) (ks + ms))
    (kx : ∀ (E : String) (n' : Nat) (h' : XH), px E n' h' → XT G nL p l e R s m args below meth c Q pc ls E n' h' (k + mc) (ks + ms)) : XV G nL p l e R s m args below meth c Q pc ls st n h k ks := by
  subst hst
  refine XV.ofRun C (fun H locs lr hP hz hsz hS hL => ?_) kk kx
  obtain ⟨hx, hb0, hml, hown, hts, hlocks, hE, hbs, hfl⟩ := id C
  have hrec := va_recv (q0 := b - 4) hE.1 hP hc (by rw [xw_at G hb hbn, hh]; rfl)
  refine vx_runV (nL := nL) (Ts := WALL) (own := own) (C := y.cls) (bytes := bytes) (maxL := maxL) (ret := ret) (b := xa G b) (As := As.map (xv G)) (n := As.length) ⟨hx, hb0, hml, hown, hts⟩ hM (cwV As.length hts (fun w hw => ?_) rfl rfl rfl ⟨rfl, hy.1.1, hy.1.2, hy.2⟩ hR) ⟨XPre.blind G md _ n h, by rw [hcl]; exact hrec, fun U hU hW => xpre_of C hP hz (fun q => by have := hmd q; omega) hS hU hW (.ref b :: As)⟩ rfl (by rw [List.length_map]) hL.1 (by show ((As.reverse ++ .ref b :: rest).map (xv G)) = _; rw [List.map_append, List.map_cons, List.map_reverse]; rfl) (lv_room (by rw [xsum]; exact hw)) hd hf
  unfold wsV at hw
  rcases List.mem_append.mp hw with h9 | h9
  · simp only [List.mem_cons, List.not_mem_nil, or_false] at h9
    rcases h9 with rfl | rfl | rfl | rfl
    · exact WALL_good _ w1
    · exact WALL_good _ w2
    · exact WALL_good _ w3
    · exact WALL_good _ w4
  · exact WALL_good1 w5 _ h9
/-- invokestatic -/
theorem XV.callS (C : XCx G l own cc nL p s m args meth c) {As rest : List Value} (hM : XCt l G md (Cond.code y bytes maxL ret) y fr lo mc ms As n h post px) (hd : decode cc pc = .ok (.invokestatic ix, 3)) (hst : st = As.reverse ++ rest)
    (w1 : Cond.methodLink own ix y ∈ WALL) (w2 : Cond.static y ∈ WALL) (w4 : Cond.initialized y.cls ∈ WALL) (w5 : Cond.code y bytes maxL ret ∈ WALL)
    (hy : (y.cls ≠ "java/lang/invoke/MethodHandle" ∧ y.cls ≠ "java/lang/invoke/VarHandle") ∧ (parseMethodDescriptor y.desc).map (fun d => d.parameters.length) = some As.length) (hmd : md → s.heap.size + k = xbase G + n) (hR : fr + 1 ≤ R.frames ∧ 8 + (maxL + 11) + lo ≤ R.locals) (hf : k + mc ≤ R.cells ∧ ks + ms ≤ R.slots) (hw : (rest.map fun v => v.category).sum ≤ 8)
    (kk : ∀ (r : Option Value) (n' : Nat) (h' : XH), post r n' h' → XV G nL p l e R s m args below meth c Q (pc + 3) ls (r.toList ++ rest) n' h' (k + mc) (ks + ms))
    (kx : ∀ (E : String) (n' : Nat) (h' : XH), px E n' h' → XT G nL p l e R s m args below meth c Q pc ls E n' h' (k + mc) (ks + ms)) : XV G nL p l e R s m args below meth c Q pc ls st n h k ks := by
  subst hst
  refine XV.ofRun C (fun H locs lr hP hz hsz hS hL => ?_) kk kx
  obtain ⟨hx, hb0, hml, hown, hts, hlocks, hE, hbs, hfl⟩ := id C
  refine vx_runS (nL := nL) (Ts := WALL) (own := own) (bytes := bytes) (maxL := maxL) (ret := ret) (As := As.map (xv G)) (n := As.length) ⟨hx, hb0, hml, hown, hts⟩ hM (va_cwS As.length hts (fun w hw => ?_) rfl rfl rfl ⟨hy.1.1, hy.1.2, hy.2⟩ hR) ⟨XPre.blind G md _ n h, fun U hU hW => xpre_of C hP hz (fun q => by have := hmd q; omega) hS hU hW As⟩ rfl (by rw [List.length_map]) hL.1 (by show ((As.reverse ++ rest).map (xv G)) = _; rw [List.map_append, List.map_reverse]) (lv_room (by rw [xsum]; exact hw)) hd hf
  unfold va_wsS at hw
  rcases List.mem_append.mp hw with h9 | h9
  · simp only [List.mem_cons, List.not_mem_nil, or_false] at h9
    rcases h9 with rfl | rfl | rfl
    · exact WALL_good _ w1
    · exact WALL_good _ w2
    · exact WALL_good _ w4
  · exact WALL_good1 w5 _ h9
/-- invokespecial of a constructor -/
theorem XV.callI (C : XCx G l own cc nL p s m args meth c) {b : Nat} {As rest : List Value} (hM : XCt l G md (Cond.code y bytes maxL none) y fr lo mc ms (.ref b :: As) n h post px) (hd : decode cc pc = .ok (.invokespecial ix, 3)) (hst : st = As.reverse ++ .ref b :: rest)
    (w1 : Cond.methodLink own ix y ∈ WALL) (w2 : Cond.instanceMethod y ∈ WALL) (w4 : Cond.initialized y.cls ∈ WALL) (w5 : Cond.code y bytes maxL none ∈ WALL) (hinit : y.name = "<init>")
    (hy : (y.cls ≠ "java/lang/invoke/MethodHandle" ∧ y.cls ≠ "java/lang/invoke/VarHandle") ∧ (parseMethodDescriptor y.desc).map (fun d => d.parameters.length) = some As.length) (hmd : md → s.heap.size + k = xbase G + n) (hR : fr + 1 ≤ R.frames ∧ 8 + (maxL + 11) + lo ≤ R.locals) (hf : k + mc ≤ R.cells ∧ ks + ms ≤ R.slots) (hw : (rest.map fun v => v.category).sum ≤ 8)
    (kk : ∀ (r : Option Value) (n' : Nat) (h' : XH), post r n' h' → XV G nL p l e R s m args below meth c Q (pc + 3) ls (r.toList ++ rest) n' h' (k + mc) (ks + ms))
    (kx : ∀ (E : String) (n' : Nat) (h' : XH), px E n' h' → XT G nL p l e R s m args below meth c Q pc ls E n' h' (k + mc) (ks + ms)) : XV G nL p l e R s m args below meth c Q pc ls st n h k ks := by
  subst hst
  refine XV.ofRun C (fun H locs lr hP hz hsz hS hL => ?_) kk kx
  obtain ⟨hx, hb0, hml, hown, hts, hlocks, hE, hbs, hfl⟩ := id C
  exact vx_runI (nL := nL) (Ts := WALL) (own := own) (bytes := bytes) (maxL := maxL) (b := xa G b) (As := As.map (xv G)) (n := As.length) ⟨hx, hb0, hml, hown, hts⟩ hM (cwI As.length hts (WALL_good1 w5) rfl rfl rfl (hts _ w4) (hts _ w1) (hts _ w2) hinit ⟨hy.1.1, hy.1.2, hy.2⟩ hR) ⟨XPre.blind G md _ n h, fun U hU hW => xpre_of C hP hz (fun q => by have := hmd q; omega) hS hU hW (.ref b :: As)⟩ rfl (by rw [List.length_map]) hL.1 (by show ((As.reverse ++ .ref b :: rest).map (xv G)) = _; rw [List.map_append, List.map_cons, List.map_reverse]; rfl) (lv_room (by rw [xsum]; exact hw)) hd hf
abbrev XEnd (G : XG) (below : List Frame) (post : Option Value → Nat → XH → Prop) (px : String → Nat → XH → Prop) (args : Array Value) (s : State) (mc ms : Nat) : State → Prop := vx_MQ below (fun _ => XQ G post) (XX G px) args s mc ms (xA G)
theorem XV.iret (C : XCx G l own cc nL p s m args meth c) {x : Int32} {ty : FieldType} (hd : decode cc pc = .ok (.ireturn, 1)) (hr : meth.sig.returnType = some ty) (hn : narrow ty (.int x) = .int x) (h1 : k ≤ mc) (h2 : ks ≤ ms) (hp : post (some (.int x)) n h) : XV G nL p l e R s m args below meth c (XEnd G below post px args s mc ms) pc ls [.int x] n h k ks := by
  obtain ⟨hx, hb, hml, hown, hts, hlocks, hE, -⟩ := C
  intro H locs lr hP hz hS hL
  refine W.widen h1 h2 (vx_ret ?_)
  exact W.zret hx hb hr hn (fun t ht hW => ⟨some (.int x), n, h, rfl, hp, by rw [ht]; exact hP, by rw [ht]; exact hz, hS.F ht⟩) hS.2.2 hd hlocks
theorem XV.lret (C : XCx G l own cc nL p s m args meth c) {x : Int64} (hd : decode cc pc = .ok (.lreturn, 1)) (hr : meth.sig.returnType = some .long) (h1 : k ≤ mc) (h2 : ks ≤ ms) (hp : post (some (.long x)) n h) : XV G nL p l e R s m args below meth c (XEnd G below post px args s mc ms) pc ls [.long x] n h k ks := by
  obtain ⟨hx, hb, hml, hown, hts, hlocks, hE, -⟩ := C
  intro H locs lr hP hz hS hL
  refine W.widen h1 h2 (vx_ret ?_)
  exact W.lret hx hb hr (fun t ht hW => ⟨some (.long x), n, h, rfl, hp, by rw [ht]; exact hP, by rw [ht]; exact hz, hS.F ht⟩) hS.2.2 hd hlocks
theorem XV.dret (C : XCx G l own cc nL p s m args meth c) {x : UInt64} (hd : decode cc pc = .ok (.dreturn, 1)) (hr : meth.sig.returnType = some .double) (h1 : k ≤ mc) (h2 : ks ≤ ms) (hp : post (some (.double x)) n h) : XV G nL p l e R s m args below meth c (XEnd G below post px args s mc ms) pc ls [.double x] n h k ks := by
  obtain ⟨hx, hb, hml, hown, hts, hlocks, hE, -⟩ := C
  intro H locs lr hP hz hS hL
  refine W.widen h1 h2 (vx_ret ?_)
  exact W.dret hx hb hr (fun t ht hW => ⟨some (.double x), n, h, rfl, hp, by rw [ht]; exact hP, by rw [ht]; exact hz, hS.F ht⟩) hS.2.2 hd hlocks
theorem XV.vret (C : XCx G l own cc nL p s m args meth c) (hd : decode cc pc = .ok (.return_, 1)) (hr : meth.sig.returnType = none) (h1 : k ≤ mc) (h2 : ks ≤ ms) (hp : post none n h) : XV G nL p l e R s m args below meth c (XEnd G below post px args s mc ms) pc ls [] n h k ks := by
  obtain ⟨hx, hb, hml, hown, hts, hlocks, hE, -⟩ := C
  intro H locs lr hP hz hS hL
  refine W.widen h1 h2 (vx_ret ?_)
  exact W.vret hx hb hr (fun t ht hW => ⟨none, n, h, rfl, hp, by rw [ht]; exact hP, by rw [ht]; exact hz, hS.F ht⟩) hS.2.2 hd hlocks
theorem XV.aret (C : XCx G l own cc nL p s m args meth c) {o : Option Nat} {nm : String} (hd : decode cc pc = .ok (.areturn, 1)) (hr : meth.sig.returnType = some (.object nm)) (h1 : k ≤ mc) (h2 : ks ≤ ms) (hp : post (some (va_rf o)) n h) : XV G nL p l e R s m args below meth c (XEnd G below post px args s mc ms) pc ls [va_rf o] n h k ks := by
  obtain ⟨hx, hb, hml, hown, hts, hlocks, hE, -⟩ := C
  intro H locs lr hP hz hS hL
  refine W.widen h1 h2 (vx_ret ?_)
  refine W.aret hx hb hr (Or.inl ⟨nm, rfl⟩) (v := xv G (va_rf o)) ?_ (fun t ht hW => ⟨some (va_rf o), n, h, rfl, hp, by rw [ht]; exact hP, by rw [ht]; exact hz, hS.F ht⟩) hS.2.2 hd hlocks
  cases o with
  | none => exact Or.inl rfl
  | some i => exact Or.inr ⟨_, rfl⟩
/-- a throw that goes on to the caller, where the method has no table -/
theorem XT.out (C : XCx G l own cc nL p s m args meth c) (hnt : ∀ x ∈ c.exceptionTable.toList, False) {E : String} (h1 : k ≤ mc) (h2 : ks ≤ ms) (hp : px E n h) : XT G nL p l e R s m args below meth c (XEnd G below post px args s mc ms) pc ls E n h k ks := by
  obtain ⟨hx, hb, hml, hown, hts, hlocks, hE, -⟩ := C
  intro H locs lr q ce rest hP hz hS hL hce hcv hcl
  exact vx_out (fun x hx => (hnt x hx).elim) hlocks hce hcv hcl (fun t ht hW => ⟨n, h, hp, by rw [ht]; exact hP, by rw [ht]; exact hz, hS.F ht⟩) hS.2.2 h1 h2
def xlay : List Value → List (Option Value)
  | [] => []
  | v :: vs => if v.category = 2 then some v :: none :: xlay vs else some v :: xlay vs
theorem xlay_args (G : XG) : ∀ (av : List Value) (i j : Nat) (v : Value), (xlay av)[j]? = some (some v) → (i + j, xv G v) ∈ lv_args i (av.map (xv G))
  | [], i, j, v, h => by simp [xlay] at h
  | w :: vs, i, j, v, h => by
    unfold xlay at h
    rw [List.map_cons]
    unfold lv_args
    rw [xv_cat]
    split at h
    · rename_i hc
      rw [if_pos hc]
      match j, h with
      | 0, h => cases h; exact List.mem_cons_self
      | 1, h => cases h
      | j + 2, h =>
        have h9 : (xlay vs)[j]? = some (some v) := h
        have := xlay_args G vs (i + 2) j v h9
        rw [show i + (j + 2) = i + 2 + j by omega]
        exact List.mem_cons_of_mem _ this
    · rename_i hc
      rw [if_neg hc]
      match j, h with
      | 0, h => cases h; exact List.mem_cons_self
      | j + 1, h =>
        have h9 : (xlay vs)[j]? = some (some v) := h
        have := xlay_args G vs (i + 1) j v h9
        rw [show i + (j + 1) = i + 1 + j by omega]
        exact List.mem_cons_of_mem _ this
theorem xlay_len : ∀ (av : List Value), (lg_sl av).length = (xlay av).length
  | [] => rfl
  | v :: vs => by
    unfold xlay lg_sl
    rw [List.flatMap_cons, List.length_append]
    have := xlay_len vs
    unfold lg_sl at this
    rw [this]
    split
    · simp; omega
    · simp; omega
theorem xlay_map (G : XG) : ∀ (av : List Value), (lg_sl (av.map (xv G))).length = (xlay av).length := fun av => by
  rw [xlay_len]
  induction av with
  | nil => rfl
  | cons v vs ih =>
    rw [List.map_cons]
    unfold xlay
    rw [xv_cat]
    split
    · simp [ih]
    · simp [ih]
/-- the locals at a method's entry -/
def xent (maxL : Nat) (av : List Value) : List (Option Value) := xlay av ++ List.replicate (maxL - (xlay av).length) none
theorem xent_has (G : XG) {maxL : Nat} {av : List Value} (hl : (xlay av).length ≤ maxL) : xHas G ((lg_sl (av.map (xv G)) ++ List.replicate (maxL - (lg_sl (av.map (xv G))).length) Slot.unset).toArray) maxL (xent maxL av) := by
  obtain ⟨h1, h2, h3⟩ := lv_entry (av.map (xv G)) (n := maxL) (by rw [xlay_map]; exact hl)
  refine ⟨h1, h2, by unfold xent; rw [List.length_append, List.length_replicate]; omega, fun i v hi => ?_⟩
  unfold xent at hi
  by_cases h9 : i < (xlay av).length
  · rw [List.getElem?_append_left h9] at hi
    have := xlay_args G av 0 i v hi
    rw [Nat.zero_add] at this
    exact h3 _ this
  · rw [List.getElem?_append_right (by omega), List.getElem?_replicate] at hi
    split at hi <;> cases hi
theorem XCt.of (hfl : l.stackTraces = false) (hy : plainName y.cls = true) (hl : (xlay av).length ≤ maxL)
    (body : ∀ (p : Program) (e : Env) (s : State) (m : MethodId) (args : Array Value) (below : List Frame) (meth : Method) (c : Code), XCx G l y.cls bytes maxL p s m args meth c → meth.sig.returnType = ret → meth.name = y.name → (∀ x ∈ c.exceptionTable.toList, False) → (md → s.heap.size = xbase G + n) →
      XV G maxL p l e ({ frames := fr, cells := mc, slots := ms, locals := lo } : Room) s m args below meth c (XEnd G below post px args s mc ms) 0 (xent maxL av) [] n h 0 0) : XCt l G md (Cond.code y bytes maxL ret) y fr lo mc ms av n h post px := by
  refine vx_ofW (cc := bytes) (maxL := maxL) (ret := ret) hy rfl ?_
  intro p e s m args below meth c s₁ B hml hnt hv
  obtain ⟨hargs, hP, hz, hm, hE⟩ := hv
  subst hargs
  have hx := B.exec
  have hb := B.bytes
  have hr := B.returns
  have hts0 := atoms_spec (ws := Cond.code y bytes maxL ret :: WALL) B.pre
  have hown : s.vm.findClass y.cls = some m.cls := findClass_of_methodNamed B.named
  have hname := (name_of_methodNamed B.named B.method).1
  have C : XCx G l y.cls bytes maxL p s m (av.map (xv G)).toArray meth c := ⟨hx, hb, hml, hown, fun w hw => hts0 w (List.mem_cons_of_mem _ hw), B.notSynchronized, hE, by omega, hfl⟩
  have K := body p e s m _ below meth c C hr hname hnt hm s.heap [] _ hP hz va_S.rf (xent_has G hl)
  rw [lg_entry_eq]
  exact K
end XCALL
end
section
/-! throws, catches, methods with a table -/
def XNM : List String := ["java/lang/RuntimeException", "java/lang/Exception"]
/-- the three exceptions: class, link of the class, link of the constructor -/
def XEX (E : String) (ik ic : Nat) : Prop := (E = XISE ∧ ik = 45 ∧ ic = 49) ∨ (E = XIAE ∧ ik = 135 ∧ ic = 139) ∨ (E = XIOB ∧ ik = 219 ∧ ic = 223)
theorem xat_1 : ∀ w ∈ (vx_atS "RopeThreads" 49 XISE XNM).filter goodWord, w ∈ lw_tbl := by decide +kernel
theorem xat_2 : ∀ w ∈ (vx_atS "RopeThreads" 139 XIAE XNM).filter goodWord, w ∈ lw_tbl := by decide +kernel
theorem xat_3 : ∀ w ∈ (vx_atS "RopeThreads" 223 XIOB XNM).filter goodWord, w ∈ lw_tbl := by decide +kernel
theorem xan_1 : ∀ w ∈ (vx_atS "RopeThreads" 49 XISE XNM).filter (fun w => !goodWord w), w ∈ XNW := by decide +kernel
theorem xan_2 : ∀ w ∈ (vx_atS "RopeThreads" 139 XIAE XNM).filter (fun w => !goodWord w), w ∈ XNW := by decide +kernel
theorem xan_3 : ∀ w ∈ (vx_atS "RopeThreads" 223 XIOB XNM).filter (fun w => !goodWord w), w ∈ XNW := by decide +kernel
theorem xot_1 : ∀ w ∈ Cond.classLink "RopeThreads" 45 XISE :: Cond.initialized XISE :: vx_atS "RopeThreads" 49 XISE XNM, vx_ot w = true := by decide +kernel
theorem xot_2 : ∀ w ∈ Cond.classLink "RopeThreads" 135 XIAE :: Cond.initialized XIAE :: vx_atS "RopeThreads" 139 XIAE XNM, vx_ot w = true := by decide +kernel
theorem xot_3 : ∀ w ∈ Cond.classLink "RopeThreads" 219 XIOB :: Cond.initialized XIOB :: vx_atS "RopeThreads" 223 XIOB XNM, vx_ot w = true := by decide +kernel
theorem xnw_tab : ∀ w ∈ XNW, w.onTables = true := by decide +kernel
theorem xex_all {E : String} {ik ic : Nat} (h : XEX E ik ic) {args : Array Value} {s : State} (hts : ∀ w ∈ WALL, w.before args s = true) (hnw : ∀ w ∈ XNW, va_Nw w s) :
    Bundle.fit E = true ∧ (Cond.classLink "RopeThreads" ik E).before args s = true ∧ (Cond.initialized E).before args s = true ∧ (∀ w ∈ vx_atS "RopeThreads" ic E XNM, w.before args s = true) ∧ (∀ w ∈ Cond.classLink "RopeThreads" ik E :: Cond.initialized E :: vx_atS "RopeThreads" ic E XNM, vx_ot w = true) := by
  have h3 : ∀ w ∈ XNW, w.before args s = true := fun w hw => va_Nw.use (xnw_tab w hw) (hnw w hw)
  rcases h with ⟨rfl, rfl, rfl⟩ | ⟨rfl, rfl, rfl⟩ | ⟨rfl, rfl, rfl⟩
  · exact ⟨by decide +kernel, hts _ wC_C_45, hts _ wN_IllegalStateException, vx_hat (fun w hw => hts w (List.mem_filter.mpr ⟨xat_1 w hw, (List.mem_filter.mp hw).2⟩)) xan_1 h3, xot_1⟩
  · exact ⟨by decide +kernel, hts _ wC_C_135, hts _ wN_IllegalArgumentException, vx_hat (fun w hw => hts w (List.mem_filter.mpr ⟨xat_2 w hw, (List.mem_filter.mp hw).2⟩)) xan_2 h3, xot_2⟩
  · exact ⟨by decide +kernel, hts _ wC_C_219, hts _ wN_IndexOutOfBoundsException, vx_hat (fun w hw => hts w (List.mem_filter.mpr ⟨xat_3 w hw, (List.mem_filter.mp hw).2⟩)) xan_3 h3, xot_3⟩
section XEXC
variable {G : XG} {nL : Nat} {p : Program} {l : Launch} {e : Env} {R : Room} {s : State} {m : MethodId} {args : Array Value} {below : List Frame} {meth : Method} {c : Code} {Q : State → Prop} {own : String} {cc : ByteArray}
variable {pc : Nat} {ls : List (Option Value)} {st : List Value} {n : Nat} {h : XH} {k ks : Nat} {md : Prop}
variable {y : MethodName} {bytes : ByteArray} {maxL fr lo mc ms ix : Nat} {ret : Option FieldType} {av : List Value} {post : Option Value → Nat → XH → Prop} {px : String → Nat → XH → Prop}
/-- 'throw new E("text")' in a method of RopeThreads without a table -/
theorem XV.throwS (C : XCx G l "RopeThreads" cc nL p s m args meth c) (hnt : ∀ x ∈ c.exceptionTable.toList, False) {E text : String} {ik ic is : Nat} (hE : XEX E ik ic) (hs : (is, text) ∈ XSTR)
    (d0 : decode cc pc = .ok (.new ik, 3)) (d3 : decode cc (pc + 3) = .ok (.dup, 1)) (d4 : decode cc (pc + 4) = .ok (.ldc is, 2)) (d6 : decode cc (pc + 6) = .ok (.invokespecial ic, 3)) (d9 : decode cc (pc + 9) = .ok (.athrow, 1))
    (hf : 5 < R.frames) (hl : (st.map fun v => v.category).sum + 82 ≤ R.locals) (hcells : k + 1 ≤ R.cells) (hslots : ks + 6 ≤ R.slots) (h1 : k + 1 ≤ mc) (h2 : ks + 6 ≤ ms) (hp : px E n h) : XV G nL p l e R s m args below meth c (XEnd G below post px args s mc ms) pc ls st n h k ks := by
  obtain ⟨hx, hb, hml, hown, hts, hlocks, hEn, hbs, hfl⟩ := C
  intro H locs lr hP hz hS hL
  obtain ⟨a1, a2, a3, a4, a5⟩ := xex_all hE hts hEn.2.2.2.2.2.1
  obtain ⟨sa, hR⟩ := hEn.2.2.2.2.2.2.1 _ hs
  exact vx_throwS (names := XNM) (A := xA G) hx hb hfl hown a1 (by decide +kernel) a2 a3 hR a4 a5 hEn.2.2.2.2.1.1 hEn.2.2.2.2.1.2 hS (hL.1.trans hml.symm) d0 d3 d4 d6 d9 (fun x hx => (hnt x hx).elim) hf (by rw [xsum]; exact hl) hcells hslots hlocks
    (fun t ht hsz hq => ⟨n, h, hp, hP.kept (fun k' q hk' => hq q.1 ((hP k' q hk').lt)), Nat.le_trans hz hsz, Nat.le_trans hS.1 hsz, fun q h1 h2 => (hq q (Nat.lt_of_lt_of_le h1 hS.1)).trans (hS.2.1 q h1 h2)⟩) hS.2.2 h1 h2
def xset0 (ls : List (Option Value)) (i : Nat) : List (Option Value) := (xclr ls i).set i none
theorem xHas.st0 {lr' : Array Slot} {i : Nat} {v : Value} (hl : ls.length = nL) (h : lv_has lr' nL ((i, v) :: (xas G ls).filter (fun q => !(q.1 == i) && !(q.1 + 1 == i && q.2.category == 2)))) : xHas G lr' nL (xset0 ls i) := by
  refine ⟨h.1, h.2.1, by unfold xset0; rw [List.length_set, xclr_len]; exact hl, fun j w hj => ?_⟩
  unfold xset0 at hj
  by_cases hji : i = j
  · subst hji
    rw [List.getElem?_set] at hj
    split at hj
    · split at hj <;> cases hj
    · rename_i q; exact absurd rfl q
  · rw [List.getElem?_set_ne hji] at hj
    obtain ⟨h1, h2⟩ := xclr_get hj (Ne.symm hji)
    refine h.2.2 (j, xv G w) (List.mem_cons_of_mem _ (List.mem_filter.mpr ⟨xas_mem h1, ?_⟩))
    simp only [Bool.and_eq_true, Bool.not_eq_true', beq_eq_false_iff_ne, Bool.and_eq_false_iff, xv_cat]
    refine ⟨Ne.symm hji, ?_⟩
    by_cases h3 : j + 1 = i
    · exact Or.inr fun q => h2 ⟨h3, q⟩
    · exact Or.inl h3
/-- E is thrown and not a nm: the rows that a throw passes -/
def XPass (own E : String) (z : Nat × Nat × Nat × Nat) : Prop := z.2.2.2 ≠ 0 ∧ ∃ nm : String, Cond.classLink own z.2.2.2 nm ∈ WALL ∧ ((E = XIAE ∧ nm = XIOB) ∨ (E = XISE ∧ nm = XIOB) ∨ (E = XISE ∧ nm = XIAE))
/-- caught: the handler begins with astore a -/
theorem XT.catch (C : XCx G l own cc nL p s m args meth c) {E : String} {hh pre suf : List (Nat × Nat × Nat × Nat)} {z : Nat × Nat × Nat × Nat} {a len : Nat} {i : Instr} (htab : c.exceptionTable.toList = tableOf hh) (hsp : hh = pre ++ z :: suf) (hpass : ∀ w ∈ pre, XPass own E w) (hcov : z.1 ≤ pc ∧ pc < z.2.1) (h0 : z.2.2.2 ≠ 0) (hlink : Cond.classLink own z.2.2.2 E ∈ WALL) (hcast : Cond.castable E E ∈ XNW)
    (hd : decode cc z.2.2.1 = .ok (i, len)) (hi : (i = .astore a ∧ len = 2) ∨ (∃ f : Fin 4, i = .astore_n f ∧ (f : Nat) = a ∧ len = 1)) (han : a < nL) (kk : XV G nL p l e R s m args below meth c Q (z.2.2.1 + len) (xset0 ls a) [] n h k ks) : XT G nL p l e R s m args below meth c Q pc ls E n h k ks := by
  obtain ⟨hx, hb, hml, hown, hts, hlocks, hEn, hbs, hfl⟩ := C
  intro H locs lr q ce rest hP hz hS hL hce hcv hcl
  have hK : ∀ lr', lv_has lr' nL ((a, .ref q) :: (xas G ls).filter (fun q => !(q.1 == a) && !(q.1 + 1 == a && q.2.category == 2))) → W p l e R s m args below meth c H locs k ks Q (F0 m (z.2.2.1 + len) lr' []) := fun lr' h' => kk H locs lr' hP hz hS (xHas.st0 hL.2.2.1 h')
  refine vx_catch (name := E) hown (tableOf pre) ⟨z.1, z.2.1, z.2.2.1, z.2.2.2⟩ (tableOf suf) (by rw [htab, hsp]; unfold tableOf; rw [List.map_append]; rfl) (fun w hw => ?_) (by simp [covers]; exact hcov) h0 (hts _ hlink) (va_Nw.use (xnw_tab _ hcast) (hEn.2.2.2.2.2.1 _ hcast)) hce hcv hcl ?_
  · unfold tableOf at hw
    obtain ⟨w', hw', rfl⟩ := List.mem_map.mp hw
    obtain ⟨g1, nm, g2, g3⟩ := hpass w' hw'
    refine Or.inr ⟨g1, nm, hts _ g2, ?_⟩
    rcases g3 with ⟨rfl, rfl⟩ | ⟨rfl, rfl⟩ | ⟨rfl, rfl⟩
    · exact hEn.2.2.2.2.2.2.2.1.1
    · exact hEn.2.2.2.2.2.2.2.1.2.1
    · exact hEn.2.2.2.2.2.2.2.1.2.2
  · rcases hi with ⟨rfl, rfl⟩ | ⟨f, rfl, rfl, rfl⟩
    · exact lv_astore hx hb hd hL.lv han rfl hK
    · exact lv_astore_n hx hb hd rfl hL.lv han rfl hK
/-- a method with a table of its own -/
theorem XCt.ofH {hh : List (Nat × Nat × Nat × Nat)} (hfl : l.stackTraces = false) (hy : plainName y.cls = true) (hl : (xlay av).length ≤ maxL)
    (body : ∀ (p : Program) (e : Env) (s : State) (m : MethodId) (args : Array Value) (below : List Frame) (meth : Method) (c : Code), XCx G l y.cls bytes maxL p s m args meth c → meth.sig.returnType = ret → c.exceptionTable.toList = tableOf hh → (md → s.heap.size = xbase G + n) →
      XV G maxL p l e ({ frames := fr, cells := mc, slots := ms, locals := lo } : Room) s m args below meth c (XEnd G below post px args s mc ms) 0 (xent maxL av) [] n h 0 0) : XCt l G md (Cond.codeWith y bytes maxL ret hh) y fr lo mc ms av n h post px := by
  refine vx_ofWH (cc := bytes) (maxL := maxL) (ret := ret) (hh := hh) hy rfl ?_
  intro p e s m args below meth c s₁ B hml hv
  obtain ⟨hargs, hP, hz, hm, hE⟩ := hv
  subst hargs
  have hx := B.exec
  have hb := B.bytes
  have hr := B.returns
  have hts0 := atoms_spec (ws := Cond.codeWith y bytes maxL ret hh :: WALL) B.pre
  have hown : s.vm.findClass y.cls = some m.cls := findClass_of_methodNamed B.named
  have htab := vx_table (x := y) B (hts0 _ List.mem_cons_self)
  have C : XCx G l y.cls bytes maxL p s m (av.map (xv G)).toArray meth c := ⟨hx, hb, hml, hown, fun w hw => hts0 w (List.mem_cons_of_mem _ hw), B.notSynchronized, hE, by omega, hfl⟩
  have K := body p e s m _ below meth c C hr htab hm s.heap [] _ hP hz va_S.rf (xent_has G hl)
  rw [lg_entry_eq]
  exact K
theorem XV.callSX (C : XCx G l own cc nL p s m args meth c) {hh : List (Nat × Nat × Nat × Nat)} {As rest : List Value} (hM : XCt l G md (Cond.codeWith y bytes maxL ret hh) y fr lo mc ms As n h post px) (hd : decode cc pc = .ok (.invokestatic ix, 3)) (hst : st = As.reverse ++ rest)
    (w1 : Cond.methodLink own ix y ∈ WALL) (w2 : Cond.static y ∈ WALL) (w4 : Cond.initialized y.cls ∈ WALL) (w5 : Cond.codeWith y bytes maxL ret hh ∈ WALL)
    (hy : (y.cls ≠ "java/lang/invoke/MethodHandle" ∧ y.cls ≠ "java/lang/invoke/VarHandle") ∧ (parseMethodDescriptor y.desc).map (fun d => d.parameters.length) = some As.length) (hmd : md → s.heap.size + k = xbase G + n) (hR : fr + 1 ≤ R.frames ∧ 8 + (maxL + 11) + lo ≤ R.locals) (hf : k + mc ≤ R.cells ∧ ks + ms ≤ R.slots) (hw : (rest.map fun v => v.category).sum ≤ 8)
    (kk : ∀ (r : Option Value) (n' : Nat) (h' : XH), post r n' h' → XV G nL p l e R s m args below meth c Q (pc + 3) ls (r.toList ++ rest) n' h' (k + mc) (ks + ms))
    (kx : ∀ (E : String) (n' : Nat) (h' : XH), px E n' h' → XT G nL p l e R s m args below meth c Q pc ls E n' h' (k + mc) (ks + ms)) : XV G nL p l e R s m args below meth c Q pc ls st n h k ks := by
  subst hst
  refine XV.ofRun C (fun H locs lr hP hz hsz hS hL => ?_) kk kx
  obtain ⟨hx, hb0, hml, hown, hts, hlocks, hE, hbs, hfl⟩ := id C
  refine vx_runSX (nL := nL) (Ts := WALL) (own := own) (bytes := bytes) (maxL := maxL) (ret := ret) (hh := hh) (As := As.map (xv G)) (n := As.length) ⟨hx, hb0, hml, hown, hts⟩ hM (vx_cwSW As.length hts (fun w hw => ?_) rfl rfl rfl ⟨hy.1.1, hy.1.2, hy.2⟩ hR) ⟨XPre.blind G md _ n h, fun U hU hW => xpre_of C hP hz (fun q => by have := hmd q; omega) hS hU hW As⟩ rfl (by rw [List.length_map]) hL.1 (by show ((As.reverse ++ rest).map (xv G)) = _; rw [List.map_append, List.map_reverse]) (lv_room (by rw [xsum]; exact hw)) hd hf
  unfold va_wsS at hw
  rcases List.mem_append.mp hw with h9 | h9
  · simp only [List.mem_cons, List.not_mem_nil, or_false] at h9
    rcases h9 with rfl | rfl | rfl
    · exact WALL_good _ w1
    · exact WALL_good _ w2
    · exact WALL_good _ w4
  · exact WALL_good1 w5 _ h9
/-- the private constructor of a nest mate -/
theorem XV.callIN (C : XCx G l own cc nL p s m args meth c) {b : Nat} {As rest : List Value} (hM : XCt l G md (Cond.code y bytes maxL none) y fr lo mc ms (.ref b :: As) n h post px) (hd : decode cc pc = .ok (.invokespecial ix, 3)) (hst : st = As.reverse ++ .ref b :: rest)
    (w1 : Cond.methodLinkNest own ix y "RopeThreads" ∈ XNW) (w2 : Cond.instanceMethod y ∈ WALL) (w4 : Cond.initialized y.cls ∈ WALL) (w5 : Cond.code y bytes maxL none ∈ WALL) (hinit : y.name = "<init>")
    (hy : (y.cls ≠ "java/lang/invoke/MethodHandle" ∧ y.cls ≠ "java/lang/invoke/VarHandle") ∧ (parseMethodDescriptor y.desc).map (fun d => d.parameters.length) = some As.length) (hmd : md → s.heap.size + k = xbase G + n) (hR : fr + 1 ≤ R.frames ∧ 8 + (maxL + 11) + lo ≤ R.locals) (hf : k + mc ≤ R.cells ∧ ks + ms ≤ R.slots) (hw : (rest.map fun v => v.category).sum ≤ 8)
    (kk : ∀ (r : Option Value) (n' : Nat) (h' : XH), post r n' h' → XV G nL p l e R s m args below meth c Q (pc + 3) ls (r.toList ++ rest) n' h' (k + mc) (ks + ms))
    (kx : ∀ (E : String) (n' : Nat) (h' : XH), px E n' h' → XT G nL p l e R s m args below meth c Q pc ls E n' h' (k + mc) (ks + ms)) : XV G nL p l e R s m args below meth c Q pc ls st n h k ks := by
  subst hst
  refine XV.ofRun C (fun H locs lr hP hz hsz hS hL => ?_) kk kx
  obtain ⟨hx, hb0, hml, hown, hts, hlocks, hE, hbs, hfl⟩ := id C
  exact vx_runIN (nL := nL) (Ts := WALL) (own := own) (host := "RopeThreads") (bytes := bytes) (maxL := maxL) (b := xa G b) (As := As.map (xv G)) (n := As.length) ⟨hx, hb0, hml, hown, hts⟩ hM ⟨va_cnB As.length hts (WALL_good1 w5) rfl rfl rfl (hE.2.2.2.2.2.1 _ w1) (hts _ w4) ⟨hy.1.1, hy.1.2, hy.2⟩ hR, hinit, hts _ w2⟩ ⟨XPre.blind G md _ n h, fun U hU hW => xpre_of C hP hz (fun q => by have := hmd q; omega) hS hU hW (.ref b :: As)⟩ rfl (by rw [List.length_map]) hL.1 (by show ((As.reverse ++ .ref b :: rest).map (xv G)) = _; rw [List.map_append, List.map_cons, List.map_reverse]; rfl) (lv_room (by rw [xsum]; exact hw)) hd hf
end XEXC
end
section
/-! the instructions -/
def kE_init : List (Nat × (Instr × Nat)) := [(0, (.aload_n 0, 1)), (1, (.invokespecial 3, 3)), (4, (.aload_n 0, 1)), (5, (.iconst 5, 1)), (6, (.newarray .int, 2)), (8, (.putfield 9, 3)), (11, (.aload_n 0, 1)), (12, (.iconst 5, 1)), (13, (.anewarray 15, 3)), (16, (.putfield 17, 3)), (19, (.aload_n 0, 1)), (20, (.iconst 0, 1)), (21, (.putfield 21, 3)), (24, (.aload_n 0, 1)), (25, (.iconst 0, 1)), (26, (.putfield 25, 3)), (29, (.aload_n 0, 1)), (30, (.iconst 0, 1)), (31, (.putfield 28, 3)), (34, (.aload_n 0, 1)), (35, (.iconst 0, 1)), (36, (.putfield 31, 3)), (39, (.aload_n 0, 1)), (40, (.iconst 0, 1)), (41, (.putfield 34, 3)), (44, (.iconst 0, 1)), (45, (.istore_n 1, 1)), (46, (.iload_n 1, 1)), (47, (.iconst 5, 1)), (48, (.if_icmp .ge 20, 3)), (51, (.aload_n 0, 1)), (52, (.getfield 9, 3)), (55, (.iload_n 1, 1)), (56, (.getstatic 37, 3)), (59, (.iload_n 1, 1)), (60, (.iaload, 1)), (61, (.iastore, 1)), (62, (.iinc 1 1, 3)), (65, (.goto (-19), 3)), (68, (.iconst 0, 1)), (69, (.istore_n 1, 1)), (70, (.iload_n 1, 1)), (71, (.iconst 5, 1)), (72, (.if_icmp .ge 22, 3)), (75, (.aload_n 0, 1)), (76, (.getfield 17, 3)), (79, (.iload_n 1, 1)), (80, (.new 15, 3)), (83, (.dup, 1)), (84, (.invokespecial 40, 3)), (87, (.aastore, 1)), (88, (.iinc 1 1, 3)), (91, (.goto (-21), 3)), (94, (.return_, 1))]
set_option maxRecDepth 100000 in
theorem okE_init : ∀ a ∈ kE_init, decode bE_init a.1 = .ok a.2 := by decide +kernel
def kE_copyFrom : List (Nat × (Instr × Nat)) := [(0, (.aload_n 1, 1)), (1, (.getfield 9, 3)), (4, (.iconst 0, 1)), (5, (.aload_n 0, 1)), (6, (.getfield 9, 3)), (9, (.iconst 0, 1)), (10, (.iconst 5, 1)), (11, (.invokestatic 41, 3)), (14, (.iconst 0, 1)), (15, (.istore_n 2, 1)), (16, (.iload_n 2, 1)), (17, (.iconst 5, 1)), (18, (.if_icmp .ge 39, 3)), (21, (.aload_n 0, 1)), (22, (.getfield 17, 3)), (25, (.iload_n 2, 1)), (26, (.aaload, 1)), (27, (.astore_n 3, 1)), (28, (.aload_n 1, 1)), (29, (.getfield 17, 3)), (32, (.iload_n 2, 1)), (33, (.aaload, 1)), (34, (.astore 4, 2)), (36, (.aload_n 3, 1)), (37, (.ifnull 14, 3)), (40, (.aload 4, 2)), (42, (.ifnull 9, 3)), (45, (.aload_n 3, 1)), (46, (.aload 4, 2)), (48, (.invokevirtual 47, 3)), (51, (.iinc 2 1, 3)), (54, (.goto (-38), 3)), (57, (.aload_n 0, 1)), (58, (.aload_n 1, 1)), (59, (.getfield 21, 3)), (62, (.putfield 21, 3)), (65, (.aload_n 0, 1)), (66, (.aload_n 1, 1)), (67, (.getfield 25, 3)), (70, (.putfield 25, 3)), (73, (.aload_n 0, 1)), (74, (.aload_n 1, 1)), (75, (.getfield 28, 3)), (78, (.putfield 28, 3)), (81, (.aload_n 0, 1)), (82, (.aload_n 1, 1)), (83, (.getfield 31, 3)), (86, (.putfield 31, 3)), (89, (.aload_n 0, 1)), (90, (.aload_n 1, 1)), (91, (.getfield 34, 3)), (94, (.putfield 34, 3)), (97, (.return_, 1))]
set_option maxRecDepth 100000 in
theorem okE_copyFrom : ∀ a ∈ kE_copyFrom, decode bE_copyFrom a.1 = .ok a.2 := by decide +kernel
def kE_ropeAt : List (Nat × (Instr × Nat)) := [(0, (.iload_n 1, 1)), (1, (.ifCond .lt 16, 3)), (4, (.iload_n 1, 1)), (5, (.aload_n 0, 1)), (6, (.getfield 21, 3)), (9, (.if_icmp .ge 8, 3)), (12, (.iload_n 1, 1)), (13, (.iconst 5, 1)), (14, (.if_icmp .lt 5, 3)), (17, (.aconst_null, 1)), (18, (.areturn, 1)), (19, (.aload_n 0, 1)), (20, (.getfield 17, 3)), (23, (.iload_n 1, 1)), (24, (.aaload, 1)), (25, (.areturn, 1))]
set_option maxRecDepth 100000 in
theorem okE_ropeAt : ∀ a ∈ kE_ropeAt, decode bE_ropeAt a.1 = .ok a.2 := by decide +kernel
def kE_addRope : List (Nat × (Instr × Nat)) := [(0, (.aload_n 0, 1)), (1, (.getfield 21, 3)), (4, (.iconst 5, 1)), (5, (.if_icmp .ge 37, 3)), (8, (.aload_n 0, 1)), (9, (.dup, 1)), (10, (.getfield 21, 3)), (13, (.iconst 1, 1)), (14, (.iadd, 1)), (15, (.putfield 21, 3)), (18, (.aload_n 0, 1)), (19, (.aload_n 0, 1)), (20, (.getfield 21, 3)), (23, (.iconst 1, 1)), (24, (.isub, 1)), (25, (.invokevirtual 51, 3)), (28, (.astore_n 2, 1)), (29, (.aload_n 2, 1)), (30, (.ifnull 12, 3)), (33, (.aload_n 2, 1)), (34, (.iload_n 1, 1)), (35, (.aload_n 0, 1)), (36, (.getfield 25, 3)), (39, (.invokevirtual 55, 3)), (42, (.return_, 1))]
set_option maxRecDepth 100000 in
theorem okE_addRope : ∀ a ∈ kE_addRope, decode bE_addRope a.1 = .ok a.2 := by decide +kernel
def kE_removeRope : List (Nat × (Instr × Nat)) := [(0, (.iload_n 1, 1)), (1, (.istore_n 2, 1)), (2, (.iload_n 2, 1)), (3, (.iconst 1, 1)), (4, (.iadd, 1)), (5, (.aload_n 0, 1)), (6, (.getfield 21, 3)), (9, (.if_icmp .ge 39, 3)), (12, (.aload_n 0, 1)), (13, (.iload_n 2, 1)), (14, (.invokevirtual 51, 3)), (17, (.astore_n 3, 1)), (18, (.aload_n 0, 1)), (19, (.iload_n 2, 1)), (20, (.iconst 1, 1)), (21, (.iadd, 1)), (22, (.invokevirtual 51, 3)), (25, (.astore 4, 2)), (27, (.aload_n 3, 1)), (28, (.ifnull 14, 3)), (31, (.aload 4, 2)), (33, (.ifnull 9, 3)), (36, (.aload_n 3, 1)), (37, (.aload 4, 2)), (39, (.invokevirtual 47, 3)), (42, (.iinc 2 1, 3)), (45, (.goto (-43), 3)), (48, (.aload_n 0, 1)), (49, (.dup, 1)), (50, (.getfield 21, 3)), (53, (.iconst 1, 1)), (54, (.isub, 1)), (55, (.putfield 21, 3)), (58, (.return_, 1))]
set_option maxRecDepth 100000 in
theorem okE_removeRope : ∀ a ∈ kE_removeRope, decode bE_removeRope a.1 = .ok a.2 := by decide +kernel
def kE_travel : List (Nat × (Instr × Nat)) := [(0, (.iconst 3, 1)), (1, (.iload_n 1, 1)), (2, (.iload_n 2, 1)), (3, (.invokestatic 59, 3)), (6, (.imul, 1)), (7, (.istore 4, 2)), (9, (.iconst 3, 1)), (10, (.iload_n 1, 1)), (11, (.iload_n 2, 1)), (12, (.invokestatic 65, 3)), (15, (.imul, 1)), (16, (.iconst 3, 1)), (17, (.iadd, 1)), (18, (.iconst 1, 1)), (19, (.isub, 1)), (20, (.istore 5, 2)), (22, (.iconst 0, 1)), (23, (.istore 6, 2)), (25, (.iload 6, 2)), (27, (.aload_n 0, 1)), (28, (.getfield 21, 3)), (31, (.if_icmp .ge 32, 3)), (34, (.aload_n 0, 1)), (35, (.iload 6, 2)), (37, (.invokevirtual 51, 3)), (40, (.astore 7, 2)), (42, (.aload 7, 2)), (44, (.ifnull 13, 3)), (47, (.aload 7, 2)), (49, (.iload 4, 2)), (51, (.iload 5, 2)), (53, (.iload_n 3, 1)), (54, (.invokevirtual 68, 3)), (57, (.iinc 6 1, 3)), (60, (.goto (-35), 3)), (63, (.aload_n 0, 1)), (64, (.dup, 1)), (65, (.getfield 28, 3)), (68, (.iload_n 3, 1)), (69, (.iadd, 1)), (70, (.putfield 28, 3)), (73, (.return_, 1))]
set_option maxRecDepth 100000 in
theorem okE_travel : ∀ a ∈ kE_travel, decode bE_travel a.1 = .ok a.2 := by decide +kernel
def kE_windows : List (Nat × (Instr × Nat)) := [(0, (.bipush 24, 2)), (2, (.aload_n 0, 1)), (3, (.getfield 9, 3)), (6, (.iconst 0, 1)), (7, (.iaload, 1)), (8, (.isub, 1)), (9, (.iconst 1, 1)), (10, (.iadd, 1)), (11, (.ireturn, 1))]
set_option maxRecDepth 100000 in
theorem okE_windows : ∀ a ∈ kE_windows, decode bE_windows a.1 = .ok a.2 := by decide +kernel
def kE_reasonFor : List (Nat × (Instr × Nat)) := [(0, (.aload_n 1, 1)), (1, (.aload_n 0, 1)), (2, (.getfield 9, 3)), (5, (.iconst 0, 1)), (6, (.iaload, 1)), (7, (.invokevirtual 72, 3)), (10, (.aload_n 0, 1)), (11, (.getfield 9, 3)), (14, (.iconst 1, 1)), (15, (.iaload, 1)), (16, (.if_icmp .lt 5, 3)), (19, (.iconst 1, 1)), (20, (.ireturn, 1)), (21, (.aload_n 1, 1)), (22, (.invokevirtual 76, 3)), (25, (.aload_n 0, 1)), (26, (.getfield 9, 3)), (29, (.iconst 2, 1)), (30, (.iaload, 1)), (31, (.if_icmp .lt 5, 3)), (34, (.iconst 2, 1)), (35, (.ireturn, 1)), (36, (.aload_n 1, 1)), (37, (.invokevirtual 80, 3)), (40, (.aload_n 0, 1)), (41, (.getfield 9, 3)), (44, (.iconst 3, 1)), (45, (.iaload, 1)), (46, (.if_icmp .lt 5, 3)), (49, (.iconst 3, 1)), (50, (.ireturn, 1)), (51, (.aload_n 0, 1)), (52, (.aload_n 1, 1)), (53, (.invokevirtual 83, 3)), (56, (.ifCond .ne 7, 3)), (59, (.iconst 4, 1)), (60, (.goto 4, 3)), (63, (.iconst 0, 1)), (64, (.ireturn, 1))]
set_option maxRecDepth 100000 in
theorem okE_reasonFor : ∀ a ∈ kE_reasonFor, decode bE_reasonFor a.1 = .ok a.2 := by decide +kernel
def kE_monthsLeft : List (Nat × (Instr × Nat)) := [(0, (.iconst 0, 1)), (1, (.aload_n 1, 1)), (2, (.invokevirtual 87, 3)), (5, (.aload_n 0, 1)), (6, (.getfield 9, 3)), (9, (.iconst 4, 1)), (10, (.iaload, 1)), (11, (.iadd, 1)), (12, (.iconst 1, 1)), (13, (.iadd, 1)), (14, (.aload_n 0, 1)), (15, (.getfield 25, 3)), (18, (.isub, 1)), (19, (.invokestatic 65, 3)), (22, (.ireturn, 1))]
set_option maxRecDepth 100000 in
theorem okE_monthsLeft : ∀ a ∈ kE_monthsLeft, decode bE_monthsLeft a.1 = .ok a.2 := by decide +kernel
def kE_ropesToRetire : List (Nat × (Instr × Nat)) := [(0, (.iconst 0, 1)), (1, (.istore_n 1, 1)), (2, (.iconst 0, 1)), (3, (.istore_n 2, 1)), (4, (.iload_n 2, 1)), (5, (.aload_n 0, 1)), (6, (.getfield 21, 3)), (9, (.if_icmp .ge 30, 3)), (12, (.aload_n 0, 1)), (13, (.iload_n 2, 1)), (14, (.invokevirtual 51, 3)), (17, (.astore_n 3, 1)), (18, (.aload_n 3, 1)), (19, (.ifnull 14, 3)), (22, (.aload_n 0, 1)), (23, (.aload_n 3, 1)), (24, (.invokevirtual 90, 3)), (27, (.ifCond .eq 6, 3)), (30, (.iinc 1 1, 3)), (33, (.iinc 2 1, 3)), (36, (.goto (-32), 3)), (39, (.iload_n 1, 1)), (40, (.ireturn, 1))]
set_option maxRecDepth 100000 in
theorem okE_ropesToRetire : ∀ a ∈ kE_ropesToRetire, decode bE_ropesToRetire a.1 = .ok a.2 := by decide +kernel
def kE_canRun : List (Nat × (Instr × Nat)) := [(0, (.aload_n 0, 1)), (1, (.getfield 21, 3)), (4, (.iconst 2, 1)), (5, (.if_icmp .lt 14, 3)), (8, (.aload_n 0, 1)), (9, (.invokevirtual 93, 3)), (12, (.ifCond .ne 7, 3)), (15, (.iconst 1, 1)), (16, (.goto 4, 3)), (19, (.iconst 0, 1)), (20, (.ireturn, 1))]
set_option maxRecDepth 100000 in
theorem okE_canRun : ∀ a ∈ kE_canRun, decode bE_canRun a.1 = .ok a.2 := by decide +kernel
def kE_countsOfRopes : List (Nat × (Instr × Nat)) := [(0, (.iconst 0, 1)), (1, (.istore_n 1, 1)), (2, (.iconst 0, 1)), (3, (.istore_n 2, 1)), (4, (.iload_n 2, 1)), (5, (.aload_n 0, 1)), (6, (.getfield 21, 3)), (9, (.if_icmp .ge 26, 3)), (12, (.aload_n 0, 1)), (13, (.iload_n 2, 1)), (14, (.invokevirtual 51, 3)), (17, (.astore_n 3, 1)), (18, (.aload_n 3, 1)), (19, (.ifnull 10, 3)), (22, (.iload_n 1, 1)), (23, (.aload_n 3, 1)), (24, (.invokevirtual 76, 3)), (27, (.iadd, 1)), (28, (.istore_n 1, 1)), (29, (.iinc 2 1, 3)), (32, (.goto (-28), 3)), (35, (.iload_n 1, 1)), (36, (.ireturn, 1))]
set_option maxRecDepth 100000 in
theorem okE_countsOfRopes : ∀ a ∈ kE_countsOfRopes, decode bE_countsOfRopes a.1 = .ok a.2 := by decide +kernel
def kE_brokenOfRopes : List (Nat × (Instr × Nat)) := [(0, (.iconst 0, 1)), (1, (.istore_n 1, 1)), (2, (.iconst 0, 1)), (3, (.istore_n 2, 1)), (4, (.iload_n 2, 1)), (5, (.aload_n 0, 1)), (6, (.getfield 21, 3)), (9, (.if_icmp .ge 26, 3)), (12, (.aload_n 0, 1)), (13, (.iload_n 2, 1)), (14, (.invokevirtual 51, 3)), (17, (.astore_n 3, 1)), (18, (.aload_n 3, 1)), (19, (.ifnull 10, 3)), (22, (.iload_n 1, 1)), (23, (.aload_n 3, 1)), (24, (.invokevirtual 96, 3)), (27, (.iadd, 1)), (28, (.istore_n 1, 1)), (29, (.iinc 2 1, 3)), (32, (.goto (-28), 3)), (35, (.iload_n 1, 1)), (36, (.ireturn, 1))]
set_option maxRecDepth 100000 in
theorem okE_brokenOfRopes : ∀ a ∈ kE_brokenOfRopes, decode bE_brokenOfRopes a.1 = .ok a.2 := by decide +kernel
def kH_init : List (Nat × (Instr × Nat)) := [(0, (.aload_n 0, 1)), (1, (.invokespecial 3, 3)), (4, (.aload_n 0, 1)), (5, (.bipush 6, 2)), (7, (.anewarray 9, 3)), (10, (.putfield 11, 3)), (13, (.aload_n 0, 1)), (14, (.iconst 0, 1)), (15, (.putfield 17, 3)), (18, (.aload_n 0, 1)), (19, (.iconst 0, 1)), (20, (.putfield 21, 3)), (23, (.iconst 0, 1)), (24, (.istore_n 1, 1)), (25, (.iload_n 1, 1)), (26, (.bipush 6, 2)), (28, (.if_icmp .ge 22, 3)), (31, (.aload_n 0, 1)), (32, (.getfield 11, 3)), (35, (.iload_n 1, 1)), (36, (.new 9, 3)), (39, (.dup, 1)), (40, (.invokespecial 24, 3)), (43, (.aastore, 1)), (44, (.iinc 1 1, 3)), (47, (.goto (-22), 3)), (50, (.return_, 1))]
set_option maxRecDepth 100000 in
theorem okH_init : ∀ a ∈ kH_init, decode bH_init a.1 = .ok a.2 := by decide +kernel
def kH_keep : List (Nat × (Instr × Nat)) := [(0, (.aload_n 0, 1)), (1, (.getfield 21, 3)), (4, (.bipush 6, 2)), (6, (.if_icmp .ne 28, 3)), (9, (.aload_n 0, 1)), (10, (.aload_n 0, 1)), (11, (.getfield 17, 3)), (14, (.iconst 1, 1)), (15, (.iadd, 1)), (16, (.bipush 6, 2)), (18, (.invokestatic 25, 3)), (21, (.putfield 17, 3)), (24, (.aload_n 0, 1)), (25, (.dup, 1)), (26, (.getfield 21, 3)), (29, (.iconst 1, 1)), (30, (.isub, 1)), (31, (.putfield 21, 3)), (34, (.aload_n 0, 1)), (35, (.getfield 11, 3)), (38, (.aload_n 0, 1)), (39, (.getfield 17, 3)), (42, (.aload_n 0, 1)), (43, (.getfield 21, 3)), (46, (.iadd, 1)), (47, (.bipush 6, 2)), (49, (.invokestatic 25, 3)), (52, (.aaload, 1)), (53, (.astore_n 2, 1)), (54, (.aload_n 2, 1)), (55, (.ifnull 8, 3)), (58, (.aload_n 2, 1)), (59, (.aload_n 1, 1)), (60, (.invokevirtual 31, 3)), (63, (.aload_n 0, 1)), (64, (.dup, 1)), (65, (.getfield 21, 3)), (68, (.iconst 1, 1)), (69, (.iadd, 1)), (70, (.putfield 21, 3)), (73, (.return_, 1))]
set_option maxRecDepth 100000 in
theorem okH_keep : ∀ a ∈ kH_keep, decode bH_keep a.1 = .ok a.2 := by decide +kernel
def kH_giveBack : List (Nat × (Instr × Nat)) := [(0, (.aload_n 0, 1)), (1, (.dup, 1)), (2, (.getfield 21, 3)), (5, (.iconst 1, 1)), (6, (.isub, 1)), (7, (.putfield 21, 3)), (10, (.aload_n 0, 1)), (11, (.getfield 11, 3)), (14, (.aload_n 0, 1)), (15, (.getfield 17, 3)), (18, (.aload_n 0, 1)), (19, (.getfield 21, 3)), (22, (.iadd, 1)), (23, (.bipush 6, 2)), (25, (.invokestatic 25, 3)), (28, (.aaload, 1)), (29, (.astore_n 2, 1)), (30, (.aload_n 2, 1)), (31, (.ifnull 8, 3)), (34, (.aload_n 1, 1)), (35, (.aload_n 2, 1)), (36, (.invokevirtual 31, 3)), (39, (.return_, 1))]
set_option maxRecDepth 100000 in
theorem okH_giveBack : ∀ a ∈ kH_giveBack, decode bH_giveBack a.1 = .ok a.2 := by decide +kernel
def kR_init : List (Nat × (Instr × Nat)) := [(0, (.aload_n 0, 1)), (1, (.invokespecial 3, 3)), (4, (.aload_n 0, 1)), (5, (.bipush 24, 2)), (7, (.newarray .int, 2)), (9, (.putfield 9, 3)), (12, (.aload_n 0, 1)), (13, (.bipush 24, 2)), (15, (.newarray .int, 2)), (17, (.putfield 15, 3)), (20, (.aload_n 0, 1)), (21, (.bipush 24, 2)), (23, (.newarray .int, 2)), (25, (.putfield 18, 3)), (28, (.aload_n 0, 1)), (29, (.bipush 24, 2)), (31, (.newarray .int, 2)), (33, (.putfield 21, 3)), (36, (.aload_n 0, 1)), (37, (.iconst 1, 1)), (38, (.putfield 24, 3)), (41, (.aload_n 0, 1)), (42, (.iconst 0, 1)), (43, (.putfield 28, 3)), (46, (.aload_n 0, 1)), (47, (.iconst 0, 1)), (48, (.putfield 31, 3)), (51, (.return_, 1))]
set_option maxRecDepth 100000 in
theorem okR_init : ∀ a ∈ kR_init, decode bR_init a.1 = .ok a.2 := by decide +kernel
def kR_renew : List (Nat × (Instr × Nat)) := [(0, (.aload_n 0, 1)), (1, (.getfield 9, 3)), (4, (.iconst 0, 1)), (5, (.invokestatic 34, 3)), (8, (.aload_n 0, 1)), (9, (.getfield 15, 3)), (12, (.iconst 0, 1)), (13, (.invokestatic 34, 3)), (16, (.aload_n 0, 1)), (17, (.getfield 18, 3)), (20, (.iconst 0, 1)), (21, (.invokestatic 34, 3)), (24, (.aload_n 0, 1)), (25, (.getfield 21, 3)), (28, (.iload_n 2, 1)), (29, (.invokestatic 34, 3)), (32, (.aload_n 0, 1)), (33, (.iload_n 1, 1)), (34, (.putfield 24, 3)), (37, (.aload_n 0, 1)), (38, (.iload_n 2, 1)), (39, (.putfield 28, 3)), (42, (.aload_n 0, 1)), (43, (.iconst 0, 1)), (44, (.putfield 31, 3)), (47, (.return_, 1))]
set_option maxRecDepth 100000 in
theorem okR_renew : ∀ a ∈ kR_renew, decode bR_renew a.1 = .ok a.2 := by decide +kernel
def kR_copyFrom : List (Nat × (Instr × Nat)) := [(0, (.aload_n 1, 1)), (1, (.getfield 9, 3)), (4, (.iconst 0, 1)), (5, (.aload_n 0, 1)), (6, (.getfield 9, 3)), (9, (.iconst 0, 1)), (10, (.bipush 24, 2)), (12, (.invokestatic 40, 3)), (15, (.aload_n 1, 1)), (16, (.getfield 15, 3)), (19, (.iconst 0, 1)), (20, (.aload_n 0, 1)), (21, (.getfield 15, 3)), (24, (.iconst 0, 1)), (25, (.bipush 24, 2)), (27, (.invokestatic 40, 3)), (30, (.aload_n 1, 1)), (31, (.getfield 18, 3)), (34, (.iconst 0, 1)), (35, (.aload_n 0, 1)), (36, (.getfield 18, 3)), (39, (.iconst 0, 1)), (40, (.bipush 24, 2)), (42, (.invokestatic 40, 3)), (45, (.aload_n 1, 1)), (46, (.getfield 21, 3)), (49, (.iconst 0, 1)), (50, (.aload_n 0, 1)), (51, (.getfield 21, 3)), (54, (.iconst 0, 1)), (55, (.bipush 24, 2)), (57, (.invokestatic 40, 3)), (60, (.aload_n 0, 1)), (61, (.aload_n 1, 1)), (62, (.getfield 24, 3)), (65, (.putfield 24, 3)), (68, (.aload_n 0, 1)), (69, (.aload_n 1, 1)), (70, (.getfield 28, 3)), (73, (.putfield 28, 3)), (76, (.aload_n 0, 1)), (77, (.aload_n 1, 1)), (78, (.getfield 31, 3)), (81, (.putfield 31, 3)), (84, (.return_, 1))]
set_option maxRecDepth 100000 in
theorem okR_copyFrom : ∀ a ∈ kR_copyFrom, decode bR_copyFrom a.1 = .ok a.2 := by decide +kernel
def kR_bend : List (Nat × (Instr × Nat)) := [(0, (.iload_n 1, 1)), (1, (.istore 4, 2)), (3, (.iload 4, 2)), (5, (.ifCond .lt 33, 3)), (8, (.iload 4, 2)), (10, (.iload_n 2, 1)), (11, (.if_icmp .gt 27, 3)), (14, (.iload 4, 2)), (16, (.bipush 24, 2)), (18, (.if_icmp .ge 20, 3)), (21, (.aload_n 0, 1)), (22, (.getfield 9, 3)), (25, (.iload 4, 2)), (27, (.dup2, 1)), (28, (.iaload, 1)), (29, (.iload_n 3, 1)), (30, (.iadd, 1)), (31, (.iastore, 1)), (32, (.iinc 4 1, 3)), (35, (.goto (-32), 3)), (38, (.aload_n 0, 1)), (39, (.dup, 1)), (40, (.getfield 31, 3)), (43, (.iload_n 3, 1)), (44, (.iadd, 1)), (45, (.putfield 31, 3)), (48, (.return_, 1))]
set_option maxRecDepth 100000 in
theorem okR_bend : ∀ a ∈ kR_bend, decode bR_bend a.1 = .ok a.2 := by decide +kernel
def kR_lookAt : List (Nat × (Instr × Nat)) := [(0, (.iload_n 1, 1)), (1, (.istore 4, 2)), (3, (.iload 4, 2)), (5, (.ifCond .lt 57, 3)), (8, (.iload 4, 2)), (10, (.iload_n 2, 1)), (11, (.if_icmp .gt 51, 3)), (14, (.iload 4, 2)), (16, (.bipush 24, 2)), (18, (.if_icmp .ge 44, 3)), (21, (.aload_n 0, 1)), (22, (.getfield 18, 3)), (25, (.iload 4, 2)), (27, (.aload_n 0, 1)), (28, (.getfield 15, 3)), (31, (.iload 4, 2)), (33, (.iaload, 1)), (34, (.iastore, 1)), (35, (.aload_n 0, 1)), (36, (.getfield 15, 3)), (39, (.iload 4, 2)), (41, (.aload_n 0, 1)), (42, (.iload 4, 2)), (44, (.invokevirtual 46, 3)), (47, (.iastore, 1)), (48, (.aload_n 0, 1)), (49, (.getfield 21, 3)), (52, (.iload 4, 2)), (54, (.iload_n 3, 1)), (55, (.iastore, 1)), (56, (.iinc 4 1, 3)), (59, (.goto (-56), 3)), (62, (.return_, 1))]
set_option maxRecDepth 100000 in
theorem okR_lookAt : ∀ a ∈ kR_lookAt, decode bR_lookAt a.1 = .ok a.2 := by decide +kernel
def kR_broken : List (Nat × (Instr × Nat)) := [(0, (.iload_n 1, 1)), (1, (.ifCond .lt 16, 3)), (4, (.iload_n 1, 1)), (5, (.bipush 24, 2)), (7, (.if_icmp .ge 10, 3)), (10, (.aload_n 0, 1)), (11, (.getfield 24, 3)), (14, (.ifCond .gt 5, 3)), (17, (.iconst 0, 1)), (18, (.ireturn, 1)), (19, (.aload_n 0, 1)), (20, (.getfield 9, 3)), (23, (.iload_n 1, 1)), (24, (.iaload, 1)), (25, (.aload_n 0, 1)), (26, (.getfield 24, 3)), (29, (.idiv, 1)), (30, (.ireturn, 1))]
set_option maxRecDepth 100000 in
theorem okR_broken : ∀ a ∈ kR_broken, decode bR_broken a.1 = .ok a.2 := by decide +kernel
def kR_sumOfCounts : List (Nat × (Instr × Nat)) := [(0, (.iconst 0, 1)), (1, (.istore_n 3, 1)), (2, (.iload_n 1, 1)), (3, (.istore 4, 2)), (5, (.iload 4, 2)), (7, (.ifCond .lt 32, 3)), (10, (.iload 4, 2)), (12, (.iload_n 2, 1)), (13, (.if_icmp .gt 26, 3)), (16, (.iload 4, 2)), (18, (.bipush 24, 2)), (20, (.if_icmp .ge 19, 3)), (23, (.iload_n 3, 1)), (24, (.aload_n 0, 1)), (25, (.getfield 15, 3)), (28, (.iload 4, 2)), (30, (.iaload, 1)), (31, (.iadd, 1)), (32, (.istore_n 3, 1)), (33, (.iinc 4 1, 3)), (36, (.goto (-31), 3)), (39, (.iload_n 3, 1)), (40, (.ireturn, 1))]
set_option maxRecDepth 100000 in
theorem okR_sumOfCounts : ∀ a ∈ kR_sumOfCounts, decode bR_sumOfCounts a.1 = .ok a.2 := by decide +kernel
def kR_sumOfBroken : List (Nat × (Instr × Nat)) := [(0, (.iconst 0, 1)), (1, (.istore_n 3, 1)), (2, (.iload_n 1, 1)), (3, (.istore 4, 2)), (5, (.iload 4, 2)), (7, (.ifCond .lt 31, 3)), (10, (.iload 4, 2)), (12, (.iload_n 2, 1)), (13, (.if_icmp .gt 25, 3)), (16, (.iload 4, 2)), (18, (.bipush 24, 2)), (20, (.if_icmp .ge 18, 3)), (23, (.iload_n 3, 1)), (24, (.aload_n 0, 1)), (25, (.iload 4, 2)), (27, (.invokevirtual 46, 3)), (30, (.iadd, 1)), (31, (.istore_n 3, 1)), (32, (.iinc 4 1, 3)), (35, (.goto (-30), 3)), (38, (.iload_n 3, 1)), (39, (.ireturn, 1))]
set_option maxRecDepth 100000 in
theorem okR_sumOfBroken : ∀ a ∈ kR_sumOfBroken, decode bR_sumOfBroken a.1 = .ok a.2 := by decide +kernel
def kR_allCounts : List (Nat × (Instr × Nat)) := [(0, (.aload_n 0, 1)), (1, (.iconst 0, 1)), (2, (.bipush 23, 2)), (4, (.invokevirtual 50, 3)), (7, (.ireturn, 1))]
set_option maxRecDepth 100000 in
theorem okR_allCounts : ∀ a ∈ kR_allCounts, decode bR_allCounts a.1 = .ok a.2 := by decide +kernel
def kR_allBroken : List (Nat × (Instr × Nat)) := [(0, (.aload_n 0, 1)), (1, (.iconst 0, 1)), (2, (.bipush 23, 2)), (4, (.invokevirtual 54, 3)), (7, (.ireturn, 1))]
set_option maxRecDepth 100000 in
theorem okR_allBroken : ∀ a ∈ kR_allBroken, decode bR_allBroken a.1 = .ok a.2 := by decide +kernel
def kR_greatestCounts : List (Nat × (Instr × Nat)) := [(0, (.iconst 0, 1)), (1, (.istore_n 2, 1)), (2, (.iconst 0, 1)), (3, (.istore_n 3, 1)), (4, (.iload_n 3, 1)), (5, (.iload_n 1, 1)), (6, (.iadd, 1)), (7, (.bipush 24, 2)), (9, (.if_icmp .gt 24, 3)), (12, (.iload_n 2, 1)), (13, (.aload_n 0, 1)), (14, (.iload_n 3, 1)), (15, (.iload_n 3, 1)), (16, (.iload_n 1, 1)), (17, (.iadd, 1)), (18, (.iconst 1, 1)), (19, (.isub, 1)), (20, (.invokevirtual 50, 3)), (23, (.invokestatic 57, 3)), (26, (.istore_n 2, 1)), (27, (.iinc 3 1, 3)), (30, (.goto (-26), 3)), (33, (.iload_n 2, 1)), (34, (.ireturn, 1))]
set_option maxRecDepth 100000 in
theorem okR_greatestCounts : ∀ a ∈ kR_greatestCounts, decode bR_greatestCounts a.1 = .ok a.2 := by decide +kernel
def kR_windowOfGreatestCounts : List (Nat × (Instr × Nat)) := [(0, (.aload_n 0, 1)), (1, (.iload_n 1, 1)), (2, (.invokevirtual 62, 3)), (5, (.istore_n 2, 1)), (6, (.iconst 0, 1)), (7, (.istore_n 3, 1)), (8, (.iload_n 3, 1)), (9, (.iload_n 1, 1)), (10, (.iadd, 1)), (11, (.bipush 24, 2)), (13, (.if_icmp .gt 25, 3)), (16, (.aload_n 0, 1)), (17, (.iload_n 3, 1)), (18, (.iload_n 3, 1)), (19, (.iload_n 1, 1)), (20, (.iadd, 1)), (21, (.iconst 1, 1)), (22, (.isub, 1)), (23, (.invokevirtual 50, 3)), (26, (.iload_n 2, 1)), (27, (.if_icmp .ne 5, 3)), (30, (.iload_n 3, 1)), (31, (.ireturn, 1)), (32, (.iinc 3 1, 3)), (35, (.goto (-27), 3)), (38, (.iconst 0, 1)), (39, (.ireturn, 1))]
set_option maxRecDepth 100000 in
theorem okR_windowOfGreatestCounts : ∀ a ∈ kR_windowOfGreatestCounts, decode bR_windowOfGreatestCounts a.1 = .ok a.2 := by decide +kernel
def kR_greatestBroken : List (Nat × (Instr × Nat)) := [(0, (.iconst 0, 1)), (1, (.istore_n 2, 1)), (2, (.iconst 0, 1)), (3, (.istore_n 3, 1)), (4, (.iload_n 3, 1)), (5, (.iload_n 1, 1)), (6, (.iadd, 1)), (7, (.bipush 24, 2)), (9, (.if_icmp .gt 24, 3)), (12, (.iload_n 2, 1)), (13, (.aload_n 0, 1)), (14, (.iload_n 3, 1)), (15, (.iload_n 3, 1)), (16, (.iload_n 1, 1)), (17, (.iadd, 1)), (18, (.iconst 1, 1)), (19, (.isub, 1)), (20, (.invokevirtual 54, 3)), (23, (.invokestatic 57, 3)), (26, (.istore_n 2, 1)), (27, (.iinc 3 1, 3)), (30, (.goto (-26), 3)), (33, (.iload_n 2, 1)), (34, (.ireturn, 1))]
set_option maxRecDepth 100000 in
theorem okR_greatestBroken : ∀ a ∈ kR_greatestBroken, decode bR_greatestBroken a.1 = .ok a.2 := by decide +kernel
def kR_greatestGrowth : List (Nat × (Instr × Nat)) := [(0, (.iconst 0, 1)), (1, (.istore_n 1, 1)), (2, (.iconst 0, 1)), (3, (.istore_n 2, 1)), (4, (.iload_n 2, 1)), (5, (.bipush 24, 2)), (7, (.if_icmp .ge 27, 3)), (10, (.iload_n 1, 1)), (11, (.aload_n 0, 1)), (12, (.getfield 15, 3)), (15, (.iload_n 2, 1)), (16, (.iaload, 1)), (17, (.aload_n 0, 1)), (18, (.getfield 18, 3)), (21, (.iload_n 2, 1)), (22, (.iaload, 1)), (23, (.isub, 1)), (24, (.invokestatic 57, 3)), (27, (.istore_n 1, 1)), (28, (.iinc 2 1, 3)), (31, (.goto (-27), 3)), (34, (.iload_n 1, 1)), (35, (.ireturn, 1))]
set_option maxRecDepth 100000 in
theorem okR_greatestGrowth : ∀ a ∈ kR_greatestGrowth, decode bR_greatestGrowth a.1 = .ok a.2 := by decide +kernel
def kR_oldestLook : List (Nat × (Instr × Nat)) := [(0, (.sipush 2000, 3)), (3, (.istore_n 1, 1)), (4, (.iconst 0, 1)), (5, (.istore_n 2, 1)), (6, (.iload_n 2, 1)), (7, (.bipush 24, 2)), (9, (.if_icmp .ge 20, 3)), (12, (.iload_n 1, 1)), (13, (.aload_n 0, 1)), (14, (.getfield 21, 3)), (17, (.iload_n 2, 1)), (18, (.iaload, 1)), (19, (.invokestatic 68, 3)), (22, (.istore_n 1, 1)), (23, (.iinc 2 1, 3)), (26, (.goto (-20), 3)), (29, (.iload_n 1, 1)), (30, (.ireturn, 1))]
set_option maxRecDepth 100000 in
theorem okR_oldestLook : ∀ a ∈ kR_oldestLook, decode bR_oldestLook a.1 = .ok a.2 := by decide +kernel
def kR_sectionFigure : List (Nat × (Instr × Nat)) := [(0, (.iload_n 1, 1)), (1, (.ifCond .lt 9, 3)), (4, (.iload_n 1, 1)), (5, (.bipush 24, 2)), (7, (.if_icmp .lt 5, 3)), (10, (.iconst 0, 1)), (11, (.ireturn, 1)), (12, (.iload_n 2, 1)), (13, (.tableswitch 58 0 3 #[31, 38, 44, 51], 31)), (44, (.aload_n 0, 1)), (45, (.getfield 9, 3)), (48, (.iload_n 1, 1)), (49, (.iaload, 1)), (50, (.ireturn, 1)), (51, (.aload_n 0, 1)), (52, (.iload_n 1, 1)), (53, (.invokevirtual 46, 3)), (56, (.ireturn, 1)), (57, (.aload_n 0, 1)), (58, (.getfield 15, 3)), (61, (.iload_n 1, 1)), (62, (.iaload, 1)), (63, (.ireturn, 1)), (64, (.aload_n 0, 1)), (65, (.getfield 18, 3)), (68, (.iload_n 1, 1)), (69, (.iaload, 1)), (70, (.ireturn, 1)), (71, (.aload_n 0, 1)), (72, (.getfield 21, 3)), (75, (.iload_n 1, 1)), (76, (.iaload, 1)), (77, (.ireturn, 1))]
set_option maxRecDepth 100000 in
theorem okR_sectionFigure : ∀ a ∈ kR_sectionFigure, decode bR_sectionFigure a.1 = .ok a.2 := by decide +kernel
def kT_init : List (Nat × (Instr × Nat)) := [(0, (.aload_n 0, 1)), (1, (.invokespecial 3, 3)), (4, (.aload_n 0, 1)), (5, (.bipush 60, 2)), (7, (.newarray .int, 2)), (9, (.putfield 9, 3)), (12, (.aload_n 0, 1)), (13, (.bipush 15, 2)), (15, (.newarray .int, 2)), (17, (.putfield 15, 3)), (20, (.aload_n 0, 1)), (21, (.bipush 15, 2)), (23, (.newarray .int, 2)), (25, (.putfield 18, 3)), (28, (.aload_n 0, 1)), (29, (.bipush 15, 2)), (31, (.newarray .int, 2)), (33, (.putfield 21, 3)), (36, (.aload_n 0, 1)), (37, (.iconst 0, 1)), (38, (.putfield 24, 3)), (41, (.aload_n 0, 1)), (42, (.iconst 0, 1)), (43, (.putfield 28, 3)), (46, (.return_, 1))]
set_option maxRecDepth 100000 in
theorem okT_init : ∀ a ∈ kT_init, decode bT_init a.1 = .ok a.2 := by decide +kernel
def kC_init : List (Nat × (Instr × Nat)) := [(0, (.aload_n 0, 1)), (1, (.invokespecial 1, 3)), (4, (.aload_n 0, 1)), (5, (.new 7, 3)), (8, (.dup, 1)), (9, (.invokespecial 9, 3)), (12, (.putfield 10, 3)), (15, (.aload_n 0, 1)), (16, (.new 16, 3)), (19, (.dup, 1)), (20, (.invokespecial 18, 3)), (23, (.putfield 19, 3)), (26, (.aload_n 0, 1)), (27, (.new 23, 3)), (30, (.dup, 1)), (31, (.invokespecial 25, 3)), (34, (.putfield 26, 3)), (37, (.aload_n 0, 1)), (38, (.new 30, 3)), (41, (.dup, 1)), (42, (.invokespecial 32, 3)), (45, (.putfield 33, 3)), (48, (.return_, 1))]
set_option maxRecDepth 100000 in
theorem okC_init : ∀ a ∈ kC_init, decode bC_init a.1 = .ok a.2 := by decide +kernel
def kC_hang : List (Nat × (Instr × Nat)) := [(0, (.iload_n 1, 1)), (1, (.iconst 1, 1)), (2, (.bipush 99, 2)), (4, (.invokestatic 37, 3)), (7, (.aload_n 0, 1)), (8, (.getfield 10, 3)), (11, (.getfield 41, 3)), (14, (.iconst 5, 1)), (15, (.if_icmp .lt 13, 3)), (18, (.new 45, 3)), (21, (.dup, 1)), (22, (.ldc 47, 2)), (24, (.invokespecial 49, 3)), (27, (.athrow, 1)), (28, (.aload_n 0, 1)), (29, (.getfield 19, 3)), (32, (.aload_n 0, 1)), (33, (.getfield 10, 3)), (36, (.invokevirtual 52, 3)), (39, (.aload_n 0, 1)), (40, (.getfield 10, 3)), (43, (.iload_n 1, 1)), (44, (.invokevirtual 56, 3)), (47, (.aload_n 0, 1)), (48, (.getfield 10, 3)), (51, (.getfield 41, 3)), (54, (.iconst 1, 1)), (55, (.isub, 1)), (56, (.ireturn, 1))]
set_option maxRecDepth 100000 in
theorem okC_hang : ∀ a ∈ kC_hang, decode bC_hang a.1 = .ok a.2 := by decide +kernel
def kC_cut : List (Nat × (Instr × Nat)) := [(0, (.aload_n 0, 1)), (1, (.iload_n 1, 1)), (2, (.invokevirtual 60, 3)), (5, (.pop, 1)), (6, (.aload_n 0, 1)), (7, (.getfield 19, 3)), (10, (.aload_n 0, 1)), (11, (.getfield 10, 3)), (14, (.invokevirtual 52, 3)), (17, (.aload_n 0, 1)), (18, (.getfield 10, 3)), (21, (.iload_n 1, 1)), (22, (.invokevirtual 64, 3)), (25, (.aload_n 0, 1)), (26, (.getfield 10, 3)), (29, (.getfield 41, 3)), (32, (.ireturn, 1))]
set_option maxRecDepth 100000 in
theorem okC_cut : ∀ a ∈ kC_cut, decode bC_cut a.1 = .ok a.2 := by decide +kernel
def kC_swap : List (Nat × (Instr × Nat)) := [(0, (.aload_n 0, 1)), (1, (.iload_n 1, 1)), (2, (.invokevirtual 60, 3)), (5, (.astore_n 3, 1)), (6, (.iload_n 2, 1)), (7, (.iconst 1, 1)), (8, (.bipush 99, 2)), (10, (.invokestatic 37, 3)), (13, (.aload_n 3, 1)), (14, (.invokevirtual 67, 3)), (17, (.istore 4, 2)), (19, (.aload_n 0, 1)), (20, (.getfield 19, 3)), (23, (.aload_n 0, 1)), (24, (.getfield 10, 3)), (27, (.invokevirtual 52, 3)), (30, (.aload_n 3, 1)), (31, (.iload_n 2, 1)), (32, (.aload_n 0, 1)), (33, (.getfield 10, 3)), (36, (.getfield 71, 3)), (39, (.invokevirtual 74, 3)), (42, (.aload_n 0, 1)), (43, (.getfield 10, 3)), (46, (.dup, 1)), (47, (.getfield 78, 3)), (50, (.iconst 1, 1)), (51, (.iadd, 1)), (52, (.putfield 78, 3)), (55, (.iload 4, 2)), (57, (.ireturn, 1))]
set_option maxRecDepth 100000 in
theorem okC_swap : ∀ a ∈ kC_swap, decode bC_swap a.1 = .ok a.2 := by decide +kernel
def kC_inspect : List (Nat × (Instr × Nat)) := [(0, (.aload_n 0, 1)), (1, (.iload_n 1, 1)), (2, (.invokevirtual 60, 3)), (5, (.astore 4, 2)), (7, (.iload_n 2, 1)), (8, (.iload_n 3, 1)), (9, (.invokestatic 81, 3)), (12, (.aload 4, 2)), (14, (.invokevirtual 84, 3)), (17, (.istore 5, 2)), (19, (.aload_n 0, 1)), (20, (.getfield 19, 3)), (23, (.aload_n 0, 1)), (24, (.getfield 10, 3)), (27, (.invokevirtual 52, 3)), (30, (.aload 4, 2)), (32, (.iload_n 2, 1)), (33, (.iload_n 3, 1)), (34, (.aload_n 0, 1)), (35, (.getfield 10, 3)), (38, (.getfield 71, 3)), (41, (.invokevirtual 87, 3)), (44, (.aload_n 0, 1)), (45, (.getfield 10, 3)), (48, (.dup, 1)), (49, (.getfield 90, 3)), (52, (.iload_n 3, 1)), (53, (.iload_n 2, 1)), (54, (.isub, 1)), (55, (.iconst 1, 1)), (56, (.iadd, 1)), (57, (.iadd, 1)), (58, (.putfield 90, 3)), (61, (.aload 4, 2)), (63, (.invokevirtual 84, 3)), (66, (.iload 5, 2)), (68, (.isub, 1)), (69, (.ireturn, 1))]
set_option maxRecDepth 100000 in
theorem okC_inspect : ∀ a ∈ kC_inspect, decode bC_inspect a.1 = .ok a.2 := by decide +kernel
def kC_set : List (Nat × (Instr × Nat)) := [(0, (.iload_n 1, 1)), (1, (.iconst 5, 1)), (2, (.invokestatic 93, 3)), (5, (.iload_n 2, 1)), (6, (.getstatic 96, 3)), (9, (.iload_n 1, 1)), (10, (.iaload, 1)), (11, (.getstatic 100, 3)), (14, (.iload_n 1, 1)), (15, (.iaload, 1)), (16, (.invokestatic 37, 3)), (19, (.aload_n 0, 1)), (20, (.getfield 10, 3)), (23, (.getfield 103, 3)), (26, (.iload_n 1, 1)), (27, (.iaload, 1)), (28, (.istore_n 3, 1)), (29, (.aload_n 0, 1)), (30, (.getfield 19, 3)), (33, (.aload_n 0, 1)), (34, (.getfield 10, 3)), (37, (.invokevirtual 52, 3)), (40, (.aload_n 0, 1)), (41, (.getfield 10, 3)), (44, (.getfield 103, 3)), (47, (.iload_n 1, 1)), (48, (.iload_n 2, 1)), (49, (.iastore, 1)), (50, (.iload_n 3, 1)), (51, (.ireturn, 1))]
set_option maxRecDepth 100000 in
theorem okC_set : ∀ a ∈ kC_set, decode bC_set a.1 = .ok a.2 := by decide +kernel
def kC_trip : List (Nat × (Instr × Nat)) := [(0, (.iload_n 1, 1)), (1, (.bipush 8, 2)), (3, (.invokestatic 93, 3)), (6, (.iload_n 2, 1)), (7, (.bipush 8, 2)), (9, (.invokestatic 93, 3)), (12, (.iload_n 3, 1)), (13, (.iconst 1, 1)), (14, (.bipush 99, 2)), (16, (.invokestatic 37, 3)), (19, (.aload_n 0, 1)), (20, (.iload_n 3, 1)), (21, (.invokevirtual 106, 3)), (24, (.aload_n 0, 1)), (25, (.getfield 19, 3)), (28, (.aload_n 0, 1)), (29, (.getfield 10, 3)), (32, (.invokevirtual 52, 3)), (35, (.aload_n 0, 1)), (36, (.getfield 10, 3)), (39, (.iload_n 1, 1)), (40, (.iload_n 2, 1)), (41, (.iload_n 3, 1)), (42, (.invokevirtual 109, 3)), (45, (.aload_n 0, 1)), (46, (.getfield 10, 3)), (49, (.getfield 112, 3)), (52, (.ireturn, 1))]
set_option maxRecDepth 100000 in
theorem okC_trip : ∀ a ∈ kC_trip, decode bC_trip a.1 = .ok a.2 := by decide +kernel
def kC_pass : List (Nat × (Instr × Nat)) := [(0, (.iload_n 1, 1)), (1, (.iconst 1, 1)), (2, (.bipush 24, 2)), (4, (.invokestatic 37, 3)), (7, (.aload_n 0, 1)), (8, (.getfield 10, 3)), (11, (.getfield 71, 3)), (14, (.iload_n 1, 1)), (15, (.iadd, 1)), (16, (.sipush 2000, 3)), (19, (.if_icmp .le 13, 3)), (22, (.new 45, 3)), (25, (.dup, 1)), (26, (.ldc 115, 2)), (28, (.invokespecial 49, 3)), (31, (.athrow, 1)), (32, (.aload_n 0, 1)), (33, (.getfield 19, 3)), (36, (.aload_n 0, 1)), (37, (.getfield 10, 3)), (40, (.invokevirtual 52, 3)), (43, (.aload_n 0, 1)), (44, (.getfield 10, 3)), (47, (.dup, 1)), (48, (.getfield 71, 3)), (51, (.iload_n 1, 1)), (52, (.iadd, 1)), (53, (.putfield 71, 3)), (56, (.aload_n 0, 1)), (57, (.getfield 10, 3)), (60, (.invokevirtual 117, 3)), (63, (.ireturn, 1))]
set_option maxRecDepth 100000 in
theorem okC_pass : ∀ a ∈ kC_pass, decode bC_pass a.1 = .ok a.2 := by decide +kernel
def kC_undo : List (Nat × (Instr × Nat)) := [(0, (.aload_n 0, 1)), (1, (.getfield 19, 3)), (4, (.getfield 155, 3)), (7, (.ifCond .ne 13, 3)), (10, (.new 45, 3)), (13, (.dup, 1)), (14, (.ldc 158, 2)), (16, (.invokespecial 49, 3)), (19, (.athrow, 1)), (20, (.aload_n 0, 1)), (21, (.getfield 19, 3)), (24, (.aload_n 0, 1)), (25, (.getfield 10, 3)), (28, (.invokevirtual 160, 3)), (31, (.aload_n 0, 1)), (32, (.getfield 19, 3)), (35, (.getfield 155, 3)), (38, (.ireturn, 1))]
set_option maxRecDepth 100000 in
theorem okC_undo : ∀ a ∈ kC_undo, decode bC_undo a.1 = .ok a.2 := by decide +kernel
def kC_rope : List (Nat × (Instr × Nat)) := [(0, (.aload_n 0, 1)), (1, (.iload_n 1, 1)), (2, (.invokevirtual 60, 3)), (5, (.astore_n 3, 1)), (6, (.iload_n 2, 1)), (7, (.iconst 0, 1)), (8, (.bipush 9, 2)), (10, (.invokestatic 37, 3)), (13, (.aload_n 0, 1)), (14, (.aload_n 3, 1)), (15, (.iload_n 2, 1)), (16, (.invokevirtual 163, 3)), (19, (.ireturn, 1))]
set_option maxRecDepth 100000 in
theorem okC_rope : ∀ a ∈ kC_rope, decode bC_rope a.1 = .ok a.2 := by decide +kernel
def kC_section : List (Nat × (Instr × Nat)) := [(0, (.aload_n 0, 1)), (1, (.iload_n 1, 1)), (2, (.invokevirtual 60, 3)), (5, (.astore 4, 2)), (7, (.iload_n 2, 1)), (8, (.bipush 24, 2)), (10, (.invokestatic 93, 3)), (13, (.iload_n 3, 1)), (14, (.iconst 0, 1)), (15, (.iconst 4, 1)), (16, (.invokestatic 37, 3)), (19, (.aload 4, 2)), (21, (.iload_n 2, 1)), (22, (.iload_n 3, 1)), (23, (.invokevirtual 167, 3)), (26, (.ireturn, 1))]
set_option maxRecDepth 100000 in
theorem okC_section : ∀ a ∈ kC_section, decode bC_section a.1 = .ok a.2 := by decide +kernel
def kC_window : List (Nat × (Instr × Nat)) := [(0, (.aload_n 0, 1)), (1, (.iload_n 1, 1)), (2, (.invokevirtual 60, 3)), (5, (.astore 4, 2)), (7, (.iload_n 2, 1)), (8, (.aload_n 0, 1)), (9, (.getfield 10, 3)), (12, (.invokevirtual 171, 3)), (15, (.invokestatic 93, 3)), (18, (.iload_n 3, 1)), (19, (.iconst 0, 1)), (20, (.iconst 1, 1)), (21, (.invokestatic 37, 3)), (24, (.aload_n 0, 1)), (25, (.aload 4, 2)), (27, (.iload_n 2, 1)), (28, (.iload_n 3, 1)), (29, (.invokevirtual 174, 3)), (32, (.ireturn, 1))]
set_option maxRecDepth 100000 in
theorem okC_window : ∀ a ∈ kC_window, decode bC_window a.1 = .ok a.2 := by decide +kernel
def kC_count : List (Nat × (Instr × Nat)) := [(0, (.iload_n 1, 1)), (1, (.iconst 0, 1)), (2, (.bipush 8, 2)), (4, (.invokestatic 37, 3)), (7, (.aload_n 0, 1)), (8, (.iload_n 1, 1)), (9, (.invokevirtual 178, 3)), (12, (.ireturn, 1))]
set_option maxRecDepth 100000 in
theorem okC_count : ∀ a ∈ kC_count, decode bC_count a.1 = .ok a.2 := by decide +kernel
def kC_setting : List (Nat × (Instr × Nat)) := [(0, (.iload_n 1, 1)), (1, (.iconst 5, 1)), (2, (.invokestatic 93, 3)), (5, (.aload_n 0, 1)), (6, (.getfield 10, 3)), (9, (.getfield 103, 3)), (12, (.iload_n 1, 1)), (13, (.iaload, 1)), (14, (.ireturn, 1))]
set_option maxRecDepth 100000 in
theorem okC_setting : ∀ a ∈ kC_setting, decode bC_setting a.1 = .ok a.2 := by decide +kernel
def kC_ifInspected : List (Nat × (Instr × Nat)) := [(0, (.aload_n 0, 1)), (1, (.iload_n 1, 1)), (2, (.invokevirtual 60, 3)), (5, (.astore 4, 2)), (7, (.iload_n 2, 1)), (8, (.iload_n 3, 1)), (9, (.invokestatic 81, 3)), (12, (.aload_n 0, 1)), (13, (.aload 4, 2)), (15, (.iload_n 2, 1)), (16, (.iload_n 3, 1)), (17, (.invokevirtual 182, 3)), (20, (.ireturn, 1))]
set_option maxRecDepth 100000 in
theorem okC_ifInspected : ∀ a ∈ kC_ifInspected, decode bC_ifInspected a.1 = .ok a.2 := by decide +kernel
def kC_tripsLeft : List (Nat × (Instr × Nat)) := [(0, (.aload_n 0, 1)), (1, (.aload_n 0, 1)), (2, (.iload_n 1, 1)), (3, (.invokevirtual 60, 3)), (6, (.invokevirtual 188, 3)), (9, (.ireturn, 1))]
set_option maxRecDepth 100000 in
theorem okC_tripsLeft : ∀ a ∈ kC_tripsLeft, decode bC_tripsLeft a.1 = .ok a.2 := by decide +kernel
def kC_unseen : List (Nat × (Instr × Nat)) := [(0, (.aload_n 0, 1)), (1, (.invokevirtual 192, 3)), (4, (.ireturn, 1))]
set_option maxRecDepth 100000 in
theorem okC_unseen : ∀ a ∈ kC_unseen, decode bC_unseen a.1 = .ok a.2 := by decide +kernel
def kC_countedShare : List (Nat × (Instr × Nat)) := [(0, (.aload_n 0, 1)), (1, (.invokevirtual 195, 3)), (4, (.dreturn, 1))]
set_option maxRecDepth 100000 in
theorem okC_countedShare : ∀ a ∈ kC_countedShare, decode bC_countedShare a.1 = .ok a.2 := by decide +kernel
def kC_existingRope : List (Nat × (Instr × Nat)) := [(0, (.aload_n 0, 1)), (1, (.getfield 10, 3)), (4, (.iload_n 1, 1)), (5, (.invokevirtual 205, 3)), (8, (.astore_n 2, 1)), (9, (.aload_n 2, 1)), (10, (.ifnonnull 13, 3)), (13, (.new 219, 3)), (16, (.dup, 1)), (17, (.ldc 221, 2)), (19, (.invokespecial 223, 3)), (22, (.athrow, 1)), (23, (.aload_n 2, 1)), (24, (.areturn, 1))]
set_option maxRecDepth 100000 in
theorem okC_existingRope : ∀ a ∈ kC_existingRope, decode bC_existingRope a.1 = .ok a.2 := by decide +kernel
def kC_requireIndex : List (Nat × (Instr × Nat)) := [(0, (.iload_n 0, 1)), (1, (.ifCond .lt 8, 3)), (4, (.iload_n 0, 1)), (5, (.iload_n 1, 1)), (6, (.if_icmp .lt 13, 3)), (9, (.new 219, 3)), (12, (.dup, 1)), (13, (.ldc 224, 2)), (15, (.invokespecial 223, 3)), (18, (.athrow, 1)), (19, (.return_, 1))]
set_option maxRecDepth 100000 in
theorem okC_requireIndex : ∀ a ∈ kC_requireIndex, decode bC_requireIndex a.1 = .ok a.2 := by decide +kernel
def kC_requireRange : List (Nat × (Instr × Nat)) := [(0, (.iload_n 0, 1)), (1, (.iload_n 1, 1)), (2, (.if_icmp .lt 8, 3)), (5, (.iload_n 0, 1)), (6, (.iload_n 2, 1)), (7, (.if_icmp .le 13, 3)), (10, (.new 135, 3)), (13, (.dup, 1)), (14, (.ldc 226, 2)), (16, (.invokespecial 139, 3)), (19, (.athrow, 1)), (20, (.return_, 1))]
set_option maxRecDepth 100000 in
theorem okC_requireRange : ∀ a ∈ kC_requireRange, decode bC_requireRange a.1 = .ok a.2 := by decide +kernel
def kC_requireSections : List (Nat × (Instr × Nat)) := [(0, (.iload_n 0, 1)), (1, (.bipush 24, 2)), (3, (.invokestatic 93, 3)), (6, (.iload_n 1, 1)), (7, (.bipush 24, 2)), (9, (.invokestatic 93, 3)), (12, (.iload_n 1, 1)), (13, (.iload_n 0, 1)), (14, (.if_icmp .ge 13, 3)), (17, (.new 135, 3)), (20, (.dup, 1)), (21, (.ldc 228, 2)), (23, (.invokespecial 139, 3)), (26, (.athrow, 1)), (27, (.return_, 1))]
set_option maxRecDepth 100000 in
theorem okC_requireSections : ∀ a ∈ kC_requireSections, decode bC_requireSections a.1 = .ok a.2 := by decide +kernel
def kC_requireTripsAllowed : List (Nat × (Instr × Nat)) := [(0, (.aload_n 0, 1)), (1, (.getfield 10, 3)), (4, (.invokevirtual 230, 3)), (7, (.ifCond .eq 17, 3)), (10, (.aload_n 0, 1)), (11, (.getfield 10, 3)), (14, (.getfield 112, 3)), (17, (.iload_n 1, 1)), (18, (.iadd, 1)), (19, (.ldc 233, 2)), (21, (.if_icmp .le 13, 3)), (24, (.new 45, 3)), (27, (.dup, 1)), (28, (.ldc 234, 2)), (30, (.invokespecial 49, 3)), (33, (.athrow, 1)), (34, (.return_, 1))]
set_option maxRecDepth 100000 in
theorem okC_requireTripsAllowed : ∀ a ∈ kC_requireTripsAllowed, decode bC_requireTripsAllowed a.1 = .ok a.2 := by decide +kernel
def kC_ropeFigure : List (Nat × (Instr × Nat)) := [(0, (.aload_n 0, 1)), (1, (.getfield 10, 3)), (4, (.getfield 103, 3)), (7, (.iconst 0, 1)), (8, (.iaload, 1)), (9, (.istore_n 3, 1)), (10, (.iload_n 2, 1)), (11, (.tableswitch 105 0 8 #[49, 54, 59, 64, 69, 75, 81, 87, 96], 49)), (60, (.aload_n 1, 1)), (61, (.getfield 236, 3)), (64, (.ireturn, 1)), (65, (.aload_n 1, 1)), (66, (.getfield 239, 3)), (69, (.ireturn, 1)), (70, (.aload_n 1, 1)), (71, (.invokevirtual 84, 3)), (74, (.ireturn, 1)), (75, (.aload_n 1, 1)), (76, (.invokevirtual 67, 3)), (79, (.ireturn, 1)), (80, (.aload_n 1, 1)), (81, (.iload_n 3, 1)), (82, (.invokevirtual 242, 3)), (85, (.ireturn, 1)), (86, (.aload_n 1, 1)), (87, (.iload_n 3, 1)), (88, (.invokevirtual 245, 3)), (91, (.ireturn, 1)), (92, (.aload_n 1, 1)), (93, (.iload_n 3, 1)), (94, (.invokevirtual 248, 3)), (97, (.ireturn, 1)), (98, (.aload_n 0, 1)), (99, (.getfield 10, 3)), (102, (.aload_n 1, 1)), (103, (.invokevirtual 251, 3)), (106, (.ireturn, 1)), (107, (.aload_n 0, 1)), (108, (.getfield 10, 3)), (111, (.aload_n 1, 1)), (112, (.invokevirtual 254, 3)), (115, (.ireturn, 1)), (116, (.aload_n 1, 1)), (117, (.getfield 257, 3)), (120, (.ireturn, 1))]
set_option maxRecDepth 100000 in
theorem okC_ropeFigure : ∀ a ∈ kC_ropeFigure, decode bC_ropeFigure a.1 = .ok a.2 := by decide +kernel
def kC_windowFigure : List (Nat × (Instr × Nat)) := [(0, (.iload_n 2, 1)), (1, (.aload_n 0, 1)), (2, (.getfield 10, 3)), (5, (.getfield 103, 3)), (8, (.iconst 0, 1)), (9, (.iaload, 1)), (10, (.iadd, 1)), (11, (.iconst 1, 1)), (12, (.isub, 1)), (13, (.istore 4, 2)), (15, (.iload_n 3, 1)), (16, (.ifCond .ne 13, 3)), (19, (.aload_n 1, 1)), (20, (.iload_n 2, 1)), (21, (.iload 4, 2)), (23, (.invokevirtual 258, 3)), (26, (.goto 10, 3)), (29, (.aload_n 1, 1)), (30, (.iload_n 2, 1)), (31, (.iload 4, 2)), (33, (.invokevirtual 261, 3)), (36, (.ireturn, 1))]
set_option maxRecDepth 100000 in
theorem okC_windowFigure : ∀ a ∈ kC_windowFigure, decode bC_windowFigure a.1 = .ok a.2 := by decide +kernel
def kC_countFigure : List (Nat × (Instr × Nat)) := [(0, (.iload_n 1, 1)), (1, (.tableswitch 127 0 7 #[47, 55, 63, 71, 87, 95, 103, 111], 47)), (48, (.aload_n 0, 1)), (49, (.getfield 10, 3)), (52, (.getfield 71, 3)), (55, (.ireturn, 1)), (56, (.aload_n 0, 1)), (57, (.getfield 10, 3)), (60, (.getfield 41, 3)), (63, (.ireturn, 1)), (64, (.aload_n 0, 1)), (65, (.getfield 10, 3)), (68, (.invokevirtual 117, 3)), (71, (.ireturn, 1)), (72, (.aload_n 0, 1)), (73, (.getfield 10, 3)), (76, (.invokevirtual 230, 3)), (79, (.ifCond .eq 7, 3)), (82, (.iconst 1, 1)), (83, (.goto 4, 3)), (86, (.iconst 0, 1)), (87, (.ireturn, 1)), (88, (.aload_n 0, 1)), (89, (.getfield 10, 3)), (92, (.getfield 112, 3)), (95, (.ireturn, 1)), (96, (.aload_n 0, 1)), (97, (.getfield 10, 3)), (100, (.getfield 90, 3)), (103, (.ireturn, 1)), (104, (.aload_n 0, 1)), (105, (.getfield 10, 3)), (108, (.getfield 78, 3)), (111, (.ireturn, 1)), (112, (.aload_n 0, 1)), (113, (.getfield 10, 3)), (116, (.invokevirtual 264, 3)), (119, (.aload_n 0, 1)), (120, (.getfield 10, 3)), (123, (.invokevirtual 267, 3)), (126, (.isub, 1)), (127, (.ireturn, 1)), (128, (.aload_n 0, 1)), (129, (.getfield 19, 3)), (132, (.getfield 155, 3)), (135, (.ireturn, 1))]
set_option maxRecDepth 100000 in
theorem okC_countFigure : ∀ a ∈ kC_countFigure, decode bC_countFigure a.1 = .ok a.2 := by decide +kernel
def kC_reasonIfInspected : List (Nat × (Instr × Nat)) := [(0, (.aload_n 0, 1)), (1, (.getfield 33, 3)), (4, (.aload_n 1, 1)), (5, (.invokevirtual 270, 3)), (8, (.aload_n 0, 1)), (9, (.getfield 33, 3)), (12, (.iload_n 2, 1)), (13, (.iload_n 3, 1)), (14, (.aload_n 0, 1)), (15, (.getfield 10, 3)), (18, (.getfield 71, 3)), (21, (.invokevirtual 87, 3)), (24, (.aload_n 0, 1)), (25, (.getfield 10, 3)), (28, (.aload_n 0, 1)), (29, (.getfield 33, 3)), (32, (.invokevirtual 251, 3)), (35, (.ireturn, 1))]
set_option maxRecDepth 100000 in
theorem okC_reasonIfInspected : ∀ a ∈ kC_reasonIfInspected, decode bC_reasonIfInspected a.1 = .ok a.2 := by decide +kernel
def kC_tripsToLimit : List (Nat × (Instr × Nat)) := [(0, (.iconst 0, 1)), (1, (.istore_n 2, 1)), (2, (.aload_n 0, 1)), (3, (.getfield 10, 3)), (6, (.getfield 103, 3)), (9, (.iconst 1, 1)), (10, (.iaload, 1)), (11, (.aload_n 1, 1)), (12, (.getfield 236, 3)), (15, (.imul, 1)), (16, (.istore_n 3, 1)), (17, (.iconst 0, 1)), (18, (.istore 4, 2)), (20, (.iload 4, 2)), (22, (.bipush 32, 2)), (24, (.if_icmp .ge 42, 3)), (27, (.iload_n 2, 1)), (28, (.iload_n 3, 1)), (29, (.if_icmp .ge 37, 3)), (32, (.iload_n 2, 1)), (33, (.iload_n 3, 1)), (34, (.iadd, 1)), (35, (.iconst 2, 1)), (36, (.idiv, 1)), (37, (.istore 5, 2)), (39, (.aload_n 0, 1)), (40, (.aload_n 1, 1)), (41, (.iload 5, 2)), (43, (.invokevirtual 274, 3)), (46, (.ifCond .eq 9, 3)), (49, (.iload 5, 2)), (51, (.istore_n 3, 1)), (52, (.goto 8, 3)), (55, (.iload 5, 2)), (57, (.iconst 1, 1)), (58, (.iadd, 1)), (59, (.istore_n 2, 1)), (60, (.iinc 4 1, 3)), (63, (.goto (-43), 3)), (66, (.iload_n 2, 1)), (67, (.ireturn, 1))]
set_option maxRecDepth 100000 in
theorem okC_tripsToLimit : ∀ a ∈ kC_tripsToLimit, decode bC_tripsToLimit a.1 = .ok a.2 := by decide +kernel
def kC_reachesLimit : List (Nat × (Instr × Nat)) := [(0, (.aload_n 0, 1)), (1, (.getfield 33, 3)), (4, (.aload_n 1, 1)), (5, (.invokevirtual 270, 3)), (8, (.aload_n 0, 1)), (9, (.getfield 33, 3)), (12, (.iconst 0, 1)), (13, (.bipush 23, 2)), (15, (.iload_n 2, 1)), (16, (.invokevirtual 278, 3)), (19, (.aload_n 0, 1)), (20, (.getfield 33, 3)), (23, (.aload_n 0, 1)), (24, (.getfield 10, 3)), (27, (.getfield 103, 3)), (30, (.iconst 0, 1)), (31, (.iaload, 1)), (32, (.invokevirtual 248, 3)), (35, (.aload_n 0, 1)), (36, (.getfield 10, 3)), (39, (.getfield 103, 3)), (42, (.iconst 1, 1)), (43, (.iaload, 1)), (44, (.if_icmp .lt 7, 3)), (47, (.iconst 1, 1)), (48, (.goto 4, 3)), (51, (.iconst 0, 1)), (52, (.ireturn, 1))]
set_option maxRecDepth 100000 in
theorem okC_reachesLimit : ∀ a ∈ kC_reachesLimit, decode bC_reachesLimit a.1 = .ok a.2 := by decide +kernel
def kC_lowestUnseen : List (Nat × (Instr × Nat)) := [(0, (.iconst 0, 1)), (1, (.istore_n 1, 1)), (2, (.iload_n 1, 1)), (3, (.aload_n 0, 1)), (4, (.getfield 10, 3)), (7, (.getfield 41, 3)), (10, (.if_icmp .ge 54, 3)), (13, (.aload_n 0, 1)), (14, (.getfield 10, 3)), (17, (.iload_n 1, 1)), (18, (.invokevirtual 205, 3)), (21, (.astore_n 2, 1)), (22, (.aload_n 2, 1)), (23, (.ifnull 35, 3)), (26, (.aload_n 0, 1)), (27, (.getfield 10, 3)), (30, (.aload_n 2, 1)), (31, (.invokevirtual 251, 3)), (34, (.ifCond .ne 24, 3)), (37, (.aload_n 0, 1)), (38, (.aload_n 2, 1)), (39, (.iconst 0, 1)), (40, (.bipush 23, 2)), (42, (.invokevirtual 182, 3)), (45, (.istore_n 3, 1)), (46, (.iload_n 3, 1)), (47, (.iconst 1, 1)), (48, (.if_icmp .eq 8, 3)), (51, (.iload_n 3, 1)), (52, (.iconst 2, 1)), (53, (.if_icmp .ne 5, 3)), (56, (.iload_n 1, 1)), (57, (.ireturn, 1)), (58, (.iinc 1 1, 3)), (61, (.goto (-59), 3)), (64, (.iconst (-1), 1)), (65, (.ireturn, 1))]
set_option maxRecDepth 100000 in
theorem okC_lowestUnseen : ∀ a ∈ kC_lowestUnseen, decode bC_lowestUnseen a.1 = .ok a.2 := by decide +kernel
def kC_shareCounted : List (Nat × (Instr × Nat)) := [(0, (.aload_n 0, 1)), (1, (.getfield 10, 3)), (4, (.invokevirtual 264, 3)), (7, (.istore_n 1, 1)), (8, (.iload_n 1, 1)), (9, (.ifCond .ne 5, 3)), (12, (.dconst 1, 1)), (13, (.dreturn, 1)), (14, (.aload_n 0, 1)), (15, (.getfield 10, 3)), (18, (.invokevirtual 267, 3)), (21, (.i2d, 1)), (22, (.iload_n 1, 1)), (23, (.i2d, 1)), (24, (.ddiv, 1)), (25, (.dreturn, 1))]
set_option maxRecDepth 100000 in
theorem okC_shareCounted : ∀ a ∈ kC_shareCounted, decode bC_shareCounted a.1 = .ok a.2 := by decide +kernel
def kJM_floorMod : List (Nat × (Instr × Nat)) := [(0, (.iload_n 0, 1)), (1, (.iload_n 1, 1)), (2, (.irem, 1)), (3, (.istore_n 2, 1)), (4, (.iload_n 0, 1)), (5, (.iload_n 1, 1)), (6, (.ixor, 1)), (7, (.ifCond .ge 11, 3)), (10, (.iload_n 2, 1)), (11, (.ifCond .eq 7, 3)), (14, (.iload_n 2, 1)), (15, (.iload_n 1, 1)), (16, (.iadd, 1)), (17, (.ireturn, 1)), (18, (.iload_n 2, 1)), (19, (.ireturn, 1))]
set_option maxRecDepth 100000 in
theorem okJM_floorMod : ∀ a ∈ kJM_floorMod, decode bJM_floorMod a.1 = .ok a.2 := by decide +kernel
def kJM_max : List (Nat × (Instr × Nat)) := [(0, (.iload_n 0, 1)), (1, (.iload_n 1, 1)), (2, (.if_icmp .lt 7, 3)), (5, (.iload_n 0, 1)), (6, (.goto 4, 3)), (9, (.iload_n 1, 1)), (10, (.ireturn, 1))]
set_option maxRecDepth 100000 in
theorem okJM_max : ∀ a ∈ kJM_max, decode bJM_max a.1 = .ok a.2 := by decide +kernel
def kJM_min : List (Nat × (Instr × Nat)) := [(0, (.iload_n 0, 1)), (1, (.iload_n 1, 1)), (2, (.if_icmp .gt 7, 3)), (5, (.iload_n 0, 1)), (6, (.goto 4, 3)), (9, (.iload_n 1, 1)), (10, (.ireturn, 1))]
set_option maxRecDepth 100000 in
theorem okJM_min : ∀ a ∈ kJM_min, decode bJM_min a.1 = .ok a.2 := by decide +kernel
def kJA_fill : List (Nat × (Instr × Nat)) := [(0, (.iconst 0, 1)), (1, (.istore_n 2, 1)), (2, (.aload_n 0, 1)), (3, (.arraylength, 1)), (4, (.istore_n 3, 1)), (5, (.iload_n 2, 1)), (6, (.iload_n 3, 1)), (7, (.if_icmp .ge 13, 3)), (10, (.aload_n 0, 1)), (11, (.iload_n 2, 1)), (12, (.iload_n 1, 1)), (13, (.iastore, 1)), (14, (.iinc 2 1, 3)), (17, (.goto (-12), 3)), (20, (.return_, 1))]
set_option maxRecDepth 100000 in
theorem okJA_fill : ∀ a ∈ kJA_fill, decode bJA_fill a.1 = .ok a.2 := by decide +kernel
def kL_low : List (Nat × (Instr × Nat)) := [(0, (.iload_n 0, 1)), (1, (.ldc 7, 2)), (3, (.iand, 1)), (4, (.iload_n 1, 1)), (5, (.irem, 1)), (6, (.ireturn, 1))]
set_option maxRecDepth 100000 in
theorem okL_low : ∀ a ∈ kL_low, decode bL_low a.1 = .ok a.2 := by decide +kernel
def kL_cell : List (Nat × (Instr × Nat)) := [(0, (.iload_n 1, 1)), (1, (.aload_n 0, 1)), (2, (.arraylength, 1)), (3, (.if_icmp .ge 9, 3)), (6, (.aload_n 0, 1)), (7, (.iload_n 1, 1)), (8, (.iaload, 1)), (9, (.goto 11, 3)), (12, (.ldc 8, 2)), (14, (.iload_n 1, 1)), (15, (.imul, 1)), (16, (.sipush 977, 3)), (19, (.iadd, 1)), (20, (.ireturn, 1))]
set_option maxRecDepth 100000 in
theorem okL_cell : ∀ a ∈ kL_cell, decode bL_cell a.1 = .ok a.2 := by decide +kernel
def kL_trip : List (Nat × (Instr × Nat)) := [(0, (.aload_n 0, 1)), (1, (.iload_n 1, 1)), (2, (.iload_n 2, 1)), (3, (.iload_n 3, 1)), (4, (.invokevirtual 9, 3)), (7, (.ireturn, 1)), (8, (.astore 4, 2)), (10, (.bipush (-3), 2)), (12, (.ireturn, 1))]
set_option maxRecDepth 100000 in
theorem okL_trip : ∀ a ∈ kL_trip, decode bL_trip a.1 = .ok a.2 := by decide +kernel
def kL_hang : List (Nat × (Instr × Nat)) := [(0, (.aload_n 0, 1)), (1, (.iload_n 1, 1)), (2, (.invokevirtual 17, 3)), (5, (.ireturn, 1)), (6, (.astore_n 2, 1)), (7, (.bipush (-3), 2)), (9, (.ireturn, 1))]
set_option maxRecDepth 100000 in
theorem okL_hang : ∀ a ∈ kL_hang, decode bL_hang a.1 = .ok a.2 := by decide +kernel
def kL_undo : List (Nat × (Instr × Nat)) := [(0, (.aload_n 0, 1)), (1, (.invokevirtual 21, 3)), (4, (.ireturn, 1)), (5, (.astore_n 1, 1)), (6, (.bipush (-3), 2)), (8, (.ireturn, 1))]
set_option maxRecDepth 100000 in
theorem okL_undo : ∀ a ∈ kL_undo, decode bL_undo a.1 = .ok a.2 := by decide +kernel
def kL_rope : List (Nat × (Instr × Nat)) := [(0, (.iconst 0, 1)), (1, (.istore_n 2, 1)), (2, (.iconst 0, 1)), (3, (.istore_n 3, 1)), (4, (.aload_n 0, 1)), (5, (.iload_n 1, 1)), (6, (.bipush 9, 2)), (8, (.invokevirtual 25, 3)), (11, (.aload_n 0, 1)), (12, (.iconst 4, 1)), (13, (.invokevirtual 29, 3)), (16, (.if_icmp .gt 21, 3)), (19, (.aload_n 0, 1)), (20, (.iload_n 1, 1)), (21, (.iconst 1, 1)), (22, (.invokevirtual 25, 3)), (25, (.aload_n 0, 1)), (26, (.iconst 0, 1)), (27, (.invokevirtual 29, 3)), (30, (.if_icmp .gt 7, 3)), (33, (.iconst 1, 1)), (34, (.goto 4, 3)), (37, (.iconst 0, 1)), (38, (.istore 4, 2)), (40, (.iconst 0, 1)), (41, (.istore 5, 2)), (43, (.iload 5, 2)), (45, (.bipush 24, 2)), (47, (.if_icmp .ge 170, 3)), (50, (.iload 4, 2)), (52, (.ifCond .eq 165, 3)), (55, (.aload_n 0, 1)), (56, (.iload_n 1, 1)), (57, (.iload 5, 2)), (59, (.iconst 1, 1)), (60, (.invokevirtual 32, 3)), (63, (.aload_n 0, 1)), (64, (.iload_n 1, 1)), (65, (.iload 5, 2)), (67, (.iconst 0, 1)), (68, (.invokevirtual 32, 3)), (71, (.aload_n 0, 1)), (72, (.iload_n 1, 1)), (73, (.iconst 0, 1)), (74, (.invokevirtual 25, 3)), (77, (.idiv, 1)), (78, (.if_icmp .ne 45, 3)), (81, (.aload_n 0, 1)), (82, (.iload_n 1, 1)), (83, (.iload 5, 2)), (85, (.iconst 2, 1)), (86, (.invokevirtual 32, 3)), (89, (.aload_n 0, 1)), (90, (.iload_n 1, 1)), (91, (.iload 5, 2)), (93, (.iconst 1, 1)), (94, (.invokevirtual 32, 3)), (97, (.if_icmp .gt 26, 3)), (100, (.aload_n 0, 1)), (101, (.iload_n 1, 1)), (102, (.iload 5, 2)), (104, (.iconst 3, 1)), (105, (.invokevirtual 32, 3)), (108, (.aload_n 0, 1)), (109, (.iload_n 1, 1)), (110, (.iload 5, 2)), (112, (.iconst 2, 1)), (113, (.invokevirtual 32, 3)), (116, (.if_icmp .gt 7, 3)), (119, (.iconst 1, 1)), (120, (.goto 4, 3)), (123, (.iconst 0, 1)), (124, (.istore 4, 2)), (126, (.iload 4, 2)), (128, (.ifCond .eq 58, 3)), (131, (.aload_n 0, 1)), (132, (.iload_n 1, 1)), (133, (.iload 5, 2)), (135, (.iconst 0, 1)), (136, (.invokevirtual 32, 3)), (139, (.aload_n 0, 1)), (140, (.iload_n 1, 1)), (141, (.bipush 9, 2)), (143, (.invokevirtual 25, 3)), (146, (.if_icmp .gt 40, 3)), (149, (.aload_n 0, 1)), (150, (.iload_n 1, 1)), (151, (.iload 5, 2)), (153, (.iconst 4, 1)), (154, (.invokevirtual 32, 3)), (157, (.aload_n 0, 1)), (158, (.iload_n 1, 1)), (159, (.iconst 1, 1)), (160, (.invokevirtual 25, 3)), (163, (.if_icmp .lt 23, 3)), (166, (.aload_n 0, 1)), (167, (.iload_n 1, 1)), (168, (.iload 5, 2)), (170, (.iconst 4, 1)), (171, (.invokevirtual 32, 3)), (174, (.aload_n 0, 1)), (175, (.iconst 0, 1)), (176, (.invokevirtual 29, 3)), (179, (.if_icmp .gt 7, 3)), (182, (.iconst 1, 1)), (183, (.goto 4, 3)), (186, (.iconst 0, 1)), (187, (.istore 4, 2)), (189, (.iload_n 2, 1)), (190, (.aload_n 0, 1)), (191, (.iload_n 1, 1)), (192, (.iload 5, 2)), (194, (.iconst 1, 1)), (195, (.invokevirtual 32, 3)), (198, (.iadd, 1)), (199, (.istore_n 2, 1)), (200, (.iload_n 3, 1)), (201, (.aload_n 0, 1)), (202, (.iload_n 1, 1)), (203, (.iload 5, 2)), (205, (.iconst 2, 1)), (206, (.invokevirtual 32, 3)), (209, (.iadd, 1)), (210, (.istore_n 3, 1)), (211, (.iinc 5 1, 3)), (214, (.goto (-171), 3)), (217, (.iload 4, 2)), (219, (.ifCond .eq 64, 3)), (222, (.aload_n 0, 1)), (223, (.iload_n 1, 1)), (224, (.iconst 2, 1)), (225, (.invokevirtual 25, 3)), (228, (.iload_n 3, 1)), (229, (.if_icmp .ne 54, 3)), (232, (.aload_n 0, 1)), (233, (.iload_n 1, 1)), (234, (.iconst 3, 1)), (235, (.invokevirtual 25, 3)), (238, (.iload_n 2, 1)), (239, (.if_icmp .ne 44, 3)), (242, (.aload_n 0, 1)), (243, (.iload_n 1, 1)), (244, (.iconst 4, 1)), (245, (.invokevirtual 25, 3)), (248, (.aload_n 0, 1)), (249, (.iload_n 1, 1)), (250, (.bipush 6, 2)), (252, (.invokevirtual 25, 3)), (255, (.if_icmp .gt 28, 3)), (258, (.aload_n 0, 1)), (259, (.iload_n 1, 1)), (260, (.aload_n 0, 1)), (261, (.iload_n 1, 1)), (262, (.iconst 5, 1)), (263, (.invokevirtual 25, 3)), (266, (.iconst 0, 1)), (267, (.invokevirtual 35, 3)), (270, (.aload_n 0, 1)), (271, (.iload_n 1, 1)), (272, (.iconst 4, 1)), (273, (.invokevirtual 25, 3)), (276, (.if_icmp .ne 7, 3)), (279, (.iconst 1, 1)), (280, (.goto 4, 3)), (283, (.iconst 0, 1)), (284, (.istore 4, 2)), (286, (.iload 4, 2)), (288, (.ifCond .eq 64, 3)), (291, (.aload_n 0, 1)), (292, (.iload_n 1, 1)), (293, (.bipush 8, 2)), (295, (.invokevirtual 25, 3)), (298, (.ifCond .eq 14, 3)), (301, (.aload_n 0, 1)), (302, (.iload_n 1, 1)), (303, (.bipush 7, 2)), (305, (.invokevirtual 25, 3)), (308, (.iconst 4, 1)), (309, (.if_icmp .eq 43, 3)), (312, (.aload_n 0, 1)), (313, (.iload_n 1, 1)), (314, (.invokevirtual 38, 3)), (317, (.ifCond .ne 7, 3)), (320, (.iconst 1, 1)), (321, (.goto 4, 3)), (324, (.iconst 0, 1)), (325, (.aload_n 0, 1)), (326, (.iload_n 1, 1)), (327, (.bipush 6, 2)), (329, (.invokevirtual 25, 3)), (332, (.aload_n 0, 1)), (333, (.iconst 1, 1)), (334, (.invokevirtual 41, 3)), (337, (.if_icmp .lt 7, 3)), (340, (.iconst 1, 1)), (341, (.goto 4, 3)), (344, (.iconst 0, 1)), (345, (.if_icmp .ne 7, 3)), (348, (.iconst 1, 1)), (349, (.goto 4, 3)), (352, (.iconst 0, 1)), (353, (.istore 4, 2)), (355, (.iload 4, 2)), (357, (.ifCond .eq 32, 3)), (360, (.aload_n 0, 1)), (361, (.iload_n 1, 1)), (362, (.bipush 7, 2)), (364, (.invokevirtual 25, 3)), (367, (.iconst 1, 1)), (368, (.if_icmp .ne 17, 3)), (371, (.aload_n 0, 1)), (372, (.iload_n 1, 1)), (373, (.iconst 4, 1)), (374, (.invokevirtual 25, 3)), (377, (.aload_n 0, 1)), (378, (.iconst 1, 1)), (379, (.invokevirtual 41, 3)), (382, (.if_icmp .lt 7, 3)), (385, (.iconst 1, 1)), (386, (.goto 4, 3)), (389, (.iconst 0, 1)), (390, (.ireturn, 1))]
set_option maxRecDepth 100000 in
theorem okL_rope : ∀ a ∈ kL_rope, decode bL_rope a.1 = .ok a.2 := by decide +kernel
def kL_lift : List (Nat × (Instr × Nat)) := [(0, (.aload_n 0, 1)), (1, (.iconst 1, 1)), (2, (.invokevirtual 29, 3)), (5, (.istore_n 1, 1)), (6, (.iconst 0, 1)), (7, (.istore_n 2, 1)), (8, (.iconst 0, 1)), (9, (.istore_n 3, 1)), (10, (.iconst 0, 1)), (11, (.istore 4, 2)), (13, (.iload_n 1, 1)), (14, (.iconst 5, 1)), (15, (.if_icmp .gt 7, 3)), (18, (.iconst 1, 1)), (19, (.goto 4, 3)), (22, (.iconst 0, 1)), (23, (.istore 5, 2)), (25, (.iconst 0, 1)), (26, (.istore 6, 2)), (28, (.iload 6, 2)), (30, (.iload_n 1, 1)), (31, (.if_icmp .ge 63, 3)), (34, (.iload 5, 2)), (36, (.ifCond .eq 58, 3)), (39, (.aload_n 0, 1)), (40, (.iload 6, 2)), (42, (.invokestatic 44, 3)), (45, (.istore 5, 2)), (47, (.iload_n 2, 1)), (48, (.aload_n 0, 1)), (49, (.iload 6, 2)), (51, (.bipush 7, 2)), (53, (.invokevirtual 25, 3)), (56, (.ifCond .ne 7, 3)), (59, (.iconst 0, 1)), (60, (.goto 4, 3)), (63, (.iconst 1, 1)), (64, (.iadd, 1)), (65, (.istore_n 2, 1)), (66, (.iload_n 3, 1)), (67, (.aload_n 0, 1)), (68, (.iload 6, 2)), (70, (.iconst 3, 1)), (71, (.invokevirtual 25, 3)), (74, (.iadd, 1)), (75, (.istore_n 3, 1)), (76, (.iload 4, 2)), (78, (.aload_n 0, 1)), (79, (.iload 6, 2)), (81, (.iconst 2, 1)), (82, (.invokevirtual 25, 3)), (85, (.iadd, 1)), (86, (.istore 4, 2)), (88, (.iinc 6 1, 3)), (91, (.goto (-63), 3)), (94, (.aload_n 0, 1)), (95, (.invokevirtual 49, 3)), (98, (.istore 6, 2)), (100, (.iload 5, 2)), (102, (.ifCond .eq 36, 3)), (105, (.iload 6, 2)), (107, (.iconst (-1), 1)), (108, (.if_icmp .eq 26, 3)), (111, (.aload_n 0, 1)), (112, (.iload 6, 2)), (114, (.bipush 7, 2)), (116, (.invokevirtual 25, 3)), (119, (.ifCond .ne 19, 3)), (122, (.aload_n 0, 1)), (123, (.iload 6, 2)), (125, (.iconst 0, 1)), (126, (.bipush 23, 2)), (128, (.invokevirtual 52, 3)), (131, (.ifCond .le 7, 3)), (134, (.iconst 1, 1)), (135, (.goto 4, 3)), (138, (.iconst 0, 1)), (139, (.istore 5, 2)), (141, (.iload 5, 2)), (143, (.ifCond .eq 51, 3)), (146, (.aload_n 0, 1)), (147, (.iconst 2, 1)), (148, (.invokevirtual 29, 3)), (151, (.iload_n 2, 1)), (152, (.if_icmp .ne 42, 3)), (155, (.aload_n 0, 1)), (156, (.iconst 3, 1)), (157, (.invokevirtual 29, 3)), (160, (.iload_n 1, 1)), (161, (.iconst 1, 1)), (162, (.if_icmp .le 11, 3)), (165, (.iload_n 2, 1)), (166, (.ifCond .ne 7, 3)), (169, (.iconst 1, 1)), (170, (.goto 4, 3)), (173, (.iconst 0, 1)), (174, (.if_icmp .ne 20, 3)), (177, (.aload_n 0, 1)), (178, (.bipush 7, 2)), (180, (.invokevirtual 29, 3)), (183, (.iload_n 3, 1)), (184, (.iload 4, 2)), (186, (.isub, 1)), (187, (.if_icmp .ne 7, 3)), (190, (.iconst 1, 1)), (191, (.goto 4, 3)), (194, (.iconst 0, 1)), (195, (.istore 5, 2)), (197, (.aload_n 0, 1)), (198, (.invokevirtual 55, 3)), (201, (.dstore 7, 2)), (203, (.iload 5, 2)), (205, (.ifCond .eq 32, 3)), (208, (.dload 7, 2)), (210, (.dconst 0, 1)), (211, (.dcmp .l, 1)), (212, (.ifCond .lt 25, 3)), (215, (.dload 7, 2)), (217, (.dconst 1, 1)), (218, (.dcmp .g, 1)), (219, (.ifCond .gt 18, 3)), (222, (.iload_n 3, 1)), (223, (.ifCond .gt 10, 3)), (226, (.dload 7, 2)), (228, (.dconst 1, 1)), (229, (.dcmp .l, 1)), (230, (.ifCond .ne 7, 3)), (233, (.iconst 1, 1)), (234, (.goto 4, 3)), (237, (.iconst 0, 1)), (238, (.ireturn, 1))]
set_option maxRecDepth 100000 in
theorem okL_lift : ∀ a ∈ kL_lift, decode bL_lift a.1 = .ok a.2 := by decide +kernel
end
section
/-! names and arguments of the methods that are called -/
theorem hy_C_existingRope : (yC_existingRope.cls ≠ "java/lang/invoke/MethodHandle" ∧ yC_existingRope.cls ≠ "java/lang/invoke/VarHandle") ∧ (parseMethodDescriptor yC_existingRope.desc).map (fun d => d.parameters.length) = some 1 := by decide +kernel
theorem hy_C_ropeFigure : (yC_ropeFigure.cls ≠ "java/lang/invoke/MethodHandle" ∧ yC_ropeFigure.cls ≠ "java/lang/invoke/VarHandle") ∧ (parseMethodDescriptor yC_ropeFigure.desc).map (fun d => d.parameters.length) = some 2 := by decide +kernel
theorem hy_C_countFigure : (yC_countFigure.cls ≠ "java/lang/invoke/MethodHandle" ∧ yC_countFigure.cls ≠ "java/lang/invoke/VarHandle") ∧ (parseMethodDescriptor yC_countFigure.desc).map (fun d => d.parameters.length) = some 1 := by decide +kernel
theorem hy_C_requireTripsAllowed : (yC_requireTripsAllowed.cls ≠ "java/lang/invoke/MethodHandle" ∧ yC_requireTripsAllowed.cls ≠ "java/lang/invoke/VarHandle") ∧ (parseMethodDescriptor yC_requireTripsAllowed.desc).map (fun d => d.parameters.length) = some 1 := by decide +kernel
theorem hy_C_windowFigure : (yC_windowFigure.cls ≠ "java/lang/invoke/MethodHandle" ∧ yC_windowFigure.cls ≠ "java/lang/invoke/VarHandle") ∧ (parseMethodDescriptor yC_windowFigure.desc).map (fun d => d.parameters.length) = some 3 := by decide +kernel
theorem hy_C_tripsToLimit : (yC_tripsToLimit.cls ≠ "java/lang/invoke/MethodHandle" ∧ yC_tripsToLimit.cls ≠ "java/lang/invoke/VarHandle") ∧ (parseMethodDescriptor yC_tripsToLimit.desc).map (fun d => d.parameters.length) = some 1 := by decide +kernel
theorem hy_C_reachesLimit : (yC_reachesLimit.cls ≠ "java/lang/invoke/MethodHandle" ∧ yC_reachesLimit.cls ≠ "java/lang/invoke/VarHandle") ∧ (parseMethodDescriptor yC_reachesLimit.desc).map (fun d => d.parameters.length) = some 2 := by decide +kernel
theorem hy_C_lowestUnseen : (yC_lowestUnseen.cls ≠ "java/lang/invoke/MethodHandle" ∧ yC_lowestUnseen.cls ≠ "java/lang/invoke/VarHandle") ∧ (parseMethodDescriptor yC_lowestUnseen.desc).map (fun d => d.parameters.length) = some 0 := by decide +kernel
theorem hy_C_reasonIfInspected : (yC_reasonIfInspected.cls ≠ "java/lang/invoke/MethodHandle" ∧ yC_reasonIfInspected.cls ≠ "java/lang/invoke/VarHandle") ∧ (parseMethodDescriptor yC_reasonIfInspected.desc).map (fun d => d.parameters.length) = some 3 := by decide +kernel
theorem hy_C_shareCounted : (yC_shareCounted.cls ≠ "java/lang/invoke/MethodHandle" ∧ yC_shareCounted.cls ≠ "java/lang/invoke/VarHandle") ∧ (parseMethodDescriptor yC_shareCounted.desc).map (fun d => d.parameters.length) = some 0 := by decide +kernel
theorem hy_C_init : (yC_init.cls ≠ "java/lang/invoke/MethodHandle" ∧ yC_init.cls ≠ "java/lang/invoke/VarHandle") ∧ (parseMethodDescriptor yC_init.desc).map (fun d => d.parameters.length) = some 0 := by decide +kernel
theorem hy_E_init : (yE_init.cls ≠ "java/lang/invoke/MethodHandle" ∧ yE_init.cls ≠ "java/lang/invoke/VarHandle") ∧ (parseMethodDescriptor yE_init.desc).map (fun d => d.parameters.length) = some 0 := by decide +kernel
theorem hy_R_init : (yR_init.cls ≠ "java/lang/invoke/MethodHandle" ∧ yR_init.cls ≠ "java/lang/invoke/VarHandle") ∧ (parseMethodDescriptor yR_init.desc).map (fun d => d.parameters.length) = some 0 := by decide +kernel
theorem hy_H_init : (yH_init.cls ≠ "java/lang/invoke/MethodHandle" ∧ yH_init.cls ≠ "java/lang/invoke/VarHandle") ∧ (parseMethodDescriptor yH_init.desc).map (fun d => d.parameters.length) = some 0 := by decide +kernel
theorem hy_T_init : (yT_init.cls ≠ "java/lang/invoke/MethodHandle" ∧ yT_init.cls ≠ "java/lang/invoke/VarHandle") ∧ (parseMethodDescriptor yT_init.desc).map (fun d => d.parameters.length) = some 0 := by decide +kernel
theorem hy_C_cut : (yC_cut.cls ≠ "java/lang/invoke/MethodHandle" ∧ yC_cut.cls ≠ "java/lang/invoke/VarHandle") ∧ (parseMethodDescriptor yC_cut.desc).map (fun d => d.parameters.length) = some 1 := by decide +kernel
theorem hy_E_ropeAt : (yE_ropeAt.cls ≠ "java/lang/invoke/MethodHandle" ∧ yE_ropeAt.cls ≠ "java/lang/invoke/VarHandle") ∧ (parseMethodDescriptor yE_ropeAt.desc).map (fun d => d.parameters.length) = some 1 := by decide +kernel
theorem hy_JT_init : (yJT_init.cls ≠ "java/lang/invoke/MethodHandle" ∧ yJT_init.cls ≠ "java/lang/invoke/VarHandle") ∧ (parseMethodDescriptor yJT_init.desc).map (fun d => d.parameters.length) = some 0 := by decide +kernel
theorem hy_JT_init2 : (yJT_init2.cls ≠ "java/lang/invoke/MethodHandle" ∧ yJT_init2.cls ≠ "java/lang/invoke/VarHandle") ∧ (parseMethodDescriptor yJT_init2.desc).map (fun d => d.parameters.length) = some 1 := by decide +kernel
theorem hy_H_keep : (yH_keep.cls ≠ "java/lang/invoke/MethodHandle" ∧ yH_keep.cls ≠ "java/lang/invoke/VarHandle") ∧ (parseMethodDescriptor yH_keep.desc).map (fun d => d.parameters.length) = some 1 := by decide +kernel
theorem hy_JM_floorMod : (yJM_floorMod.cls ≠ "java/lang/invoke/MethodHandle" ∧ yJM_floorMod.cls ≠ "java/lang/invoke/VarHandle") ∧ (parseMethodDescriptor yJM_floorMod.desc).map (fun d => d.parameters.length) = some 2 := by decide +kernel
theorem hy_E_copyFrom : (yE_copyFrom.cls ≠ "java/lang/invoke/MethodHandle" ∧ yE_copyFrom.cls ≠ "java/lang/invoke/VarHandle") ∧ (parseMethodDescriptor yE_copyFrom.desc).map (fun d => d.parameters.length) = some 1 := by decide +kernel
theorem hy_R_copyFrom : (yR_copyFrom.cls ≠ "java/lang/invoke/MethodHandle" ∧ yR_copyFrom.cls ≠ "java/lang/invoke/VarHandle") ∧ (parseMethodDescriptor yR_copyFrom.desc).map (fun d => d.parameters.length) = some 1 := by decide +kernel
theorem hy_E_removeRope : (yE_removeRope.cls ≠ "java/lang/invoke/MethodHandle" ∧ yE_removeRope.cls ≠ "java/lang/invoke/VarHandle") ∧ (parseMethodDescriptor yE_removeRope.desc).map (fun d => d.parameters.length) = some 1 := by decide +kernel
theorem hy_C_swap : (yC_swap.cls ≠ "java/lang/invoke/MethodHandle" ∧ yC_swap.cls ≠ "java/lang/invoke/VarHandle") ∧ (parseMethodDescriptor yC_swap.desc).map (fun d => d.parameters.length) = some 2 := by decide +kernel
theorem hy_C_requireRange : (yC_requireRange.cls ≠ "java/lang/invoke/MethodHandle" ∧ yC_requireRange.cls ≠ "java/lang/invoke/VarHandle") ∧ (parseMethodDescriptor yC_requireRange.desc).map (fun d => d.parameters.length) = some 3 := by decide +kernel
theorem hy_R_allBroken : (yR_allBroken.cls ≠ "java/lang/invoke/MethodHandle" ∧ yR_allBroken.cls ≠ "java/lang/invoke/VarHandle") ∧ (parseMethodDescriptor yR_allBroken.desc).map (fun d => d.parameters.length) = some 0 := by decide +kernel
theorem hy_R_sumOfBroken : (yR_sumOfBroken.cls ≠ "java/lang/invoke/MethodHandle" ∧ yR_sumOfBroken.cls ≠ "java/lang/invoke/VarHandle") ∧ (parseMethodDescriptor yR_sumOfBroken.desc).map (fun d => d.parameters.length) = some 2 := by decide +kernel
theorem hy_R_broken : (yR_broken.cls ≠ "java/lang/invoke/MethodHandle" ∧ yR_broken.cls ≠ "java/lang/invoke/VarHandle") ∧ (parseMethodDescriptor yR_broken.desc).map (fun d => d.parameters.length) = some 1 := by decide +kernel
theorem hy_R_renew : (yR_renew.cls ≠ "java/lang/invoke/MethodHandle" ∧ yR_renew.cls ≠ "java/lang/invoke/VarHandle") ∧ (parseMethodDescriptor yR_renew.desc).map (fun d => d.parameters.length) = some 2 := by decide +kernel
theorem hy_JA_fill : (yJA_fill.cls ≠ "java/lang/invoke/MethodHandle" ∧ yJA_fill.cls ≠ "java/lang/invoke/VarHandle") ∧ (parseMethodDescriptor yJA_fill.desc).map (fun d => d.parameters.length) = some 2 := by decide +kernel
theorem hy_C_inspect : (yC_inspect.cls ≠ "java/lang/invoke/MethodHandle" ∧ yC_inspect.cls ≠ "java/lang/invoke/VarHandle") ∧ (parseMethodDescriptor yC_inspect.desc).map (fun d => d.parameters.length) = some 3 := by decide +kernel
theorem hy_C_requireSections : (yC_requireSections.cls ≠ "java/lang/invoke/MethodHandle" ∧ yC_requireSections.cls ≠ "java/lang/invoke/VarHandle") ∧ (parseMethodDescriptor yC_requireSections.desc).map (fun d => d.parameters.length) = some 2 := by decide +kernel
theorem hy_C_requireIndex : (yC_requireIndex.cls ≠ "java/lang/invoke/MethodHandle" ∧ yC_requireIndex.cls ≠ "java/lang/invoke/VarHandle") ∧ (parseMethodDescriptor yC_requireIndex.desc).map (fun d => d.parameters.length) = some 2 := by decide +kernel
theorem hy_R_allCounts : (yR_allCounts.cls ≠ "java/lang/invoke/MethodHandle" ∧ yR_allCounts.cls ≠ "java/lang/invoke/VarHandle") ∧ (parseMethodDescriptor yR_allCounts.desc).map (fun d => d.parameters.length) = some 0 := by decide +kernel
theorem hy_R_sumOfCounts : (yR_sumOfCounts.cls ≠ "java/lang/invoke/MethodHandle" ∧ yR_sumOfCounts.cls ≠ "java/lang/invoke/VarHandle") ∧ (parseMethodDescriptor yR_sumOfCounts.desc).map (fun d => d.parameters.length) = some 2 := by decide +kernel
theorem hy_R_lookAt : (yR_lookAt.cls ≠ "java/lang/invoke/MethodHandle" ∧ yR_lookAt.cls ≠ "java/lang/invoke/VarHandle") ∧ (parseMethodDescriptor yR_lookAt.desc).map (fun d => d.parameters.length) = some 3 := by decide +kernel
theorem hy_C_set : (yC_set.cls ≠ "java/lang/invoke/MethodHandle" ∧ yC_set.cls ≠ "java/lang/invoke/VarHandle") ∧ (parseMethodDescriptor yC_set.desc).map (fun d => d.parameters.length) = some 2 := by decide +kernel
theorem hy_C_pass : (yC_pass.cls ≠ "java/lang/invoke/MethodHandle" ∧ yC_pass.cls ≠ "java/lang/invoke/VarHandle") ∧ (parseMethodDescriptor yC_pass.desc).map (fun d => d.parameters.length) = some 1 := by decide +kernel
theorem hy_E_ropesToRetire : (yE_ropesToRetire.cls ≠ "java/lang/invoke/MethodHandle" ∧ yE_ropesToRetire.cls ≠ "java/lang/invoke/VarHandle") ∧ (parseMethodDescriptor yE_ropesToRetire.desc).map (fun d => d.parameters.length) = some 0 := by decide +kernel
theorem hy_E_reasonFor : (yE_reasonFor.cls ≠ "java/lang/invoke/MethodHandle" ∧ yE_reasonFor.cls ≠ "java/lang/invoke/VarHandle") ∧ (parseMethodDescriptor yE_reasonFor.desc).map (fun d => d.parameters.length) = some 1 := by decide +kernel
theorem hy_R_greatestCounts : (yR_greatestCounts.cls ≠ "java/lang/invoke/MethodHandle" ∧ yR_greatestCounts.cls ≠ "java/lang/invoke/VarHandle") ∧ (parseMethodDescriptor yR_greatestCounts.desc).map (fun d => d.parameters.length) = some 1 := by decide +kernel
theorem hy_JM_max : (yJM_max.cls ≠ "java/lang/invoke/MethodHandle" ∧ yJM_max.cls ≠ "java/lang/invoke/VarHandle") ∧ (parseMethodDescriptor yJM_max.desc).map (fun d => d.parameters.length) = some 2 := by decide +kernel
theorem hy_R_greatestGrowth : (yR_greatestGrowth.cls ≠ "java/lang/invoke/MethodHandle" ∧ yR_greatestGrowth.cls ≠ "java/lang/invoke/VarHandle") ∧ (parseMethodDescriptor yR_greatestGrowth.desc).map (fun d => d.parameters.length) = some 0 := by decide +kernel
theorem hy_E_monthsLeft : (yE_monthsLeft.cls ≠ "java/lang/invoke/MethodHandle" ∧ yE_monthsLeft.cls ≠ "java/lang/invoke/VarHandle") ∧ (parseMethodDescriptor yE_monthsLeft.desc).map (fun d => d.parameters.length) = some 1 := by decide +kernel
theorem hy_R_oldestLook : (yR_oldestLook.cls ≠ "java/lang/invoke/MethodHandle" ∧ yR_oldestLook.cls ≠ "java/lang/invoke/VarHandle") ∧ (parseMethodDescriptor yR_oldestLook.desc).map (fun d => d.parameters.length) = some 0 := by decide +kernel
theorem hy_JM_min : (yJM_min.cls ≠ "java/lang/invoke/MethodHandle" ∧ yJM_min.cls ≠ "java/lang/invoke/VarHandle") ∧ (parseMethodDescriptor yJM_min.desc).map (fun d => d.parameters.length) = some 2 := by decide +kernel
theorem hy_C_rope : (yC_rope.cls ≠ "java/lang/invoke/MethodHandle" ∧ yC_rope.cls ≠ "java/lang/invoke/VarHandle") ∧ (parseMethodDescriptor yC_rope.desc).map (fun d => d.parameters.length) = some 2 := by decide +kernel
theorem hy_R_windowOfGreatestCounts : (yR_windowOfGreatestCounts.cls ≠ "java/lang/invoke/MethodHandle" ∧ yR_windowOfGreatestCounts.cls ≠ "java/lang/invoke/VarHandle") ∧ (parseMethodDescriptor yR_windowOfGreatestCounts.desc).map (fun d => d.parameters.length) = some 1 := by decide +kernel
theorem hy_R_greatestBroken : (yR_greatestBroken.cls ≠ "java/lang/invoke/MethodHandle" ∧ yR_greatestBroken.cls ≠ "java/lang/invoke/VarHandle") ∧ (parseMethodDescriptor yR_greatestBroken.desc).map (fun d => d.parameters.length) = some 1 := by decide +kernel
theorem hy_C_count : (yC_count.cls ≠ "java/lang/invoke/MethodHandle" ∧ yC_count.cls ≠ "java/lang/invoke/VarHandle") ∧ (parseMethodDescriptor yC_count.desc).map (fun d => d.parameters.length) = some 1 := by decide +kernel
theorem hy_E_canRun : (yE_canRun.cls ≠ "java/lang/invoke/MethodHandle" ∧ yE_canRun.cls ≠ "java/lang/invoke/VarHandle") ∧ (parseMethodDescriptor yE_canRun.desc).map (fun d => d.parameters.length) = some 0 := by decide +kernel
theorem hy_E_brokenOfRopes : (yE_brokenOfRopes.cls ≠ "java/lang/invoke/MethodHandle" ∧ yE_brokenOfRopes.cls ≠ "java/lang/invoke/VarHandle") ∧ (parseMethodDescriptor yE_brokenOfRopes.desc).map (fun d => d.parameters.length) = some 0 := by decide +kernel
theorem hy_E_countsOfRopes : (yE_countsOfRopes.cls ≠ "java/lang/invoke/MethodHandle" ∧ yE_countsOfRopes.cls ≠ "java/lang/invoke/VarHandle") ∧ (parseMethodDescriptor yE_countsOfRopes.desc).map (fun d => d.parameters.length) = some 0 := by decide +kernel
theorem hy_L_low : (yL_low.cls ≠ "java/lang/invoke/MethodHandle" ∧ yL_low.cls ≠ "java/lang/invoke/VarHandle") ∧ (parseMethodDescriptor yL_low.desc).map (fun d => d.parameters.length) = some 2 := by decide +kernel
theorem hy_L_cell : (yL_cell.cls ≠ "java/lang/invoke/MethodHandle" ∧ yL_cell.cls ≠ "java/lang/invoke/VarHandle") ∧ (parseMethodDescriptor yL_cell.desc).map (fun d => d.parameters.length) = some 2 := by decide +kernel
theorem hy_L_trip : (yL_trip.cls ≠ "java/lang/invoke/MethodHandle" ∧ yL_trip.cls ≠ "java/lang/invoke/VarHandle") ∧ (parseMethodDescriptor yL_trip.desc).map (fun d => d.parameters.length) = some 4 := by decide +kernel
theorem hy_C_trip : (yC_trip.cls ≠ "java/lang/invoke/MethodHandle" ∧ yC_trip.cls ≠ "java/lang/invoke/VarHandle") ∧ (parseMethodDescriptor yC_trip.desc).map (fun d => d.parameters.length) = some 3 := by decide +kernel
theorem hy_E_travel : (yE_travel.cls ≠ "java/lang/invoke/MethodHandle" ∧ yE_travel.cls ≠ "java/lang/invoke/VarHandle") ∧ (parseMethodDescriptor yE_travel.desc).map (fun d => d.parameters.length) = some 3 := by decide +kernel
theorem hy_R_bend : (yR_bend.cls ≠ "java/lang/invoke/MethodHandle" ∧ yR_bend.cls ≠ "java/lang/invoke/VarHandle") ∧ (parseMethodDescriptor yR_bend.desc).map (fun d => d.parameters.length) = some 3 := by decide +kernel
theorem hy_L_hang : (yL_hang.cls ≠ "java/lang/invoke/MethodHandle" ∧ yL_hang.cls ≠ "java/lang/invoke/VarHandle") ∧ (parseMethodDescriptor yL_hang.desc).map (fun d => d.parameters.length) = some 2 := by decide +kernel
theorem hy_C_hang : (yC_hang.cls ≠ "java/lang/invoke/MethodHandle" ∧ yC_hang.cls ≠ "java/lang/invoke/VarHandle") ∧ (parseMethodDescriptor yC_hang.desc).map (fun d => d.parameters.length) = some 1 := by decide +kernel
theorem hy_E_addRope : (yE_addRope.cls ≠ "java/lang/invoke/MethodHandle" ∧ yE_addRope.cls ≠ "java/lang/invoke/VarHandle") ∧ (parseMethodDescriptor yE_addRope.desc).map (fun d => d.parameters.length) = some 1 := by decide +kernel
theorem hy_L_undo : (yL_undo.cls ≠ "java/lang/invoke/MethodHandle" ∧ yL_undo.cls ≠ "java/lang/invoke/VarHandle") ∧ (parseMethodDescriptor yL_undo.desc).map (fun d => d.parameters.length) = some 1 := by decide +kernel
theorem hy_C_undo : (yC_undo.cls ≠ "java/lang/invoke/MethodHandle" ∧ yC_undo.cls ≠ "java/lang/invoke/VarHandle") ∧ (parseMethodDescriptor yC_undo.desc).map (fun d => d.parameters.length) = some 0 := by decide +kernel
theorem hy_H_giveBack : (yH_giveBack.cls ≠ "java/lang/invoke/MethodHandle" ∧ yH_giveBack.cls ≠ "java/lang/invoke/VarHandle") ∧ (parseMethodDescriptor yH_giveBack.desc).map (fun d => d.parameters.length) = some 1 := by decide +kernel
theorem hy_L_lift : (yL_lift.cls ≠ "java/lang/invoke/MethodHandle" ∧ yL_lift.cls ≠ "java/lang/invoke/VarHandle") ∧ (parseMethodDescriptor yL_lift.desc).map (fun d => d.parameters.length) = some 1 := by decide +kernel
theorem hy_L_rope : (yL_rope.cls ≠ "java/lang/invoke/MethodHandle" ∧ yL_rope.cls ≠ "java/lang/invoke/VarHandle") ∧ (parseMethodDescriptor yL_rope.desc).map (fun d => d.parameters.length) = some 2 := by decide +kernel
theorem hy_C_section : (yC_section.cls ≠ "java/lang/invoke/MethodHandle" ∧ yC_section.cls ≠ "java/lang/invoke/VarHandle") ∧ (parseMethodDescriptor yC_section.desc).map (fun d => d.parameters.length) = some 3 := by decide +kernel
theorem hy_R_sectionFigure : (yR_sectionFigure.cls ≠ "java/lang/invoke/MethodHandle" ∧ yR_sectionFigure.cls ≠ "java/lang/invoke/VarHandle") ∧ (parseMethodDescriptor yR_sectionFigure.desc).map (fun d => d.parameters.length) = some 2 := by decide +kernel
theorem hy_C_window : (yC_window.cls ≠ "java/lang/invoke/MethodHandle" ∧ yC_window.cls ≠ "java/lang/invoke/VarHandle") ∧ (parseMethodDescriptor yC_window.desc).map (fun d => d.parameters.length) = some 3 := by decide +kernel
theorem hy_E_windows : (yE_windows.cls ≠ "java/lang/invoke/MethodHandle" ∧ yE_windows.cls ≠ "java/lang/invoke/VarHandle") ∧ (parseMethodDescriptor yE_windows.desc).map (fun d => d.parameters.length) = some 0 := by decide +kernel
theorem hy_C_tripsLeft : (yC_tripsLeft.cls ≠ "java/lang/invoke/MethodHandle" ∧ yC_tripsLeft.cls ≠ "java/lang/invoke/VarHandle") ∧ (parseMethodDescriptor yC_tripsLeft.desc).map (fun d => d.parameters.length) = some 1 := by decide +kernel
theorem hy_C_setting : (yC_setting.cls ≠ "java/lang/invoke/MethodHandle" ∧ yC_setting.cls ≠ "java/lang/invoke/VarHandle") ∧ (parseMethodDescriptor yC_setting.desc).map (fun d => d.parameters.length) = some 1 := by decide +kernel
theorem hy_C_unseen : (yC_unseen.cls ≠ "java/lang/invoke/MethodHandle" ∧ yC_unseen.cls ≠ "java/lang/invoke/VarHandle") ∧ (parseMethodDescriptor yC_unseen.desc).map (fun d => d.parameters.length) = some 0 := by decide +kernel
theorem hy_C_ifInspected : (yC_ifInspected.cls ≠ "java/lang/invoke/MethodHandle" ∧ yC_ifInspected.cls ≠ "java/lang/invoke/VarHandle") ∧ (parseMethodDescriptor yC_ifInspected.desc).map (fun d => d.parameters.length) = some 3 := by decide +kernel
theorem hy_C_countedShare : (yC_countedShare.cls ≠ "java/lang/invoke/MethodHandle" ∧ yC_countedShare.cls ≠ "java/lang/invoke/VarHandle") ∧ (parseMethodDescriptor yC_countedShare.desc).map (fun d => d.parameters.length) = some 0 := by decide +kernel
section XGN
variable {G : XG} {nL : Nat} {p : Program} {l : Launch} {e : Env} {R : Room} {s : State} {m : MethodId} {args : Array Value} {below : List Frame} {meth : Method} {c : Code} {Q : State → Prop} {own : String} {cc : ByteArray}
variable {pc : Nat} {ls : List (Option Value)} {st : List Value} {n : Nat} {h : XH} {k ks : Nat}
theorem XV.getsN (C : XCx G l own cc nL p s m args meth c) {i ix : Nat} (hd : decode cc pc = .ok (.getstatic ix, 3)) (hi : 1 ≤ i) (hi4 : i < 4) (hlink : Cond.fieldLinkNest own ix "RopeThreads" (XSA i).1 "[I" "RopeThreads" ∈ XNW) (kk : XV G nL p l e R s m args below meth c Q (pc + 3) ls (.ref i :: st) n h k ks) : XV G nL p l e R s m args below meth c Q pc ls st n h k ks := by
  obtain ⟨hx, hb, hml, hown, hts, hlocks, hE, -⟩ := C
  intro H locs lr hP hz hS hL
  have hxa : xv G (.ref i) = .ref (xext G i) := by show Value.ref (xa G i) = _; unfold xa; rw [if_pos hi4]
  have K := kk H locs lr hP hz hS hL
  rw [List.map_cons, hxa] at K
  exact va_getsN (host := "RopeThreads") hx hb (hE.2.2.2.1 i hi hi4).1 hS hown (va_Nw.use rfl (hE.2.2.2.2.2.1 _ hlink)) (fun _ h9 => h9) hd K
end XGN
end
section
/-! the layout: arrays cut at their length, blocks of cells, ropes, elevators, the class's world, the reference's world -/
def cutF (N : Nat) (f : Nat → Int32) : Nat → Int32 := fun s => if s < N then f s else 0
def xar (N : Nat) (f : Nat → Int32) : XC := .inl (0, (N, .inl (cutF N f)))
theorem cutF_in {N a : Nat} {f : Nat → Int32} (h : a < N) : cutF N f a = f a := if_pos h
theorem cutF_upd {N a : Nat} {f : Nat → Int32} {x : Int32} (h : a < N) : upd (cutF N f) a x = cutF N (upd f a x) := by
  funext s
  simp only [upd, cutF]
  by_cases hs : s = a
  · subst hs
    simp [h]
  · simp [hs]
theorem xar_eq {N : Nat} {f g : Nat → Int32} (h : ∀ s, s < N → f s = g s) : xar N f = xar N g := by
  unfold xar cutF
  have : (fun s => if s < N then f s else 0) = (fun s => if s < N then g s else 0) := by
    funext s
    by_cases hs : s < N
    · rw [if_pos hs, if_pos hs, h s hs]
    · rw [if_neg hs, if_neg hs]
  rw [this]
theorem xar_0 (N : Nat) : (.inl (0, (N, .inl (fun _ => 0))) : XC) = xar N (fun _ => 0) := by
  unfold xar cutF
  simp
section XARR
variable {G : XG} {nL : Nat} {p : Program} {l : Launch} {e : Env} {R : Room} {s : State} {m : MethodId} {args : Array Value} {below : List Frame} {meth : Method} {c : Code} {Q : State → Prop} {own : String} {cc : ByteArray}
variable {pc : Nat} {ls : List (Option Value)} {st : List Value} {n : Nat} {h : XH} {k ks : Nat}
theorem XV.ialdC (C : XCx G l own cc nL p s m args meth c) {i N a : Nat} {f : Nat → Int32} {j : Int32} (hd : decode cc pc = .ok (.iaload, 1)) (hi : 4 ≤ i) (hn : i < n + 4) (hh : h i = xar N f) (hj : j = nI a) (ha : a < N) (hN : N < 2 ^ 31) (kk : XV G nL p l e R s m args below meth c Q (pc + 1) ls (.int (f a) :: st) n h k ks) : XV G nL p l e R s m args below meth c Q pc ls (.int j :: .ref i :: st) n h k ks :=
  XV.iald C hd hi hn hh hj ha hN (by rw [cutF_in ha]; exact kk)
theorem XV.iastC (C : XCx G l own cc nL p s m args meth c) {i N a : Nat} {f : Nat → Int32} {j x : Int32} (hd : decode cc pc = .ok (.iastore, 1)) (hi : 4 ≤ i) (hn : i < n + 4) (hh : h i = xar N f) (hj : j = nI a) (ha : a < N) (hN : N < 2 ^ 31) (kk : XV G nL p l e R s m args below meth c Q (pc + 1) ls st n (xup h i (xar N (upd f a x))) k ks) : XV G nL p l e R s m args below meth c Q pc ls (.int x :: .int j :: .ref i :: st) n h k ks :=
  XV.iast C hd hi hn hh hj ha hN (by rw [cutF_upd ha]; exact kk)
theorem XV.alenC (C : XCx G l own cc nL p s m args meth c) {i N : Nat} {f : Nat → Int32} (hd : decode cc pc = .ok (.arraylength, 1)) (hi : 4 ≤ i) (hn : i < n + 4) (hh : h i = xar N f) (kk : XV G nL p l e R s m args below meth c Q (pc + 1) ls (.int (nI N) :: st) n h k ks) : XV G nL p l e R s m args below meth c Q pc ls (.ref i :: st) n h k ks := XV.alen C hd hi hn hh kk
theorem XV.copyC (C : XCx G l own cc nL p s m args meth c) {ix i j N : Nat} {f g : Nat → Int32} {len : Int32} (hd : decode cc pc = .ok (.invokestatic ix, 3)) (hw : Cond.methodLink own ix arraycopyName ∈ WALL) (hi : 4 ≤ i) (hin : i < n + 4) (hj : 4 ≤ j) (hjn : j < n + 4) (hhi : h i = xar N f) (hhj : h j = xar N g) (hlen : len = nI N) (hN : N < 2 ^ 31) (hf : 1 ≤ R.frames) (hl : (st.map fun v => v.category).sum + 18 ≤ R.locals) (kk : XV G nL p l e R s m args below meth c Q (pc + 3) ls st n (xup h j (xar N f)) k ks) : XV G nL p l e R s m args below meth c Q pc ls (.int len :: .int 0 :: .ref j :: .int 0 :: .ref i :: st) n h k ks := by
  refine XV.copy C hd hw hi hin hj hjn hhi hhj hlen hN hf hl ?_
  have h1 : (.inl (0, (N, .inl (fun q => if q < N then cutF N f q else cutF N g q))) : XC) = xar N f := by
    unfold xar
    congr 4
    funext q
    simp only [cutF]
    by_cases hq : q < N <;> simp [hq]
  rw [h1]
  exact kk
end XARR
/-- a block of cells -/
def blk (h : XH) (a N : Nat) (c : Nat → XC) : XH := fun j => if a ≤ j ∧ j < a + N then c (j - a) else h j
def IsB (h : XH) (a N : Nat) (c : Nat → XC) : Prop := ∀ j, j < N → h (a + j) = c j
theorem blk_is (h : XH) (a N : Nat) (c : Nat → XC) : IsB (blk h a N c) a N c := by
  intro j hj
  unfold blk
  rw [if_pos (by omega)]
  congr 1
  omega
theorem blk_self {h : XH} {a N : Nat} {c : Nat → XC} (hb : IsB h a N c) : blk h a N c = h := by
  funext j
  unfold blk
  split
  · rename_i hj
    have := hb (j - a) (by omega)
    rw [show a + (j - a) = j by omega] at this
    exact this.symm
  · rfl
theorem blk_blk (h : XH) (a N : Nat) (c c' : Nat → XC) : blk (blk h a N c) a N c' = blk h a N c' := by
  funext j
  unfold blk
  split
  · rfl
  · rfl
theorem blk_out {h : XH} {a N j : Nat} {c : Nat → XC} (hj : j < a ∨ a + N ≤ j) : blk h a N c j = h j := by
  unfold blk
  rw [if_neg (by omega)]
theorem blk_in {h : XH} {a N j : Nat} {c : Nat → XC} (h1 : a ≤ j) (h2 : j < a + N) : blk h a N c j = c (j - a) := by
  unfold blk
  rw [if_pos ⟨h1, h2⟩]
/-- one cell of a block -/
theorem blk_up {h : XH} {a N j : Nat} {c c' : Nat → XC} {x : XC} (h1 : j < N) (hx : c' j = x) (hc : ∀ i, i < N → i ≠ j → c' i = c i) : xup (blk h a N c) (a + j) x = blk h a N c' := by
  funext q
  unfold xup blk
  by_cases hq : q = a + j
  · subst hq
    rw [if_pos rfl, if_pos (by omega), show a + j - a = j by omega, hx]
  · rw [if_neg hq]
    by_cases hb : a ≤ q ∧ q < a + N
    · rw [if_pos hb, if_pos hb, hc (q - a) (by omega) (by omega)]
    · rw [if_neg hb, if_neg hb]
theorem blk_eq {h : XH} {a N : Nat} {c c' : Nat → XC} (hc : ∀ i, i < N → c' i = c i) : blk h a N c' = blk h a N c := by
  funext q
  unfold blk
  by_cases hb : a ≤ q ∧ q < a + N
  · rw [if_pos hb, if_pos hb, hc (q - a) (by omega)]
  · rw [if_neg hb, if_neg hb]
/-- a block inside a block -/
theorem blk_sub {h : XH} {a N b M : Nat} {c c' d : Nat → XC} (h1 : a ≤ b) (h2 : b + M ≤ a + N) (hd : ∀ i, i < M → c' (b - a + i) = d i) (hc : ∀ i, i < N → (i < b - a ∨ b - a + M ≤ i) → c' i = c i) : blk (blk h a N c) b M d = blk h a N c' := by
  funext q
  unfold blk
  by_cases hb : b ≤ q ∧ q < b + M
  · rw [if_pos hb, if_pos (by omega)]
    have := hd (q - b) (by omega)
    rw [show b - a + (q - b) = q - a by omega] at this
    exact this.symm
  · rw [if_neg hb]
    by_cases hq : a ≤ q ∧ q < a + N
    · rw [if_pos hq, if_pos hq, hc (q - a) (by omega) (by omega)]
    · rw [if_neg hq, if_neg hq]
theorem IsB.get {h : XH} {a N : Nat} {c : Nat → XC} (hb : IsB h a N c) (i : Nat) (h1 : a ≤ i) (h2 : i < a + N) : h i = c (i - a) := by
  have := hb (i - a) (by omega)
  rw [show a + (i - a) = i by omega] at this
  exact this
theorem IsB.sub {h : XH} {a N b M : Nat} {c d : Nat → XC} (hb : IsB h a N c) (h1 : a ≤ b) (h2 : b + M ≤ a + N) (hd : ∀ i, i < M → c (b - a + i) = d i) : IsB h b M d := fun j hj => by
  rw [hb.get (b + j) (by omega) (by omega), ← hd j hj]
  congr 1
  omega
/-- a rope at a, with the row r: 0 quality, 1 hung, 2 trips, 3.. bends, 27.. counts, 51.. counts ahead, 75.. months -/
def ropeC (a : Nat) (r : Nat → Int32) : Nat → XC := fun j => match j with
  | 0 => .inr (2, [.ref (a + 1), .ref (a + 2), .ref (a + 3), .ref (a + 4), .int (r 0), .int (r 1), .int (r 2)])
  | 1 => xar 24 (fun s => r (3 + s))
  | 2 => xar 24 (fun s => r (27 + s))
  | 3 => xar 24 (fun s => r (51 + s))
  | _ => xar 24 (fun s => r (75 + s))
abbrev IsRope (h : XH) (a : Nat) (r : Nat → Int32) : Prop := IsB h a 5 (ropeC a r)
abbrev setRope (h : XH) (a : Nat) (r : Nat → Int32) : XH := blk h a 5 (ropeC a r)
/-- the row of rope i in the flat state f -/
def rowOf (f : Nat → Int32) (i : Nat) : Nat → Int32 := fun k => f (10 + 99 * i + k)
/-- a place that never held a rope shows the quality 1 -/
def qfix (r : Nat → Int32) : Nat → Int32 := fun k => if k = 0 then (if r 0 = 0 then 1 else r 0) else r k
/-- an elevator at e, of the flat state f -/
def elevC (e : Nat) (f : Nat → Int32) : Nat → XC := fun j => match j with
  | 0 => .inr (0, [.ref (e + 1), .ref (e + 2), .int (f 1), .int (f 0), .int (f 7), .int (f 8), .int (f 9)])
  | 1 => xar 5 (fun i => f (2 + i))
  | 2 => .inl (3, (5, .inr (.inr (fun i => if i < 5 then some (e + 3 + 5 * i) else none))))
  | j + 3 => ropeC (e + 3 + 5 * (j / 5)) (qfix (rowOf f (j / 5))) (j % 5)
abbrev IsElev (h : XH) (e : Nat) (f : Nat → Int32) : Prop := IsB h e 28 (elevC e f)
abbrev setElev (h : XH) (e : Nat) (f : Nat → Int32) : XH := blk h e 28 (elevC e f)
theorem elev_rope {h : XH} {e : Nat} {f : Nat → Int32} (hE : IsElev h e f) {i : Nat} (hi : i < 5) : IsRope h (e + 3 + 5 * i) (qfix (rowOf f i)) := by
  refine hE.sub (by omega) (by omega) (fun j hj => ?_)
  rw [show e + 3 + 5 * i - e + j = (5 * i + j) + 3 by omega]
  show ropeC (e + 3 + 5 * ((5 * i + j) / 5)) (qfix (rowOf f ((5 * i + j) / 5))) ((5 * i + j) % 5) = _
  rw [show (5 * i + j) / 5 = i by omega, show (5 * i + j) % 5 = j by omega]
/-- a rope of an elevator anew -/
theorem setElev_rope {h : XH} {e : Nat} {f g : Nat → Int32} {r : Nat → Int32} {i : Nat} (hi : i < 5) (hr : ∀ k, k < 99 → qfix (rowOf g i) k = r k) (hh : ∀ k, k < 10 → g k = f k) (ho : ∀ j k, j < 5 → j ≠ i → k < 99 → rowOf g j k = rowOf f j k) : setRope (setElev h e f) (e + 3 + 5 * i) r = setElev h e g := by
  have rc : ∀ (a : Nat) (r1 r2 : Nat → Int32), (∀ k, k < 99 → r1 k = r2 k) → ∀ j, ropeC a r1 j = ropeC a r2 j := by
    intro a r1 r2 h12 j
    unfold ropeC
    match j with
    | 0 => show (Sum.inr (2, [.ref (a + 1), .ref (a + 2), .ref (a + 3), .ref (a + 4), .int (r1 0), .int (r1 1), .int (r1 2)]) : XC) = Sum.inr (2, [.ref (a + 1), .ref (a + 2), .ref (a + 3), .ref (a + 4), .int (r2 0), .int (r2 1), .int (r2 2)]); rw [h12 0 (by omega), h12 1 (by omega), h12 2 (by omega)]
    | 1 => exact xar_eq fun s hs => h12 _ (by omega)
    | 2 => exact xar_eq fun s hs => h12 _ (by omega)
    | 3 => exact xar_eq fun s hs => h12 _ (by omega)
    | j + 4 => exact xar_eq fun s hs => h12 _ (by omega)
  refine blk_sub (by omega) (by omega) (fun j hj => ?_) (fun j hj hne => ?_)
  · rw [show e + 3 + 5 * i - e + j = (5 * i + j) + 3 by omega]
    show ropeC (e + 3 + 5 * ((5 * i + j) / 5)) (qfix (rowOf g ((5 * i + j) / 5))) ((5 * i + j) % 5) = _
    rw [show (5 * i + j) / 5 = i by omega, show (5 * i + j) % 5 = j by omega]
    exact rc _ _ _ hr j
  · match j with
    | 0 => unfold elevC; dsimp only; rw [hh 1 (by omega), hh 0 (by omega), hh 7 (by omega), hh 8 (by omega), hh 9 (by omega)]
    | 1 => exact xar_eq fun s hs => hh _ (by omega)
    | 2 => rfl
    | j + 3 =>
      show ropeC _ (qfix (rowOf g (j / 5))) _ = ropeC _ (qfix (rowOf f (j / 5))) _
      refine rc _ _ _ (fun k hk => ?_) _
      unfold qfix
      rw [ho (j / 5) 0 (by omega) (by omega) (by omega), ho (j / 5) k (by omega) (by omega) hk]
end
section
/-! what is computed: over a row r (a rope), over the flat state f -/
def xle : List (Option Value) → List (Option Value) → Prop
  | [], _ => True
  | none :: t, _ :: t' => xle t t'
  | some v :: t, x :: t' => x = some v ∧ xle t t'
  | _ :: _, [] => False
theorem xle_sub : ∀ {a b : List (Option Value)}, xle a b → ∀ (i : Nat) (v : Value), a[i]? = some (some v) → b[i]? = some (some v)
  | [], b, _, i, v, h => by simp at h
  | none :: t, [], h0, i, v, h => h0.elim
  | none :: t, y :: t', h0, i, v, h => by
    match i, h with
    | 0, h => cases h
    | i + 1, h => exact xle_sub (a := t) (b := t') h0 i v h
  | some w :: t, [], h0, i, v, h => h0.elim
  | some w :: t, y :: t', h0, i, v, h => by
    obtain ⟨h1, h2⟩ := h0
    match i, h with
    | 0, h => cases h; subst h1; rfl
    | i + 1, h => exact xle_sub (a := t) (b := t') h2 i v h
def brk (r : Nat → Int32) (s : Nat) : Int32 := r (3 + s) / r 0
def sumN (g : Nat → Int32) (a : Nat) : Nat → Int32
  | 0 => 0
  | n + 1 => sumN g a n + g (a + n)
theorem sumN_congr {g g' : Nat → Int32} {a n : Nat} (h : ∀ s, a ≤ s → s < a + n → g s = g' s) : sumN g a n = sumN g' a n := by
  induction n with
  | zero => rfl
  | succ n ih =>
    unfold sumN
    rw [ih fun s h1 h2 => h s h1 (by omega), h (a + n) (by omega) (by omega)]
/-- counts (false) or broken threads (true) -/
def colR (r : Nat → Int32) (b : Bool) : Nat → Int32 := fun s => if b then brk r s else r (27 + s)
/-- the first place of the greatest, among 0 .. k -/
def amax (S : Nat → Int32) : Nat → Nat
  | 0 => 0
  | k + 1 => if S (amax S k) < S (k + 1) then k + 1 else amax S k
theorem amax_le (S : Nat → Int32) : ∀ k, amax S k ≤ k
  | 0 => Nat.le_refl 0
  | k + 1 => by
    unfold amax
    split
    · exact Nat.le_refl _
    · exact Nat.le_succ_of_le (amax_le S k)
/-- sum of a window -/
def winS (r : Nat → Int32) (b : Bool) (z : Nat) : Nat → Int32 := fun k => sumN (colR r b) k z
/-- the window with the greatest sum, z sections wide -/
def gwin (r : Nat → Int32) (b : Bool) (z : Nat) : Nat := amax (winS r b z) (24 - z)
def gmost (r : Nat → Int32) (b : Bool) (z : Nat) : Int32 := winS r b z (gwin r b z)
/-- uncounted threads of many sections from a on -/
def unc (r : Nat → Int32) (w : Nat) : Nat → Int32 := fun a => sumN (colR r true) a w - sumN (colR r false) a w
def bestI (r : Nat → Int32) (w : Nat) : Nat := amax (unc r w) (24 - w)
def anyN (P : Nat → Bool) : Nat → Bool
  | 0 => false
  | n + 1 => anyN P n || P n
theorem nI_m1 {n : Nat} (h : 0 < n) : nI n - 1 = nI (n - 1) := by
  obtain ⟨k, rfl⟩ : ∃ k, n = k + 1 := ⟨n - 1, by omega⟩
  exact nI_pred k
theorem i_nlt {x y : Int32} (h : x ≤ y) : ¬ y < x := fun q => absurd h (Int32.not_le.mpr q)
theorem i_lt {x y : Int32} (h : ¬ x ≤ y) : y < x := Int32.not_le.mp h
/-- the greatest of the first k, 0 if none is above it -/
def gmx (S : Nat → Int32) : Nat → Int32
  | 0 => 0
  | k + 1 => if gmx S k < S k then S k else gmx S k
/-- the least of the first k, 2000 if none is below it -/
def omn (S : Nat → Int32) : Nat → Int32
  | 0 => 2000
  | k + 1 => if S k < omn S k then S k else omn S k
def grw (r : Nat → Int32) : Nat → Int32 := fun s => r (27 + s) - r (51 + s)
def secF (r : Nat → Int32) (i w : Nat) : Int32 := if w = 0 then r (3 + i) else if w = 1 then brk r i else r (27 + 24 * (w - 2) + i)
theorem ne_of_gt {x : Int32} (h : 0 < x) : ¬ x = 0 := fun e => by rw [e] at h; exact absurd h (by decide)
theorem XV.drop {G : XG} {nL : Nat} {p : Program} {l : Launch} {e : Env} {R : Room} {s : State} {m : MethodId} {args : Array Value} {below : List Frame} {meth : Method} {c : Code} {Q : State → Prop} {pc : Nat} {ls ls' : List (Option Value)} {st : List Value} {n : Nat} {h : XH} {k ks : Nat} (kk : XV G nL p l e R s m args below meth c Q pc ls' st n h k ks) (hl : ls'.length = ls.length) (hx : xle ls' ls) : XV G nL p l e R s m args below meth c Q pc ls st n h k ks := XV.locs ls' hl (xle_sub hx) kk
/-- the first k from the given one on, among so many, at which S is v; 0 if there is none -/
def fstN (S : Nat → Int32) (v : Int32) : Nat → Nat → Nat
  | 0, _ => 0
  | d + 1, k => if S k = v then k else fstN S v d (k + 1)
/-- the first window whose sum of counts is the greatest -/
def gwinK (r : Nat → Int32) (z : Nat) : Nat := fstN (winS r false z) (gmx (winS r false z) (25 - z)) (25 - z) 0
end
section
/-! RopeThreads$Rope: the reads -/
set_option maxHeartbeats 4000000 in
set_option maxRecDepth 100000 in
theorem ct_R_broken {l : Launch} (hfl : l.stackTraces = false) {G : XG} {n : Nat} {h : XH} {a : Nat} {r : Nat → Int32} (hR : IsRope h a r) (h4 : 4 ≤ a) (hn : a + 5 ≤ n + 4) {x : Int32} {i : Nat} (hx : x = nI i) (hi : i < 24) (hq : 0 < r 0) : XCt l G False (Cond.code yR_broken bR_broken 2 (some .int)) yR_broken 0 0 0 0 [.ref (a), .int (x)] n h (fun r' n' h' => r' = some (.int (brk r i)) ∧ n' = n ∧ h' = h) (fun _ _ _ => False) := by
  subst hx
  refine XCt.of hfl (by decide +kernel) (Nat.le_of_ble_eq_true rfl) ?_
  intro p' e' s' m' g' b' t' c' C hret hname hnt hmd
  refine XV.run C okR_broken 1 (q := (1, ([some (.ref (a)), some (.int (nI i))], [.int (nI i)]))) rfl ?_
  refine XV.if_lt C (tgt := 17) (xlk_ok okR_broken rfl) rfl (fun hc => absurd hc (nI_pos (by omega))) (fun _ => ?_)
  refine XV.run C okR_broken 2 (q := (7, ([some (.ref (a)), some (.int (nI i))], [.int (24), .int (nI i)]))) rfl ?_
  refine XV.icmp_ge C (tgt := 17) (xlk_ok okR_broken rfl) rfl (fun hc => absurd hc (nI_ge (b := 24) (by omega) (by omega))) (fun _ => ?_)
  refine XV.run C okR_broken 1 (q := (11, ([some (.ref (a)), some (.int (nI i))], [.ref (a)]))) rfl ?_
  refine XV.getf C (ci := 2) (kf := 4) (v := .int (r 0)) (xlk_ok okR_broken rfl) rfl (by decide) wF_R_24 (by omega) (by omega) (hR 0 (by decide)) rfl ?_
  refine XV.if_gt C (tgt := 19) (xlk_ok okR_broken rfl) rfl (fun _ => ?_) (fun hc => absurd (hq) hc)
  refine XV.run C okR_broken 1 (q := (20, ([some (.ref (a)), some (.int (nI i))], [.ref (a)]))) rfl ?_
  refine XV.getf C (ci := 2) (kf := 0) (v := .ref (a + 1)) (xlk_ok okR_broken rfl) rfl (by decide) wF_R_9 (by omega) (by omega) (hR 0 (by decide)) rfl ?_
  refine XV.run C okR_broken 1 (q := (24, ([some (.ref (a)), some (.int (nI i))], [.int (nI i), .ref (a + 1)]))) rfl ?_
  refine XV.ialdC C (N := 24) (f := (fun s => r (3 + s))) (a := i) (xlk_ok okR_broken rfl) (by omega) (by omega) (hR 1 (by decide)) (rfl) (by omega) (by decide) ?_
  refine XV.run C okR_broken 1 (q := (26, ([some (.ref (a)), some (.int (nI i))], [.ref (a), .int (r (3 + i))]))) rfl ?_
  refine XV.getf C (ci := 2) (kf := 4) (v := .int (r 0)) (xlk_ok okR_broken rfl) rfl (by decide) wF_R_24 (by omega) (by omega) (hR 0 (by decide)) rfl ?_
  refine XV.idiv C (xlk_ok okR_broken rfl) (ne_of_gt hq) ?_
  exact XV.iret C (xlk_ok okR_broken rfl) hret rfl (Nat.le_of_ble_eq_true rfl) (Nat.le_of_ble_eq_true rfl) (⟨rfl, rfl, rfl⟩)
set_option maxHeartbeats 4000000 in
set_option maxRecDepth 100000 in
theorem ct_R_sumOfCounts {l : Launch} (hfl : l.stackTraces = false) {G : XG} {n : Nat} {h : XH} {a : Nat} {r : Nat → Int32} (hR : IsRope h a r) (h4 : 4 ≤ a) (hn : a + 5 ≤ n + 4) {x y : Int32} {i w b : Nat} (hx : x = nI i) (hy : y = nI b) (hb : b < 24) (hw : i + w = b + 1) : XCt l G False (Cond.code yR_sumOfCounts bR_sumOfCounts 5 (some .int)) yR_sumOfCounts 0 0 0 0 [.ref (a), .int (x), .int (y)] n h (fun r' n' h' => r' = some (.int (sumN (colR r false) i w)) ∧ n' = n ∧ h' = h) (fun _ _ _ => False) := by
  subst hx; subst hy
  refine XCt.of hfl (by decide +kernel) (Nat.le_of_ble_eq_true rfl) ?_
  intro p' e' s' m' g' b' t' c' C hret hname hnt hmd
  refine XV.run C okR_sumOfCounts 4 (q := (5, ([some (.ref (a)), some (.int (nI i)), some (.int (nI b)), some (.int (0)), some (.int (nI i))], []))) rfl ?_
  have loop : ∀ (d j : Nat), j + d = w → XV G 5 p' l e' ({ frames := 0, cells := 0, slots := 0, locals := 0 } : Room) s' m' g' b' t' c' (XEnd G b' (fun r' n' h' => r' = some (.int (sumN (colR r false) i w)) ∧ n' = n ∧ h' = h) (fun _ _ _ => False) g' s' 0 0) 5 [some (.ref (a)), some (.int (nI i)), some (.int (nI b)), some (.int (sumN (colR r false) i j)), some (.int (nI (i + j)))] [] n h 0 0 := by
    intro d
    induction d with
    | zero =>
      intro j hj
      refine XV.run C okR_sumOfCounts 1 (q := (7, ([some (.ref (a)), some (.int (nI i)), some (.int (nI b)), some (.int (sumN (colR r false) i j)), some (.int (nI (i + j)))], [.int (nI (i + j))]))) rfl ?_
      refine XV.if_lt C (tgt := 39) (xlk_ok okR_sumOfCounts rfl) rfl (fun hc => absurd hc (nI_pos (by omega))) (fun _ => ?_)
      refine XV.run C okR_sumOfCounts 2 (q := (13, ([some (.ref (a)), some (.int (nI i)), some (.int (nI b)), some (.int (sumN (colR r false) i j)), some (.int (nI (i + j)))], [.int (nI b), .int (nI (i + j))]))) rfl ?_
      refine XV.icmp_gt C (tgt := 39) (xlk_ok okR_sumOfCounts rfl) rfl (fun _ => ?_) (fun hc => absurd (nI_lt (by omega) (by omega)) hc)
      refine XV.run C okR_sumOfCounts 1 (q := (40, ([some (.ref (a)), some (.int (nI i)), some (.int (nI b)), some (.int (sumN (colR r false) i j)), some (.int (nI (i + j)))], [.int (sumN (colR r false) i j)]))) rfl ?_
      exact XV.iret C (xlk_ok okR_sumOfCounts rfl) hret rfl (Nat.le_of_ble_eq_true rfl) (Nat.le_of_ble_eq_true rfl) (⟨by rw [show j = w by omega], rfl, rfl⟩)
    | succ d ih =>
      intro j hj
      refine XV.run C okR_sumOfCounts 1 (q := (7, ([some (.ref (a)), some (.int (nI i)), some (.int (nI b)), some (.int (sumN (colR r false) i j)), some (.int (nI (i + j)))], [.int (nI (i + j))]))) rfl ?_
      refine XV.if_lt C (tgt := 39) (xlk_ok okR_sumOfCounts rfl) rfl (fun hc => absurd hc (nI_pos (by omega))) (fun _ => ?_)
      refine XV.run C okR_sumOfCounts 2 (q := (13, ([some (.ref (a)), some (.int (nI i)), some (.int (nI b)), some (.int (sumN (colR r false) i j)), some (.int (nI (i + j)))], [.int (nI b), .int (nI (i + j))]))) rfl ?_
      refine XV.icmp_gt C (tgt := 39) (xlk_ok okR_sumOfCounts rfl) rfl (fun hc => absurd hc (nI_nlt (by omega) (by omega))) (fun _ => ?_)
      refine XV.run C okR_sumOfCounts 2 (q := (20, ([some (.ref (a)), some (.int (nI i)), some (.int (nI b)), some (.int (sumN (colR r false) i j)), some (.int (nI (i + j)))], [.int (24), .int (nI (i + j))]))) rfl ?_
      refine XV.icmp_ge C (tgt := 39) (xlk_ok okR_sumOfCounts rfl) rfl (fun hc => absurd hc (nI_ge (b := 24) (by omega) (by omega))) (fun _ => ?_)
      refine XV.run C okR_sumOfCounts 2 (q := (25, ([some (.ref (a)), some (.int (nI i)), some (.int (nI b)), some (.int (sumN (colR r false) i j)), some (.int (nI (i + j)))], [.ref (a), .int (sumN (colR r false) i j)]))) rfl ?_
      refine XV.getf C (ci := 2) (kf := 1) (v := .ref (a + 2)) (xlk_ok okR_sumOfCounts rfl) rfl (by decide) wF_R_15 (by omega) (by omega) (hR 0 (by decide)) rfl ?_
      refine XV.run C okR_sumOfCounts 1 (q := (30, ([some (.ref (a)), some (.int (nI i)), some (.int (nI b)), some (.int (sumN (colR r false) i j)), some (.int (nI (i + j)))], [.int (nI (i + j)), .ref (a + 2), .int (sumN (colR r false) i j)]))) rfl ?_
      refine XV.ialdC C (N := 24) (f := (fun s => r (27 + s))) (a := (i + j)) (xlk_ok okR_sumOfCounts rfl) (by omega) (by omega) (hR 2 (by decide)) (rfl) (by omega) (by decide) ?_
      refine XV.run C okR_sumOfCounts 4 (q := (5, ([some (.ref (a)), some (.int (nI i)), some (.int (nI b)), some (.int ((sumN (colR r false) i j) + (r (27 + (i + j))))), some (.int ((nI (i + j)) + 1))], []))) rfl ?_
      rw [nI_1]
      exact ih (j + 1) (by omega)
  exact loop w 0 (by omega)
set_option maxHeartbeats 4000000 in
set_option maxRecDepth 100000 in
theorem ct_R_allCounts {l : Launch} (hfl : l.stackTraces = false) {G : XG} {n : Nat} {h : XH} {a : Nat} {r : Nat → Int32} (hR : IsRope h a r) (h4 : 4 ≤ a) (hn : a + 5 ≤ n + 4) : XCt l G False (Cond.code yR_allCounts bR_allCounts 1 (some .int)) yR_allCounts 1 24 0 0 [.ref (a)] n h (fun r' n' h' => r' = some (.int (sumN (colR r false) 0 24)) ∧ n' = n ∧ h' = h) (fun _ _ _ => False) := by
  refine XCt.of hfl (by decide +kernel) (Nat.le_of_ble_eq_true rfl) ?_
  intro p' e' s' m' g' b' t' c' C hret hname hnt hmd
  refine XV.run C okR_allCounts 3 (q := (4, ([some (.ref (a))], [.int (23), .int (0), .ref (a)]))) rfl ?_
  refine XV.callV C (As := [.int (0), .int (23)]) (rest := []) (ci := 2) (ct_R_sumOfCounts hfl hR (by omega) (by omega) (i := 0) (w := 24) (b := 23) (rfl) (rfl) (by omega) (by omega)) (xlk_ok okR_allCounts rfl) rfl (by omega) (by omega) rfl (hR 0 (by decide)) rfl wM_R_50 wI_R_sumOfCounts wV_R_sumOfCounts wN_R wB_R_sumOfCounts hy_R_sumOfCounts (fun q => q.elim) ⟨Nat.le_of_ble_eq_true rfl, Nat.le_of_ble_eq_true rfl⟩ ⟨Nat.le_of_ble_eq_true rfl, Nat.le_of_ble_eq_true rfl⟩ (Nat.le_of_ble_eq_true rfl) (fun r n h hp => ?_) (fun _ _ _ q => q.elim)
  obtain ⟨rfl, rfl, rfl⟩ := hp
  exact XV.iret C (xlk_ok okR_allCounts rfl) hret rfl (Nat.le_of_ble_eq_true rfl) (Nat.le_of_ble_eq_true rfl) (⟨rfl, rfl, rfl⟩)
set_option maxHeartbeats 4000000 in
set_option maxRecDepth 100000 in
theorem ct_R_sumOfBroken {l : Launch} (hfl : l.stackTraces = false) {G : XG} {n : Nat} {h : XH} {a : Nat} {r : Nat → Int32} (hR : IsRope h a r) (h4 : 4 ≤ a) (hn : a + 5 ≤ n + 4) {x y : Int32} {i w b : Nat} (hx : x = nI i) (hy : y = nI b) (hb : b < 24) (hw : i + w = b + 1) (hq : 0 < r 0) : XCt l G False (Cond.code yR_sumOfBroken bR_sumOfBroken 5 (some .int)) yR_sumOfBroken 1 21 0 0 [.ref (a), .int (x), .int (y)] n h (fun r' n' h' => r' = some (.int (sumN (colR r true) i w)) ∧ n' = n ∧ h' = h) (fun _ _ _ => False) := by
  subst hx; subst hy
  refine XCt.of hfl (by decide +kernel) (Nat.le_of_ble_eq_true rfl) ?_
  intro p' e' s' m' g' b' t' c' C hret hname hnt hmd
  refine XV.run C okR_sumOfBroken 4 (q := (5, ([some (.ref (a)), some (.int (nI i)), some (.int (nI b)), some (.int (0)), some (.int (nI i))], []))) rfl ?_
  have loop : ∀ (d j : Nat), j + d = w → XV G 5 p' l e' ({ frames := 1, cells := 0, slots := 0, locals := 21 } : Room) s' m' g' b' t' c' (XEnd G b' (fun r' n' h' => r' = some (.int (sumN (colR r true) i w)) ∧ n' = n ∧ h' = h) (fun _ _ _ => False) g' s' 0 0) 5 [some (.ref (a)), some (.int (nI i)), some (.int (nI b)), some (.int (sumN (colR r true) i j)), some (.int (nI (i + j)))] [] n h 0 0 := by
    intro d
    induction d with
    | zero =>
      intro j hj
      refine XV.run C okR_sumOfBroken 1 (q := (7, ([some (.ref (a)), some (.int (nI i)), some (.int (nI b)), some (.int (sumN (colR r true) i j)), some (.int (nI (i + j)))], [.int (nI (i + j))]))) rfl ?_
      refine XV.if_lt C (tgt := 38) (xlk_ok okR_sumOfBroken rfl) rfl (fun hc => absurd hc (nI_pos (by omega))) (fun _ => ?_)
      refine XV.run C okR_sumOfBroken 2 (q := (13, ([some (.ref (a)), some (.int (nI i)), some (.int (nI b)), some (.int (sumN (colR r true) i j)), some (.int (nI (i + j)))], [.int (nI b), .int (nI (i + j))]))) rfl ?_
      refine XV.icmp_gt C (tgt := 38) (xlk_ok okR_sumOfBroken rfl) rfl (fun _ => ?_) (fun hc => absurd (nI_lt (by omega) (by omega)) hc)
      refine XV.run C okR_sumOfBroken 1 (q := (39, ([some (.ref (a)), some (.int (nI i)), some (.int (nI b)), some (.int (sumN (colR r true) i j)), some (.int (nI (i + j)))], [.int (sumN (colR r true) i j)]))) rfl ?_
      exact XV.iret C (xlk_ok okR_sumOfBroken rfl) hret rfl (Nat.le_of_ble_eq_true rfl) (Nat.le_of_ble_eq_true rfl) (⟨by rw [show j = w by omega], rfl, rfl⟩)
    | succ d ih =>
      intro j hj
      refine XV.run C okR_sumOfBroken 1 (q := (7, ([some (.ref (a)), some (.int (nI i)), some (.int (nI b)), some (.int (sumN (colR r true) i j)), some (.int (nI (i + j)))], [.int (nI (i + j))]))) rfl ?_
      refine XV.if_lt C (tgt := 38) (xlk_ok okR_sumOfBroken rfl) rfl (fun hc => absurd hc (nI_pos (by omega))) (fun _ => ?_)
      refine XV.run C okR_sumOfBroken 2 (q := (13, ([some (.ref (a)), some (.int (nI i)), some (.int (nI b)), some (.int (sumN (colR r true) i j)), some (.int (nI (i + j)))], [.int (nI b), .int (nI (i + j))]))) rfl ?_
      refine XV.icmp_gt C (tgt := 38) (xlk_ok okR_sumOfBroken rfl) rfl (fun hc => absurd hc (nI_nlt (by omega) (by omega))) (fun _ => ?_)
      refine XV.run C okR_sumOfBroken 2 (q := (20, ([some (.ref (a)), some (.int (nI i)), some (.int (nI b)), some (.int (sumN (colR r true) i j)), some (.int (nI (i + j)))], [.int (24), .int (nI (i + j))]))) rfl ?_
      refine XV.icmp_ge C (tgt := 38) (xlk_ok okR_sumOfBroken rfl) rfl (fun hc => absurd hc (nI_ge (b := 24) (by omega) (by omega))) (fun _ => ?_)
      refine XV.run C okR_sumOfBroken 3 (q := (27, ([some (.ref (a)), some (.int (nI i)), some (.int (nI b)), some (.int (sumN (colR r true) i j)), some (.int (nI (i + j)))], [.int (nI (i + j)), .ref (a), .int (sumN (colR r true) i j)]))) rfl ?_
      refine XV.callV C (As := [.int (nI (i + j))]) (rest := [.int (sumN (colR r true) i j)]) (ci := 2) (ct_R_broken hfl hR (by omega) (by omega) (i := i + j) (rfl) (by omega) (hq)) (xlk_ok okR_sumOfBroken rfl) rfl (by omega) (by omega) rfl (hR 0 (by decide)) rfl wM_R_46 wI_R_broken wV_R_broken wN_R wB_R_broken hy_R_broken (fun q => q.elim) ⟨Nat.le_of_ble_eq_true rfl, Nat.le_of_ble_eq_true rfl⟩ ⟨Nat.le_of_ble_eq_true rfl, Nat.le_of_ble_eq_true rfl⟩ (Nat.le_of_ble_eq_true rfl) (fun r n h hp => ?_) (fun _ _ _ q => q.elim)
      obtain ⟨rfl, rfl, rfl⟩ := hp
      refine XV.run C okR_sumOfBroken 4 (q := (5, ([some (.ref (a)), some (.int (nI i)), some (.int (nI b)), some (.int ((sumN (colR r true) i j) + (brk r (i + j)))), some (.int ((nI (i + j)) + 1))], []))) rfl ?_
      rw [nI_1]
      exact ih (j + 1) (by omega)
  exact loop w 0 (by omega)
set_option maxHeartbeats 4000000 in
set_option maxRecDepth 100000 in
theorem ct_R_allBroken {l : Launch} (hfl : l.stackTraces = false) {G : XG} {n : Nat} {h : XH} {a : Nat} {r : Nat → Int32} (hR : IsRope h a r) (h4 : 4 ≤ a) (hn : a + 5 ≤ n + 4) (hq : 0 < r 0) : XCt l G False (Cond.code yR_allBroken bR_allBroken 1 (some .int)) yR_allBroken 2 45 0 0 [.ref (a)] n h (fun r' n' h' => r' = some (.int (sumN (colR r true) 0 24)) ∧ n' = n ∧ h' = h) (fun _ _ _ => False) := by
  refine XCt.of hfl (by decide +kernel) (Nat.le_of_ble_eq_true rfl) ?_
  intro p' e' s' m' g' b' t' c' C hret hname hnt hmd
  refine XV.run C okR_allBroken 3 (q := (4, ([some (.ref (a))], [.int (23), .int (0), .ref (a)]))) rfl ?_
  refine XV.callV C (As := [.int (0), .int (23)]) (rest := []) (ci := 2) (ct_R_sumOfBroken hfl hR (by omega) (by omega) (i := 0) (w := 24) (b := 23) (rfl) (rfl) (by omega) (by omega) (hq)) (xlk_ok okR_allBroken rfl) rfl (by omega) (by omega) rfl (hR 0 (by decide)) rfl wM_R_54 wI_R_sumOfBroken wV_R_sumOfBroken wN_R wB_R_sumOfBroken hy_R_sumOfBroken (fun q => q.elim) ⟨Nat.le_of_ble_eq_true rfl, Nat.le_of_ble_eq_true rfl⟩ ⟨Nat.le_of_ble_eq_true rfl, Nat.le_of_ble_eq_true rfl⟩ (Nat.le_of_ble_eq_true rfl) (fun r n h hp => ?_) (fun _ _ _ q => q.elim)
  obtain ⟨rfl, rfl, rfl⟩ := hp
  exact XV.iret C (xlk_ok okR_allBroken rfl) hret rfl (Nat.le_of_ble_eq_true rfl) (Nat.le_of_ble_eq_true rfl) (⟨rfl, rfl, rfl⟩)
set_option maxHeartbeats 4000000 in
set_option maxRecDepth 100000 in
theorem ct_R_greatestCounts {l : Launch} (hfl : l.stackTraces = false) {G : XG} {n : Nat} {h : XH} {a : Nat} {r : Nat → Int32} (hR : IsRope h a r) (h4 : 4 ≤ a) (hn : a + 5 ≤ n + 4) {x : Int32} {z : Nat} (hx : x = nI z) (hz : 1 ≤ z) (hz2 : z ≤ 24) : XCt l G False (Cond.code yR_greatestCounts bR_greatestCounts 4 (some .int)) yR_greatestCounts 1 24 0 0 [.ref (a), .int (x)] n h (fun r' n' h' => r' = some (.int (gmx (winS r false z) (25 - z))) ∧ n' = n ∧ h' = h) (fun _ _ _ => False) := by
  subst hx
  refine XCt.of hfl (by decide +kernel) (Nat.le_of_ble_eq_true rfl) ?_
  intro p' e' s' m' g' b' t' c' C hret hname hnt hmd
  refine XV.run C okR_greatestCounts 4 (q := (4, ([some (.ref (a)), some (.int (nI z)), some (.int (0)), some (.int (0))], []))) rfl ?_
  have loop : ∀ (d k : Nat), k + d = 25 - z → XV G 4 p' l e' ({ frames := 1, cells := 0, slots := 0, locals := 24 } : Room) s' m' g' b' t' c' (XEnd G b' (fun r' n' h' => r' = some (.int (gmx (winS r false z) (25 - z))) ∧ n' = n ∧ h' = h) (fun _ _ _ => False) g' s' 0 0) 4 [some (.ref (a)), some (.int (nI z)), some (.int (gmx (winS r false z) k)), some (.int (nI k))] [] n h 0 0 := by
    intro d
    induction d with
    | zero =>
      intro k hk
      refine XV.run C okR_greatestCounts 4 (q := (9, ([some (.ref (a)), some (.int (nI z)), some (.int (gmx (winS r false z) k)), some (.int (nI k))], [.int (24), .int ((nI k) + (nI z))]))) rfl ?_
      refine XV.icmp_gt C (tgt := 33) (xlk_ok okR_greatestCounts rfl) rfl (fun _ => ?_) (fun hc => absurd (by rw [nI_add]; exact nI_lt (a := 24) (by omega) (by omega)) hc)
      refine XV.run C okR_greatestCounts 1 (q := (34, ([some (.ref (a)), some (.int (nI z)), some (.int (gmx (winS r false z) k)), some (.int (nI k))], [.int (gmx (winS r false z) k)]))) rfl ?_
      exact XV.iret C (xlk_ok okR_greatestCounts rfl) hret rfl (Nat.le_of_ble_eq_true rfl) (Nat.le_of_ble_eq_true rfl) (⟨by rw [show k = 25 - z by omega], rfl, rfl⟩)
    | succ d ih =>
      intro k hk
      refine XV.run C okR_greatestCounts 4 (q := (9, ([some (.ref (a)), some (.int (nI z)), some (.int (gmx (winS r false z) k)), some (.int (nI k))], [.int (24), .int ((nI k) + (nI z))]))) rfl ?_
      refine XV.icmp_gt C (tgt := 33) (xlk_ok okR_greatestCounts rfl) rfl (fun hc => absurd hc (by rw [nI_add]; exact nI_nlt (b := k + z) (a := 24) (by omega) (by omega))) (fun _ => ?_)
      refine XV.run C okR_greatestCounts 8 (q := (20, ([some (.ref (a)), some (.int (nI z)), some (.int (gmx (winS r false z) k)), some (.int (nI k))], [.int (((nI k) + (nI z)) - 1), .int (nI k), .ref (a), .int (gmx (winS r false z) k)]))) rfl ?_
      refine XV.callV C (As := [.int (nI k), .int (((nI k) + (nI z)) - 1)]) (rest := [.int (gmx (winS r false z) k)]) (ci := 2) (ct_R_sumOfCounts hfl hR (by omega) (by omega) (i := k) (w := z) (b := k + z - 1) (rfl) (by rw [nI_add]; exact nI_m1 (by omega)) (by omega) (by omega)) (xlk_ok okR_greatestCounts rfl) rfl (by omega) (by omega) rfl (hR 0 (by decide)) rfl wM_R_50 wI_R_sumOfCounts wV_R_sumOfCounts wN_R wB_R_sumOfCounts hy_R_sumOfCounts (fun q => q.elim) ⟨Nat.le_of_ble_eq_true rfl, Nat.le_of_ble_eq_true rfl⟩ ⟨Nat.le_of_ble_eq_true rfl, Nat.le_of_ble_eq_true rfl⟩ (Nat.le_of_ble_eq_true rfl) (fun r n h hp => ?_) (fun _ _ _ q => q.elim)
      obtain ⟨rfl, rfl, rfl⟩ := hp
      refine XV.mmax C (xlk_ok okR_greatestCounts rfl) wM_R_57 (Nat.le_of_ble_eq_true rfl) (Nat.le_of_ble_eq_true rfl) (Nat.le_of_ble_eq_true rfl) (Nat.le_of_ble_eq_true rfl) ?_
      refine XV.run C okR_greatestCounts 3 (q := (4, ([some (.ref (a)), some (.int (nI z)), some (.int (if gmx (winS r false z) k < winS r false z k then winS r false z k else gmx (winS r false z) k)), some (.int ((nI k) + 1))], []))) rfl ?_
      rw [nI_1]
      exact ih (k + 1) (by omega)
  exact loop (25 - z) 0 (by omega)
set_option maxHeartbeats 4000000 in
set_option maxRecDepth 100000 in
theorem ct_R_greatestBroken {l : Launch} (hfl : l.stackTraces = false) {G : XG} {n : Nat} {h : XH} {a : Nat} {r : Nat → Int32} (hR : IsRope h a r) (h4 : 4 ≤ a) (hn : a + 5 ≤ n + 4) {x : Int32} {z : Nat} (hx : x = nI z) (hz : 1 ≤ z) (hz2 : z ≤ 24) (hq : 0 < r 0) : XCt l G False (Cond.code yR_greatestBroken bR_greatestBroken 4 (some .int)) yR_greatestBroken 2 45 0 0 [.ref (a), .int (x)] n h (fun r' n' h' => r' = some (.int (gmx (winS r true z) (25 - z))) ∧ n' = n ∧ h' = h) (fun _ _ _ => False) := by
  subst hx
  refine XCt.of hfl (by decide +kernel) (Nat.le_of_ble_eq_true rfl) ?_
  intro p' e' s' m' g' b' t' c' C hret hname hnt hmd
  refine XV.run C okR_greatestBroken 4 (q := (4, ([some (.ref (a)), some (.int (nI z)), some (.int (0)), some (.int (0))], []))) rfl ?_
  have loop : ∀ (d k : Nat), k + d = 25 - z → XV G 4 p' l e' ({ frames := 2, cells := 0, slots := 0, locals := 45 } : Room) s' m' g' b' t' c' (XEnd G b' (fun r' n' h' => r' = some (.int (gmx (winS r true z) (25 - z))) ∧ n' = n ∧ h' = h) (fun _ _ _ => False) g' s' 0 0) 4 [some (.ref (a)), some (.int (nI z)), some (.int (gmx (winS r true z) k)), some (.int (nI k))] [] n h 0 0 := by
    intro d
    induction d with
    | zero =>
      intro k hk
      refine XV.run C okR_greatestBroken 4 (q := (9, ([some (.ref (a)), some (.int (nI z)), some (.int (gmx (winS r true z) k)), some (.int (nI k))], [.int (24), .int ((nI k) + (nI z))]))) rfl ?_
      refine XV.icmp_gt C (tgt := 33) (xlk_ok okR_greatestBroken rfl) rfl (fun _ => ?_) (fun hc => absurd (by rw [nI_add]; exact nI_lt (a := 24) (by omega) (by omega)) hc)
      refine XV.run C okR_greatestBroken 1 (q := (34, ([some (.ref (a)), some (.int (nI z)), some (.int (gmx (winS r true z) k)), some (.int (nI k))], [.int (gmx (winS r true z) k)]))) rfl ?_
      exact XV.iret C (xlk_ok okR_greatestBroken rfl) hret rfl (Nat.le_of_ble_eq_true rfl) (Nat.le_of_ble_eq_true rfl) (⟨by rw [show k = 25 - z by omega], rfl, rfl⟩)
    | succ d ih =>
      intro k hk
      refine XV.run C okR_greatestBroken 4 (q := (9, ([some (.ref (a)), some (.int (nI z)), some (.int (gmx (winS r true z) k)), some (.int (nI k))], [.int (24), .int ((nI k) + (nI z))]))) rfl ?_
      refine XV.icmp_gt C (tgt := 33) (xlk_ok okR_greatestBroken rfl) rfl (fun hc => absurd hc (by rw [nI_add]; exact nI_nlt (b := k + z) (a := 24) (by omega) (by omega))) (fun _ => ?_)
      refine XV.run C okR_greatestBroken 8 (q := (20, ([some (.ref (a)), some (.int (nI z)), some (.int (gmx (winS r true z) k)), some (.int (nI k))], [.int (((nI k) + (nI z)) - 1), .int (nI k), .ref (a), .int (gmx (winS r true z) k)]))) rfl ?_
      refine XV.callV C (As := [.int (nI k), .int (((nI k) + (nI z)) - 1)]) (rest := [.int (gmx (winS r true z) k)]) (ci := 2) (ct_R_sumOfBroken hfl hR (by omega) (by omega) (i := k) (w := z) (b := k + z - 1) (rfl) (by rw [nI_add]; exact nI_m1 (by omega)) (by omega) (by omega) (hq)) (xlk_ok okR_greatestBroken rfl) rfl (by omega) (by omega) rfl (hR 0 (by decide)) rfl wM_R_54 wI_R_sumOfBroken wV_R_sumOfBroken wN_R wB_R_sumOfBroken hy_R_sumOfBroken (fun q => q.elim) ⟨Nat.le_of_ble_eq_true rfl, Nat.le_of_ble_eq_true rfl⟩ ⟨Nat.le_of_ble_eq_true rfl, Nat.le_of_ble_eq_true rfl⟩ (Nat.le_of_ble_eq_true rfl) (fun r n h hp => ?_) (fun _ _ _ q => q.elim)
      obtain ⟨rfl, rfl, rfl⟩ := hp
      refine XV.mmax C (xlk_ok okR_greatestBroken rfl) wM_R_57 (Nat.le_of_ble_eq_true rfl) (Nat.le_of_ble_eq_true rfl) (Nat.le_of_ble_eq_true rfl) (Nat.le_of_ble_eq_true rfl) ?_
      refine XV.run C okR_greatestBroken 3 (q := (4, ([some (.ref (a)), some (.int (nI z)), some (.int (if gmx (winS r true z) k < winS r true z k then winS r true z k else gmx (winS r true z) k)), some (.int ((nI k) + 1))], []))) rfl ?_
      rw [nI_1]
      exact ih (k + 1) (by omega)
  exact loop (25 - z) 0 (by omega)
set_option maxHeartbeats 4000000 in
set_option maxRecDepth 100000 in
theorem ct_R_windowOfGreatestCounts {l : Launch} (hfl : l.stackTraces = false) {G : XG} {n : Nat} {h : XH} {a : Nat} {r : Nat → Int32} (hR : IsRope h a r) (h4 : 4 ≤ a) (hn : a + 5 ≤ n + 4) {x : Int32} {z : Nat} (hx : x = nI z) (hz : 1 ≤ z) (hz2 : z ≤ 24) : XCt l G False (Cond.code yR_windowOfGreatestCounts bR_windowOfGreatestCounts 4 (some .int)) yR_windowOfGreatestCounts 2 47 0 0 [.ref (a), .int (x)] n h (fun r' n' h' => r' = some (.int (nI (gwinK r z))) ∧ n' = n ∧ h' = h) (fun _ _ _ => False) := by
  subst hx
  refine XCt.of hfl (by decide +kernel) (Nat.le_of_ble_eq_true rfl) ?_
  intro p' e' s' m' g' b' t' c' C hret hname hnt hmd
  refine XV.run C okR_windowOfGreatestCounts 2 (q := (2, ([some (.ref (a)), some (.int (nI z)), none, none], [.int (nI z), .ref (a)]))) rfl ?_
  refine XV.callV C (As := [.int (nI z)]) (rest := []) (ci := 2) (ct_R_greatestCounts hfl hR (by omega) (by omega) (z := z) (rfl) (by omega) (by omega)) (xlk_ok okR_windowOfGreatestCounts rfl) rfl (by omega) (by omega) rfl (hR 0 (by decide)) rfl wM_R_62 wI_R_greatestCounts wV_R_greatestCounts wN_R wB_R_greatestCounts hy_R_greatestCounts (fun q => q.elim) ⟨Nat.le_of_ble_eq_true rfl, Nat.le_of_ble_eq_true rfl⟩ ⟨Nat.le_of_ble_eq_true rfl, Nat.le_of_ble_eq_true rfl⟩ (Nat.le_of_ble_eq_true rfl) (fun r n h hp => ?_) (fun _ _ _ q => q.elim)
  obtain ⟨rfl, rfl, rfl⟩ := hp
  refine XV.run C okR_windowOfGreatestCounts 3 (q := (8, ([some (.ref (a)), some (.int (nI z)), some (.int (gmx (winS r false z) (25 - z))), some (.int (0))], []))) rfl ?_
  have loop : ∀ (d k : Nat), k + d = 25 - z ∧ fstN (winS r false z) (gmx (winS r false z) (25 - z)) d k = gwinK r z → XV G 4 p' l e' ({ frames := 2, cells := 0, slots := 0, locals := 47 } : Room) s' m' g' b' t' c' (XEnd G b' (fun r' n' h' => r' = some (.int (nI (gwinK r z))) ∧ n' = n ∧ h' = h) (fun _ _ _ => False) g' s' 0 0) 8 [some (.ref (a)), some (.int (nI z)), some (.int (gmx (winS r false z) (25 - z))), some (.int (nI k))] [] n h 0 0 := by
    intro d
    induction d with
    | zero =>
      intro k hk
      refine XV.run C okR_windowOfGreatestCounts 4 (q := (13, ([some (.ref (a)), some (.int (nI z)), some (.int (gmx (winS r false z) (25 - z))), some (.int (nI k))], [.int (24), .int ((nI k) + (nI z))]))) rfl ?_
      refine XV.icmp_gt C (tgt := 38) (xlk_ok okR_windowOfGreatestCounts rfl) rfl (fun _ => ?_) (fun hc => absurd (by rw [nI_add]; exact nI_lt (a := 24) (by omega) (by omega)) hc)
      refine XV.run C okR_windowOfGreatestCounts 1 (q := (39, ([some (.ref (a)), some (.int (nI z)), some (.int (gmx (winS r false z) (25 - z))), some (.int (nI k))], [.int (0)]))) rfl ?_
      exact XV.iret C (xlk_ok okR_windowOfGreatestCounts rfl) hret rfl (Nat.le_of_ble_eq_true rfl) (Nat.le_of_ble_eq_true rfl) (⟨by rw [← hk.2]; show some (Value.int 0) = some (Value.int (nI 0)); rw [nI_0], rfl, rfl⟩)
    | succ d ih =>
      intro k hk
      refine XV.run C okR_windowOfGreatestCounts 4 (q := (13, ([some (.ref (a)), some (.int (nI z)), some (.int (gmx (winS r false z) (25 - z))), some (.int (nI k))], [.int (24), .int ((nI k) + (nI z))]))) rfl ?_
      refine XV.icmp_gt C (tgt := 38) (xlk_ok okR_windowOfGreatestCounts rfl) rfl (fun hc => absurd hc (by rw [nI_add]; exact nI_nlt (b := k + z) (a := 24) (by omega) (by omega))) (fun _ => ?_)
      refine XV.run C okR_windowOfGreatestCounts 7 (q := (23, ([some (.ref (a)), some (.int (nI z)), some (.int (gmx (winS r false z) (25 - z))), some (.int (nI k))], [.int (((nI k) + (nI z)) - 1), .int (nI k), .ref (a)]))) rfl ?_
      refine XV.callV C (As := [.int (nI k), .int (((nI k) + (nI z)) - 1)]) (rest := []) (ci := 2) (ct_R_sumOfCounts hfl hR (by omega) (by omega) (i := k) (w := z) (b := k + z - 1) (rfl) (by rw [nI_add]; exact nI_m1 (by omega)) (by omega) (by omega)) (xlk_ok okR_windowOfGreatestCounts rfl) rfl (by omega) (by omega) rfl (hR 0 (by decide)) rfl wM_R_50 wI_R_sumOfCounts wV_R_sumOfCounts wN_R wB_R_sumOfCounts hy_R_sumOfCounts (fun q => q.elim) ⟨Nat.le_of_ble_eq_true rfl, Nat.le_of_ble_eq_true rfl⟩ ⟨Nat.le_of_ble_eq_true rfl, Nat.le_of_ble_eq_true rfl⟩ (Nat.le_of_ble_eq_true rfl) (fun r n h hp => ?_) (fun _ _ _ q => q.elim)
      obtain ⟨rfl, rfl, rfl⟩ := hp
      refine XV.run C okR_windowOfGreatestCounts 1 (q := (27, ([some (.ref (a)), some (.int (nI z)), some (.int (gmx (winS r false z) (25 - z))), some (.int (nI k))], [.int (gmx (winS r false z) (25 - z)), .int (winS r false z k)]))) rfl ?_
      refine XV.icmp_ne C (tgt := 32) (xlk_ok okR_windowOfGreatestCounts rfl) rfl (fun c => ?_) (fun c => ?_)
      ·
        have e : fstN (winS r false z) (gmx (winS r false z) (25 - z)) (d + 1) k = fstN (winS r false z) (gmx (winS r false z) (25 - z)) d (k + 1) := if_neg c
        refine XV.run C okR_windowOfGreatestCounts 2 (q := (8, ([some (.ref (a)), some (.int (nI z)), some (.int (gmx (winS r false z) (25 - z))), some (.int ((nI k) + 1))], []))) rfl ?_
        rw [nI_1]
        exact ih (k + 1) ⟨by omega, e ▸ hk.2⟩
      ·
        have e : fstN (winS r false z) (gmx (winS r false z) (25 - z)) (d + 1) k = k := if_pos c
        refine XV.run C okR_windowOfGreatestCounts 1 (q := (31, ([some (.ref (a)), some (.int (nI z)), some (.int (gmx (winS r false z) (25 - z))), some (.int (nI k))], [.int (nI k)]))) rfl ?_
        exact XV.iret C (xlk_ok okR_windowOfGreatestCounts rfl) hret rfl (Nat.le_of_ble_eq_true rfl) (Nat.le_of_ble_eq_true rfl) (⟨by rw [← hk.2, e], rfl, rfl⟩)
  exact loop (25 - z) 0 ⟨by omega, rfl⟩
set_option maxHeartbeats 4000000 in
set_option maxRecDepth 100000 in
theorem ct_R_greatestGrowth {l : Launch} (hfl : l.stackTraces = false) {G : XG} {n : Nat} {h : XH} {a : Nat} {r : Nat → Int32} (hR : IsRope h a r) (h4 : 4 ≤ a) (hn : a + 5 ≤ n + 4) : XCt l G False (Cond.code yR_greatestGrowth bR_greatestGrowth 3 (some .int)) yR_greatestGrowth 1 21 0 0 [.ref (a)] n h (fun r' n' h' => r' = some (.int (gmx (grw r) 24)) ∧ n' = n ∧ h' = h) (fun _ _ _ => False) := by
  refine XCt.of hfl (by decide +kernel) (Nat.le_of_ble_eq_true rfl) ?_
  intro p' e' s' m' g' b' t' c' C hret hname hnt hmd
  refine XV.run C okR_greatestGrowth 4 (q := (4, ([some (.ref (a)), some (.int (0)), some (.int (0))], []))) rfl ?_
  have loop : ∀ (d k : Nat), k + d = 24 → XV G 3 p' l e' ({ frames := 1, cells := 0, slots := 0, locals := 21 } : Room) s' m' g' b' t' c' (XEnd G b' (fun r' n' h' => r' = some (.int (gmx (grw r) 24)) ∧ n' = n ∧ h' = h) (fun _ _ _ => False) g' s' 0 0) 4 [some (.ref (a)), some (.int (gmx (grw r) k)), some (.int (nI k))] [] n h 0 0 := by
    intro d
    induction d with
    | zero =>
      intro k hk
      refine XV.run C okR_greatestGrowth 2 (q := (7, ([some (.ref (a)), some (.int (gmx (grw r) k)), some (.int (nI k))], [.int (24), .int (nI k)]))) rfl ?_
      refine XV.icmp_ge C (tgt := 34) (xlk_ok okR_greatestGrowth rfl) rfl (fun _ => ?_) (fun hc => absurd (nI_le (a := 24) (by omega) (by omega)) hc)
      refine XV.run C okR_greatestGrowth 1 (q := (35, ([some (.ref (a)), some (.int (gmx (grw r) k)), some (.int (nI k))], [.int (gmx (grw r) k)]))) rfl ?_
      exact XV.iret C (xlk_ok okR_greatestGrowth rfl) hret rfl (Nat.le_of_ble_eq_true rfl) (Nat.le_of_ble_eq_true rfl) (⟨by rw [show k = 24 by omega], rfl, rfl⟩)
    | succ d ih =>
      intro k hk
      refine XV.run C okR_greatestGrowth 2 (q := (7, ([some (.ref (a)), some (.int (gmx (grw r) k)), some (.int (nI k))], [.int (24), .int (nI k)]))) rfl ?_
      refine XV.icmp_ge C (tgt := 34) (xlk_ok okR_greatestGrowth rfl) rfl (fun hc => absurd hc (nI_ge (b := 24) (by omega) (by omega))) (fun _ => ?_)
      refine XV.run C okR_greatestGrowth 2 (q := (12, ([some (.ref (a)), some (.int (gmx (grw r) k)), some (.int (nI k))], [.ref (a), .int (gmx (grw r) k)]))) rfl ?_
      refine XV.getf C (ci := 2) (kf := 1) (v := .ref (a + 2)) (xlk_ok okR_greatestGrowth rfl) rfl (by decide) wF_R_15 (by omega) (by omega) (hR 0 (by decide)) rfl ?_
      refine XV.run C okR_greatestGrowth 1 (q := (16, ([some (.ref (a)), some (.int (gmx (grw r) k)), some (.int (nI k))], [.int (nI k), .ref (a + 2), .int (gmx (grw r) k)]))) rfl ?_
      refine XV.ialdC C (N := 24) (f := (fun s => r (27 + s))) (a := k) (xlk_ok okR_greatestGrowth rfl) (by omega) (by omega) (hR 2 (by decide)) (rfl) (by omega) (by decide) ?_
      refine XV.run C okR_greatestGrowth 1 (q := (18, ([some (.ref (a)), some (.int (gmx (grw r) k)), some (.int (nI k))], [.ref (a), .int (r (27 + k)), .int (gmx (grw r) k)]))) rfl ?_
      refine XV.getf C (ci := 2) (kf := 2) (v := .ref (a + 3)) (xlk_ok okR_greatestGrowth rfl) rfl (by decide) wF_R_18 (by omega) (by omega) (hR 0 (by decide)) rfl ?_
      refine XV.run C okR_greatestGrowth 1 (q := (22, ([some (.ref (a)), some (.int (gmx (grw r) k)), some (.int (nI k))], [.int (nI k), .ref (a + 3), .int (r (27 + k)), .int (gmx (grw r) k)]))) rfl ?_
      refine XV.ialdC C (N := 24) (f := (fun s => r (51 + s))) (a := k) (xlk_ok okR_greatestGrowth rfl) (by omega) (by omega) (hR 3 (by decide)) (rfl) (by omega) (by decide) ?_
      refine XV.run C okR_greatestGrowth 1 (q := (24, ([some (.ref (a)), some (.int (gmx (grw r) k)), some (.int (nI k))], [.int ((r (27 + k)) - (r (51 + k))), .int (gmx (grw r) k)]))) rfl ?_
      refine XV.mmax C (xlk_ok okR_greatestGrowth rfl) wM_R_57 (Nat.le_of_ble_eq_true rfl) (Nat.le_of_ble_eq_true rfl) (Nat.le_of_ble_eq_true rfl) (Nat.le_of_ble_eq_true rfl) ?_
      refine XV.run C okR_greatestGrowth 3 (q := (4, ([some (.ref (a)), some (.int (if gmx (grw r) k < (r (27 + k)) - (r (51 + k)) then (r (27 + k)) - (r (51 + k)) else gmx (grw r) k)), some (.int ((nI k) + 1))], []))) rfl ?_
      rw [nI_1]
      exact ih (k + 1) (by omega)
  exact loop 24 0 (by omega)
set_option maxHeartbeats 4000000 in
set_option maxRecDepth 100000 in
theorem ct_R_oldestLook {l : Launch} (hfl : l.stackTraces = false) {G : XG} {n : Nat} {h : XH} {a : Nat} {r : Nat → Int32} (hR : IsRope h a r) (h4 : 4 ≤ a) (hn : a + 5 ≤ n + 4) : XCt l G False (Cond.code yR_oldestLook bR_oldestLook 3 (some .int)) yR_oldestLook 1 21 0 0 [.ref (a)] n h (fun r' n' h' => r' = some (.int (omn (fun s => r (75 + s)) 24)) ∧ n' = n ∧ h' = h) (fun _ _ _ => False) := by
  refine XCt.of hfl (by decide +kernel) (Nat.le_of_ble_eq_true rfl) ?_
  intro p' e' s' m' g' b' t' c' C hret hname hnt hmd
  refine XV.run C okR_oldestLook 4 (q := (6, ([some (.ref (a)), some (.int (2000)), some (.int (0))], []))) rfl ?_
  have loop : ∀ (d k : Nat), k + d = 24 → XV G 3 p' l e' ({ frames := 1, cells := 0, slots := 0, locals := 21 } : Room) s' m' g' b' t' c' (XEnd G b' (fun r' n' h' => r' = some (.int (omn (fun s => r (75 + s)) 24)) ∧ n' = n ∧ h' = h) (fun _ _ _ => False) g' s' 0 0) 6 [some (.ref (a)), some (.int (omn (fun s => r (75 + s)) k)), some (.int (nI k))] [] n h 0 0 := by
    intro d
    induction d with
    | zero =>
      intro k hk
      refine XV.run C okR_oldestLook 2 (q := (9, ([some (.ref (a)), some (.int (omn (fun s => r (75 + s)) k)), some (.int (nI k))], [.int (24), .int (nI k)]))) rfl ?_
      refine XV.icmp_ge C (tgt := 29) (xlk_ok okR_oldestLook rfl) rfl (fun _ => ?_) (fun hc => absurd (nI_le (a := 24) (by omega) (by omega)) hc)
      refine XV.run C okR_oldestLook 1 (q := (30, ([some (.ref (a)), some (.int (omn (fun s => r (75 + s)) k)), some (.int (nI k))], [.int (omn (fun s => r (75 + s)) k)]))) rfl ?_
      exact XV.iret C (xlk_ok okR_oldestLook rfl) hret rfl (Nat.le_of_ble_eq_true rfl) (Nat.le_of_ble_eq_true rfl) (⟨by rw [show k = 24 by omega], rfl, rfl⟩)
    | succ d ih =>
      intro k hk
      refine XV.run C okR_oldestLook 2 (q := (9, ([some (.ref (a)), some (.int (omn (fun s => r (75 + s)) k)), some (.int (nI k))], [.int (24), .int (nI k)]))) rfl ?_
      refine XV.icmp_ge C (tgt := 29) (xlk_ok okR_oldestLook rfl) rfl (fun hc => absurd hc (nI_ge (b := 24) (by omega) (by omega))) (fun _ => ?_)
      refine XV.run C okR_oldestLook 2 (q := (14, ([some (.ref (a)), some (.int (omn (fun s => r (75 + s)) k)), some (.int (nI k))], [.ref (a), .int (omn (fun s => r (75 + s)) k)]))) rfl ?_
      refine XV.getf C (ci := 2) (kf := 3) (v := .ref (a + 4)) (xlk_ok okR_oldestLook rfl) rfl (by decide) wF_R_21 (by omega) (by omega) (hR 0 (by decide)) rfl ?_
      refine XV.run C okR_oldestLook 1 (q := (18, ([some (.ref (a)), some (.int (omn (fun s => r (75 + s)) k)), some (.int (nI k))], [.int (nI k), .ref (a + 4), .int (omn (fun s => r (75 + s)) k)]))) rfl ?_
      refine XV.ialdC C (N := 24) (f := (fun s => r (75 + s))) (a := k) (xlk_ok okR_oldestLook rfl) (by omega) (by omega) (hR 4 (by decide)) (rfl) (by omega) (by decide) ?_
      refine XV.mmin C (xlk_ok okR_oldestLook rfl) wM_R_68 (Nat.le_of_ble_eq_true rfl) (Nat.le_of_ble_eq_true rfl) (Nat.le_of_ble_eq_true rfl) (Nat.le_of_ble_eq_true rfl) ?_
      refine XV.run C okR_oldestLook 3 (q := (6, ([some (.ref (a)), some (.int (if r (75 + k) < omn (fun s => r (75 + s)) k then r (75 + k) else omn (fun s => r (75 + s)) k)), some (.int ((nI k) + 1))], []))) rfl ?_
      rw [nI_1]
      exact ih (k + 1) (by omega)
  exact loop 24 0 (by omega)
set_option maxHeartbeats 4000000 in
set_option maxRecDepth 100000 in
theorem ct_R_sectionFigure {l : Launch} (hfl : l.stackTraces = false) {G : XG} {n : Nat} {h : XH} {a : Nat} {r : Nat → Int32} (hR : IsRope h a r) (h4 : 4 ≤ a) (hn : a + 5 ≤ n + 4) {x y : Int32} {i w : Nat} (hx : x = nI i) (hy : y = nI w) (hi : i < 24) (hw : w ≤ 4) (hq : 0 < r 0) : XCt l G False (Cond.code yR_sectionFigure bR_sectionFigure 3 (some .int)) yR_sectionFigure 1 21 0 0 [.ref (a), .int (x), .int (y)] n h (fun r' n' h' => r' = some (.int (secF r i w)) ∧ n' = n ∧ h' = h) (fun _ _ _ => False) := by
  subst hx; subst hy
  refine XCt.of hfl (by decide +kernel) (Nat.le_of_ble_eq_true rfl) ?_
  intro p' e' s' m' g' b' t' c' C hret hname hnt hmd
  refine XV.run C okR_sectionFigure 1 (q := (1, ([some (.ref (a)), some (.int (nI i)), some (.int (nI w))], [.int (nI i)]))) rfl ?_
  refine XV.if_lt C (tgt := 10) (xlk_ok okR_sectionFigure rfl) rfl (fun hc => absurd hc (nI_pos (by omega))) (fun _ => ?_)
  refine XV.run C okR_sectionFigure 2 (q := (7, ([some (.ref (a)), some (.int (nI i)), some (.int (nI w))], [.int (24), .int (nI i)]))) rfl ?_
  refine XV.icmp_lt C (tgt := 12) (xlk_ok okR_sectionFigure rfl) rfl (fun _ => ?_) (fun hc => absurd (nI_lt (b := 24) (by omega) (by omega)) hc)
  refine XV.run C okR_sectionFigure 1 (q := (13, ([some (.ref (a)), some (.int (nI i)), some (.int (nI w))], [.int (nI w)]))) rfl ?_
  rcases (show w = 0 ∨ w = 1 ∨ w = 2 ∨ w = 3 ∨ w = 4 by omega) with rfl | rfl | rfl | rfl | rfl
  ·
    refine XV.tabIn C (off := 31) (tgt := 44) (xlk_ok okR_sectionFigure rfl) (by decide) (by decide) rfl rfl ?_
    refine XV.run C okR_sectionFigure 1 (q := (45, ([some (.ref (a)), some (.int (nI i)), some (.int (nI 0))], [.ref (a)]))) rfl ?_
    refine XV.getf C (ci := 2) (kf := 0) (v := .ref (a + 1)) (xlk_ok okR_sectionFigure rfl) rfl (by decide) wF_R_9 (by omega) (by omega) (hR 0 (by decide)) rfl ?_
    refine XV.run C okR_sectionFigure 1 (q := (49, ([some (.ref (a)), some (.int (nI i)), some (.int (nI 0))], [.int (nI i), .ref (a + 1)]))) rfl ?_
    refine XV.ialdC C (N := 24) (f := (fun s => r (3 + s))) (a := i) (xlk_ok okR_sectionFigure rfl) (by omega) (by omega) (hR 1 (by decide)) (rfl) (by omega) (by decide) ?_
    exact XV.iret C (xlk_ok okR_sectionFigure rfl) hret rfl (Nat.le_of_ble_eq_true rfl) (Nat.le_of_ble_eq_true rfl) (⟨rfl, rfl, rfl⟩)
  ·
    refine XV.tabIn C (off := 38) (tgt := 51) (xlk_ok okR_sectionFigure rfl) (by decide) (by decide) rfl rfl ?_
    refine XV.run C okR_sectionFigure 2 (q := (53, ([some (.ref (a)), some (.int (nI i)), some (.int (nI 1))], [.int (nI i), .ref (a)]))) rfl ?_
    refine XV.callV C (As := [.int (nI i)]) (rest := []) (ci := 2) (ct_R_broken hfl hR (by omega) (by omega) (i := i) (rfl) (by omega) (hq)) (xlk_ok okR_sectionFigure rfl) rfl (by omega) (by omega) rfl (hR 0 (by decide)) rfl wM_R_46 wI_R_broken wV_R_broken wN_R wB_R_broken hy_R_broken (fun q => q.elim) ⟨Nat.le_of_ble_eq_true rfl, Nat.le_of_ble_eq_true rfl⟩ ⟨Nat.le_of_ble_eq_true rfl, Nat.le_of_ble_eq_true rfl⟩ (Nat.le_of_ble_eq_true rfl) (fun r n h hp => ?_) (fun _ _ _ q => q.elim)
    obtain ⟨rfl, rfl, rfl⟩ := hp
    exact XV.iret C (xlk_ok okR_sectionFigure rfl) hret rfl (Nat.le_of_ble_eq_true rfl) (Nat.le_of_ble_eq_true rfl) (⟨rfl, rfl, rfl⟩)
  ·
    refine XV.tabIn C (off := 44) (tgt := 57) (xlk_ok okR_sectionFigure rfl) (by decide) (by decide) rfl rfl ?_
    refine XV.run C okR_sectionFigure 1 (q := (58, ([some (.ref (a)), some (.int (nI i)), some (.int (nI 2))], [.ref (a)]))) rfl ?_
    refine XV.getf C (ci := 2) (kf := 1) (v := .ref (a + 2)) (xlk_ok okR_sectionFigure rfl) rfl (by decide) wF_R_15 (by omega) (by omega) (hR 0 (by decide)) rfl ?_
    refine XV.run C okR_sectionFigure 1 (q := (62, ([some (.ref (a)), some (.int (nI i)), some (.int (nI 2))], [.int (nI i), .ref (a + 2)]))) rfl ?_
    refine XV.ialdC C (N := 24) (f := (fun s => r (27 + s))) (a := i) (xlk_ok okR_sectionFigure rfl) (by omega) (by omega) (hR 2 (by decide)) (rfl) (by omega) (by decide) ?_
    exact XV.iret C (xlk_ok okR_sectionFigure rfl) hret rfl (Nat.le_of_ble_eq_true rfl) (Nat.le_of_ble_eq_true rfl) (⟨rfl, rfl, rfl⟩)
  ·
    refine XV.tabIn C (off := 51) (tgt := 64) (xlk_ok okR_sectionFigure rfl) (by decide) (by decide) rfl rfl ?_
    refine XV.run C okR_sectionFigure 1 (q := (65, ([some (.ref (a)), some (.int (nI i)), some (.int (nI 3))], [.ref (a)]))) rfl ?_
    refine XV.getf C (ci := 2) (kf := 2) (v := .ref (a + 3)) (xlk_ok okR_sectionFigure rfl) rfl (by decide) wF_R_18 (by omega) (by omega) (hR 0 (by decide)) rfl ?_
    refine XV.run C okR_sectionFigure 1 (q := (69, ([some (.ref (a)), some (.int (nI i)), some (.int (nI 3))], [.int (nI i), .ref (a + 3)]))) rfl ?_
    refine XV.ialdC C (N := 24) (f := (fun s => r (51 + s))) (a := i) (xlk_ok okR_sectionFigure rfl) (by omega) (by omega) (hR 3 (by decide)) (rfl) (by omega) (by decide) ?_
    exact XV.iret C (xlk_ok okR_sectionFigure rfl) hret rfl (Nat.le_of_ble_eq_true rfl) (Nat.le_of_ble_eq_true rfl) (⟨rfl, rfl, rfl⟩)
  ·
    refine XV.tabOut C (tgt := 71) (xlk_ok okR_sectionFigure rfl) (by decide) rfl ?_
    refine XV.run C okR_sectionFigure 1 (q := (72, ([some (.ref (a)), some (.int (nI i)), some (.int (nI 4))], [.ref (a)]))) rfl ?_
    refine XV.getf C (ci := 2) (kf := 3) (v := .ref (a + 4)) (xlk_ok okR_sectionFigure rfl) rfl (by decide) wF_R_21 (by omega) (by omega) (hR 0 (by decide)) rfl ?_
    refine XV.run C okR_sectionFigure 1 (q := (76, ([some (.ref (a)), some (.int (nI i)), some (.int (nI 4))], [.int (nI i), .ref (a + 4)]))) rfl ?_
    refine XV.ialdC C (N := 24) (f := (fun s => r (75 + s))) (a := i) (xlk_ok okR_sectionFigure rfl) (by omega) (by omega) (hR 4 (by decide)) (rfl) (by omega) (by decide) ?_
    exact XV.iret C (xlk_ok okR_sectionFigure rfl) hret rfl (Nat.le_of_ble_eq_true rfl) (Nat.le_of_ble_eq_true rfl) (⟨rfl, rfl, rfl⟩)
end
section
/-! rows anew -/
theorem XV.cast {G : XG} {nL : Nat} {p : Program} {l : Launch} {e : Env} {R : Room} {s : State} {m : MethodId} {args : Array Value} {below : List Frame} {meth : Method} {c : Code} {Q : State → Prop} {pc : Nat} {ls : List (Option Value)} {st : List Value} {n : Nat} {h h' : XH} {k ks : Nat} (he : h = h') (kk : XV G nL p l e R s m args below meth c Q pc ls st n h' k ks) : XV G nL p l e R s m args below meth c Q pc ls st n h k ks := he ▸ kk
theorem ropeC_congr {a : Nat} {r1 r2 : Nat → Int32} (h12 : ∀ k, k < 99 → r1 k = r2 k) : ∀ j, ropeC a r1 j = ropeC a r2 j := by
  intro j
  unfold ropeC
  match j with
  | 0 => show (Sum.inr (2, [.ref (a + 1), .ref (a + 2), .ref (a + 3), .ref (a + 4), .int (r1 0), .int (r1 1), .int (r1 2)]) : XC) = Sum.inr (2, [.ref (a + 1), .ref (a + 2), .ref (a + 3), .ref (a + 4), .int (r2 0), .int (r2 1), .int (r2 2)]); rw [h12 0 (by omega), h12 1 (by omega), h12 2 (by omega)]
  | 1 => exact xar_eq fun s hs => h12 _ (by omega)
  | 2 => exact xar_eq fun s hs => h12 _ (by omega)
  | 3 => exact xar_eq fun s hs => h12 _ (by omega)
  | j + 4 => exact xar_eq fun s hs => h12 _ (by omega)
theorem setRope_congr {h : XH} {a : Nat} {r1 r2 : Nat → Int32} (h12 : ∀ k, k < 99 → r1 k = r2 k) : setRope h a r1 = setRope h a r2 := blk_eq fun i _ => ropeC_congr h12 i
theorem setRope_self {h : XH} {a : Nat} {r : Nat → Int32} (hR : IsRope h a r) : setRope h a r = h := blk_self hR
theorem setRope_set (h : XH) (a : Nat) (r r' : Nat → Int32) : setRope (setRope h a r) a r' = setRope h a r' := blk_blk _ _ _ _ _
theorem upd_ne {f : Nat → Int32} {k j : Nat} {x : Int32} (h : j ≠ k) : upd f k x j = f j := by simp [upd, h]
theorem upd_eq {f : Nat → Int32} {k : Nat} {x : Int32} : upd f k x k = x := by simp [upd]
theorem setRope_f0 (h : XH) (a : Nat) (r : Nat → Int32) (x : Int32) : xup (setRope h a r) a (.inr (2, [.ref (a + 1), .ref (a + 2), .ref (a + 3), .ref (a + 4), .int x, .int (r 1), .int (r 2)])) = setRope h a (upd r 0 x) := by
  refine blk_up (j := 0) (by decide) rfl (fun i hi hne => ?_)
  match i, hne with
  | 1, _ => exact xar_eq fun s hs => upd_ne (by omega)
  | 2, _ => exact xar_eq fun s hs => upd_ne (by omega)
  | 3, _ => exact xar_eq fun s hs => upd_ne (by omega)
  | j + 4, _ => exact xar_eq fun s hs => upd_ne (by omega)
theorem setRope_f1 (h : XH) (a : Nat) (r : Nat → Int32) (x : Int32) : xup (setRope h a r) a (.inr (2, [.ref (a + 1), .ref (a + 2), .ref (a + 3), .ref (a + 4), .int (r 0), .int x, .int (r 2)])) = setRope h a (upd r 1 x) := by
  refine blk_up (j := 0) (by decide) rfl (fun i hi hne => ?_)
  match i, hne with
  | 1, _ => exact xar_eq fun s hs => upd_ne (by omega)
  | 2, _ => exact xar_eq fun s hs => upd_ne (by omega)
  | 3, _ => exact xar_eq fun s hs => upd_ne (by omega)
  | j + 4, _ => exact xar_eq fun s hs => upd_ne (by omega)
theorem setRope_f2 (h : XH) (a : Nat) (r : Nat → Int32) (x : Int32) : xup (setRope h a r) a (.inr (2, [.ref (a + 1), .ref (a + 2), .ref (a + 3), .ref (a + 4), .int (r 0), .int (r 1), .int x])) = setRope h a (upd r 2 x) := by
  refine blk_up (j := 0) (by decide) rfl (fun i hi hne => ?_)
  match i, hne with
  | 1, _ => exact xar_eq fun s hs => upd_ne (by omega)
  | 2, _ => exact xar_eq fun s hs => upd_ne (by omega)
  | 3, _ => exact xar_eq fun s hs => upd_ne (by omega)
  | j + 4, _ => exact xar_eq fun s hs => upd_ne (by omega)
/-- a whole row of cells anew: the array b of the rope, its place o in the row -/
theorem setRope_arr (h : XH) (a : Nat) (r : Nat → Int32) (f : Nat → Int32) (b o : Nat) (hb : (b = 1 ∧ o = 3) ∨ (b = 2 ∧ o = 27) ∨ (b = 3 ∧ o = 51) ∨ (b = 4 ∧ o = 75)) : xup (setRope h a r) (a + b) (xar 24 f) = setRope h a (fun k => if o ≤ k ∧ k < o + 24 then f (k - o) else r k) := by
  refine blk_up (j := b) (by omega) ?_ (fun i hi hne => ?_)
  · rcases hb with ⟨rfl, rfl⟩ | ⟨rfl, rfl⟩ | ⟨rfl, rfl⟩ | ⟨rfl, rfl⟩
    all_goals
      refine xar_eq fun s hs => ?_
      show (if _ then _ else _) = _
      rw [if_pos (by omega)]
      congr 1
      omega
  · match i, hne with
    | 0, _ =>
      show (Sum.inr (2, [.ref (a + 1), .ref (a + 2), .ref (a + 3), .ref (a + 4), .int (if o ≤ 0 ∧ 0 < o + 24 then f (0 - o) else r 0), .int (if o ≤ 1 ∧ 1 < o + 24 then f (1 - o) else r 1), .int (if o ≤ 2 ∧ 2 < o + 24 then f (2 - o) else r 2)]) : XC) = Sum.inr (2, [.ref (a + 1), .ref (a + 2), .ref (a + 3), .ref (a + 4), .int (r 0), .int (r 1), .int (r 2)])
      rw [if_neg (by omega), if_neg (by omega), if_neg (by omega)]
    | 1, _ => exact xar_eq fun s hs => if_neg (by omega)
    | 2, _ => exact xar_eq fun s hs => if_neg (by omega)
    | 3, _ => exact xar_eq fun s hs => if_neg (by omega)
    | 4, _ => exact xar_eq fun s hs => if_neg (by omega)
    | j + 5, _ => omega
theorem setRope_up (h : XH) (a : Nat) (r : Nat → Int32) (b o i : Nat) (x : Int32) (hb : (b = 1 ∧ o = 3) ∨ (b = 2 ∧ o = 27) ∨ (b = 3 ∧ o = 51) ∨ (b = 4 ∧ o = 75)) (hi : i < 24) : xup (setRope h a r) (a + b) (xar 24 (upd (fun s => r (o + s)) i x)) = setRope h a (upd r (o + i) x) := by
  rw [setRope_arr h a r _ b o hb]
  refine setRope_congr fun k hk => ?_
  by_cases hk2 : k = o + i
  · subst hk2
    rw [if_pos (by omega), upd_eq, show o + i - o = i by omega, upd_eq]
  · rw [upd_ne hk2]
    by_cases h3 : o ≤ k ∧ k < o + 24
    · rw [if_pos h3, upd_ne (by omega)]
      congr 1
      omega
    · rw [if_neg h3]
def rBend (r : Nat → Int32) (lo n : Nat) (t : Int32) : Nat → Int32 := fun k => if 3 + lo ≤ k ∧ k < 3 + lo + n then r k + t else r k
def rBendT (r : Nat → Int32) (lo n : Nat) (t : Int32) : Nat → Int32 := upd (rBend r lo n t) 2 (r 2 + t)
def rLook (r : Nat → Int32) (lo n : Nat) (mth : Int32) : Nat → Int32 := fun k => if 51 + lo ≤ k ∧ k < 51 + lo + n then r (k - 24) else if 27 + lo ≤ k ∧ k < 27 + lo + n then brk r (k - 27) else if 75 + lo ≤ k ∧ k < 75 + lo + n then mth else r k
def rNew (q mth : Int32) : Nat → Int32 := fun k => if k = 0 then q else if k = 1 then mth else if 75 ≤ k then mth else 0
theorem rBend_0 (r : Nat → Int32) (lo : Nat) (t : Int32) : rBend r lo 0 t = r := by
  funext k
  unfold rBend
  rw [if_neg (by omega)]
theorem rBend_s (r : Nat → Int32) (lo n : Nat) (t : Int32) : upd (rBend r lo n t) (3 + (lo + n)) (rBend r lo n t (3 + (lo + n)) + t) = rBend r lo (n + 1) t := by
  funext k
  by_cases hk : k = 3 + (lo + n)
  · subst hk
    rw [upd_eq]
    unfold rBend
    rw [if_neg (by omega), if_pos (by omega)]
  · rw [upd_ne hk]
    unfold rBend
    by_cases h1 : 3 + lo ≤ k ∧ k < 3 + lo + n
    · rw [if_pos h1, if_pos (by omega)]
    · rw [if_neg h1, if_neg (by omega)]
theorem rLook_0 (r : Nat → Int32) (lo : Nat) (t : Int32) : rLook r lo 0 t = r := by
  funext k
  unfold rLook
  rw [if_neg (by omega), if_neg (by omega), if_neg (by omega)]
theorem rLook_s (r : Nat → Int32) (lo n : Nat) (t : Int32) (hn : lo + n < 24) : upd (upd (upd (rLook r lo n t) (51 + (lo + n)) (rLook r lo n t (27 + (lo + n)))) (27 + (lo + n)) (brk (upd (rLook r lo n t) (51 + (lo + n)) (rLook r lo n t (27 + (lo + n)))) (lo + n))) (75 + (lo + n)) t = rLook r lo (n + 1) t := by
  have hb : brk (upd (rLook r lo n t) (51 + (lo + n)) (rLook r lo n t (27 + (lo + n)))) (lo + n) = brk r (lo + n) := by
    unfold brk
    rw [upd_ne (by omega), upd_ne (by omega)]
    unfold rLook
    rw [if_neg (by omega), if_neg (by omega), if_neg (by omega), if_neg (by omega), if_neg (by omega), if_neg (by omega)]
  rw [hb]
  funext k
  by_cases h1 : k = 75 + (lo + n)
  · subst h1
    rw [upd_eq]
    unfold rLook
    rw [if_neg (by omega), if_neg (by omega), if_pos (by omega)]
  · rw [upd_ne h1]
    by_cases h2 : k = 27 + (lo + n)
    · subst h2
      rw [upd_eq]
      unfold rLook
      rw [if_neg (by omega), if_pos (by omega), show 27 + (lo + n) - 27 = lo + n by omega]
    · rw [upd_ne h2]
      by_cases h3 : k = 51 + (lo + n)
      · subst h3
        rw [upd_eq]
        unfold rLook
        rw [if_neg (by omega), if_neg (by omega), if_neg (by omega), if_pos (by omega)]
        congr 1
        omega
      · rw [upd_ne h3]
        unfold rLook
        by_cases g1 : 51 + lo ≤ k ∧ k < 51 + lo + n
        · rw [if_pos g1, if_pos (by omega)]
        · rw [if_neg g1]
          by_cases g2 : 27 + lo ≤ k ∧ k < 27 + lo + n
          · rw [if_pos g2, if_neg (by omega), if_pos (by omega)]
          · rw [if_neg g2]
            by_cases g3 : 75 + lo ≤ k ∧ k < 75 + lo + n
            · rw [if_pos g3, if_neg (by omega), if_neg (by omega), if_pos (by omega)]
            · rw [if_neg g3, if_neg (by omega), if_neg (by omega), if_neg (by omega)]
theorem IsB.out {h : XH} {a N b M : Nat} {c d : Nat → XC} (hb : IsB h b M d) (hd : b + M ≤ a ∨ a + N ≤ b) : IsB (blk h a N c) b M d := fun j hj => by
  rw [blk_out (by omega)]
  exact hb j hj
theorem xup_xup (h : XH) (a : Nat) (x y : XC) : xup (xup h a x) a y = xup h a y := by
  funext j
  unfold xup
  split <;> rfl
theorem xup_self {h : XH} {a : Nat} {x : XC} (hx : h a = x) : xup h a x = h := by
  funext j
  unfold xup
  split
  · rename_i hj; rw [hj, hx]
  · rfl
theorem xup_at (h : XH) (a : Nat) (x : XC) : xup h a x a = x := if_pos rfl
theorem xup_ne {h : XH} {a j : Nat} {x : XC} (hj : j ≠ a) : xup h a x j = h j := if_neg hj
def fillF (f : Nat → Int32) (x : Int32) (j : Nat) : Nat → Int32 := fun s => if s < j then x else f s
theorem fillF_s (f : Nat → Int32) (x : Int32) (j : Nat) : upd (fillF f x j) j x = fillF f x (j + 1) := by
  funext s
  by_cases hs : s = j
  · subst hs
    rw [upd_eq]
    unfold fillF
    rw [if_pos (by omega)]
  · rw [upd_ne hs]
    unfold fillF
    by_cases h1 : s < j
    · rw [if_pos h1, if_pos (by omega)]
    · rw [if_neg h1, if_neg (by omega)]
/-- a row of which the array of the place o is all x -/
def rFill (r : Nat → Int32) (o : Nat) (x : Int32) : Nat → Int32 := fun k => if o ≤ k ∧ k < o + 24 then x else r k
/-- .. is that of r2 -/
def rArr (r : Nat → Int32) (o : Nat) (r2 : Nat → Int32) : Nat → Int32 := fun k => if o ≤ k ∧ k < o + 24 then r2 k else r k
theorem setRope_fill (h : XH) (a : Nat) (r : Nat → Int32) (x : Int32) (b o : Nat) (hb : (b = 1 ∧ o = 3) ∨ (b = 2 ∧ o = 27) ∨ (b = 3 ∧ o = 51) ∨ (b = 4 ∧ o = 75)) : xup (setRope h a r) (a + b) (xar 24 (fun _ => x)) = setRope h a (rFill r o x) := setRope_arr h a r _ b o hb
theorem setRope_arr2 (h : XH) (a : Nat) (r r2 : Nat → Int32) (b o : Nat) (hb : (b = 1 ∧ o = 3) ∨ (b = 2 ∧ o = 27) ∨ (b = 3 ∧ o = 51) ∨ (b = 4 ∧ o = 75)) : xup (setRope h a r) (a + b) (xar 24 (fun s => r2 (o + s))) = setRope h a (rArr r o r2) := by
  rw [setRope_arr h a r _ b o hb]
  refine setRope_congr fun k hk => ?_
  unfold rArr
  by_cases h3 : o ≤ k ∧ k < o + 24
  · rw [if_pos h3, if_pos h3, show o + (k - o) = k by omega]
  · rw [if_neg h3, if_neg h3]
theorem rNew_eq (r : Nat → Int32) (q mth : Int32) : ∀ k, k < 99 → upd (upd (upd (rFill (rFill (rFill (rFill r 3 0) 27 0) 51 0) 75 mth) 0 q) 1 mth) 2 0 k = rNew q mth k := by
  intro k hk
  simp only [upd, rFill, rNew]
  by_cases h0 : k = 0
  · subst h0; rfl
  by_cases h1 : k = 1
  · subst h1; rfl
  by_cases h2 : k = 2
  · subst h2; rfl
  rw [if_neg h2, if_neg h1, if_neg h0, if_neg h0, if_neg h1]
  by_cases h3 : 75 ≤ k
  · rw [if_pos (by omega), if_pos h3]
  · rw [if_neg (by omega), if_neg h3]
    by_cases h4 : 51 ≤ k
    · rw [if_pos (by omega)]
    · rw [if_neg (by omega)]
      by_cases h5 : 27 ≤ k
      · rw [if_pos (by omega)]
      · rw [if_neg (by omega), if_pos (by omega)]
theorem rCopy_eq (r r2 : Nat → Int32) : ∀ k, k < 99 → upd (upd (upd (rArr (rArr (rArr (rArr r 3 r2) 27 r2) 51 r2) 75 r2) 0 (r2 0)) 1 (r2 1)) 2 (r2 2) k = r2 k := by
  intro k hk
  simp only [upd, rArr]
  by_cases h0 : k = 0
  · subst h0; rfl
  by_cases h1 : k = 1
  · subst h1; rfl
  by_cases h2 : k = 2
  · subst h2; rfl
  rw [if_neg h2, if_neg h1, if_neg h0]
  by_cases h3 : 75 ≤ k
  · rw [if_pos (by omega)]
  · rw [if_neg (by omega)]
    by_cases h4 : 51 ≤ k
    · rw [if_pos (by omega)]
    · rw [if_neg (by omega)]
      by_cases h5 : 27 ≤ k
      · rw [if_pos (by omega)]
      · rw [if_neg (by omega), if_pos (by omega)]
theorem rInit_eq (r : Nat → Int32) : True := trivial
theorem fillF_0 (f : Nat → Int32) (x : Int32) : fillF f x 0 = f := by
  funext s
  unfold fillF
  rw [if_neg (by omega)]
theorem fillF_all (f : Nat → Int32) (x : Int32) (N : Nat) : xar N (fillF f x N) = xar N (fun _ => x) := xar_eq fun s hs => if_pos hs
/-- a method of a class that has natives of its own -/
theorem XCt.ofF {l : Launch} {G : XG} {md : Prop} {y : MethodName} {bytes : ByteArray} {maxL fr lo mc ms : Nat} {ret : Option FieldType} {av : List Value} {n : Nat} {h : XH} {post : Option Value → Nat → XH → Prop} {px : String → Nat → XH → Prop} (hfl : l.stackTraces = false) (hy : plainFor y = true) (hl : (xlay av).length ≤ maxL)
    (body : ∀ (p : Program) (e : Env) (s : State) (m : MethodId) (args : Array Value) (below : List Frame) (meth : Method) (c : Code), XCx G l y.cls bytes maxL p s m args meth c → meth.sig.returnType = ret → meth.name = y.name → (∀ x ∈ c.exceptionTable.toList, False) → (md → s.heap.size = xbase G + n) →
      XV G maxL p l e ({ frames := fr, cells := mc, slots := ms, locals := lo } : Room) s m args below meth c (XEnd G below post px args s mc ms) 0 (xent maxL av) [] n h 0 0) : XCt l G md (Cond.code y bytes maxL ret) y fr lo mc ms av n h post px := by
  refine MetFree.of_bodySF (code := bytes) (maxLocals := maxL) (ret := ret) hy ?_ ?_
  · intro args s m h hn
    obtain ⟨meth, c, h1, h2, h3, h4, h5, h6, -, -⟩ := Cond.code_spec hn (atoms_spec (ws := Cond.code y bytes maxL ret :: WALL) h _ List.mem_cons_self)
    exact ⟨meth, c, h1, h2, h3, h4, h5, h6⟩
  · intro p e s m args below meth c s₁ B hml hv _
    have hh0 : s₁.heap = s.heap := by rw [B.state]; rfl
    have hnt : ∀ x ∈ c.exceptionTable.toList, False := by
      obtain ⟨meth9, c9, h1, h2, -, -, -, -, h7, -⟩ := Cond.code_spec B.named (atoms_spec (ws := Cond.code y bytes maxL ret :: WALL) B.pre _ List.mem_cons_self)
      cases Option.some.inj (h1.symm.trans B.method)
      cases Option.some.inj (h2.symm.trans (Stand.of_body B).code)
      intro x hx
      rw [Array.isEmpty_iff.mp h7] at hx
      cases hx
    obtain ⟨hargs, hP, hz, hm, hE⟩ := hv
    subst hargs
    have hts0 := atoms_spec (ws := Cond.code y bytes maxL ret :: WALL) B.pre
    have C : XCx G l y.cls bytes maxL p s m (av.map (xv G)).toArray meth c := ⟨B.exec, B.bytes, hml, findClass_of_methodNamed B.named, fun w hw => hts0 w (List.mem_cons_of_mem _ hw), B.notSynchronized, hE, by omega, hfl⟩
    have K := body p e s m _ below meth c C B.returns (name_of_methodNamed B.named B.method).1 hnt hm s.heap [] _ hP hz va_S.rf (xent_has G hl)
    have K2 : W p l e ({ frames := fr, cells := mc, slots := ms, locals := lo } : Room) s m (av.map (xv G)).toArray below meth c s.heap [] 0 0 (XEnd G below post px (av.map (xv G)).toArray s mc ms) (entryFrame m (av.map (xv G)).toArray maxL) := by
      rw [lg_entry_eq]
      exact K
    obtain ⟨t, a1, o, b1, b2, b3⟩ := K2 s₁ hh0 (Stand.of_body B)
    exact ⟨t, o, a1, b1, b2, b3⟩
end
section
/-! Arrays.fill, Math.floorMod; RopeThreads$Rope: the writes, the constructor -/
set_option maxHeartbeats 4000000 in
set_option maxRecDepth 100000 in
theorem ct_JA_fill {l : Launch} (hfl : l.stackTraces = false) {G : XG} {n : Nat} {h : XH} {a N : Nat} {f : Nat → Int32} {x : Int32} (hh : h a = xar N f) (h4 : 4 ≤ a) (hn : a < n + 4) (hN : N < 2 ^ 31) : XCt l G False (Cond.code yJA_fill bJA_fill 4 none) yJA_fill 0 0 0 0 [.ref (a), .int (x)] n h (fun r' n' h' => r' = none ∧ n' = n ∧ h' = xup h a (xar N (fun _ => x))) (fun _ _ _ => False) := by
  refine XCt.of hfl (by decide +kernel) (Nat.le_of_ble_eq_true rfl) ?_
  intro p' e' s' m' g' b' t' c' C hret hname hnt hmd
  refine XV.run C okJA_fill 3 (q := (3, ([some (.ref (a)), some (.int (x)), some (.int (0)), none], [.ref (a)]))) rfl ?_
  refine XV.alenC C (N := N) (f := f) (xlk_ok okJA_fill rfl) (h4) (hn) (hh) ?_
  refine XV.run C okJA_fill 1 (q := (5, ([some (.ref (a)), some (.int (x)), some (.int (0)), some (.int (nI N))], []))) rfl ?_
  have loop : ∀ (d j : Nat), j + d = N → XV G 4 p' l e' ({ frames := 0, cells := 0, slots := 0, locals := 0 } : Room) s' m' g' b' t' c' (XEnd G b' (fun r' n' h' => r' = none ∧ n' = n ∧ h' = xup h a (xar N (fun _ => x))) (fun _ _ _ => False) g' s' 0 0) 5 [some (.ref (a)), some (.int (x)), some (.int (nI j)), some (.int (nI N))] [] n (xup h a (xar N (fillF f x j))) 0 0 := by
    intro d
    induction d with
    | zero =>
      intro j hj
      refine XV.run C okJA_fill 2 (q := (7, ([some (.ref (a)), some (.int (x)), some (.int (nI j)), some (.int (nI N))], [.int (nI N), .int (nI j)]))) rfl ?_
      refine XV.icmp_ge C (tgt := 20) (xlk_ok okJA_fill rfl) rfl (fun _ => ?_) (fun hc => absurd (nI_le (by omega) (by omega)) hc)
      exact XV.vret C (xlk_ok okJA_fill rfl) hret (Nat.le_of_ble_eq_true rfl) (Nat.le_of_ble_eq_true rfl) (⟨rfl, rfl, by rw [show j = N by omega, fillF_all]⟩)
    | succ d ih =>
      intro j hj
      refine XV.run C okJA_fill 2 (q := (7, ([some (.ref (a)), some (.int (x)), some (.int (nI j)), some (.int (nI N))], [.int (nI N), .int (nI j)]))) rfl ?_
      refine XV.icmp_ge C (tgt := 20) (xlk_ok okJA_fill rfl) rfl (fun hc => absurd hc (nI_ge (by omega) (by omega))) (fun _ => ?_)
      refine XV.run C okJA_fill 3 (q := (13, ([some (.ref (a)), some (.int (x)), some (.int (nI j)), some (.int (nI N))], [.int (x), .int (nI j), .ref (a)]))) rfl ?_
      refine XV.iastC C (N := N) (f := (fillF f x j)) (a := j) (xlk_ok okJA_fill rfl) (h4) (hn) (xup_at _ _ _) (rfl) (by omega) (hN) ?_
      refine XV.cast (by rw [xup_xup, fillF_s]) (h' := xup h a (xar N (fillF f x (j + 1)))) ?_
      refine XV.run C okJA_fill 2 (q := (5, ([some (.ref (a)), some (.int (x)), some (.int ((nI j) + 1)), some (.int (nI N))], []))) rfl ?_
      rw [nI_1]
      exact ih (j + 1) (by omega)
  refine XV.cast (by rw [fillF_0, xup_self hh]) (h' := xup h a (xar N (fillF f x 0))) ?_
  exact loop N 0 (by omega)
theorem fm_ge {i d : Nat} (hi : i < 2 ^ 31) (hd : d < 2 ^ 31) : 0 ≤ nI i ^^^ nI d := by
  have h1 : (nI i ^^^ nI d) = nI (i ^^^ d) := by
    unfold nI
    apply Int32.toBitVec_inj.mp
    rw [Int32.toBitVec_xor]
    show BitVec.ofNat 32 i ^^^ BitVec.ofNat 32 d = BitVec.ofNat 32 (i ^^^ d)
    exact BitVec.ofNat_xor.symm
  rw [h1]
  exact nI_pos' (Nat.xor_lt_two_pow hi hd)
set_option maxHeartbeats 4000000 in
set_option maxRecDepth 100000 in
theorem ct_JM_floorMod {l : Launch} (hfl : l.stackTraces = false) {G : XG} {n : Nat} {h : XH} {x y : Int32} {i d : Nat} (hx : x = nI i) (hy : y = nI d) (hi : i < 2 ^ 31) (h0 : 0 < d) (hd : d < 2 ^ 31) : XCt l G False (Cond.code yJM_floorMod bJM_floorMod 3 (some .int)) yJM_floorMod 0 0 0 0 [.int (x), .int (y)] n h (fun r' n' h' => r' = some (.int (nI (i % d))) ∧ n' = n ∧ h' = h) (fun _ _ _ => False) := by
  subst hx; subst hy
  refine XCt.ofF hfl (by decide +kernel) (Nat.le_of_ble_eq_true rfl) ?_
  intro p' e' s' m' g' b' t' c' C hret hname hnt hmd
  refine XV.run C okJM_floorMod 2 (q := (2, ([some (.int (nI i)), some (.int (nI d)), none], [.int (nI d), .int (nI i)]))) rfl ?_
  refine XV.irem C (xlk_ok okJM_floorMod rfl) (nI_ne0 h0 hd) ?_
  rw [pk_rem hi h0 hd]
  refine XV.run C okJM_floorMod 4 (q := (7, ([some (.int (nI i)), some (.int (nI d)), some (.int (nI (i % d)))], [.int ((nI i) ^^^ (nI d))]))) rfl ?_
  refine XV.if_ge C (tgt := 18) (xlk_ok okJM_floorMod rfl) rfl (fun _ => ?_) (fun hc => absurd (fm_ge hi hd) hc)
  refine XV.run C okJM_floorMod 1 (q := (19, ([some (.int (nI i)), some (.int (nI d)), some (.int (nI (i % d)))], [.int (nI (i % d))]))) rfl ?_
  exact XV.iret C (xlk_ok okJM_floorMod rfl) hret rfl (Nat.le_of_ble_eq_true rfl) (Nat.le_of_ble_eq_true rfl) (⟨rfl, rfl, rfl⟩)
set_option maxHeartbeats 4000000 in
set_option maxRecDepth 100000 in
theorem ct_R_renew {l : Launch} (hfl : l.stackTraces = false) {G : XG} {n : Nat} {h : XH} {a : Nat} {r : Nat → Int32} (hR : IsRope h a r) (h4 : 4 ≤ a) (hn : a + 5 ≤ n + 4) (q t : Int32) : XCt l G False (Cond.code yR_renew bR_renew 3 none) yR_renew 1 23 0 0 [.ref (a), .int (q), .int (t)] n h (fun r' n' h' => r' = none ∧ n' = n ∧ h' = setRope h a (rNew q t)) (fun _ _ _ => False) := by
  refine XCt.of hfl (by decide +kernel) (Nat.le_of_ble_eq_true rfl) ?_
  intro p' e' s' m' g' b' t' c' C hret hname hnt hmd
  refine XV.cast (setRope_self hR).symm ?_
  refine XV.run C okR_renew 1 (q := (1, ([some (.ref (a)), some (.int (q)), some (.int (t))], [.ref (a)]))) rfl ?_
  refine XV.getf C (ci := 2) (kf := 0) (v := .ref (a + 1)) (xlk_ok okR_renew rfl) rfl (by decide) wF_R_9 (by omega) (by omega) ((blk_is h a 5 (ropeC a (r))) 0 (by decide)) rfl ?_
  refine XV.run C okR_renew 1 (q := (5, ([some (.ref (a)), some (.int (q)), some (.int (t))], [.int (0), .ref (a + 1)]))) rfl ?_
  refine XV.callS C (As := [.ref (a + 1), .int (0)]) (rest := []) (ct_JA_fill hfl ((blk_is h a 5 (ropeC a (r))) 1 (by decide)) (by omega) (by omega) (by decide)) (xlk_ok okR_renew rfl) rfl wM_R_34 wS_JA_fill wN_JA wB_JA_fill hy_JA_fill (fun q => q.elim) ⟨Nat.le_of_ble_eq_true rfl, Nat.le_of_ble_eq_true rfl⟩ ⟨Nat.le_of_ble_eq_true rfl, Nat.le_of_ble_eq_true rfl⟩ (Nat.le_of_ble_eq_true rfl) (fun r n h hp => ?_) (fun _ _ _ q => q.elim)
  obtain ⟨rfl, rfl, rfl⟩ := hp
  refine XV.cast (setRope_fill _ a _ (0) 1 3 (by decide)) ?_
  refine XV.run C okR_renew 1 (q := (9, ([some (.ref (a)), some (.int (q)), some (.int (t))], [.ref (a)]))) rfl ?_
  refine XV.getf C (ci := 2) (kf := 1) (v := .ref (a + 2)) (xlk_ok okR_renew rfl) rfl (by decide) wF_R_15 (by omega) (by omega) ((blk_is h a 5 (ropeC a (rFill (r) 3 (0)))) 0 (by decide)) rfl ?_
  refine XV.run C okR_renew 1 (q := (13, ([some (.ref (a)), some (.int (q)), some (.int (t))], [.int (0), .ref (a + 2)]))) rfl ?_
  refine XV.callS C (As := [.ref (a + 2), .int (0)]) (rest := []) (ct_JA_fill hfl ((blk_is h a 5 (ropeC a (rFill (r) 3 (0)))) 2 (by decide)) (by omega) (by omega) (by decide)) (xlk_ok okR_renew rfl) rfl wM_R_34 wS_JA_fill wN_JA wB_JA_fill hy_JA_fill (fun q => q.elim) ⟨Nat.le_of_ble_eq_true rfl, Nat.le_of_ble_eq_true rfl⟩ ⟨Nat.le_of_ble_eq_true rfl, Nat.le_of_ble_eq_true rfl⟩ (Nat.le_of_ble_eq_true rfl) (fun r n h hp => ?_) (fun _ _ _ q => q.elim)
  obtain ⟨rfl, rfl, rfl⟩ := hp
  refine XV.cast (setRope_fill _ a _ (0) 2 27 (by decide)) ?_
  refine XV.run C okR_renew 1 (q := (17, ([some (.ref (a)), some (.int (q)), some (.int (t))], [.ref (a)]))) rfl ?_
  refine XV.getf C (ci := 2) (kf := 2) (v := .ref (a + 3)) (xlk_ok okR_renew rfl) rfl (by decide) wF_R_18 (by omega) (by omega) ((blk_is h a 5 (ropeC a (rFill (rFill (r) 3 (0)) 27 (0)))) 0 (by decide)) rfl ?_
  refine XV.run C okR_renew 1 (q := (21, ([some (.ref (a)), some (.int (q)), some (.int (t))], [.int (0), .ref (a + 3)]))) rfl ?_
  refine XV.callS C (As := [.ref (a + 3), .int (0)]) (rest := []) (ct_JA_fill hfl ((blk_is h a 5 (ropeC a (rFill (rFill (r) 3 (0)) 27 (0)))) 3 (by decide)) (by omega) (by omega) (by decide)) (xlk_ok okR_renew rfl) rfl wM_R_34 wS_JA_fill wN_JA wB_JA_fill hy_JA_fill (fun q => q.elim) ⟨Nat.le_of_ble_eq_true rfl, Nat.le_of_ble_eq_true rfl⟩ ⟨Nat.le_of_ble_eq_true rfl, Nat.le_of_ble_eq_true rfl⟩ (Nat.le_of_ble_eq_true rfl) (fun r n h hp => ?_) (fun _ _ _ q => q.elim)
  obtain ⟨rfl, rfl, rfl⟩ := hp
  refine XV.cast (setRope_fill _ a _ (0) 3 51 (by decide)) ?_
  refine XV.run C okR_renew 1 (q := (25, ([some (.ref (a)), some (.int (q)), some (.int (t))], [.ref (a)]))) rfl ?_
  refine XV.getf C (ci := 2) (kf := 3) (v := .ref (a + 4)) (xlk_ok okR_renew rfl) rfl (by decide) wF_R_21 (by omega) (by omega) ((blk_is h a 5 (ropeC a (rFill (rFill (rFill (r) 3 (0)) 27 (0)) 51 (0)))) 0 (by decide)) rfl ?_
  refine XV.run C okR_renew 1 (q := (29, ([some (.ref (a)), some (.int (q)), some (.int (t))], [.int (t), .ref (a + 4)]))) rfl ?_
  refine XV.callS C (As := [.ref (a + 4), .int (t)]) (rest := []) (ct_JA_fill hfl ((blk_is h a 5 (ropeC a (rFill (rFill (rFill (r) 3 (0)) 27 (0)) 51 (0)))) 4 (by decide)) (by omega) (by omega) (by decide)) (xlk_ok okR_renew rfl) rfl wM_R_34 wS_JA_fill wN_JA wB_JA_fill hy_JA_fill (fun q => q.elim) ⟨Nat.le_of_ble_eq_true rfl, Nat.le_of_ble_eq_true rfl⟩ ⟨Nat.le_of_ble_eq_true rfl, Nat.le_of_ble_eq_true rfl⟩ (Nat.le_of_ble_eq_true rfl) (fun r n h hp => ?_) (fun _ _ _ q => q.elim)
  obtain ⟨rfl, rfl, rfl⟩ := hp
  refine XV.cast (setRope_fill _ a _ (t) 4 75 (by decide)) ?_
  refine XV.run C okR_renew 2 (q := (34, ([some (.ref (a)), some (.int (q)), some (.int (t))], [.int (q), .ref (a)]))) rfl ?_
  refine XV.putf C (ci := 2) (kf := 4) (ty := .int) (xlk_ok okR_renew rfl) rfl (by decide) wF_R_24 (by omega) (by omega) ((blk_is h a 5 (ropeC a (rFill (rFill (rFill (rFill (r) 3 (0)) 27 (0)) 51 (0)) 75 (t)))) 0 (by decide)) rfl rfl rfl rfl (Nat.le_of_ble_eq_true rfl) ?_
  refine XV.cast (setRope_f0 _ a _ (q)) ?_
  refine XV.run C okR_renew 2 (q := (39, ([some (.ref (a)), some (.int (q)), some (.int (t))], [.int (t), .ref (a)]))) rfl ?_
  refine XV.putf C (ci := 2) (kf := 5) (ty := .int) (xlk_ok okR_renew rfl) rfl (by decide) wF_R_28 (by omega) (by omega) ((blk_is h a 5 (ropeC a (upd (rFill (rFill (rFill (rFill (r) 3 (0)) 27 (0)) 51 (0)) 75 (t)) 0 (q)))) 0 (by decide)) rfl rfl rfl rfl (Nat.le_of_ble_eq_true rfl) ?_
  refine XV.cast (setRope_f1 _ a _ (t)) ?_
  refine XV.run C okR_renew 2 (q := (44, ([some (.ref (a)), some (.int (q)), some (.int (t))], [.int (0), .ref (a)]))) rfl ?_
  refine XV.putf C (ci := 2) (kf := 6) (ty := .int) (xlk_ok okR_renew rfl) rfl (by decide) wF_R_31 (by omega) (by omega) ((blk_is h a 5 (ropeC a (upd (upd (rFill (rFill (rFill (rFill (r) 3 (0)) 27 (0)) 51 (0)) 75 (t)) 0 (q)) 1 (t)))) 0 (by decide)) rfl rfl rfl rfl (Nat.le_of_ble_eq_true rfl) ?_
  refine XV.cast (setRope_f2 _ a _ (0)) ?_
  exact XV.vret C (xlk_ok okR_renew rfl) hret (Nat.le_of_ble_eq_true rfl) (Nat.le_of_ble_eq_true rfl) (⟨rfl, rfl, setRope_congr (rNew_eq r q t)⟩)
set_option maxHeartbeats 4000000 in
set_option maxRecDepth 100000 in
theorem ct_R_bend {l : Launch} (hfl : l.stackTraces = false) {G : XG} {n : Nat} {h : XH} {a : Nat} {r : Nat → Int32} (hR : IsRope h a r) (h4 : 4 ≤ a) (hn : a + 5 ≤ n + 4) {x y : Int32} {i w b : Nat} (hx : x = nI i) (hy : y = nI b) (hb : b < 24) (hw : i + w = b + 1) (t : Int32) : XCt l G False (Cond.code yR_bend bR_bend 5 none) yR_bend 0 0 0 0 [.ref (a), .int (x), .int (y), .int (t)] n h (fun r' n' h' => r' = none ∧ n' = n ∧ h' = setRope h a (rBendT r i w t)) (fun _ _ _ => False) := by
  subst hx; subst hy
  refine XCt.of hfl (by decide +kernel) (Nat.le_of_ble_eq_true rfl) ?_
  intro p' e' s' m' g' b' t' c' C hret hname hnt hmd
  refine XV.cast (setRope_self hR).symm ?_
  refine XV.run C okR_bend 2 (q := (3, ([some (.ref (a)), some (.int (nI i)), some (.int (nI b)), some (.int (t)), some (.int (nI i))], []))) rfl ?_
  have loop : ∀ (d j : Nat), j + d = w → XV G 5 p' l e' ({ frames := 0, cells := 0, slots := 0, locals := 0 } : Room) s' m' g' b' t' c' (XEnd G b' (fun r' n' h' => r' = none ∧ n' = n ∧ h' = setRope h a (rBendT r i w t)) (fun _ _ _ => False) g' s' 0 0) 3 [some (.ref (a)), some (.int (nI i)), some (.int (nI b)), some (.int (t)), some (.int (nI (i + j)))] [] n (setRope h a (rBend r i j t)) 0 0 := by
    intro d
    induction d with
    | zero =>
      intro j hj
      refine XV.run C okR_bend 1 (q := (5, ([some (.ref (a)), some (.int (nI i)), some (.int (nI b)), some (.int (t)), some (.int (nI (i + j)))], [.int (nI (i + j))]))) rfl ?_
      refine XV.if_lt C (tgt := 38) (xlk_ok okR_bend rfl) rfl (fun hc => absurd hc (nI_pos (by omega))) (fun _ => ?_)
      refine XV.run C okR_bend 2 (q := (11, ([some (.ref (a)), some (.int (nI i)), some (.int (nI b)), some (.int (t)), some (.int (nI (i + j)))], [.int (nI b), .int (nI (i + j))]))) rfl ?_
      refine XV.icmp_gt C (tgt := 38) (xlk_ok okR_bend rfl) rfl (fun _ => ?_) (fun hc => absurd (nI_lt (by omega) (by omega)) hc)
      refine XV.run C okR_bend 2 (q := (40, ([some (.ref (a)), some (.int (nI i)), some (.int (nI b)), some (.int (t)), some (.int (nI (i + j)))], [.ref (a), .ref (a)]))) rfl ?_
      refine XV.getf C (ci := 2) (kf := 6) (v := .int ((rBend r i j t) 2)) (xlk_ok okR_bend rfl) rfl (by decide) wF_R_31 (by omega) (by omega) ((blk_is h a 5 (ropeC a (rBend r i j t))) 0 (by decide)) rfl ?_
      refine XV.run C okR_bend 2 (q := (45, ([some (.ref (a)), some (.int (nI i)), some (.int (nI b)), some (.int (t)), some (.int (nI (i + j)))], [.int (((rBend r i j t) 2) + t), .ref (a)]))) rfl ?_
      refine XV.putf C (ci := 2) (kf := 6) (ty := .int) (xlk_ok okR_bend rfl) rfl (by decide) wF_R_31 (by omega) (by omega) ((blk_is h a 5 (ropeC a (rBend r i j t))) 0 (by decide)) rfl rfl rfl rfl (Nat.le_of_ble_eq_true rfl) ?_
      refine XV.cast (setRope_f2 _ a _ (((rBend r i j t) 2) + t)) ?_
      exact XV.vret C (xlk_ok okR_bend rfl) hret (Nat.le_of_ble_eq_true rfl) (Nat.le_of_ble_eq_true rfl) (⟨rfl, rfl, by rw [show j = w by omega, show rBend r i w t 2 = r 2 from if_neg (by omega)]; rfl⟩)
    | succ d ih =>
      intro j hj
      refine XV.run C okR_bend 1 (q := (5, ([some (.ref (a)), some (.int (nI i)), some (.int (nI b)), some (.int (t)), some (.int (nI (i + j)))], [.int (nI (i + j))]))) rfl ?_
      refine XV.if_lt C (tgt := 38) (xlk_ok okR_bend rfl) rfl (fun hc => absurd hc (nI_pos (by omega))) (fun _ => ?_)
      refine XV.run C okR_bend 2 (q := (11, ([some (.ref (a)), some (.int (nI i)), some (.int (nI b)), some (.int (t)), some (.int (nI (i + j)))], [.int (nI b), .int (nI (i + j))]))) rfl ?_
      refine XV.icmp_gt C (tgt := 38) (xlk_ok okR_bend rfl) rfl (fun hc => absurd hc (nI_nlt (by omega) (by omega))) (fun _ => ?_)
      refine XV.run C okR_bend 2 (q := (18, ([some (.ref (a)), some (.int (nI i)), some (.int (nI b)), some (.int (t)), some (.int (nI (i + j)))], [.int (24), .int (nI (i + j))]))) rfl ?_
      refine XV.icmp_ge C (tgt := 38) (xlk_ok okR_bend rfl) rfl (fun hc => absurd hc (nI_ge (b := 24) (by omega) (by omega))) (fun _ => ?_)
      refine XV.run C okR_bend 1 (q := (22, ([some (.ref (a)), some (.int (nI i)), some (.int (nI b)), some (.int (t)), some (.int (nI (i + j)))], [.ref (a)]))) rfl ?_
      refine XV.getf C (ci := 2) (kf := 0) (v := .ref (a + 1)) (xlk_ok okR_bend rfl) rfl (by decide) wF_R_9 (by omega) (by omega) ((blk_is h a 5 (ropeC a (rBend r i j t))) 0 (by decide)) rfl ?_
      refine XV.run C okR_bend 2 (q := (28, ([some (.ref (a)), some (.int (nI i)), some (.int (nI b)), some (.int (t)), some (.int (nI (i + j)))], [.int (nI (i + j)), .ref (a + 1), .int (nI (i + j)), .ref (a + 1)]))) rfl ?_
      refine XV.ialdC C (N := 24) (f := (fun s => (rBend r i j t) (3 + s))) (a := (i + j)) (xlk_ok okR_bend rfl) (by omega) (by omega) ((blk_is h a 5 (ropeC a (rBend r i j t))) 1 (by decide)) (rfl) (by omega) (by decide) ?_
      refine XV.run C okR_bend 2 (q := (31, ([some (.ref (a)), some (.int (nI i)), some (.int (nI b)), some (.int (t)), some (.int (nI (i + j)))], [.int (((rBend r i j t) (3 + (i + j))) + t), .int (nI (i + j)), .ref (a + 1)]))) rfl ?_
      refine XV.iastC C (N := 24) (f := (fun s => (rBend r i j t) (3 + s))) (a := (i + j)) (xlk_ok okR_bend rfl) (by omega) (by omega) ((blk_is h a 5 (ropeC a (rBend r i j t))) 1 (by decide)) (rfl) (by omega) (by decide) ?_
      refine XV.cast (setRope_up _ a _ 1 3 ((i + j)) (((rBend r i j t) (3 + (i + j))) + t) (by decide) (by omega)) ?_
      refine XV.run C okR_bend 2 (q := (3, ([some (.ref (a)), some (.int (nI i)), some (.int (nI b)), some (.int (t)), some (.int ((nI (i + j)) + 1))], []))) rfl ?_
      rw [nI_1]
      refine XV.cast (congrArg (setRope h a) (rBend_s r i j t)) ?_
      exact ih (j + 1) (by omega)
  refine XV.cast (by rw [rBend_0]) (h' := setRope h a (rBend r i 0 t)) ?_
  exact loop w 0 (by omega)
theorem lk_q {r : Nat → Int32} {i j c : Nat} {t x : Int32} (hq : 0 < r 0) (hc : 0 < c) : 0 < upd (rLook r i j t) c x 0 := by
  rw [upd_ne (by omega)]
  unfold rLook
  rw [if_neg (by omega), if_neg (by omega), if_neg (by omega)]
  exact hq
set_option maxHeartbeats 4000000 in
set_option maxRecDepth 100000 in
theorem ct_R_lookAt {l : Launch} (hfl : l.stackTraces = false) {G : XG} {n : Nat} {h : XH} {a : Nat} {r : Nat → Int32} (hR : IsRope h a r) (h4 : 4 ≤ a) (hn : a + 5 ≤ n + 4) {x y : Int32} {i w b : Nat} (hx : x = nI i) (hy : y = nI b) (hb : b < 24) (hw : i + w = b + 1) (t : Int32) (hq : 0 < r 0) : XCt l G False (Cond.code yR_lookAt bR_lookAt 5 none) yR_lookAt 1 21 0 0 [.ref (a), .int (x), .int (y), .int (t)] n h (fun r' n' h' => r' = none ∧ n' = n ∧ h' = setRope h a (rLook r i w t)) (fun _ _ _ => False) := by
  subst hx; subst hy
  refine XCt.of hfl (by decide +kernel) (Nat.le_of_ble_eq_true rfl) ?_
  intro p' e' s' m' g' b' t' c' C hret hname hnt hmd
  refine XV.cast (setRope_self hR).symm ?_
  refine XV.run C okR_lookAt 2 (q := (3, ([some (.ref (a)), some (.int (nI i)), some (.int (nI b)), some (.int (t)), some (.int (nI i))], []))) rfl ?_
  have loop : ∀ (d j : Nat), j + d = w → XV G 5 p' l e' ({ frames := 1, cells := 0, slots := 0, locals := 21 } : Room) s' m' g' b' t' c' (XEnd G b' (fun r' n' h' => r' = none ∧ n' = n ∧ h' = setRope h a (rLook r i w t)) (fun _ _ _ => False) g' s' 0 0) 3 [some (.ref (a)), some (.int (nI i)), some (.int (nI b)), some (.int (t)), some (.int (nI (i + j)))] [] n (setRope h a (rLook r i j t)) 0 0 := by
    intro d
    induction d with
    | zero =>
      intro j hj
      refine XV.run C okR_lookAt 1 (q := (5, ([some (.ref (a)), some (.int (nI i)), some (.int (nI b)), some (.int (t)), some (.int (nI (i + j)))], [.int (nI (i + j))]))) rfl ?_
      refine XV.if_lt C (tgt := 62) (xlk_ok okR_lookAt rfl) rfl (fun hc => absurd hc (nI_pos (by omega))) (fun _ => ?_)
      refine XV.run C okR_lookAt 2 (q := (11, ([some (.ref (a)), some (.int (nI i)), some (.int (nI b)), some (.int (t)), some (.int (nI (i + j)))], [.int (nI b), .int (nI (i + j))]))) rfl ?_
      refine XV.icmp_gt C (tgt := 62) (xlk_ok okR_lookAt rfl) rfl (fun _ => ?_) (fun hc => absurd (nI_lt (by omega) (by omega)) hc)
      exact XV.vret C (xlk_ok okR_lookAt rfl) hret (Nat.le_of_ble_eq_true rfl) (Nat.le_of_ble_eq_true rfl) (⟨rfl, rfl, by rw [show j = w by omega]⟩)
    | succ d ih =>
      intro j hj
      refine XV.run C okR_lookAt 1 (q := (5, ([some (.ref (a)), some (.int (nI i)), some (.int (nI b)), some (.int (t)), some (.int (nI (i + j)))], [.int (nI (i + j))]))) rfl ?_
      refine XV.if_lt C (tgt := 62) (xlk_ok okR_lookAt rfl) rfl (fun hc => absurd hc (nI_pos (by omega))) (fun _ => ?_)
      refine XV.run C okR_lookAt 2 (q := (11, ([some (.ref (a)), some (.int (nI i)), some (.int (nI b)), some (.int (t)), some (.int (nI (i + j)))], [.int (nI b), .int (nI (i + j))]))) rfl ?_
      refine XV.icmp_gt C (tgt := 62) (xlk_ok okR_lookAt rfl) rfl (fun hc => absurd hc (nI_nlt (by omega) (by omega))) (fun _ => ?_)
      refine XV.run C okR_lookAt 2 (q := (18, ([some (.ref (a)), some (.int (nI i)), some (.int (nI b)), some (.int (t)), some (.int (nI (i + j)))], [.int (24), .int (nI (i + j))]))) rfl ?_
      refine XV.icmp_ge C (tgt := 62) (xlk_ok okR_lookAt rfl) rfl (fun hc => absurd hc (nI_ge (b := 24) (by omega) (by omega))) (fun _ => ?_)
      refine XV.run C okR_lookAt 1 (q := (22, ([some (.ref (a)), some (.int (nI i)), some (.int (nI b)), some (.int (t)), some (.int (nI (i + j)))], [.ref (a)]))) rfl ?_
      refine XV.getf C (ci := 2) (kf := 2) (v := .ref (a + 3)) (xlk_ok okR_lookAt rfl) rfl (by decide) wF_R_18 (by omega) (by omega) ((blk_is h a 5 (ropeC a (rLook r i j t))) 0 (by decide)) rfl ?_
      refine XV.run C okR_lookAt 2 (q := (28, ([some (.ref (a)), some (.int (nI i)), some (.int (nI b)), some (.int (t)), some (.int (nI (i + j)))], [.ref (a), .int (nI (i + j)), .ref (a + 3)]))) rfl ?_
      refine XV.getf C (ci := 2) (kf := 1) (v := .ref (a + 2)) (xlk_ok okR_lookAt rfl) rfl (by decide) wF_R_15 (by omega) (by omega) ((blk_is h a 5 (ropeC a (rLook r i j t))) 0 (by decide)) rfl ?_
      refine XV.run C okR_lookAt 1 (q := (33, ([some (.ref (a)), some (.int (nI i)), some (.int (nI b)), some (.int (t)), some (.int (nI (i + j)))], [.int (nI (i + j)), .ref (a + 2), .int (nI (i + j)), .ref (a + 3)]))) rfl ?_
      refine XV.ialdC C (N := 24) (f := (fun s => (rLook r i j t) (27 + s))) (a := (i + j)) (xlk_ok okR_lookAt rfl) (by omega) (by omega) ((blk_is h a 5 (ropeC a (rLook r i j t))) 2 (by decide)) (rfl) (by omega) (by decide) ?_
      refine XV.iastC C (N := 24) (f := (fun s => (rLook r i j t) (51 + s))) (a := (i + j)) (xlk_ok okR_lookAt rfl) (by omega) (by omega) ((blk_is h a 5 (ropeC a (rLook r i j t))) 3 (by decide)) (rfl) (by omega) (by decide) ?_
      refine XV.cast (setRope_up _ a _ 3 51 ((i + j)) ((rLook r i j t) (27 + (i + j))) (by decide) (by omega)) ?_
      refine XV.run C okR_lookAt 1 (q := (36, ([some (.ref (a)), some (.int (nI i)), some (.int (nI b)), some (.int (t)), some (.int (nI (i + j)))], [.ref (a)]))) rfl ?_
      refine XV.getf C (ci := 2) (kf := 1) (v := .ref (a + 2)) (xlk_ok okR_lookAt rfl) rfl (by decide) wF_R_15 (by omega) (by omega) ((blk_is h a 5 (ropeC a (upd (rLook r i j t) (51 + (i + j)) ((rLook r i j t) (27 + (i + j)))))) 0 (by decide)) rfl ?_
      refine XV.run C okR_lookAt 3 (q := (44, ([some (.ref (a)), some (.int (nI i)), some (.int (nI b)), some (.int (t)), some (.int (nI (i + j)))], [.int (nI (i + j)), .ref (a), .int (nI (i + j)), .ref (a + 2)]))) rfl ?_
      refine XV.callV C (As := [.int (nI (i + j))]) (rest := [.int (nI (i + j)), .ref (a + 2)]) (ci := 2) (ct_R_broken hfl (blk_is h a 5 (ropeC a (upd (rLook r i j t) (51 + (i + j)) ((rLook r i j t) (27 + (i + j)))))) (by omega) (by omega) (i := i + j) (rfl) (by omega) (lk_q hq (by omega))) (xlk_ok okR_lookAt rfl) rfl (by omega) (by omega) rfl ((blk_is h a 5 (ropeC a (upd (rLook r i j t) (51 + (i + j)) ((rLook r i j t) (27 + (i + j)))))) 0 (by decide)) rfl wM_R_46 wI_R_broken wV_R_broken wN_R wB_R_broken hy_R_broken (fun q => q.elim) ⟨Nat.le_of_ble_eq_true rfl, Nat.le_of_ble_eq_true rfl⟩ ⟨Nat.le_of_ble_eq_true rfl, Nat.le_of_ble_eq_true rfl⟩ (Nat.le_of_ble_eq_true rfl) (fun r n h hp => ?_) (fun _ _ _ q => q.elim)
      obtain ⟨rfl, rfl, rfl⟩ := hp
      refine XV.iastC C (N := 24) (f := (fun s => (upd (rLook r i j t) (51 + (i + j)) ((rLook r i j t) (27 + (i + j)))) (27 + s))) (a := (i + j)) (xlk_ok okR_lookAt rfl) (by omega) (by omega) ((blk_is h a 5 (ropeC a (upd (rLook r i j t) (51 + (i + j)) ((rLook r i j t) (27 + (i + j)))))) 2 (by decide)) (rfl) (by omega) (by decide) ?_
      refine XV.cast (setRope_up _ a _ 2 27 ((i + j)) (brk (upd (rLook r i j t) (51 + (i + j)) ((rLook r i j t) (27 + (i + j)))) (i + j)) (by decide) (by omega)) ?_
      refine XV.run C okR_lookAt 1 (q := (49, ([some (.ref (a)), some (.int (nI i)), some (.int (nI b)), some (.int (t)), some (.int (nI (i + j)))], [.ref (a)]))) rfl ?_
      refine XV.getf C (ci := 2) (kf := 3) (v := .ref (a + 4)) (xlk_ok okR_lookAt rfl) rfl (by decide) wF_R_21 (by omega) (by omega) ((blk_is h a 5 (ropeC a (upd (upd (rLook r i j t) (51 + (i + j)) ((rLook r i j t) (27 + (i + j)))) (27 + (i + j)) (brk (upd (rLook r i j t) (51 + (i + j)) ((rLook r i j t) (27 + (i + j)))) (i + j))))) 0 (by decide)) rfl ?_
      refine XV.run C okR_lookAt 2 (q := (55, ([some (.ref (a)), some (.int (nI i)), some (.int (nI b)), some (.int (t)), some (.int (nI (i + j)))], [.int (t), .int (nI (i + j)), .ref (a + 4)]))) rfl ?_
      refine XV.iastC C (N := 24) (f := (fun s => (upd (upd (rLook r i j t) (51 + (i + j)) ((rLook r i j t) (27 + (i + j)))) (27 + (i + j)) (brk (upd (rLook r i j t) (51 + (i + j)) ((rLook r i j t) (27 + (i + j)))) (i + j))) (75 + s))) (a := (i + j)) (xlk_ok okR_lookAt rfl) (by omega) (by omega) ((blk_is h a 5 (ropeC a (upd (upd (rLook r i j t) (51 + (i + j)) ((rLook r i j t) (27 + (i + j)))) (27 + (i + j)) (brk (upd (rLook r i j t) (51 + (i + j)) ((rLook r i j t) (27 + (i + j)))) (i + j))))) 4 (by decide)) (rfl) (by omega) (by decide) ?_
      refine XV.cast (setRope_up _ a _ 4 75 ((i + j)) (t) (by decide) (by omega)) ?_
      refine XV.run C okR_lookAt 2 (q := (3, ([some (.ref (a)), some (.int (nI i)), some (.int (nI b)), some (.int (t)), some (.int ((nI (i + j)) + 1))], []))) rfl ?_
      rw [nI_1]
      refine XV.cast (congrArg (setRope h a) (rLook_s r i j t (by omega))) ?_
      exact ih (j + 1) (by omega)
  refine XV.cast (by rw [rLook_0]) (h' := setRope h a (rLook r i 0 t)) ?_
  exact loop w 0 (by omega)
set_option maxHeartbeats 4000000 in
set_option maxRecDepth 100000 in
theorem ct_R_copyFrom {l : Launch} (hfl : l.stackTraces = false) {G : XG} {n : Nat} {h : XH} {a : Nat} {r : Nat → Int32} (hR : IsRope h a r) (h4 : 4 ≤ a) (hn : a + 5 ≤ n + 4) {b : Nat} {q : Nat → Int32} (hB : IsRope h b q) (b4 : 4 ≤ b) (bn : b + 5 ≤ n + 4) (hd : b + 5 ≤ a ∨ a + 5 ≤ b) : XCt l G False (Cond.code yR_copyFrom bR_copyFrom 2 none) yR_copyFrom 1 26 0 0 [.ref (a), .ref (b)] n h (fun r' n' h' => r' = none ∧ n' = n ∧ h' = setRope h a (q)) (fun _ _ _ => False) := by
  refine XCt.of hfl (by decide +kernel) (Nat.le_of_ble_eq_true rfl) ?_
  intro p' e' s' m' g' b' t' c' C hret hname hnt hmd
  refine XV.cast (setRope_self hR).symm ?_
  refine XV.run C okR_copyFrom 1 (q := (1, ([some (.ref (a)), some (.ref (b))], [.ref (b)]))) rfl ?_
  refine XV.getf C (ci := 2) (kf := 0) (v := .ref (b + 1)) (xlk_ok okR_copyFrom rfl) rfl (by decide) wF_R_9 (by omega) (by omega) ((hB.out hd) 0 (by decide)) rfl ?_
  refine XV.run C okR_copyFrom 2 (q := (6, ([some (.ref (a)), some (.ref (b))], [.ref (a), .int (0), .ref (b + 1)]))) rfl ?_
  refine XV.getf C (ci := 2) (kf := 0) (v := .ref (a + 1)) (xlk_ok okR_copyFrom rfl) rfl (by decide) wF_R_9 (by omega) (by omega) ((blk_is h a 5 (ropeC a (r))) 0 (by decide)) rfl ?_
  refine XV.run C okR_copyFrom 2 (q := (12, ([some (.ref (a)), some (.ref (b))], [.int (24), .int (0), .ref (a + 1), .int (0), .ref (b + 1)]))) rfl ?_
  refine XV.copyC C (N := 24) (f := (fun s => q (3 + s))) (g := (fun s => r (3 + s))) (xlk_ok okR_copyFrom rfl) wM_R_40 (by omega) (by omega) (by omega) (by omega) ((hB.out hd) 1 (by decide)) ((blk_is h a 5 (ropeC a (r))) 1 (by decide)) rfl (by decide) (Nat.le_of_ble_eq_true rfl) (Nat.le_of_ble_eq_true rfl) ?_
  refine XV.cast (setRope_arr2 _ a _ q 1 3 (by decide)) ?_
  refine XV.run C okR_copyFrom 1 (q := (16, ([some (.ref (a)), some (.ref (b))], [.ref (b)]))) rfl ?_
  refine XV.getf C (ci := 2) (kf := 1) (v := .ref (b + 2)) (xlk_ok okR_copyFrom rfl) rfl (by decide) wF_R_15 (by omega) (by omega) ((hB.out hd) 0 (by decide)) rfl ?_
  refine XV.run C okR_copyFrom 2 (q := (21, ([some (.ref (a)), some (.ref (b))], [.ref (a), .int (0), .ref (b + 2)]))) rfl ?_
  refine XV.getf C (ci := 2) (kf := 1) (v := .ref (a + 2)) (xlk_ok okR_copyFrom rfl) rfl (by decide) wF_R_15 (by omega) (by omega) ((blk_is h a 5 (ropeC a (rArr (r) 3 q))) 0 (by decide)) rfl ?_
  refine XV.run C okR_copyFrom 2 (q := (27, ([some (.ref (a)), some (.ref (b))], [.int (24), .int (0), .ref (a + 2), .int (0), .ref (b + 2)]))) rfl ?_
  refine XV.copyC C (N := 24) (f := (fun s => q (27 + s))) (g := (fun s => (rArr (r) 3 q) (27 + s))) (xlk_ok okR_copyFrom rfl) wM_R_40 (by omega) (by omega) (by omega) (by omega) ((hB.out hd) 2 (by decide)) ((blk_is h a 5 (ropeC a (rArr (r) 3 q))) 2 (by decide)) rfl (by decide) (Nat.le_of_ble_eq_true rfl) (Nat.le_of_ble_eq_true rfl) ?_
  refine XV.cast (setRope_arr2 _ a _ q 2 27 (by decide)) ?_
  refine XV.run C okR_copyFrom 1 (q := (31, ([some (.ref (a)), some (.ref (b))], [.ref (b)]))) rfl ?_
  refine XV.getf C (ci := 2) (kf := 2) (v := .ref (b + 3)) (xlk_ok okR_copyFrom rfl) rfl (by decide) wF_R_18 (by omega) (by omega) ((hB.out hd) 0 (by decide)) rfl ?_
  refine XV.run C okR_copyFrom 2 (q := (36, ([some (.ref (a)), some (.ref (b))], [.ref (a), .int (0), .ref (b + 3)]))) rfl ?_
  refine XV.getf C (ci := 2) (kf := 2) (v := .ref (a + 3)) (xlk_ok okR_copyFrom rfl) rfl (by decide) wF_R_18 (by omega) (by omega) ((blk_is h a 5 (ropeC a (rArr (rArr (r) 3 q) 27 q))) 0 (by decide)) rfl ?_
  refine XV.run C okR_copyFrom 2 (q := (42, ([some (.ref (a)), some (.ref (b))], [.int (24), .int (0), .ref (a + 3), .int (0), .ref (b + 3)]))) rfl ?_
  refine XV.copyC C (N := 24) (f := (fun s => q (51 + s))) (g := (fun s => (rArr (rArr (r) 3 q) 27 q) (51 + s))) (xlk_ok okR_copyFrom rfl) wM_R_40 (by omega) (by omega) (by omega) (by omega) ((hB.out hd) 3 (by decide)) ((blk_is h a 5 (ropeC a (rArr (rArr (r) 3 q) 27 q))) 3 (by decide)) rfl (by decide) (Nat.le_of_ble_eq_true rfl) (Nat.le_of_ble_eq_true rfl) ?_
  refine XV.cast (setRope_arr2 _ a _ q 3 51 (by decide)) ?_
  refine XV.run C okR_copyFrom 1 (q := (46, ([some (.ref (a)), some (.ref (b))], [.ref (b)]))) rfl ?_
  refine XV.getf C (ci := 2) (kf := 3) (v := .ref (b + 4)) (xlk_ok okR_copyFrom rfl) rfl (by decide) wF_R_21 (by omega) (by omega) ((hB.out hd) 0 (by decide)) rfl ?_
  refine XV.run C okR_copyFrom 2 (q := (51, ([some (.ref (a)), some (.ref (b))], [.ref (a), .int (0), .ref (b + 4)]))) rfl ?_
  refine XV.getf C (ci := 2) (kf := 3) (v := .ref (a + 4)) (xlk_ok okR_copyFrom rfl) rfl (by decide) wF_R_21 (by omega) (by omega) ((blk_is h a 5 (ropeC a (rArr (rArr (rArr (r) 3 q) 27 q) 51 q))) 0 (by decide)) rfl ?_
  refine XV.run C okR_copyFrom 2 (q := (57, ([some (.ref (a)), some (.ref (b))], [.int (24), .int (0), .ref (a + 4), .int (0), .ref (b + 4)]))) rfl ?_
  refine XV.copyC C (N := 24) (f := (fun s => q (75 + s))) (g := (fun s => (rArr (rArr (rArr (r) 3 q) 27 q) 51 q) (75 + s))) (xlk_ok okR_copyFrom rfl) wM_R_40 (by omega) (by omega) (by omega) (by omega) ((hB.out hd) 4 (by decide)) ((blk_is h a 5 (ropeC a (rArr (rArr (rArr (r) 3 q) 27 q) 51 q))) 4 (by decide)) rfl (by decide) (Nat.le_of_ble_eq_true rfl) (Nat.le_of_ble_eq_true rfl) ?_
  refine XV.cast (setRope_arr2 _ a _ q 4 75 (by decide)) ?_
  refine XV.run C okR_copyFrom 2 (q := (62, ([some (.ref (a)), some (.ref (b))], [.ref (b), .ref (a)]))) rfl ?_
  refine XV.getf C (ci := 2) (kf := 4) (v := .int (q 0)) (xlk_ok okR_copyFrom rfl) rfl (by decide) wF_R_24 (by omega) (by omega) ((hB.out hd) 0 (by decide)) rfl ?_
  refine XV.putf C (ci := 2) (kf := 4) (ty := .int) (xlk_ok okR_copyFrom rfl) rfl (by decide) wF_R_24 (by omega) (by omega) ((blk_is h a 5 (ropeC a (rArr (rArr (rArr (rArr (r) 3 q) 27 q) 51 q) 75 q))) 0 (by decide)) rfl rfl rfl rfl (Nat.le_of_ble_eq_true rfl) ?_
  refine XV.cast (setRope_f0 _ a _ (q 0)) ?_
  refine XV.run C okR_copyFrom 2 (q := (70, ([some (.ref (a)), some (.ref (b))], [.ref (b), .ref (a)]))) rfl ?_
  refine XV.getf C (ci := 2) (kf := 5) (v := .int (q 1)) (xlk_ok okR_copyFrom rfl) rfl (by decide) wF_R_28 (by omega) (by omega) ((hB.out hd) 0 (by decide)) rfl ?_
  refine XV.putf C (ci := 2) (kf := 5) (ty := .int) (xlk_ok okR_copyFrom rfl) rfl (by decide) wF_R_28 (by omega) (by omega) ((blk_is h a 5 (ropeC a (upd (rArr (rArr (rArr (rArr (r) 3 q) 27 q) 51 q) 75 q) 0 (q 0)))) 0 (by decide)) rfl rfl rfl rfl (Nat.le_of_ble_eq_true rfl) ?_
  refine XV.cast (setRope_f1 _ a _ (q 1)) ?_
  refine XV.run C okR_copyFrom 2 (q := (78, ([some (.ref (a)), some (.ref (b))], [.ref (b), .ref (a)]))) rfl ?_
  refine XV.getf C (ci := 2) (kf := 6) (v := .int (q 2)) (xlk_ok okR_copyFrom rfl) rfl (by decide) wF_R_31 (by omega) (by omega) ((hB.out hd) 0 (by decide)) rfl ?_
  refine XV.putf C (ci := 2) (kf := 6) (ty := .int) (xlk_ok okR_copyFrom rfl) rfl (by decide) wF_R_31 (by omega) (by omega) ((blk_is h a 5 (ropeC a (upd (upd (rArr (rArr (rArr (rArr (r) 3 q) 27 q) 51 q) 75 q) 0 (q 0)) 1 (q 1)))) 0 (by decide)) rfl rfl rfl rfl (Nat.le_of_ble_eq_true rfl) ?_
  refine XV.cast (setRope_f2 _ a _ (q 2)) ?_
  exact XV.vret C (xlk_ok okR_copyFrom rfl) hret (Nat.le_of_ble_eq_true rfl) (Nat.le_of_ble_eq_true rfl) (⟨rfl, rfl, setRope_congr (rCopy_eq r q)⟩)
end
section
/-! the elevator: what is read, what is written -/
theorem XV.aaldS {G : XG} {nL : Nat} {p : Program} {l : Launch} {e : Env} {R : Room} {s : State} {m : MethodId} {args : Array Value} {below : List Frame} {meth : Method} {c : Code} {Q : State → Prop} {own : String} {cc : ByteArray} {pc : Nat} {ls : List (Option Value)} {st : List Value} {n : Nat} {h : XH} {k ks : Nat} (C : XCx G l own cc nL p s m args meth c) {i N a t o : Nat} {Cn : String} {f : Nat → Option Nat} {j : Int32} (hd : decode cc pc = .ok (.aaload, 1)) (hi : 4 ≤ i) (hn : i < n + 4) (hh : h i = .inl (t, (N, .inr (.inr f)))) (ht : (xtys G)[t]? = some (xcA G t, .object Cn)) (hj : j = nI a) (ha : a < N) (hN : N < 2 ^ 31) (ho : f a = some o) (kk : XV G nL p l e R s m args below meth c Q (pc + 1) ls (.ref o :: st) n h k ks) : XV G nL p l e R s m args below meth c Q pc ls (.int j :: .ref i :: st) n h k ks :=
  XV.aald C hd hi hn hh ht hj ha hN (by rw [ho]; exact kk)
theorem qfix_live {r : Nat → Int32} (hq : 0 < r 0) : qfix r = r := by
  funext k
  unfold qfix
  by_cases hk : k = 0
  · subst hk
    rw [if_pos rfl, if_neg (ne_of_gt hq)]
  · rw [if_neg hk]
theorem elev_ropeL {h : XH} {e : Nat} {f : Nat → Int32} (hE : IsElev h e f) {i : Nat} (hi : i < 5) (hq : 0 < rowOf f i 0) : IsRope h (e + 3 + 5 * i) (rowOf f i) := by
  have := elev_rope hE hi
  rwa [qfix_live hq] at this
theorem setElev_congr {h : XH} {e : Nat} {f g : Nat → Int32} (hfg : ∀ k, k < 505 → f k = g k) : setElev h e f = setElev h e g := by
  refine blk_eq fun j hj => ?_
  match j with
  | 0 => unfold elevC; dsimp only; rw [hfg 1 (by omega), hfg 0 (by omega), hfg 7 (by omega), hfg 8 (by omega), hfg 9 (by omega)]
  | 1 => exact xar_eq fun s hs => hfg _ (by omega)
  | 2 => rfl
  | j + 3 =>
    show ropeC _ (qfix (rowOf f (j / 5))) _ = ropeC _ (qfix (rowOf g (j / 5))) _
    refine ropeC_congr (fun k hk => ?_) _
    have h5 : j / 5 < 5 := by omega
    unfold qfix rowOf
    rw [hfg _ (by omega), hfg (10 + 99 * (j / 5) + k) (by omega)]
theorem setElev_self {h : XH} {e : Nat} {f : Nat → Int32} (hE : IsElev h e f) : setElev h e f = h := blk_self hE
theorem setElev_set (h : XH) (e : Nat) (f g : Nat → Int32) : setElev (setElev h e f) e g = setElev h e g := blk_blk _ _ _ _ _
/-- the header's numbers -/
theorem setElev_hd (h : XH) (e : Nat) (f g : Nat → Int32) (hg : ∀ k, 2 ≤ k → k < 7 → g k = f k) (hr : ∀ k, 10 ≤ k → g k = f k) : xup (setElev h e f) e (.inr (0, [.ref (e + 1), .ref (e + 2), .int (g 1), .int (g 0), .int (g 7), .int (g 8), .int (g 9)])) = setElev h e g := by
  refine blk_up (j := 0) (by decide) rfl (fun i hi hne => ?_)
  match i, hne with
  | 1, _ => exact xar_eq fun s hs => hg _ (by omega) (by omega)
  | 2, _ => rfl
  | j + 3, _ =>
    show ropeC _ (qfix (rowOf g (j / 5))) _ = ropeC _ (qfix (rowOf f (j / 5))) _
    refine ropeC_congr (fun k hk => ?_) _
    unfold qfix rowOf
    rw [hr _ (by omega), hr (10 + 99 * (j / 5) + k) (by omega)]
theorem setElev_f2 (h : XH) (e : Nat) (f : Nat → Int32) (x : Int32) : xup (setElev h e f) e (.inr (0, [.ref (e + 1), .ref (e + 2), .int x, .int (f 0), .int (f 7), .int (f 8), .int (f 9)])) = setElev h e (upd f 1 x) := setElev_hd h e f (upd f 1 x) (fun k h1 h2 => upd_ne (by omega)) (fun k h1 => upd_ne (by omega))
theorem setElev_f3 (h : XH) (e : Nat) (f : Nat → Int32) (x : Int32) : xup (setElev h e f) e (.inr (0, [.ref (e + 1), .ref (e + 2), .int (f 1), .int x, .int (f 7), .int (f 8), .int (f 9)])) = setElev h e (upd f 0 x) := setElev_hd h e f (upd f 0 x) (fun k h1 h2 => upd_ne (by omega)) (fun k h1 => upd_ne (by omega))
theorem setElev_f4 (h : XH) (e : Nat) (f : Nat → Int32) (x : Int32) : xup (setElev h e f) e (.inr (0, [.ref (e + 1), .ref (e + 2), .int (f 1), .int (f 0), .int x, .int (f 8), .int (f 9)])) = setElev h e (upd f 7 x) := setElev_hd h e f (upd f 7 x) (fun k h1 h2 => upd_ne (by omega)) (fun k h1 => upd_ne (by omega))
theorem setElev_f5 (h : XH) (e : Nat) (f : Nat → Int32) (x : Int32) : xup (setElev h e f) e (.inr (0, [.ref (e + 1), .ref (e + 2), .int (f 1), .int (f 0), .int (f 7), .int x, .int (f 9)])) = setElev h e (upd f 8 x) := setElev_hd h e f (upd f 8 x) (fun k h1 h2 => upd_ne (by omega)) (fun k h1 => upd_ne (by omega))
theorem setElev_f6 (h : XH) (e : Nat) (f : Nat → Int32) (x : Int32) : xup (setElev h e f) e (.inr (0, [.ref (e + 1), .ref (e + 2), .int (f 1), .int (f 0), .int (f 7), .int (f 8), .int x])) = setElev h e (upd f 9 x) := setElev_hd h e f (upd f 9 x) (fun k h1 h2 => upd_ne (by omega)) (fun k h1 => upd_ne (by omega))
/-- the settings -/
theorem setElev_st (h : XH) (e : Nat) (f g : Nat → Int32) (a : Nat → Int32) (ha : ∀ i, i < 5 → g (2 + i) = a i) (hg : ∀ k, k < 2 ∨ 7 ≤ k → g k = f k) : xup (setElev h e f) (e + 1) (xar 5 a) = setElev h e g := by
  refine blk_up (j := 1) (by decide) (xar_eq fun s hs => ha s hs) (fun i hi hne => ?_)
  match i, hne with
  | 0, _ => unfold elevC; dsimp only; rw [hg 1 (by omega), hg 0 (by omega), hg 7 (by omega), hg 8 (by omega), hg 9 (by omega)]
  | 2, _ => rfl
  | j + 3, _ =>
    show ropeC _ (qfix (rowOf g (j / 5))) _ = ropeC _ (qfix (rowOf f (j / 5))) _
    refine ropeC_congr (fun k hk => ?_) _
    unfold qfix rowOf
    rw [hg _ (by omega), hg (10 + 99 * (j / 5) + k) (by omega)]
theorem setElev_s1 (h : XH) (e : Nat) (f : Nat → Int32) (j : Nat) (x : Int32) (hj : j < 5) : xup (setElev h e f) (e + 1) (xar 5 (upd (fun i => f (2 + i)) j x)) = setElev h e (upd f (2 + j) x) := by
  refine setElev_st h e f _ _ (fun i hi => ?_) (fun k hk => upd_ne (by omega))
  by_cases hij : i = j
  · subst hij
    rw [upd_eq, upd_eq]
  · rw [upd_ne hij, upd_ne (by omega)]
/-- settings and the first j rows of g -/
def copyK (f g : Nat → Int32) (j : Nat) : Nat → Int32 := fun k => if (2 ≤ k ∧ k < 7) ∨ (10 ≤ k ∧ k < 10 + 99 * j) then g k else f k
theorem setElev_c0 (h : XH) (e : Nat) (f g : Nat → Int32) : xup (setElev h e f) (e + 1) (xar 5 (fun i => g (2 + i))) = setElev h e (copyK f g 0) := by
  refine setElev_st h e f _ _ (fun i hi => ?_) (fun k hk => ?_)
  · unfold copyK
    rw [if_pos (by omega)]
  · unfold copyK
    rw [if_neg (by omega)]
theorem setElev_cs (h : XH) (e : Nat) (f g : Nat → Int32) (j : Nat) (hj : j < 5) : setRope (setElev h e (copyK f g j)) (e + 3 + 5 * j) (qfix (rowOf g j)) = setElev h e (copyK f g (j + 1)) := by
  refine setElev_rope hj (fun k hk => ?_) (fun k hk => ?_) (fun i k hi hne hk => ?_)
  · have hrow : ∀ k, k < 99 → rowOf (copyK f g (j + 1)) j k = rowOf g j k := by
      intro k hk
      unfold rowOf copyK
      rw [if_pos (by omega)]
    unfold qfix
    rw [hrow 0 (by omega), hrow k hk]
  · unfold copyK
    by_cases h1 : (2 ≤ k ∧ k < 7) ∨ (10 ≤ k ∧ k < 10 + 99 * j)
    · rw [if_pos h1, if_pos (by omega)]
    · rw [if_neg h1, if_neg (by omega)]
  · unfold rowOf copyK
    by_cases h1 : (2 ≤ 10 + 99 * i + k ∧ 10 + 99 * i + k < 7) ∨ (10 ≤ 10 + 99 * i + k ∧ 10 + 99 * i + k < 10 + 99 * j)
    · rw [if_pos h1, if_pos (by omega)]
    · rw [if_neg h1, if_neg (by omega)]
theorem copyK_all (f g : Nat → Int32) : ∀ k, k < 505 → upd (upd (upd (upd (upd (copyK f g 5) 1 (g 1)) 0 (g 0)) 7 (g 7)) 8 (g 8)) 9 (g 9) k = g k := by
  intro k hk
  simp only [upd, copyK]
  by_cases h1 : k = 9
  · subst h1; rfl
  by_cases h2 : k = 8
  · subst h2; rfl
  by_cases h3 : k = 7
  · subst h3; rfl
  by_cases h4 : k = 0
  · subst h4; rfl
  by_cases h5 : k = 1
  · subst h5; rfl
  rw [if_neg h1, if_neg h2, if_neg h3, if_neg h4, if_neg h5, if_pos (by omega)]
/-- a row anew -/
def putRow (f : Nat → Int32) (i : Nat) (r : Nat → Int32) : Nat → Int32 := fun k => if 10 + 99 * i ≤ k ∧ k < 10 + 99 * i + 99 then r (k - (10 + 99 * i)) else f k
theorem putRow_row {f : Nat → Int32} {i : Nat} {r : Nat → Int32} {k : Nat} (hk : k < 99) : rowOf (putRow f i r) i k = r k := by
  unfold rowOf putRow
  rw [if_pos (by omega), show 10 + 99 * i + k - (10 + 99 * i) = k by omega]
theorem putRow_ne {f : Nat → Int32} {i j : Nat} {r : Nat → Int32} {k : Nat} (hk : k < 99) (hj : j ≠ i) : rowOf (putRow f i r) j k = rowOf f j k := by
  unfold rowOf putRow
  rw [if_neg (by omega)]
theorem setElev_put (h : XH) (e : Nat) (f : Nat → Int32) (i : Nat) (r : Nat → Int32) (hi : i < 5) (hq : ¬ r 0 = 0) : setRope (setElev h e f) (e + 3 + 5 * i) r = setElev h e (putRow f i r) := by
  refine setElev_rope hi (fun k hk => ?_) (fun k hk => ?_) (fun j k hj hne hk => putRow_ne hk hne)
  · unfold qfix
    rw [putRow_row (by omega), putRow_row hk]
    by_cases h0 : k = 0
    · subst h0
      rw [if_pos rfl, if_neg hq]
    · rw [if_neg h0]
  · unfold putRow
    rw [if_neg (by omega)]
/-- the first j rows moved by F -/
def mapRows (f : Nat → Int32) (F : (Nat → Int32) → Nat → Int32) (j : Nat) : Nat → Int32 := fun k => if 10 ≤ k ∧ k < 10 + 99 * j then F (rowOf f ((k - 10) / 99)) ((k - 10) % 99) else f k
theorem mapRows_0 (f : Nat → Int32) (F : (Nat → Int32) → Nat → Int32) : mapRows f F 0 = f := by
  funext k
  unfold mapRows
  rw [if_neg (by omega)]
theorem mapRows_at (f : Nat → Int32) (F : (Nat → Int32) → Nat → Int32) (j i : Nat) (hi : j ≤ i) : rowOf (mapRows f F j) i = rowOf f i := by
  funext k
  unfold rowOf mapRows
  rw [if_neg (by omega)]
theorem mapRows_lo (f : Nat → Int32) (F : (Nat → Int32) → Nat → Int32) (j k : Nat) (hk : k < 10) : mapRows f F j k = f k := by
  unfold mapRows
  rw [if_neg (by omega)]
theorem mapRows_row (f : Nat → Int32) (F : (Nat → Int32) → Nat → Int32) (j i k : Nat) (hi : i < j) (hk : k < 99) : rowOf (mapRows f F j) i k = F (rowOf f i) k := by
  show (if 10 ≤ 10 + 99 * i + k ∧ 10 + 99 * i + k < 10 + 99 * j then F (rowOf f ((10 + 99 * i + k - 10) / 99)) ((10 + 99 * i + k - 10) % 99) else f (10 + 99 * i + k)) = _
  rw [if_pos (by omega), show (10 + 99 * i + k - 10) / 99 = i by omega, show (10 + 99 * i + k - 10) % 99 = k by omega]
theorem mapRows_s (f : Nat → Int32) (F : (Nat → Int32) → Nat → Int32) (j : Nat) : putRow (mapRows f F j) j (F (rowOf f j)) = mapRows f F (j + 1) := by
  funext k
  unfold putRow mapRows
  by_cases h1 : 10 + 99 * j ≤ k ∧ k < 10 + 99 * j + 99
  · rw [if_pos h1, if_pos (by omega), show (k - 10) / 99 = j by omega, show (k - 10) % 99 = k - (10 + 99 * j) by omega]
  · rw [if_neg h1]
    by_cases h2 : 10 ≤ k ∧ k < 10 + 99 * j
    · rw [if_pos h2, if_pos (by omega)]
    · rw [if_neg h2, if_neg (by omega)]
/-- rows x .. moved down, j of them -/
def shiftK (f : Nat → Int32) (x j : Nat) : Nat → Int32 := fun k => if 10 + 99 * x ≤ k ∧ k < 10 + 99 * (x + j) then f (k + 99) else f k
theorem shiftK_0 (f : Nat → Int32) (x : Nat) : shiftK f x 0 = f := by
  funext k
  unfold shiftK
  rw [if_neg (by omega)]
theorem shiftK_at (f : Nat → Int32) (x j i : Nat) (hi : x + j ≤ i) : rowOf (shiftK f x j) i = rowOf f i := by
  funext k
  unfold rowOf shiftK
  rw [if_neg (by omega)]
theorem setElev_sh (h : XH) (e : Nat) (f : Nat → Int32) (x j : Nat) (hj : x + j + 1 < 5) : setRope (setElev h e (shiftK f x j)) (e + 3 + 5 * (x + j)) (qfix (rowOf f (x + j + 1))) = setElev h e (shiftK f x (j + 1)) := by
  refine setElev_rope (by omega) (fun k hk => ?_) (fun k hk => ?_) (fun i k hi hne hk => ?_)
  · have hrow : ∀ k, k < 99 → rowOf (shiftK f x (j + 1)) (x + j) k = rowOf f (x + j + 1) k := by
      intro k hk
      unfold rowOf shiftK
      rw [if_pos (by omega)]
      congr 1
      omega
    unfold qfix
    rw [hrow 0 (by omega), hrow k hk]
  · unfold shiftK
    rw [if_neg (by omega), if_neg (by omega)]
  · unfold rowOf shiftK
    by_cases h1 : 10 + 99 * x ≤ 10 + 99 * i + k ∧ 10 + 99 * i + k < 10 + 99 * (x + j)
    · rw [if_pos h1, if_pos (by omega)]
    · rw [if_neg h1, if_neg (by omega)]
/-- what the class's elevator tells -/
def mleftK (f r : Nat → Int32) : Int32 := if 0 < omn (fun s => r (75 + s)) 24 + f 6 + 1 - f 0 then omn (fun s => r (75 + s)) 24 + f 6 + 1 - f 0 else 0
def reasonK (f r : Nat → Int32) (z : Nat) : Int32 := if f 3 ≤ gmx (winS r false z) (25 - z) then 1 else if f 4 ≤ sumN (colR r false) 0 24 then 2 else if f 5 ≤ gmx (grw r) 24 then 3 else if mleftK f r = 0 then 4 else 0
def retK (f : Nat → Int32) (z : Nat) : Nat → Nat
  | 0 => 0
  | j + 1 => if reasonK f (rowOf f j) z = 0 then retK f z j else retK f z j + 1
theorem retK_le (f : Nat → Int32) (z : Nat) : ∀ j, retK f z j ≤ j
  | 0 => Nat.le_refl 0
  | j + 1 => by
    unfold retK
    have := retK_le f z j
    split <;> omega
def canK (f : Nat → Int32) (z m : Nat) : Int32 := if m < 2 then 0 else if retK f z m = 0 then 1 else 0
def sumRK (f : Nat → Int32) (b : Bool) (m : Nat) : Int32 := sumN (fun i => sumN (colR (rowOf f i) b) 0 24) 0 m
theorem sumRK_s (f : Nat → Int32) (b : Bool) (j : Nat) : sumRK f b (j + 1) = sumRK f b j + sumN (colR (rowOf f j) b) 0 24 := by
  show sumN _ 0 j + sumN (colR (rowOf f (0 + j)) b) 0 24 = _
  rw [Nat.zero_add]
  rfl
theorem canK_0a {f : Nat → Int32} {z k : Nat} (h : k < 2) : canK f z k = 0 := if_pos h
theorem canK_0b {f : Nat → Int32} {z k : Nat} (h : ¬ retK f z k = 0) : canK f z k = 0 := by
  unfold canK
  by_cases h2 : k < 2
  · rw [if_pos h2]
  · rw [if_neg h2, if_neg h]
theorem canK_1 {f : Nat → Int32} {z k : Nat} (h : ¬ k < 2) (h2 : retK f z k = 0) : canK f z k = 1 := by
  unfold canK
  rw [if_neg h, if_pos h2]
theorem shiftK_lo (f : Nat → Int32) (x j k : Nat) (hk : k < 10) : shiftK f x j k = f k := by
  unfold shiftK
  rw [if_neg (by omega)]
theorem copyK_0 (f g : Nat → Int32) : True := trivial
def travK (f : Nat → Int32) (lo hi k : Nat) (t : Int32) : Nat → Int32 := upd (mapRows f (fun r => rBendT r (3 * lo) (3 * hi + 3 - 3 * lo) t) k) 7 (f 7 + t)
theorem rBendT_0 (r : Nat → Int32) (lo w : Nat) (t : Int32) : rBendT r lo w t 0 = r 0 := by
  unfold rBendT rBend
  rw [upd_ne (by decide), if_neg (by omega)]
theorem IsRope.of_eq {h : XH} {a : Nat} {r r' : Nat → Int32} (hR : IsRope h a r) (he : r = r') : IsRope h a r' := he ▸ hR
end
section
/-! RopeThreads$Elevator: its methods -/
set_option maxHeartbeats 4000000 in
set_option maxRecDepth 100000 in
theorem ct_E_ropeAt {l : Launch} (hfl : l.stackTraces = false) {G : XG} {n : Nat} {h : XH} {e : Nat} {f : Nat → Int32} (hE : IsElev h e f) (e4 : 4 ≤ e) (en : e + 28 ≤ n + 4) {x : Int32} {i k : Nat} (hx : x = nI i) (hm : f 1 = nI k) (hk : k ≤ 5) (hi : i < k) : XCt l G False (Cond.code yE_ropeAt bE_ropeAt 2 (some (.object "RopeThreads$Rope"))) yE_ropeAt 0 0 0 0 [.ref (e), .int (x)] n h (fun r' n' h' => r' = some (.ref (e + 3 + 5 * i)) ∧ n' = n ∧ h' = h) (fun _ _ _ => False) := by
  subst hx
  refine XCt.of hfl (by decide +kernel) (Nat.le_of_ble_eq_true rfl) ?_
  intro p' e' s' m' g' b' t' c' C hret hname hnt hmd
  refine XV.run C okE_ropeAt 1 (q := (1, ([some (.ref (e)), some (.int (nI i))], [.int (nI i)]))) rfl ?_
  refine XV.if_lt C (tgt := 17) (xlk_ok okE_ropeAt rfl) rfl (fun hc => absurd hc (nI_pos (by omega))) (fun _ => ?_)
  refine XV.run C okE_ropeAt 2 (q := (6, ([some (.ref (e)), some (.int (nI i))], [.ref (e), .int (nI i)]))) rfl ?_
  refine XV.getf C (ci := 0) (kf := 2) (v := .int (f 1)) (xlk_ok okE_ropeAt rfl) rfl (by decide) wF_E_21 (by omega) (by omega) (hE 0 (by decide)) rfl ?_
  refine XV.icmp_ge C (tgt := 17) (xlk_ok okE_ropeAt rfl) rfl (fun hc => absurd hc (by rw [hm]; exact nI_ge (by omega) (by omega))) (fun _ => ?_)
  refine XV.run C okE_ropeAt 2 (q := (14, ([some (.ref (e)), some (.int (nI i))], [.int (5), .int (nI i)]))) rfl ?_
  refine XV.icmp_lt C (tgt := 19) (xlk_ok okE_ropeAt rfl) rfl (fun _ => ?_) (fun hc => absurd (nI_lt (b := 5) (by omega) (by omega)) hc)
  refine XV.run C okE_ropeAt 1 (q := (20, ([some (.ref (e)), some (.int (nI i))], [.ref (e)]))) rfl ?_
  refine XV.getf C (ci := 0) (kf := 1) (v := .ref (e + 2)) (xlk_ok okE_ropeAt rfl) rfl (by decide) wF_E_17 (by omega) (by omega) (hE 0 (by decide)) rfl ?_
  refine XV.run C okE_ropeAt 1 (q := (24, ([some (.ref (e)), some (.int (nI i))], [.int (nI i), .ref (e + 2)]))) rfl ?_
  refine XV.aaldS C (N := 5) (t := 3) (a := i) (o := e + 3 + 5 * i) (f := (fun i => if i < 5 then some (e + 3 + 5 * i) else none)) (xlk_ok okE_ropeAt rfl) (by omega) (by omega) (hE 2 (by decide)) rfl (rfl) (by omega) (by decide) (if_pos (by omega)) ?_
  exact XV.aret C (o := some (e + 3 + 5 * i)) (xlk_ok okE_ropeAt rfl) hret (Nat.le_of_ble_eq_true rfl) (Nat.le_of_ble_eq_true rfl) (⟨rfl, rfl, rfl⟩)
set_option maxHeartbeats 4000000 in
set_option maxRecDepth 100000 in
theorem ct_E_ropeAt_no {l : Launch} (hfl : l.stackTraces = false) {G : XG} {n : Nat} {h : XH} {e : Nat} {f : Nat → Int32} (hE : IsElev h e f) (e4 : 4 ≤ e) (en : e + 28 ≤ n + 4) {x : Int32} {k : Nat} (hm : f 1 = nI k) (hk : k ≤ 5) (hx : x < 0 ∨ nI k ≤ x) : XCt l G False (Cond.code yE_ropeAt bE_ropeAt 2 (some (.object "RopeThreads$Rope"))) yE_ropeAt 0 0 0 0 [.ref (e), .int (x)] n h (fun r' n' h' => r' = some (.null) ∧ n' = n ∧ h' = h) (fun _ _ _ => False) := by
  refine XCt.of hfl (by decide +kernel) (Nat.le_of_ble_eq_true rfl) ?_
  intro p' e' s' m' g' b' t' c' C hret hname hnt hmd
  refine XV.run C okE_ropeAt 1 (q := (1, ([some (.ref (e)), some (.int (x))], [.int (x)]))) rfl ?_
  refine XV.if_lt C (tgt := 17) (xlk_ok okE_ropeAt rfl) rfl (fun c1 => ?_) (fun c1 => ?_)
  ·
    refine XV.run C okE_ropeAt 1 (q := (18, ([some (.ref (e)), some (.int (x))], [.null]))) rfl ?_
    exact XV.aret C (o := none) (xlk_ok okE_ropeAt rfl) hret (Nat.le_of_ble_eq_true rfl) (Nat.le_of_ble_eq_true rfl) (⟨rfl, rfl, rfl⟩)
  ·
    refine XV.run C okE_ropeAt 2 (q := (6, ([some (.ref (e)), some (.int (x))], [.ref (e), .int (x)]))) rfl ?_
    refine XV.getf C (ci := 0) (kf := 2) (v := .int (f 1)) (xlk_ok okE_ropeAt rfl) rfl (by decide) wF_E_21 (by omega) (by omega) (hE 0 (by decide)) rfl ?_
    refine XV.icmp_ge C (tgt := 17) (xlk_ok okE_ropeAt rfl) rfl (fun _ => ?_) (fun c9 => absurd (show f 1 ≤ x by rw [hm]; exact hx.resolve_left c1) c9)
    refine XV.run C okE_ropeAt 1 (q := (18, ([some (.ref (e)), some (.int (x))], [.null]))) rfl ?_
    exact XV.aret C (o := none) (xlk_ok okE_ropeAt rfl) hret (Nat.le_of_ble_eq_true rfl) (Nat.le_of_ble_eq_true rfl) (⟨rfl, rfl, rfl⟩)
set_option maxHeartbeats 4000000 in
set_option maxRecDepth 100000 in
theorem ct_E_windows {l : Launch} (hfl : l.stackTraces = false) {G : XG} {n : Nat} {h : XH} {e : Nat} {f : Nat → Int32} (hE : IsElev h e f) (e4 : 4 ≤ e) (en : e + 28 ≤ n + 4) {z : Nat} (hz : f 2 = nI z) (z1 : 1 ≤ z) (z2 : z ≤ 12) : XCt l G False (Cond.code yE_windows bE_windows 1 (some .int)) yE_windows 0 0 0 0 [.ref (e)] n h (fun r' n' h' => r' = some (.int (nI (25 - z))) ∧ n' = n ∧ h' = h) (fun _ _ _ => False) := by
  refine XCt.of hfl (by decide +kernel) (Nat.le_of_ble_eq_true rfl) ?_
  intro p' e' s' m' g' b' t' c' C hret hname hnt hmd
  refine XV.run C okE_windows 2 (q := (3, ([some (.ref (e))], [.ref (e), .int (24)]))) rfl ?_
  refine XV.getf C (ci := 0) (kf := 0) (v := .ref (e + 1)) (xlk_ok okE_windows rfl) rfl (by decide) wF_E_9 (by omega) (by omega) (hE 0 (by decide)) rfl ?_
  refine XV.run C okE_windows 1 (q := (7, ([some (.ref (e))], [.int (0), .ref (e + 1), .int (24)]))) rfl ?_
  refine XV.ialdC C (N := 5) (f := (fun i => f (2 + i))) (a := 0) (xlk_ok okE_windows rfl) (by omega) (by omega) (hE 1 (by decide)) (rfl) (by decide) (by decide) ?_
  refine XV.run C okE_windows 3 (q := (11, ([some (.ref (e))], [.int ((24 - (f 2)) + 1)]))) rfl ?_
  exact XV.iret C (xlk_ok okE_windows rfl) hret rfl (Nat.le_of_ble_eq_true rfl) (Nat.le_of_ble_eq_true rfl) (⟨by rw [hz, show (24 : Int32) = nI 24 from rfl, pk_sub (by omega), nI_1, show 24 - z + 1 = 25 - z by omega], rfl, rfl⟩)
set_option maxHeartbeats 4000000 in
set_option maxRecDepth 100000 in
theorem ct_E_monthsLeft {l : Launch} (hfl : l.stackTraces = false) {G : XG} {n : Nat} {h : XH} {e : Nat} {f : Nat → Int32} (hE : IsElev h e f) (e4 : 4 ≤ e) (en : e + 28 ≤ n + 4) {a : Nat} {r : Nat → Int32} (hR : IsRope h a r) (h4 : 4 ≤ a) (hn : a + 5 ≤ n + 4) : XCt l G False (Cond.code yE_monthsLeft bE_monthsLeft 2 (some .int)) yE_monthsLeft 2 43 0 0 [.ref (e), .ref (a)] n h (fun r' n' h' => r' = some (.int (mleftK f r)) ∧ n' = n ∧ h' = h) (fun _ _ _ => False) := by
  refine XCt.of hfl (by decide +kernel) (Nat.le_of_ble_eq_true rfl) ?_
  intro p' e' s' m' g' b' t' c' C hret hname hnt hmd
  refine XV.run C okE_monthsLeft 2 (q := (2, ([some (.ref (e)), some (.ref (a))], [.ref (a), .int (0)]))) rfl ?_
  refine XV.callV C (As := []) (rest := [.int (0)]) (ci := 2) (ct_R_oldestLook hfl hR (by omega) (by omega) ) (xlk_ok okE_monthsLeft rfl) rfl (by omega) (by omega) rfl (hR 0 (by decide)) rfl wM_E_87 wI_R_oldestLook wV_R_oldestLook wN_R wB_R_oldestLook hy_R_oldestLook (fun q => q.elim) ⟨Nat.le_of_ble_eq_true rfl, Nat.le_of_ble_eq_true rfl⟩ ⟨Nat.le_of_ble_eq_true rfl, Nat.le_of_ble_eq_true rfl⟩ (Nat.le_of_ble_eq_true rfl) (fun r n h hp => ?_) (fun _ _ _ q => q.elim)
  obtain ⟨rfl, rfl, rfl⟩ := hp
  refine XV.run C okE_monthsLeft 1 (q := (6, ([some (.ref (e)), some (.ref (a))], [.ref (e), .int (omn (fun s => r (75 + s)) 24), .int (0)]))) rfl ?_
  refine XV.getf C (ci := 0) (kf := 0) (v := .ref (e + 1)) (xlk_ok okE_monthsLeft rfl) rfl (by decide) wF_E_9 (by omega) (by omega) (hE 0 (by decide)) rfl ?_
  refine XV.run C okE_monthsLeft 1 (q := (10, ([some (.ref (e)), some (.ref (a))], [.int (4), .ref (e + 1), .int (omn (fun s => r (75 + s)) 24), .int (0)]))) rfl ?_
  refine XV.ialdC C (N := 5) (f := (fun i => f (2 + i))) (a := 4) (xlk_ok okE_monthsLeft rfl) (by omega) (by omega) (hE 1 (by decide)) (rfl) (by decide) (by decide) ?_
  refine XV.run C okE_monthsLeft 4 (q := (15, ([some (.ref (e)), some (.ref (a))], [.ref (e), .int (((omn (fun s => r (75 + s)) 24) + (f 6)) + 1), .int (0)]))) rfl ?_
  refine XV.getf C (ci := 0) (kf := 3) (v := .int (f 0)) (xlk_ok okE_monthsLeft rfl) rfl (by decide) wF_E_25 (by omega) (by omega) (hE 0 (by decide)) rfl ?_
  refine XV.run C okE_monthsLeft 1 (q := (19, ([some (.ref (e)), some (.ref (a))], [.int ((((omn (fun s => r (75 + s)) 24) + (f 6)) + 1) - (f 0)), .int (0)]))) rfl ?_
  refine XV.mmax C (xlk_ok okE_monthsLeft rfl) wM_E_65 (Nat.le_of_ble_eq_true rfl) (Nat.le_of_ble_eq_true rfl) (Nat.le_of_ble_eq_true rfl) (Nat.le_of_ble_eq_true rfl) ?_
  exact XV.iret C (xlk_ok okE_monthsLeft rfl) hret rfl (Nat.le_of_ble_eq_true rfl) (Nat.le_of_ble_eq_true rfl) (⟨rfl, rfl, rfl⟩)
set_option maxHeartbeats 4000000 in
set_option maxRecDepth 100000 in
theorem ct_E_reasonFor {l : Launch} (hfl : l.stackTraces = false) {G : XG} {n : Nat} {h : XH} {e : Nat} {f : Nat → Int32} (hE : IsElev h e f) (e4 : 4 ≤ e) (en : e + 28 ≤ n + 4) {a : Nat} {r : Nat → Int32} (hR : IsRope h a r) (h4 : 4 ≤ a) (hn : a + 5 ≤ n + 4) {z : Nat} (hz : f 2 = nI z) (z1 : 1 ≤ z) (z2 : z ≤ 12) : XCt l G False (Cond.code yE_reasonFor bE_reasonFor 2 (some .int)) yE_reasonFor 3 64 0 0 [.ref (e), .ref (a)] n h (fun r' n' h' => r' = some (.int (reasonK f r z)) ∧ n' = n ∧ h' = h) (fun _ _ _ => False) := by
  refine XCt.of hfl (by decide +kernel) (Nat.le_of_ble_eq_true rfl) ?_
  intro p' e' s' m' g' b' t' c' C hret hname hnt hmd
  refine XV.run C okE_reasonFor 2 (q := (2, ([some (.ref (e)), some (.ref (a))], [.ref (e), .ref (a)]))) rfl ?_
  refine XV.getf C (ci := 0) (kf := 0) (v := .ref (e + 1)) (xlk_ok okE_reasonFor rfl) rfl (by decide) wF_E_9 (by omega) (by omega) (hE 0 (by decide)) rfl ?_
  refine XV.run C okE_reasonFor 1 (q := (6, ([some (.ref (e)), some (.ref (a))], [.int (0), .ref (e + 1), .ref (a)]))) rfl ?_
  refine XV.ialdC C (N := 5) (f := (fun i => f (2 + i))) (a := 0) (xlk_ok okE_reasonFor rfl) (by omega) (by omega) (hE 1 (by decide)) (rfl) (by decide) (by decide) ?_
  refine XV.callV C (As := [.int (f 2)]) (rest := []) (ci := 2) (ct_R_greatestCounts hfl hR (by omega) (by omega) (z := z) (hz) (by omega) (by omega)) (xlk_ok okE_reasonFor rfl) rfl (by omega) (by omega) rfl (hR 0 (by decide)) rfl wM_E_72 wI_R_greatestCounts wV_R_greatestCounts wN_R wB_R_greatestCounts hy_R_greatestCounts (fun q => q.elim) ⟨Nat.le_of_ble_eq_true rfl, Nat.le_of_ble_eq_true rfl⟩ ⟨Nat.le_of_ble_eq_true rfl, Nat.le_of_ble_eq_true rfl⟩ (Nat.le_of_ble_eq_true rfl) (fun r n h hp => ?_) (fun _ _ _ q => q.elim)
  obtain ⟨rfl, rfl, rfl⟩ := hp
  refine XV.run C okE_reasonFor 1 (q := (11, ([some (.ref (e)), some (.ref (a))], [.ref (e), .int (gmx (winS r false z) (25 - z))]))) rfl ?_
  refine XV.getf C (ci := 0) (kf := 0) (v := .ref (e + 1)) (xlk_ok okE_reasonFor rfl) rfl (by decide) wF_E_9 (by omega) (by omega) (hE 0 (by decide)) rfl ?_
  refine XV.run C okE_reasonFor 1 (q := (15, ([some (.ref (e)), some (.ref (a))], [.int (1), .ref (e + 1), .int (gmx (winS r false z) (25 - z))]))) rfl ?_
  refine XV.ialdC C (N := 5) (f := (fun i => f (2 + i))) (a := 1) (xlk_ok okE_reasonFor rfl) (by omega) (by omega) (hE 1 (by decide)) (rfl) (by decide) (by decide) ?_
  refine XV.icmp_lt C (tgt := 21) (xlk_ok okE_reasonFor rfl) rfl (fun c1 => ?_) (fun c1 => ?_)
  ·
    refine XV.run C okE_reasonFor 1 (q := (22, ([some (.ref (e)), some (.ref (a))], [.ref (a)]))) rfl ?_
    refine XV.callV C (As := []) (rest := []) (ci := 2) (ct_R_allCounts hfl hR (by omega) (by omega) ) (xlk_ok okE_reasonFor rfl) rfl (by omega) (by omega) rfl (hR 0 (by decide)) rfl wM_E_76 wI_R_allCounts wV_R_allCounts wN_R wB_R_allCounts hy_R_allCounts (fun q => q.elim) ⟨Nat.le_of_ble_eq_true rfl, Nat.le_of_ble_eq_true rfl⟩ ⟨Nat.le_of_ble_eq_true rfl, Nat.le_of_ble_eq_true rfl⟩ (Nat.le_of_ble_eq_true rfl) (fun r n h hp => ?_) (fun _ _ _ q => q.elim)
    obtain ⟨rfl, rfl, rfl⟩ := hp
    refine XV.run C okE_reasonFor 1 (q := (26, ([some (.ref (e)), some (.ref (a))], [.ref (e), .int (sumN (colR r false) 0 24)]))) rfl ?_
    refine XV.getf C (ci := 0) (kf := 0) (v := .ref (e + 1)) (xlk_ok okE_reasonFor rfl) rfl (by decide) wF_E_9 (by omega) (by omega) (hE 0 (by decide)) rfl ?_
    refine XV.run C okE_reasonFor 1 (q := (30, ([some (.ref (e)), some (.ref (a))], [.int (2), .ref (e + 1), .int (sumN (colR r false) 0 24)]))) rfl ?_
    refine XV.ialdC C (N := 5) (f := (fun i => f (2 + i))) (a := 2) (xlk_ok okE_reasonFor rfl) (by omega) (by omega) (hE 1 (by decide)) (rfl) (by decide) (by decide) ?_
    refine XV.icmp_lt C (tgt := 36) (xlk_ok okE_reasonFor rfl) rfl (fun c2 => ?_) (fun c2 => ?_)
    ·
      refine XV.run C okE_reasonFor 1 (q := (37, ([some (.ref (e)), some (.ref (a))], [.ref (a)]))) rfl ?_
      refine XV.callV C (As := []) (rest := []) (ci := 2) (ct_R_greatestGrowth hfl hR (by omega) (by omega) ) (xlk_ok okE_reasonFor rfl) rfl (by omega) (by omega) rfl (hR 0 (by decide)) rfl wM_E_80 wI_R_greatestGrowth wV_R_greatestGrowth wN_R wB_R_greatestGrowth hy_R_greatestGrowth (fun q => q.elim) ⟨Nat.le_of_ble_eq_true rfl, Nat.le_of_ble_eq_true rfl⟩ ⟨Nat.le_of_ble_eq_true rfl, Nat.le_of_ble_eq_true rfl⟩ (Nat.le_of_ble_eq_true rfl) (fun r n h hp => ?_) (fun _ _ _ q => q.elim)
      obtain ⟨rfl, rfl, rfl⟩ := hp
      refine XV.run C okE_reasonFor 1 (q := (41, ([some (.ref (e)), some (.ref (a))], [.ref (e), .int (gmx (grw r) 24)]))) rfl ?_
      refine XV.getf C (ci := 0) (kf := 0) (v := .ref (e + 1)) (xlk_ok okE_reasonFor rfl) rfl (by decide) wF_E_9 (by omega) (by omega) (hE 0 (by decide)) rfl ?_
      refine XV.run C okE_reasonFor 1 (q := (45, ([some (.ref (e)), some (.ref (a))], [.int (3), .ref (e + 1), .int (gmx (grw r) 24)]))) rfl ?_
      refine XV.ialdC C (N := 5) (f := (fun i => f (2 + i))) (a := 3) (xlk_ok okE_reasonFor rfl) (by omega) (by omega) (hE 1 (by decide)) (rfl) (by decide) (by decide) ?_
      refine XV.icmp_lt C (tgt := 51) (xlk_ok okE_reasonFor rfl) rfl (fun c3 => ?_) (fun c3 => ?_)
      ·
        refine XV.run C okE_reasonFor 2 (q := (53, ([some (.ref (e)), some (.ref (a))], [.ref (a), .ref (e)]))) rfl ?_
        refine XV.callV C (As := [.ref (a)]) (rest := []) (ci := 0) (ct_E_monthsLeft hfl hE (by omega) (by omega) hR (by omega) (by omega)) (xlk_ok okE_reasonFor rfl) rfl (by omega) (by omega) rfl (hE 0 (by decide)) rfl wM_E_83 wI_E_monthsLeft wV_E_monthsLeft wN_E wB_E_monthsLeft hy_E_monthsLeft (fun q => q.elim) ⟨Nat.le_of_ble_eq_true rfl, Nat.le_of_ble_eq_true rfl⟩ ⟨Nat.le_of_ble_eq_true rfl, Nat.le_of_ble_eq_true rfl⟩ (Nat.le_of_ble_eq_true rfl) (fun r n h hp => ?_) (fun _ _ _ q => q.elim)
        obtain ⟨rfl, rfl, rfl⟩ := hp
        refine XV.if_ne C (tgt := 63) (xlk_ok okE_reasonFor rfl) rfl (fun c4 => ?_) (fun c4 => ?_)
        ·
          refine XV.run C okE_reasonFor 1 (q := (64, ([some (.ref (e)), some (.ref (a))], [.int (0)]))) rfl ?_
          exact XV.iret C (xlk_ok okE_reasonFor rfl) hret rfl (Nat.le_of_ble_eq_true rfl) (Nat.le_of_ble_eq_true rfl) (⟨by unfold reasonK; rw [if_neg (Int32.not_le.mpr c1), if_neg (Int32.not_le.mpr c2), if_neg (Int32.not_le.mpr c3), if_neg c4], rfl, rfl⟩)
        ·
          refine XV.run C okE_reasonFor 2 (q := (64, ([some (.ref (e)), some (.ref (a))], [.int (4)]))) rfl ?_
          exact XV.iret C (xlk_ok okE_reasonFor rfl) hret rfl (Nat.le_of_ble_eq_true rfl) (Nat.le_of_ble_eq_true rfl) (⟨by unfold reasonK; rw [if_neg (Int32.not_le.mpr c1), if_neg (Int32.not_le.mpr c2), if_neg (Int32.not_le.mpr c3), if_pos c4], rfl, rfl⟩)
      ·
        refine XV.run C okE_reasonFor 1 (q := (50, ([some (.ref (e)), some (.ref (a))], [.int (3)]))) rfl ?_
        exact XV.iret C (xlk_ok okE_reasonFor rfl) hret rfl (Nat.le_of_ble_eq_true rfl) (Nat.le_of_ble_eq_true rfl) (⟨by unfold reasonK; rw [if_neg (Int32.not_le.mpr c1), if_neg (Int32.not_le.mpr c2), if_pos (Int32.not_lt.mp c3)], rfl, rfl⟩)
    ·
      refine XV.run C okE_reasonFor 1 (q := (35, ([some (.ref (e)), some (.ref (a))], [.int (2)]))) rfl ?_
      exact XV.iret C (xlk_ok okE_reasonFor rfl) hret rfl (Nat.le_of_ble_eq_true rfl) (Nat.le_of_ble_eq_true rfl) (⟨by unfold reasonK; rw [if_neg (Int32.not_le.mpr c1), if_pos (Int32.not_lt.mp c2)], rfl, rfl⟩)
  ·
    refine XV.run C okE_reasonFor 1 (q := (20, ([some (.ref (e)), some (.ref (a))], [.int (1)]))) rfl ?_
    exact XV.iret C (xlk_ok okE_reasonFor rfl) hret rfl (Nat.le_of_ble_eq_true rfl) (Nat.le_of_ble_eq_true rfl) (⟨by unfold reasonK; rw [if_pos (Int32.not_lt.mp c1)], rfl, rfl⟩)
set_option maxHeartbeats 4000000 in
set_option maxRecDepth 100000 in
theorem ct_E_ropesToRetire {l : Launch} (hfl : l.stackTraces = false) {G : XG} {n : Nat} {h : XH} {e : Nat} {f : Nat → Int32} (hE : IsElev h e f) (e4 : 4 ≤ e) (en : e + 28 ≤ n + 4) {k : Nat} (hm : f 1 = nI k) (hk : k ≤ 5) (hl : ∀ i, i < k → 0 < rowOf f i 0) {z : Nat} (hz : f 2 = nI z) (z1 : 1 ≤ z) (z2 : z ≤ 12) : XCt l G False (Cond.code yE_ropesToRetire bE_ropesToRetire 4 (some .int)) yE_ropesToRetire 4 85 0 0 [.ref (e)] n h (fun r' n' h' => r' = some (.int (nI (retK f z k))) ∧ n' = n ∧ h' = h) (fun _ _ _ => False) := by
  refine XCt.of hfl (by decide +kernel) (Nat.le_of_ble_eq_true rfl) ?_
  intro p' e' s' m' g' b' t' c' C hret hname hnt hmd
  refine XV.run C okE_ropesToRetire 4 (q := (4, ([some (.ref (e)), some (.int (0)), some (.int (0)), none], []))) rfl ?_
  have loop : ∀ (d j : Nat), j + d = k → XV G 4 p' l e' ({ frames := 4, cells := 0, slots := 0, locals := 85 } : Room) s' m' g' b' t' c' (XEnd G b' (fun r' n' h' => r' = some (.int (nI (retK f z k))) ∧ n' = n ∧ h' = h) (fun _ _ _ => False) g' s' 0 0) 4 [some (.ref (e)), some (.int (nI (retK f z j))), some (.int (nI j)), none] [] n h 0 0 := by
    intro d
    induction d with
    | zero =>
      intro j hj
      refine XV.run C okE_ropesToRetire 2 (q := (6, ([some (.ref (e)), some (.int (nI (retK f z j))), some (.int (nI j)), none], [.ref (e), .int (nI j)]))) rfl ?_
      refine XV.getf C (ci := 0) (kf := 2) (v := .int (f 1)) (xlk_ok okE_ropesToRetire rfl) rfl (by decide) wF_E_21 (by omega) (by omega) (hE 0 (by decide)) rfl ?_
      refine XV.icmp_ge C (tgt := 39) (xlk_ok okE_ropesToRetire rfl) rfl (fun _ => ?_) (fun hc => absurd (by rw [hm]; exact nI_le (by omega) (by omega)) hc)
      refine XV.run C okE_ropesToRetire 1 (q := (40, ([some (.ref (e)), some (.int (nI (retK f z j))), some (.int (nI j)), none], [.int (nI (retK f z j))]))) rfl ?_
      exact XV.iret C (xlk_ok okE_ropesToRetire rfl) hret rfl (Nat.le_of_ble_eq_true rfl) (Nat.le_of_ble_eq_true rfl) (⟨by rw [show j = k by omega], rfl, rfl⟩)
    | succ d ih =>
      intro j hj
      refine XV.run C okE_ropesToRetire 2 (q := (6, ([some (.ref (e)), some (.int (nI (retK f z j))), some (.int (nI j)), none], [.ref (e), .int (nI j)]))) rfl ?_
      refine XV.getf C (ci := 0) (kf := 2) (v := .int (f 1)) (xlk_ok okE_ropesToRetire rfl) rfl (by decide) wF_E_21 (by omega) (by omega) (hE 0 (by decide)) rfl ?_
      refine XV.icmp_ge C (tgt := 39) (xlk_ok okE_ropesToRetire rfl) rfl (fun hc => absurd hc (by rw [hm]; exact nI_ge (by omega) (by omega))) (fun _ => ?_)
      refine XV.run C okE_ropesToRetire 2 (q := (14, ([some (.ref (e)), some (.int (nI (retK f z j))), some (.int (nI j)), none], [.int (nI j), .ref (e)]))) rfl ?_
      refine XV.callV C (As := [.int (nI j)]) (rest := []) (ci := 0) (ct_E_ropeAt hfl hE (by omega) (by omega) (i := j) (rfl) (hm) (by omega) (by omega)) (xlk_ok okE_ropesToRetire rfl) rfl (by omega) (by omega) rfl (hE 0 (by decide)) rfl wM_E_51 wI_E_ropeAt wV_E_ropeAt wN_E wB_E_ropeAt hy_E_ropeAt (fun q => q.elim) ⟨Nat.le_of_ble_eq_true rfl, Nat.le_of_ble_eq_true rfl⟩ ⟨Nat.le_of_ble_eq_true rfl, Nat.le_of_ble_eq_true rfl⟩ (Nat.le_of_ble_eq_true rfl) (fun r n h hp => ?_) (fun _ _ _ q => q.elim)
      obtain ⟨rfl, rfl, rfl⟩ := hp
      refine XV.run C okE_ropesToRetire 2 (q := (19, ([some (.ref (e)), some (.int (nI (retK f z j))), some (.int (nI j)), some (.ref (e + 3 + 5 * j))], [.ref (e + 3 + 5 * j)]))) rfl ?_
      refine XV.null_r C (xlk_ok okE_ropesToRetire rfl) ?_
      refine XV.run C okE_ropesToRetire 2 (q := (24, ([some (.ref (e)), some (.int (nI (retK f z j))), some (.int (nI j)), some (.ref (e + 3 + 5 * j))], [.ref (e + 3 + 5 * j), .ref (e)]))) rfl ?_
      refine XV.callV C (As := [.ref (e + 3 + 5 * j)]) (rest := []) (ci := 0) (ct_E_reasonFor hfl hE (by omega) (by omega) (elev_ropeL hE (by omega) (hl j (by omega))) (by omega) (by omega) (z := z) (hz) (by omega) (by omega)) (xlk_ok okE_ropesToRetire rfl) rfl (by omega) (by omega) rfl (hE 0 (by decide)) rfl wM_E_90 wI_E_reasonFor wV_E_reasonFor wN_E wB_E_reasonFor hy_E_reasonFor (fun q => q.elim) ⟨Nat.le_of_ble_eq_true rfl, Nat.le_of_ble_eq_true rfl⟩ ⟨Nat.le_of_ble_eq_true rfl, Nat.le_of_ble_eq_true rfl⟩ (Nat.le_of_ble_eq_true rfl) (fun r n h hp => ?_) (fun _ _ _ q => q.elim)
      obtain ⟨rfl, rfl, rfl⟩ := hp
      refine XV.if_eq C (tgt := 33) (xlk_ok okE_ropesToRetire rfl) rfl (fun c => ?_) (fun c => ?_)
      ·
        have e1 : retK f z (j + 1) = retK f z j := if_pos c
        have w := ih (j + 1) (by omega)
        rw [e1] at w
        refine XV.run C okE_ropesToRetire 2 (q := (4, ([some (.ref (e)), some (.int (nI (retK f z j))), some (.int ((nI j) + 1)), some (.ref (e + 3 + 5 * j))], []))) rfl ?_
        rw [nI_1]
        exact XV.drop w rfl (by simp [xle])
      ·
        have e1 : retK f z (j + 1) = retK f z j + 1 := if_neg c
        have w := ih (j + 1) (by omega)
        rw [e1] at w
        refine XV.run C okE_ropesToRetire 3 (q := (4, ([some (.ref (e)), some (.int ((nI (retK f z j)) + 1)), some (.int ((nI j) + 1)), some (.ref (e + 3 + 5 * j))], []))) rfl ?_
        rw [nI_1, nI_1]
        exact XV.drop w rfl (by simp [xle])
  exact loop k 0 (by omega)
set_option maxHeartbeats 4000000 in
set_option maxRecDepth 100000 in
theorem ct_E_canRun {l : Launch} (hfl : l.stackTraces = false) {G : XG} {n : Nat} {h : XH} {e : Nat} {f : Nat → Int32} (hE : IsElev h e f) (e4 : 4 ≤ e) (en : e + 28 ≤ n + 4) {k : Nat} (hm : f 1 = nI k) (hk : k ≤ 5) (hl : ∀ i, i < k → 0 < rowOf f i 0) {z : Nat} (hz : f 2 = nI z) (z1 : 1 ≤ z) (z2 : z ≤ 12) : XCt l G False (Cond.code yE_canRun bE_canRun 1 (some .boolean)) yE_canRun 5 108 0 0 [.ref (e)] n h (fun r' n' h' => r' = some (.int (canK f z k)) ∧ n' = n ∧ h' = h) (fun _ _ _ => False) := by
  have hrk := retK_le f z k
  refine XCt.of hfl (by decide +kernel) (Nat.le_of_ble_eq_true rfl) ?_
  intro p' e' s' m' g' b' t' c' C hret hname hnt hmd
  refine XV.run C okE_canRun 1 (q := (1, ([some (.ref (e))], [.ref (e)]))) rfl ?_
  refine XV.getf C (ci := 0) (kf := 2) (v := .int (f 1)) (xlk_ok okE_canRun rfl) rfl (by decide) wF_E_21 (by omega) (by omega) (hE 0 (by decide)) rfl ?_
  refine XV.run C okE_canRun 1 (q := (5, ([some (.ref (e))], [.int (2), .int (f 1)]))) rfl ?_
  refine XV.icmp_lt C (tgt := 19) (xlk_ok okE_canRun rfl) rfl (fun c1 => ?_) (fun c1 => ?_)
  ·
    refine XV.run C okE_canRun 1 (q := (20, ([some (.ref (e))], [.int (0)]))) rfl ?_
    exact XV.iret C (xlk_ok okE_canRun rfl) hret (rfl) (Nat.le_of_ble_eq_true rfl) (Nat.le_of_ble_eq_true rfl) (⟨by first | rw [canK_0a (f := f) (z := z) ((nI_ltI (a := k) (b := 2) (by omega) (by omega)).mp (by rw [← hm]; exact c1))] | rw [canK_0b (f := f) (z := z) (k := k) (fun q => c2 (by rw [q]; rfl))], rfl, rfl⟩)
  ·
    refine XV.run C okE_canRun 1 (q := (9, ([some (.ref (e))], [.ref (e)]))) rfl ?_
    refine XV.callV C (As := []) (rest := []) (ci := 0) (ct_E_ropesToRetire hfl hE (by omega) (by omega) (k := k) (hm) (by omega) (hl) (z := z) (hz) (by omega) (by omega)) (xlk_ok okE_canRun rfl) rfl (by omega) (by omega) rfl (hE 0 (by decide)) rfl wM_E_93 wI_E_ropesToRetire wV_E_ropesToRetire wN_E wB_E_ropesToRetire hy_E_ropesToRetire (fun q => q.elim) ⟨Nat.le_of_ble_eq_true rfl, Nat.le_of_ble_eq_true rfl⟩ ⟨Nat.le_of_ble_eq_true rfl, Nat.le_of_ble_eq_true rfl⟩ (Nat.le_of_ble_eq_true rfl) (fun r n h hp => ?_) (fun _ _ _ q => q.elim)
    obtain ⟨rfl, rfl, rfl⟩ := hp
    refine XV.if_ne C (tgt := 19) (xlk_ok okE_canRun rfl) rfl (fun c2 => ?_) (fun c2 => ?_)
    ·
      refine XV.run C okE_canRun 1 (q := (20, ([some (.ref (e))], [.int (0)]))) rfl ?_
      exact XV.iret C (xlk_ok okE_canRun rfl) hret (rfl) (Nat.le_of_ble_eq_true rfl) (Nat.le_of_ble_eq_true rfl) (⟨by first | rw [canK_0a (f := f) (z := z) ((nI_ltI (a := k) (b := 2) (by omega) (by omega)).mp (by rw [← hm]; exact c1))] | rw [canK_0b (f := f) (z := z) (k := k) (fun q => c2 (by rw [q]; rfl))], rfl, rfl⟩)
    ·
      refine XV.run C okE_canRun 2 (q := (20, ([some (.ref (e))], [.int (1)]))) rfl ?_
      exact XV.iret C (xlk_ok okE_canRun rfl) hret (rfl) (Nat.le_of_ble_eq_true rfl) (Nat.le_of_ble_eq_true rfl) (⟨by rw [canK_1 (f := f) (z := z) (k := k) (fun q => c1 (by rw [hm]; exact nI_lt (b := 2) q (by omega))) ((nI_eq (b := 0) (by omega) (by omega)).mp c2)], rfl, rfl⟩)
set_option maxHeartbeats 4000000 in
set_option maxRecDepth 100000 in
theorem ct_E_countsOfRopes {l : Launch} (hfl : l.stackTraces = false) {G : XG} {n : Nat} {h : XH} {e : Nat} {f : Nat → Int32} (hE : IsElev h e f) (e4 : 4 ≤ e) (en : e + 28 ≤ n + 4) {k : Nat} (hm : f 1 = nI k) (hk : k ≤ 5) (hl : ∀ i, i < k → 0 < rowOf f i 0) : XCt l G False (Cond.code yE_countsOfRopes bE_countsOfRopes 4 (some .int)) yE_countsOfRopes 2 44 0 0 [.ref (e)] n h (fun r' n' h' => r' = some (.int (sumRK f false k)) ∧ n' = n ∧ h' = h) (fun _ _ _ => False) := by
  refine XCt.of hfl (by decide +kernel) (Nat.le_of_ble_eq_true rfl) ?_
  intro p' e' s' m' g' b' t' c' C hret hname hnt hmd
  refine XV.run C okE_countsOfRopes 4 (q := (4, ([some (.ref (e)), some (.int (0)), some (.int (0)), none], []))) rfl ?_
  have loop : ∀ (d j : Nat), j + d = k → XV G 4 p' l e' ({ frames := 2, cells := 0, slots := 0, locals := 44 } : Room) s' m' g' b' t' c' (XEnd G b' (fun r' n' h' => r' = some (.int (sumRK f false k)) ∧ n' = n ∧ h' = h) (fun _ _ _ => False) g' s' 0 0) 4 [some (.ref (e)), some (.int (sumRK f false j)), some (.int (nI j)), none] [] n h 0 0 := by
    intro d
    induction d with
    | zero =>
      intro j hj
      refine XV.run C okE_countsOfRopes 2 (q := (6, ([some (.ref (e)), some (.int (sumRK f false j)), some (.int (nI j)), none], [.ref (e), .int (nI j)]))) rfl ?_
      refine XV.getf C (ci := 0) (kf := 2) (v := .int (f 1)) (xlk_ok okE_countsOfRopes rfl) rfl (by decide) wF_E_21 (by omega) (by omega) (hE 0 (by decide)) rfl ?_
      refine XV.icmp_ge C (tgt := 35) (xlk_ok okE_countsOfRopes rfl) rfl (fun _ => ?_) (fun hc => absurd (by rw [hm]; exact nI_le (by omega) (by omega)) hc)
      refine XV.run C okE_countsOfRopes 1 (q := (36, ([some (.ref (e)), some (.int (sumRK f false j)), some (.int (nI j)), none], [.int (sumRK f false j)]))) rfl ?_
      exact XV.iret C (xlk_ok okE_countsOfRopes rfl) hret rfl (Nat.le_of_ble_eq_true rfl) (Nat.le_of_ble_eq_true rfl) (⟨by rw [show j = k by omega], rfl, rfl⟩)
    | succ d ih =>
      intro j hj
      refine XV.run C okE_countsOfRopes 2 (q := (6, ([some (.ref (e)), some (.int (sumRK f false j)), some (.int (nI j)), none], [.ref (e), .int (nI j)]))) rfl ?_
      refine XV.getf C (ci := 0) (kf := 2) (v := .int (f 1)) (xlk_ok okE_countsOfRopes rfl) rfl (by decide) wF_E_21 (by omega) (by omega) (hE 0 (by decide)) rfl ?_
      refine XV.icmp_ge C (tgt := 35) (xlk_ok okE_countsOfRopes rfl) rfl (fun hc => absurd hc (by rw [hm]; exact nI_ge (by omega) (by omega))) (fun _ => ?_)
      refine XV.run C okE_countsOfRopes 2 (q := (14, ([some (.ref (e)), some (.int (sumRK f false j)), some (.int (nI j)), none], [.int (nI j), .ref (e)]))) rfl ?_
      refine XV.callV C (As := [.int (nI j)]) (rest := []) (ci := 0) (ct_E_ropeAt hfl hE (by omega) (by omega) (i := j) (rfl) (hm) (by omega) (by omega)) (xlk_ok okE_countsOfRopes rfl) rfl (by omega) (by omega) rfl (hE 0 (by decide)) rfl wM_E_51 wI_E_ropeAt wV_E_ropeAt wN_E wB_E_ropeAt hy_E_ropeAt (fun q => q.elim) ⟨Nat.le_of_ble_eq_true rfl, Nat.le_of_ble_eq_true rfl⟩ ⟨Nat.le_of_ble_eq_true rfl, Nat.le_of_ble_eq_true rfl⟩ (Nat.le_of_ble_eq_true rfl) (fun r n h hp => ?_) (fun _ _ _ q => q.elim)
      obtain ⟨rfl, rfl, rfl⟩ := hp
      refine XV.run C okE_countsOfRopes 2 (q := (19, ([some (.ref (e)), some (.int (sumRK f false j)), some (.int (nI j)), some (.ref (e + 3 + 5 * j))], [.ref (e + 3 + 5 * j)]))) rfl ?_
      refine XV.null_r C (xlk_ok okE_countsOfRopes rfl) ?_
      refine XV.run C okE_countsOfRopes 2 (q := (24, ([some (.ref (e)), some (.int (sumRK f false j)), some (.int (nI j)), some (.ref (e + 3 + 5 * j))], [.ref (e + 3 + 5 * j), .int (sumRK f false j)]))) rfl ?_
      refine XV.callV C (As := []) (rest := [.int (sumRK f false j)]) (ci := 2) (ct_R_allCounts hfl (elev_ropeL hE (by omega) (hl j (by omega))) (by omega) (by omega) ) (xlk_ok okE_countsOfRopes rfl) rfl (by omega) (by omega) rfl ((elev_ropeL hE (by omega) (hl j (by omega))) 0 (by decide)) rfl wM_E_76 wI_R_allCounts wV_R_allCounts wN_R wB_R_allCounts hy_R_allCounts (fun q => q.elim) ⟨Nat.le_of_ble_eq_true rfl, Nat.le_of_ble_eq_true rfl⟩ ⟨Nat.le_of_ble_eq_true rfl, Nat.le_of_ble_eq_true rfl⟩ (Nat.le_of_ble_eq_true rfl) (fun r n h hp => ?_) (fun _ _ _ q => q.elim)
      obtain ⟨rfl, rfl, rfl⟩ := hp
      refine XV.run C okE_countsOfRopes 4 (q := (4, ([some (.ref (e)), some (.int ((sumRK f false j) + (sumN (colR (rowOf f j) false) 0 24))), some (.int ((nI j) + 1)), some (.ref (e + 3 + 5 * j))], []))) rfl ?_
      rw [nI_1]
      have w := ih (j + 1) (by omega)
      rw [sumRK_s] at w
      exact XV.drop w rfl (by simp [xle])
  exact loop k 0 (by omega)
set_option maxHeartbeats 4000000 in
set_option maxRecDepth 100000 in
theorem ct_E_brokenOfRopes {l : Launch} (hfl : l.stackTraces = false) {G : XG} {n : Nat} {h : XH} {e : Nat} {f : Nat → Int32} (hE : IsElev h e f) (e4 : 4 ≤ e) (en : e + 28 ≤ n + 4) {k : Nat} (hm : f 1 = nI k) (hk : k ≤ 5) (hl : ∀ i, i < k → 0 < rowOf f i 0) : XCt l G False (Cond.code yE_brokenOfRopes bE_brokenOfRopes 4 (some .int)) yE_brokenOfRopes 3 65 0 0 [.ref (e)] n h (fun r' n' h' => r' = some (.int (sumRK f true k)) ∧ n' = n ∧ h' = h) (fun _ _ _ => False) := by
  refine XCt.of hfl (by decide +kernel) (Nat.le_of_ble_eq_true rfl) ?_
  intro p' e' s' m' g' b' t' c' C hret hname hnt hmd
  refine XV.run C okE_brokenOfRopes 4 (q := (4, ([some (.ref (e)), some (.int (0)), some (.int (0)), none], []))) rfl ?_
  have loop : ∀ (d j : Nat), j + d = k → XV G 4 p' l e' ({ frames := 3, cells := 0, slots := 0, locals := 65 } : Room) s' m' g' b' t' c' (XEnd G b' (fun r' n' h' => r' = some (.int (sumRK f true k)) ∧ n' = n ∧ h' = h) (fun _ _ _ => False) g' s' 0 0) 4 [some (.ref (e)), some (.int (sumRK f true j)), some (.int (nI j)), none] [] n h 0 0 := by
    intro d
    induction d with
    | zero =>
      intro j hj
      refine XV.run C okE_brokenOfRopes 2 (q := (6, ([some (.ref (e)), some (.int (sumRK f true j)), some (.int (nI j)), none], [.ref (e), .int (nI j)]))) rfl ?_
      refine XV.getf C (ci := 0) (kf := 2) (v := .int (f 1)) (xlk_ok okE_brokenOfRopes rfl) rfl (by decide) wF_E_21 (by omega) (by omega) (hE 0 (by decide)) rfl ?_
      refine XV.icmp_ge C (tgt := 35) (xlk_ok okE_brokenOfRopes rfl) rfl (fun _ => ?_) (fun hc => absurd (by rw [hm]; exact nI_le (by omega) (by omega)) hc)
      refine XV.run C okE_brokenOfRopes 1 (q := (36, ([some (.ref (e)), some (.int (sumRK f true j)), some (.int (nI j)), none], [.int (sumRK f true j)]))) rfl ?_
      exact XV.iret C (xlk_ok okE_brokenOfRopes rfl) hret rfl (Nat.le_of_ble_eq_true rfl) (Nat.le_of_ble_eq_true rfl) (⟨by rw [show j = k by omega], rfl, rfl⟩)
    | succ d ih =>
      intro j hj
      refine XV.run C okE_brokenOfRopes 2 (q := (6, ([some (.ref (e)), some (.int (sumRK f true j)), some (.int (nI j)), none], [.ref (e), .int (nI j)]))) rfl ?_
      refine XV.getf C (ci := 0) (kf := 2) (v := .int (f 1)) (xlk_ok okE_brokenOfRopes rfl) rfl (by decide) wF_E_21 (by omega) (by omega) (hE 0 (by decide)) rfl ?_
      refine XV.icmp_ge C (tgt := 35) (xlk_ok okE_brokenOfRopes rfl) rfl (fun hc => absurd hc (by rw [hm]; exact nI_ge (by omega) (by omega))) (fun _ => ?_)
      refine XV.run C okE_brokenOfRopes 2 (q := (14, ([some (.ref (e)), some (.int (sumRK f true j)), some (.int (nI j)), none], [.int (nI j), .ref (e)]))) rfl ?_
      refine XV.callV C (As := [.int (nI j)]) (rest := []) (ci := 0) (ct_E_ropeAt hfl hE (by omega) (by omega) (i := j) (rfl) (hm) (by omega) (by omega)) (xlk_ok okE_brokenOfRopes rfl) rfl (by omega) (by omega) rfl (hE 0 (by decide)) rfl wM_E_51 wI_E_ropeAt wV_E_ropeAt wN_E wB_E_ropeAt hy_E_ropeAt (fun q => q.elim) ⟨Nat.le_of_ble_eq_true rfl, Nat.le_of_ble_eq_true rfl⟩ ⟨Nat.le_of_ble_eq_true rfl, Nat.le_of_ble_eq_true rfl⟩ (Nat.le_of_ble_eq_true rfl) (fun r n h hp => ?_) (fun _ _ _ q => q.elim)
      obtain ⟨rfl, rfl, rfl⟩ := hp
      refine XV.run C okE_brokenOfRopes 2 (q := (19, ([some (.ref (e)), some (.int (sumRK f true j)), some (.int (nI j)), some (.ref (e + 3 + 5 * j))], [.ref (e + 3 + 5 * j)]))) rfl ?_
      refine XV.null_r C (xlk_ok okE_brokenOfRopes rfl) ?_
      refine XV.run C okE_brokenOfRopes 2 (q := (24, ([some (.ref (e)), some (.int (sumRK f true j)), some (.int (nI j)), some (.ref (e + 3 + 5 * j))], [.ref (e + 3 + 5 * j), .int (sumRK f true j)]))) rfl ?_
      refine XV.callV C (As := []) (rest := [.int (sumRK f true j)]) (ci := 2) (ct_R_allBroken hfl (elev_ropeL hE (by omega) (hl j (by omega))) (by omega) (by omega)  (hl j (by omega))) (xlk_ok okE_brokenOfRopes rfl) rfl (by omega) (by omega) rfl ((elev_ropeL hE (by omega) (hl j (by omega))) 0 (by decide)) rfl wM_E_96 wI_R_allBroken wV_R_allBroken wN_R wB_R_allBroken hy_R_allBroken (fun q => q.elim) ⟨Nat.le_of_ble_eq_true rfl, Nat.le_of_ble_eq_true rfl⟩ ⟨Nat.le_of_ble_eq_true rfl, Nat.le_of_ble_eq_true rfl⟩ (Nat.le_of_ble_eq_true rfl) (fun r n h hp => ?_) (fun _ _ _ q => q.elim)
      obtain ⟨rfl, rfl, rfl⟩ := hp
      refine XV.run C okE_brokenOfRopes 4 (q := (4, ([some (.ref (e)), some (.int ((sumRK f true j) + (sumN (colR (rowOf f j) true) 0 24))), some (.int ((nI j) + 1)), some (.ref (e + 3 + 5 * j))], []))) rfl ?_
      rw [nI_1]
      have w := ih (j + 1) (by omega)
      rw [sumRK_s] at w
      exact XV.drop w rfl (by simp [xle])
  exact loop k 0 (by omega)
end
section
/-! RopeThreads$Elevator: the writes -/
theorem mx_le {a b : Nat} (h : a ≤ b) (hb : b < 2 ^ 31) : (if nI a < nI b then nI b else nI a) = nI b := by
  by_cases q : a = b
  · subst q
    split <;> rfl
  · rw [if_pos (nI_lt (by omega) hb)]
set_option maxHeartbeats 4000000 in
set_option maxRecDepth 100000 in
theorem ct_E_travel {l : Launch} (hfl : l.stackTraces = false) {G : XG} {n : Nat} {h : XH} {e : Nat} {f : Nat → Int32} (hE : IsElev h e f) (e4 : 4 ≤ e) (en : e + 28 ≤ n + 4) {k : Nat} (hm : f 1 = nI k) (hk : k ≤ 5) (hl : ∀ i, i < k → 0 < rowOf f i 0) {x y : Int32} {a b lo hi : Nat} (t : Int32) (hx : x = nI a) (hy : y = nI b) (ha : a ≤ 7) (hb : b ≤ 7) (hlo : (lo = a ∧ hi = b ∧ a ≤ b) ∨ (lo = b ∧ hi = a ∧ b < a)) : XCt l G False (Cond.code yE_travel bE_travel 8 none) yE_travel 1 24 0 0 [.ref (e), .int (x), .int (y), .int (t)] n h (fun r' n' h' => r' = none ∧ n' = n ∧ h' = setElev h e (travK f lo hi k t)) (fun _ _ _ => False) := by
  subst hx; subst hy
  have hlh : lo ≤ hi ∧ hi ≤ 7 := by omega
  refine XCt.of hfl (by decide +kernel) (Nat.le_of_ble_eq_true rfl) ?_
  intro p' e' s' m' g' b' t' c' C hret hname hnt hmd
  refine XV.cast (setElev_self hE).symm ?_
  refine XV.run C okE_travel 3 (q := (3, ([some (.ref (e)), some (.int (nI a)), some (.int (nI b)), some (.int (t)), none, none, none, none], [.int (nI b), .int (nI a), .int (3)]))) rfl ?_
  refine XV.mmin C (xlk_ok okE_travel rfl) wM_E_59 (Nat.le_of_ble_eq_true rfl) (Nat.le_of_ble_eq_true rfl) (Nat.le_of_ble_eq_true rfl) (Nat.le_of_ble_eq_true rfl) ?_
  refine XV.run C okE_travel 1 (q := (7, ([some (.ref (e)), some (.int (nI a)), some (.int (nI b)), some (.int (t)), none, none, none, none], [.int (3 * (if nI b < nI a then nI b else nI a))]))) rfl ?_
  rw [show (3 * (if nI b < nI a then nI b else nI a) : Int32) = nI (3 * lo) from by rcases hlo with ⟨rfl, rfl, q⟩ | ⟨rfl, rfl, q⟩ <;> first | (rw [if_neg (nI_nlt q (by omega))]; exact pk_mul 3 _) | (rw [if_pos (nI_lt q (by omega))]; exact pk_mul 3 _)]
  refine XV.run C okE_travel 4 (q := (12, ([some (.ref (e)), some (.int (nI a)), some (.int (nI b)), some (.int (t)), some (.int (nI (3 * lo))), none, none, none], [.int (nI b), .int (nI a), .int (3)]))) rfl ?_
  refine XV.mmax C (xlk_ok okE_travel rfl) wM_E_65 (Nat.le_of_ble_eq_true rfl) (Nat.le_of_ble_eq_true rfl) (Nat.le_of_ble_eq_true rfl) (Nat.le_of_ble_eq_true rfl) ?_
  refine XV.run C okE_travel 5 (q := (20, ([some (.ref (e)), some (.int (nI a)), some (.int (nI b)), some (.int (t)), some (.int (nI (3 * lo))), none, none, none], [.int (((3 * (if nI a < nI b then nI b else nI a)) + 3) - 1)]))) rfl ?_
  rw [show (((3 * (if nI a < nI b then nI b else nI a)) + 3) - 1 : Int32) = nI (3 * hi + 2) from by rcases hlo with ⟨rfl, rfl, q⟩ | ⟨rfl, rfl, q⟩ <;> first | (rw [mx_le q (by omega), show (3 : Int32) * nI hi = nI (3 * hi) from pk_mul 3 _, show (3 : Int32) = nI 3 from rfl, nI_add]; exact nI_m1 (by omega)) | (rw [if_neg (nI_nlt (Nat.le_of_lt q) (by omega)), show (3 : Int32) * nI hi = nI (3 * hi) from pk_mul 3 _, show (3 : Int32) = nI 3 from rfl, nI_add]; exact nI_m1 (by omega))]
  refine XV.run C okE_travel 3 (q := (25, ([some (.ref (e)), some (.int (nI a)), some (.int (nI b)), some (.int (t)), some (.int (nI (3 * lo))), some (.int (nI (3 * hi + 2))), some (.int (0)), none], []))) rfl ?_
  have loop : ∀ (d j : Nat), j + d = k → XV G 8 p' l e' ({ frames := 1, cells := 0, slots := 0, locals := 24 } : Room) s' m' g' b' t' c' (XEnd G b' (fun r' n' h' => r' = none ∧ n' = n ∧ h' = setElev h e (travK f lo hi k t)) (fun _ _ _ => False) g' s' 0 0) 25 [some (.ref (e)), some (.int (nI a)), some (.int (nI b)), some (.int (t)), some (.int (nI (3 * lo))), some (.int (nI (3 * hi + 2))), some (.int (nI j)), none] [] n (setElev h e (mapRows f (fun r => rBendT r (3 * lo) (3 * hi + 3 - 3 * lo) t) j)) 0 0 := by
    intro d
    induction d with
    | zero =>
      intro j hj
      refine XV.run C okE_travel 2 (q := (28, ([some (.ref (e)), some (.int (nI a)), some (.int (nI b)), some (.int (t)), some (.int (nI (3 * lo))), some (.int (nI (3 * hi + 2))), some (.int (nI j)), none], [.ref (e), .int (nI j)]))) rfl ?_
      refine XV.getf C (ci := 0) (kf := 2) (v := .int ((mapRows f (fun r => rBendT r (3 * lo) (3 * hi + 3 - 3 * lo) t) j) 1)) (xlk_ok okE_travel rfl) rfl (by decide) wF_E_21 (by omega) (by omega) ((blk_is h e 28 (elevC e (mapRows f (fun r => rBendT r (3 * lo) (3 * hi + 3 - 3 * lo) t) j))) 0 (by decide)) rfl ?_
      refine XV.icmp_ge C (tgt := 63) (xlk_ok okE_travel rfl) rfl (fun _ => ?_) (fun hc => absurd (by rw [mapRows_lo _ _ _ _ (by decide), hm]; exact nI_le (by omega) (by omega)) hc)
      refine XV.run C okE_travel 2 (q := (65, ([some (.ref (e)), some (.int (nI a)), some (.int (nI b)), some (.int (t)), some (.int (nI (3 * lo))), some (.int (nI (3 * hi + 2))), some (.int (nI j)), none], [.ref (e), .ref (e)]))) rfl ?_
      refine XV.getf C (ci := 0) (kf := 4) (v := .int ((mapRows f (fun r => rBendT r (3 * lo) (3 * hi + 3 - 3 * lo) t) j) 7)) (xlk_ok okE_travel rfl) rfl (by decide) wF_E_28 (by omega) (by omega) ((blk_is h e 28 (elevC e (mapRows f (fun r => rBendT r (3 * lo) (3 * hi + 3 - 3 * lo) t) j))) 0 (by decide)) rfl ?_
      refine XV.run C okE_travel 2 (q := (70, ([some (.ref (e)), some (.int (nI a)), some (.int (nI b)), some (.int (t)), some (.int (nI (3 * lo))), some (.int (nI (3 * hi + 2))), some (.int (nI j)), none], [.int (((mapRows f (fun r => rBendT r (3 * lo) (3 * hi + 3 - 3 * lo) t) j) 7) + t), .ref (e)]))) rfl ?_
      refine XV.putf C (ci := 0) (kf := 4) (ty := .int) (xlk_ok okE_travel rfl) rfl (by decide) wF_E_28 (by omega) (by omega) ((blk_is h e 28 (elevC e (mapRows f (fun r => rBendT r (3 * lo) (3 * hi + 3 - 3 * lo) t) j))) 0 (by decide)) rfl rfl rfl rfl (Nat.le_of_ble_eq_true rfl) ?_
      refine XV.cast (setElev_f4 _ e _ (((mapRows f (fun r => rBendT r (3 * lo) (3 * hi + 3 - 3 * lo) t) j) 7) + t)) ?_
      exact XV.vret C (xlk_ok okE_travel rfl) hret (Nat.le_of_ble_eq_true rfl) (Nat.le_of_ble_eq_true rfl) (⟨rfl, rfl, by rw [show j = k by omega, mapRows_lo _ _ _ 7 (by decide)]; rfl⟩)
    | succ d ih =>
      intro j hj
      refine XV.run C okE_travel 2 (q := (28, ([some (.ref (e)), some (.int (nI a)), some (.int (nI b)), some (.int (t)), some (.int (nI (3 * lo))), some (.int (nI (3 * hi + 2))), some (.int (nI j)), none], [.ref (e), .int (nI j)]))) rfl ?_
      refine XV.getf C (ci := 0) (kf := 2) (v := .int ((mapRows f (fun r => rBendT r (3 * lo) (3 * hi + 3 - 3 * lo) t) j) 1)) (xlk_ok okE_travel rfl) rfl (by decide) wF_E_21 (by omega) (by omega) ((blk_is h e 28 (elevC e (mapRows f (fun r => rBendT r (3 * lo) (3 * hi + 3 - 3 * lo) t) j))) 0 (by decide)) rfl ?_
      refine XV.icmp_ge C (tgt := 63) (xlk_ok okE_travel rfl) rfl (fun hc => absurd hc (by rw [mapRows_lo _ _ _ _ (by decide), hm]; exact nI_ge (by omega) (by omega))) (fun _ => ?_)
      refine XV.run C okE_travel 2 (q := (37, ([some (.ref (e)), some (.int (nI a)), some (.int (nI b)), some (.int (t)), some (.int (nI (3 * lo))), some (.int (nI (3 * hi + 2))), some (.int (nI j)), none], [.int (nI j), .ref (e)]))) rfl ?_
      refine XV.callV C (As := [.int (nI j)]) (rest := []) (ci := 0) (ct_E_ropeAt hfl (blk_is h e 28 (elevC e (mapRows f (fun r => rBendT r (3 * lo) (3 * hi + 3 - 3 * lo) t) j))) (by omega) (by omega) (i := j) (rfl) (by rw [mapRows_lo _ _ _ _ (by decide)]; exact hm) (by omega) (by omega)) (xlk_ok okE_travel rfl) rfl (by omega) (by omega) rfl ((blk_is h e 28 (elevC e (mapRows f (fun r => rBendT r (3 * lo) (3 * hi + 3 - 3 * lo) t) j))) 0 (by decide)) rfl wM_E_51 wI_E_ropeAt wV_E_ropeAt wN_E wB_E_ropeAt hy_E_ropeAt (fun q => q.elim) ⟨Nat.le_of_ble_eq_true rfl, Nat.le_of_ble_eq_true rfl⟩ ⟨Nat.le_of_ble_eq_true rfl, Nat.le_of_ble_eq_true rfl⟩ (Nat.le_of_ble_eq_true rfl) (fun r n h hp => ?_) (fun _ _ _ q => q.elim)
      obtain ⟨rfl, rfl, rfl⟩ := hp
      refine XV.run C okE_travel 2 (q := (44, ([some (.ref (e)), some (.int (nI a)), some (.int (nI b)), some (.int (t)), some (.int (nI (3 * lo))), some (.int (nI (3 * hi + 2))), some (.int (nI j)), some (.ref (e + 3 + 5 * j))], [.ref (e + 3 + 5 * j)]))) rfl ?_
      refine XV.null_r C (xlk_ok okE_travel rfl) ?_
      refine XV.run C okE_travel 4 (q := (54, ([some (.ref (e)), some (.int (nI a)), some (.int (nI b)), some (.int (t)), some (.int (nI (3 * lo))), some (.int (nI (3 * hi + 2))), some (.int (nI j)), some (.ref (e + 3 + 5 * j))], [.int (t), .int (nI (3 * hi + 2)), .int (nI (3 * lo)), .ref (e + 3 + 5 * j)]))) rfl ?_
      refine XV.callV C (As := [.int (nI (3 * lo)), .int (nI (3 * hi + 2)), .int (t)]) (rest := []) (ci := 2) (ct_R_bend hfl (IsRope.of_eq (elev_ropeL (blk_is h e 28 (elevC e (mapRows f (fun r => rBendT r (3 * lo) (3 * hi + 3 - 3 * lo) t) j))) (i := j) (by omega) (by rw [mapRows_at f _ j j (Nat.le_refl j)]; exact hl j (by omega))) (mapRows_at f (fun r => rBendT r (3 * lo) (3 * hi + 3 - 3 * lo) t) j j (Nat.le_refl j))) (by omega) (by omega) (i := 3 * lo) (w := 3 * hi + 3 - 3 * lo) (b := 3 * hi + 2) (rfl) (rfl) (by omega) (by omega) (t)) (xlk_ok okE_travel rfl) rfl (by omega) (by omega) rfl ((IsRope.of_eq (elev_ropeL (blk_is h e 28 (elevC e (mapRows f (fun r => rBendT r (3 * lo) (3 * hi + 3 - 3 * lo) t) j))) (i := j) (by omega) (by rw [mapRows_at f _ j j (Nat.le_refl j)]; exact hl j (by omega))) (mapRows_at f (fun r => rBendT r (3 * lo) (3 * hi + 3 - 3 * lo) t) j j (Nat.le_refl j))) 0 (by decide)) rfl wM_E_68 wI_R_bend wV_R_bend wN_R wB_R_bend hy_R_bend (fun q => q.elim) ⟨Nat.le_of_ble_eq_true rfl, Nat.le_of_ble_eq_true rfl⟩ ⟨Nat.le_of_ble_eq_true rfl, Nat.le_of_ble_eq_true rfl⟩ (Nat.le_of_ble_eq_true rfl) (fun r n h hp => ?_) (fun _ _ _ q => q.elim)
      obtain ⟨rfl, rfl, rfl⟩ := hp
      refine XV.cast (setElev_put _ e _ j _ (by omega) (by rw [rBendT_0]; exact ne_of_gt (hl j (by omega)))) ?_
      refine XV.cast (congrArg (setElev h e) (mapRows_s f (fun r => rBendT r (3 * lo) (3 * hi + 3 - 3 * lo) t) j)) ?_
      refine XV.run C okE_travel 2 (q := (25, ([some (.ref (e)), some (.int (nI a)), some (.int (nI b)), some (.int (t)), some (.int (nI (3 * lo))), some (.int (nI (3 * hi + 2))), some (.int ((nI j) + 1)), some (.ref (e + 3 + 5 * j))], []))) rfl ?_
      rw [nI_1]
      exact XV.drop (ih (j + 1) (by omega)) rfl (by simp [xle])
  refine XV.cast (by rw [mapRows_0]) (h' := setElev h e (mapRows f (fun r => rBendT r (3 * lo) (3 * hi + 3 - 3 * lo) t) 0)) ?_
  exact loop k 0 (by omega)
set_option maxHeartbeats 4000000 in
set_option maxRecDepth 100000 in
theorem ct_E_copyFrom {l : Launch} (hfl : l.stackTraces = false) {G : XG} {n : Nat} {h : XH} {e : Nat} {f : Nat → Int32} (hE : IsElev h e f) (e4 : 4 ≤ e) (en : e + 28 ≤ n + 4) {e2 : Nat} {g : Nat → Int32} (hE2 : IsElev h e2 g) (e24 : 4 ≤ e2) (e2n : e2 + 28 ≤ n + 4) (hd : e2 + 28 ≤ e ∨ e + 28 ≤ e2) : XCt l G False (Cond.code yE_copyFrom bE_copyFrom 5 none) yE_copyFrom 2 47 0 0 [.ref (e), .ref (e2)] n h (fun r' n' h' => r' = none ∧ n' = n ∧ h' = setElev h e (g)) (fun _ _ _ => False) := by
  refine XCt.of hfl (by decide +kernel) (Nat.le_of_ble_eq_true rfl) ?_
  intro p' e' s' m' g' b' t' c' C hret hname hnt hmd
  refine XV.cast (setElev_self hE).symm ?_
  refine XV.run C okE_copyFrom 1 (q := (1, ([some (.ref (e)), some (.ref (e2)), none, none, none], [.ref (e2)]))) rfl ?_
  refine XV.getf C (ci := 0) (kf := 0) (v := .ref (e2 + 1)) (xlk_ok okE_copyFrom rfl) rfl (by decide) wF_E_9 (by omega) (by omega) ((hE2.out hd) 0 (by decide)) rfl ?_
  refine XV.run C okE_copyFrom 2 (q := (6, ([some (.ref (e)), some (.ref (e2)), none, none, none], [.ref (e), .int (0), .ref (e2 + 1)]))) rfl ?_
  refine XV.getf C (ci := 0) (kf := 0) (v := .ref (e + 1)) (xlk_ok okE_copyFrom rfl) rfl (by decide) wF_E_9 (by omega) (by omega) ((blk_is h e 28 (elevC e (f))) 0 (by decide)) rfl ?_
  refine XV.run C okE_copyFrom 2 (q := (11, ([some (.ref (e)), some (.ref (e2)), none, none, none], [.int (5), .int (0), .ref (e + 1), .int (0), .ref (e2 + 1)]))) rfl ?_
  refine XV.copyC C (N := 5) (f := (fun i => g (2 + i))) (g := (fun i => f (2 + i))) (xlk_ok okE_copyFrom rfl) wM_E_41 (by omega) (by omega) (by omega) (by omega) ((hE2.out hd) 1 (by decide)) ((blk_is h e 28 (elevC e (f))) 1 (by decide)) rfl (by decide) (Nat.le_of_ble_eq_true rfl) (Nat.le_of_ble_eq_true rfl) ?_
  refine XV.cast (setElev_c0 _ e _ g) ?_
  refine XV.run C okE_copyFrom 2 (q := (16, ([some (.ref (e)), some (.ref (e2)), some (.int (0)), none, none], []))) rfl ?_
  have loop : ∀ (d j : Nat), j + d = 5 → XV G 5 p' l e' ({ frames := 2, cells := 0, slots := 0, locals := 47 } : Room) s' m' g' b' t' c' (XEnd G b' (fun r' n' h' => r' = none ∧ n' = n ∧ h' = setElev h e (g)) (fun _ _ _ => False) g' s' 0 0) 16 [some (.ref (e)), some (.ref (e2)), some (.int (nI j)), none, none] [] n (setElev h e (copyK f g j)) 0 0 := by
    intro d
    induction d with
    | zero =>
      intro j hj
      refine XV.run C okE_copyFrom 2 (q := (18, ([some (.ref (e)), some (.ref (e2)), some (.int (nI j)), none, none], [.int (5), .int (nI j)]))) rfl ?_
      refine XV.icmp_ge C (tgt := 57) (xlk_ok okE_copyFrom rfl) rfl (fun _ => ?_) (fun hc => absurd (nI_le (a := 5) (by omega) (by omega)) hc)
      refine XV.run C okE_copyFrom 2 (q := (59, ([some (.ref (e)), some (.ref (e2)), some (.int (nI j)), none, none], [.ref (e2), .ref (e)]))) rfl ?_
      refine XV.getf C (ci := 0) (kf := 2) (v := .int (g 1)) (xlk_ok okE_copyFrom rfl) rfl (by decide) wF_E_21 (by omega) (by omega) ((hE2.out hd) 0 (by decide)) rfl ?_
      refine XV.putf C (ci := 0) (kf := 2) (ty := .int) (xlk_ok okE_copyFrom rfl) rfl (by decide) wF_E_21 (by omega) (by omega) ((blk_is h e 28 (elevC e (copyK f g j))) 0 (by decide)) rfl rfl rfl rfl (Nat.le_of_ble_eq_true rfl) ?_
      refine XV.cast (setElev_f2 _ e _ (g 1)) ?_
      refine XV.run C okE_copyFrom 2 (q := (67, ([some (.ref (e)), some (.ref (e2)), some (.int (nI j)), none, none], [.ref (e2), .ref (e)]))) rfl ?_
      refine XV.getf C (ci := 0) (kf := 3) (v := .int (g 0)) (xlk_ok okE_copyFrom rfl) rfl (by decide) wF_E_25 (by omega) (by omega) ((hE2.out hd) 0 (by decide)) rfl ?_
      refine XV.putf C (ci := 0) (kf := 3) (ty := .int) (xlk_ok okE_copyFrom rfl) rfl (by decide) wF_E_25 (by omega) (by omega) ((blk_is h e 28 (elevC e (upd (copyK f g j) 1 (g 1)))) 0 (by decide)) rfl rfl rfl rfl (Nat.le_of_ble_eq_true rfl) ?_
      refine XV.cast (setElev_f3 _ e _ (g 0)) ?_
      refine XV.run C okE_copyFrom 2 (q := (75, ([some (.ref (e)), some (.ref (e2)), some (.int (nI j)), none, none], [.ref (e2), .ref (e)]))) rfl ?_
      refine XV.getf C (ci := 0) (kf := 4) (v := .int (g 7)) (xlk_ok okE_copyFrom rfl) rfl (by decide) wF_E_28 (by omega) (by omega) ((hE2.out hd) 0 (by decide)) rfl ?_
      refine XV.putf C (ci := 0) (kf := 4) (ty := .int) (xlk_ok okE_copyFrom rfl) rfl (by decide) wF_E_28 (by omega) (by omega) ((blk_is h e 28 (elevC e (upd (upd (copyK f g j) 1 (g 1)) 0 (g 0)))) 0 (by decide)) rfl rfl rfl rfl (Nat.le_of_ble_eq_true rfl) ?_
      refine XV.cast (setElev_f4 _ e _ (g 7)) ?_
      refine XV.run C okE_copyFrom 2 (q := (83, ([some (.ref (e)), some (.ref (e2)), some (.int (nI j)), none, none], [.ref (e2), .ref (e)]))) rfl ?_
      refine XV.getf C (ci := 0) (kf := 5) (v := .int (g 8)) (xlk_ok okE_copyFrom rfl) rfl (by decide) wF_E_31 (by omega) (by omega) ((hE2.out hd) 0 (by decide)) rfl ?_
      refine XV.putf C (ci := 0) (kf := 5) (ty := .int) (xlk_ok okE_copyFrom rfl) rfl (by decide) wF_E_31 (by omega) (by omega) ((blk_is h e 28 (elevC e (upd (upd (upd (copyK f g j) 1 (g 1)) 0 (g 0)) 7 (g 7)))) 0 (by decide)) rfl rfl rfl rfl (Nat.le_of_ble_eq_true rfl) ?_
      refine XV.cast (setElev_f5 _ e _ (g 8)) ?_
      refine XV.run C okE_copyFrom 2 (q := (91, ([some (.ref (e)), some (.ref (e2)), some (.int (nI j)), none, none], [.ref (e2), .ref (e)]))) rfl ?_
      refine XV.getf C (ci := 0) (kf := 6) (v := .int (g 9)) (xlk_ok okE_copyFrom rfl) rfl (by decide) wF_E_34 (by omega) (by omega) ((hE2.out hd) 0 (by decide)) rfl ?_
      refine XV.putf C (ci := 0) (kf := 6) (ty := .int) (xlk_ok okE_copyFrom rfl) rfl (by decide) wF_E_34 (by omega) (by omega) ((blk_is h e 28 (elevC e (upd (upd (upd (upd (copyK f g j) 1 (g 1)) 0 (g 0)) 7 (g 7)) 8 (g 8)))) 0 (by decide)) rfl rfl rfl rfl (Nat.le_of_ble_eq_true rfl) ?_
      refine XV.cast (setElev_f6 _ e _ (g 9)) ?_
      exact XV.vret C (xlk_ok okE_copyFrom rfl) hret (Nat.le_of_ble_eq_true rfl) (Nat.le_of_ble_eq_true rfl) (⟨rfl, rfl, by rw [show j = 5 by omega]; exact setElev_congr (copyK_all f g)⟩)
    | succ d ih =>
      intro j hj
      refine XV.run C okE_copyFrom 2 (q := (18, ([some (.ref (e)), some (.ref (e2)), some (.int (nI j)), none, none], [.int (5), .int (nI j)]))) rfl ?_
      refine XV.icmp_ge C (tgt := 57) (xlk_ok okE_copyFrom rfl) rfl (fun hc => absurd hc (nI_ge (b := 5) (by omega) (by omega))) (fun _ => ?_)
      refine XV.run C okE_copyFrom 1 (q := (22, ([some (.ref (e)), some (.ref (e2)), some (.int (nI j)), none, none], [.ref (e)]))) rfl ?_
      refine XV.getf C (ci := 0) (kf := 1) (v := .ref (e + 2)) (xlk_ok okE_copyFrom rfl) rfl (by decide) wF_E_17 (by omega) (by omega) ((blk_is h e 28 (elevC e (copyK f g j))) 0 (by decide)) rfl ?_
      refine XV.run C okE_copyFrom 1 (q := (26, ([some (.ref (e)), some (.ref (e2)), some (.int (nI j)), none, none], [.int (nI j), .ref (e + 2)]))) rfl ?_
      refine XV.aaldS C (N := 5) (t := 3) (a := j) (o := e + 3 + 5 * j) (f := (fun i => if i < 5 then some (e + 3 + 5 * i) else none)) (xlk_ok okE_copyFrom rfl) (by omega) (by omega) ((blk_is h e 28 (elevC e (copyK f g j))) 2 (by decide)) rfl (rfl) (by omega) (by decide) (if_pos (by omega)) ?_
      refine XV.run C okE_copyFrom 2 (q := (29, ([some (.ref (e)), some (.ref (e2)), some (.int (nI j)), some (.ref (e + 3 + 5 * j)), none], [.ref (e2)]))) rfl ?_
      refine XV.getf C (ci := 0) (kf := 1) (v := .ref (e2 + 2)) (xlk_ok okE_copyFrom rfl) rfl (by decide) wF_E_17 (by omega) (by omega) ((hE2.out hd) 0 (by decide)) rfl ?_
      refine XV.run C okE_copyFrom 1 (q := (33, ([some (.ref (e)), some (.ref (e2)), some (.int (nI j)), some (.ref (e + 3 + 5 * j)), none], [.int (nI j), .ref (e2 + 2)]))) rfl ?_
      refine XV.aaldS C (N := 5) (t := 3) (a := j) (o := e2 + 3 + 5 * j) (f := (fun i => if i < 5 then some (e2 + 3 + 5 * i) else none)) (xlk_ok okE_copyFrom rfl) (by omega) (by omega) ((hE2.out hd) 2 (by decide)) rfl (rfl) (by omega) (by decide) (if_pos (by omega)) ?_
      refine XV.run C okE_copyFrom 2 (q := (37, ([some (.ref (e)), some (.ref (e2)), some (.int (nI j)), some (.ref (e + 3 + 5 * j)), some (.ref (e2 + 3 + 5 * j))], [.ref (e + 3 + 5 * j)]))) rfl ?_
      refine XV.null_r C (xlk_ok okE_copyFrom rfl) ?_
      refine XV.run C okE_copyFrom 1 (q := (42, ([some (.ref (e)), some (.ref (e2)), some (.int (nI j)), some (.ref (e + 3 + 5 * j)), some (.ref (e2 + 3 + 5 * j))], [.ref (e2 + 3 + 5 * j)]))) rfl ?_
      refine XV.null_r C (xlk_ok okE_copyFrom rfl) ?_
      refine XV.run C okE_copyFrom 2 (q := (48, ([some (.ref (e)), some (.ref (e2)), some (.int (nI j)), some (.ref (e + 3 + 5 * j)), some (.ref (e2 + 3 + 5 * j))], [.ref (e2 + 3 + 5 * j), .ref (e + 3 + 5 * j)]))) rfl ?_
      refine XV.callV C (As := [.ref (e2 + 3 + 5 * j)]) (rest := []) (ci := 2) (ct_R_copyFrom hfl (elev_rope (blk_is h e 28 (elevC e (copyK f g j))) (by omega)) (by omega) (by omega) (elev_rope (hE2.out hd) (by omega)) (by omega) (by omega) (by omega)) (xlk_ok okE_copyFrom rfl) rfl (by omega) (by omega) rfl ((elev_rope (blk_is h e 28 (elevC e (copyK f g j))) (by omega)) 0 (by decide)) rfl wM_E_47 wI_R_copyFrom wV_R_copyFrom wN_R wB_R_copyFrom hy_R_copyFrom (fun q => q.elim) ⟨Nat.le_of_ble_eq_true rfl, Nat.le_of_ble_eq_true rfl⟩ ⟨Nat.le_of_ble_eq_true rfl, Nat.le_of_ble_eq_true rfl⟩ (Nat.le_of_ble_eq_true rfl) (fun r n h hp => ?_) (fun _ _ _ q => q.elim)
      obtain ⟨rfl, rfl, rfl⟩ := hp
      refine XV.cast (setElev_cs h e f g j (by omega)) ?_
      refine XV.run C okE_copyFrom 2 (q := (16, ([some (.ref (e)), some (.ref (e2)), some (.int ((nI j) + 1)), some (.ref (e + 3 + 5 * j)), some (.ref (e2 + 3 + 5 * j))], []))) rfl ?_
      rw [nI_1]
      exact XV.drop (ih (j + 1) (by omega)) rfl (by simp [xle])
  exact loop 5 0 (by omega)
set_option maxHeartbeats 4000000 in
set_option maxRecDepth 100000 in
theorem ct_E_addRope {l : Launch} (hfl : l.stackTraces = false) {G : XG} {n : Nat} {h : XH} {e : Nat} {f : Nat → Int32} (hE : IsElev h e f) (e4 : 4 ≤ e) (en : e + 28 ≤ n + 4) {k : Nat} (hm : f 1 = nI k) (hk : k < 5) (q : Int32) (hq : 0 < q) : XCt l G False (Cond.code yE_addRope bE_addRope 3 none) yE_addRope 2 45 0 0 [.ref (e), .int (q)] n h (fun r' n' h' => r' = none ∧ n' = n ∧ h' = setElev h e (putRow (upd f 1 (f 1 + 1)) k (rNew q (f 0)))) (fun _ _ _ => False) := by
  refine XCt.of hfl (by decide +kernel) (Nat.le_of_ble_eq_true rfl) ?_
  intro p' e' s' m' g' b' t' c' C hret hname hnt hmd
  refine XV.cast (setElev_self hE).symm ?_
  refine XV.run C okE_addRope 1 (q := (1, ([some (.ref (e)), some (.int (q)), none], [.ref (e)]))) rfl ?_
  refine XV.getf C (ci := 0) (kf := 2) (v := .int (f 1)) (xlk_ok okE_addRope rfl) rfl (by decide) wF_E_21 (by omega) (by omega) ((blk_is h e 28 (elevC e (f))) 0 (by decide)) rfl ?_
  refine XV.run C okE_addRope 1 (q := (5, ([some (.ref (e)), some (.int (q)), none], [.int (5), .int (f 1)]))) rfl ?_
  refine XV.icmp_ge C (tgt := 42) (xlk_ok okE_addRope rfl) rfl (fun hc => absurd hc (by rw [hm]; exact nI_ge (b := 5) (by omega) (by omega))) (fun _ => ?_)
  refine XV.run C okE_addRope 2 (q := (10, ([some (.ref (e)), some (.int (q)), none], [.ref (e), .ref (e)]))) rfl ?_
  refine XV.getf C (ci := 0) (kf := 2) (v := .int (f 1)) (xlk_ok okE_addRope rfl) rfl (by decide) wF_E_21 (by omega) (by omega) ((blk_is h e 28 (elevC e (f))) 0 (by decide)) rfl ?_
  refine XV.run C okE_addRope 2 (q := (15, ([some (.ref (e)), some (.int (q)), none], [.int ((f 1) + 1), .ref (e)]))) rfl ?_
  refine XV.putf C (ci := 0) (kf := 2) (ty := .int) (xlk_ok okE_addRope rfl) rfl (by decide) wF_E_21 (by omega) (by omega) ((blk_is h e 28 (elevC e (f))) 0 (by decide)) rfl rfl rfl rfl (Nat.le_of_ble_eq_true rfl) ?_
  refine XV.cast (setElev_f2 _ e _ ((f 1) + 1)) ?_
  refine XV.run C okE_addRope 2 (q := (20, ([some (.ref (e)), some (.int (q)), none], [.ref (e), .ref (e)]))) rfl ?_
  refine XV.getf C (ci := 0) (kf := 2) (v := .int ((upd (f) 1 ((f 1) + 1)) 1)) (xlk_ok okE_addRope rfl) rfl (by decide) wF_E_21 (by omega) (by omega) ((blk_is h e 28 (elevC e (upd (f) 1 ((f 1) + 1)))) 0 (by decide)) rfl ?_
  refine XV.run C okE_addRope 2 (q := (25, ([some (.ref (e)), some (.int (q)), none], [.int (((upd (f) 1 ((f 1) + 1)) 1) - 1), .ref (e)]))) rfl ?_
  refine XV.callV C (As := [.int (((upd (f) 1 ((f 1) + 1)) 1) - 1)]) (rest := []) (ci := 0) (ct_E_ropeAt hfl (blk_is h e 28 (elevC e (upd (f) 1 ((f 1) + 1)))) (by omega) (by omega) (i := k) (by rw [upd_eq, hm, nI_1]; exact nI_m1 (by omega)) (by rw [upd_eq, hm, nI_1]) (by omega) (by omega)) (xlk_ok okE_addRope rfl) rfl (by omega) (by omega) rfl ((blk_is h e 28 (elevC e (upd (f) 1 ((f 1) + 1)))) 0 (by decide)) rfl wM_E_51 wI_E_ropeAt wV_E_ropeAt wN_E wB_E_ropeAt hy_E_ropeAt (fun q => q.elim) ⟨Nat.le_of_ble_eq_true rfl, Nat.le_of_ble_eq_true rfl⟩ ⟨Nat.le_of_ble_eq_true rfl, Nat.le_of_ble_eq_true rfl⟩ (Nat.le_of_ble_eq_true rfl) (fun r n h hp => ?_) (fun _ _ _ q => q.elim)
  obtain ⟨rfl, rfl, rfl⟩ := hp
  refine XV.run C okE_addRope 2 (q := (30, ([some (.ref (e)), some (.int (q)), some (.ref (e + 3 + 5 * k))], [.ref (e + 3 + 5 * k)]))) rfl ?_
  refine XV.null_r C (xlk_ok okE_addRope rfl) ?_
  refine XV.run C okE_addRope 3 (q := (36, ([some (.ref (e)), some (.int (q)), some (.ref (e + 3 + 5 * k))], [.ref (e), .int (q), .ref (e + 3 + 5 * k)]))) rfl ?_
  refine XV.getf C (ci := 0) (kf := 3) (v := .int ((upd (f) 1 ((f 1) + 1)) 0)) (xlk_ok okE_addRope rfl) rfl (by decide) wF_E_25 (by omega) (by omega) ((blk_is h e 28 (elevC e (upd (f) 1 ((f 1) + 1)))) 0 (by decide)) rfl ?_
  refine XV.callV C (As := [.int (q), .int ((upd (f) 1 ((f 1) + 1)) 0)]) (rest := []) (ci := 2) (ct_R_renew hfl (elev_rope (blk_is h e 28 (elevC e (upd (f) 1 ((f 1) + 1)))) (by omega)) (by omega) (by omega) (q) ((upd (f) 1 ((f 1) + 1)) 0)) (xlk_ok okE_addRope rfl) rfl (by omega) (by omega) rfl ((elev_rope (blk_is h e 28 (elevC e (upd (f) 1 ((f 1) + 1)))) (by omega)) 0 (by decide)) rfl wM_E_55 wI_R_renew wV_R_renew wN_R wB_R_renew hy_R_renew (fun q => q.elim) ⟨Nat.le_of_ble_eq_true rfl, Nat.le_of_ble_eq_true rfl⟩ ⟨Nat.le_of_ble_eq_true rfl, Nat.le_of_ble_eq_true rfl⟩ (Nat.le_of_ble_eq_true rfl) (fun r n h hp => ?_) (fun _ _ _ q => q.elim)
  obtain ⟨rfl, rfl, rfl⟩ := hp
  refine XV.cast (setElev_put _ e _ k _ (by omega) (ne_of_gt hq)) ?_
  exact XV.vret C (xlk_ok okE_addRope rfl) hret (Nat.le_of_ble_eq_true rfl) (Nat.le_of_ble_eq_true rfl) (⟨rfl, rfl, rfl⟩)
set_option maxHeartbeats 4000000 in
set_option maxRecDepth 100000 in
theorem ct_E_removeRope {l : Launch} (hfl : l.stackTraces = false) {G : XG} {n : Nat} {h : XH} {e : Nat} {f : Nat → Int32} (hE : IsElev h e f) (e4 : 4 ≤ e) (en : e + 28 ≤ n + 4) {x : Int32} {i k : Nat} (hx : x = nI i) (hm : f 1 = nI k) (hk : k ≤ 5) (hi : i < k) : XCt l G False (Cond.code yE_removeRope bE_removeRope 5 none) yE_removeRope 2 47 0 0 [.ref (e), .int (x)] n h (fun r' n' h' => r' = none ∧ n' = n ∧ h' = setElev h e (upd (shiftK f i (k - 1 - i)) 1 (f 1 - 1))) (fun _ _ _ => False) := by
  subst hx
  refine XCt.of hfl (by decide +kernel) (Nat.le_of_ble_eq_true rfl) ?_
  intro p' e' s' m' g' b' t' c' C hret hname hnt hmd
  refine XV.cast (setElev_self hE).symm ?_
  refine XV.run C okE_removeRope 2 (q := (2, ([some (.ref (e)), some (.int (nI i)), some (.int (nI i)), none, none], []))) rfl ?_
  have loop : ∀ (d j : Nat), j + d = k - 1 - i → XV G 5 p' l e' ({ frames := 2, cells := 0, slots := 0, locals := 47 } : Room) s' m' g' b' t' c' (XEnd G b' (fun r' n' h' => r' = none ∧ n' = n ∧ h' = setElev h e (upd (shiftK f i (k - 1 - i)) 1 (f 1 - 1))) (fun _ _ _ => False) g' s' 0 0) 2 [some (.ref (e)), some (.int (nI i)), some (.int (nI (i + j))), none, none] [] n (setElev h e (shiftK f i j)) 0 0 := by
    intro d
    induction d with
    | zero =>
      intro j hj
      refine XV.run C okE_removeRope 4 (q := (6, ([some (.ref (e)), some (.int (nI i)), some (.int (nI (i + j))), none, none], [.ref (e), .int ((nI (i + j)) + 1)]))) rfl ?_
      refine XV.getf C (ci := 0) (kf := 2) (v := .int ((shiftK f i j) 1)) (xlk_ok okE_removeRope rfl) rfl (by decide) wF_E_21 (by omega) (by omega) ((blk_is h e 28 (elevC e (shiftK f i j))) 0 (by decide)) rfl ?_
      refine XV.icmp_ge C (tgt := 48) (xlk_ok okE_removeRope rfl) rfl (fun _ => ?_) (fun hc => absurd (by rw [shiftK_lo _ _ _ _ (by decide), hm, nI_1]; exact nI_le (by omega) (by omega)) hc)
      refine XV.run C okE_removeRope 2 (q := (50, ([some (.ref (e)), some (.int (nI i)), some (.int (nI (i + j))), none, none], [.ref (e), .ref (e)]))) rfl ?_
      refine XV.getf C (ci := 0) (kf := 2) (v := .int ((shiftK f i j) 1)) (xlk_ok okE_removeRope rfl) rfl (by decide) wF_E_21 (by omega) (by omega) ((blk_is h e 28 (elevC e (shiftK f i j))) 0 (by decide)) rfl ?_
      refine XV.run C okE_removeRope 2 (q := (55, ([some (.ref (e)), some (.int (nI i)), some (.int (nI (i + j))), none, none], [.int (((shiftK f i j) 1) - 1), .ref (e)]))) rfl ?_
      refine XV.putf C (ci := 0) (kf := 2) (ty := .int) (xlk_ok okE_removeRope rfl) rfl (by decide) wF_E_21 (by omega) (by omega) ((blk_is h e 28 (elevC e (shiftK f i j))) 0 (by decide)) rfl rfl rfl rfl (Nat.le_of_ble_eq_true rfl) ?_
      refine XV.cast (setElev_f2 _ e _ (((shiftK f i j) 1) - 1)) ?_
      exact XV.vret C (xlk_ok okE_removeRope rfl) hret (Nat.le_of_ble_eq_true rfl) (Nat.le_of_ble_eq_true rfl) (⟨rfl, rfl, by rw [show j = k - 1 - i by omega, shiftK_lo _ _ _ 1 (by decide)]⟩)
    | succ d ih =>
      intro j hj
      refine XV.run C okE_removeRope 4 (q := (6, ([some (.ref (e)), some (.int (nI i)), some (.int (nI (i + j))), none, none], [.ref (e), .int ((nI (i + j)) + 1)]))) rfl ?_
      refine XV.getf C (ci := 0) (kf := 2) (v := .int ((shiftK f i j) 1)) (xlk_ok okE_removeRope rfl) rfl (by decide) wF_E_21 (by omega) (by omega) ((blk_is h e 28 (elevC e (shiftK f i j))) 0 (by decide)) rfl ?_
      refine XV.icmp_ge C (tgt := 48) (xlk_ok okE_removeRope rfl) rfl (fun hc => absurd hc (by rw [shiftK_lo _ _ _ _ (by decide), hm, nI_1]; exact nI_ge (by omega) (by omega))) (fun _ => ?_)
      refine XV.run C okE_removeRope 2 (q := (14, ([some (.ref (e)), some (.int (nI i)), some (.int (nI (i + j))), none, none], [.int (nI (i + j)), .ref (e)]))) rfl ?_
      refine XV.callV C (As := [.int (nI (i + j))]) (rest := []) (ci := 0) (ct_E_ropeAt hfl (blk_is h e 28 (elevC e (shiftK f i j))) (by omega) (by omega) (i := i + j) (rfl) (by rw [shiftK_lo _ _ _ _ (by decide)]; exact hm) (by omega) (by omega)) (xlk_ok okE_removeRope rfl) rfl (by omega) (by omega) rfl ((blk_is h e 28 (elevC e (shiftK f i j))) 0 (by decide)) rfl wM_E_51 wI_E_ropeAt wV_E_ropeAt wN_E wB_E_ropeAt hy_E_ropeAt (fun q => q.elim) ⟨Nat.le_of_ble_eq_true rfl, Nat.le_of_ble_eq_true rfl⟩ ⟨Nat.le_of_ble_eq_true rfl, Nat.le_of_ble_eq_true rfl⟩ (Nat.le_of_ble_eq_true rfl) (fun r n h hp => ?_) (fun _ _ _ q => q.elim)
      obtain ⟨rfl, rfl, rfl⟩ := hp
      refine XV.run C okE_removeRope 5 (q := (22, ([some (.ref (e)), some (.int (nI i)), some (.int (nI (i + j))), some (.ref (e + 3 + 5 * (i + j))), none], [.int ((nI (i + j)) + 1), .ref (e)]))) rfl ?_
      refine XV.callV C (As := [.int ((nI (i + j)) + 1)]) (rest := []) (ci := 0) (ct_E_ropeAt hfl (blk_is h e 28 (elevC e (shiftK f i j))) (by omega) (by omega) (i := i + j + 1) (nI_1 _) (by rw [shiftK_lo _ _ _ _ (by decide)]; exact hm) (by omega) (by omega)) (xlk_ok okE_removeRope rfl) rfl (by omega) (by omega) rfl ((blk_is h e 28 (elevC e (shiftK f i j))) 0 (by decide)) rfl wM_E_51 wI_E_ropeAt wV_E_ropeAt wN_E wB_E_ropeAt hy_E_ropeAt (fun q => q.elim) ⟨Nat.le_of_ble_eq_true rfl, Nat.le_of_ble_eq_true rfl⟩ ⟨Nat.le_of_ble_eq_true rfl, Nat.le_of_ble_eq_true rfl⟩ (Nat.le_of_ble_eq_true rfl) (fun r n h hp => ?_) (fun _ _ _ q => q.elim)
      obtain ⟨rfl, rfl, rfl⟩ := hp
      refine XV.run C okE_removeRope 2 (q := (28, ([some (.ref (e)), some (.int (nI i)), some (.int (nI (i + j))), some (.ref (e + 3 + 5 * (i + j))), some (.ref (e + 3 + 5 * (i + j + 1)))], [.ref (e + 3 + 5 * (i + j))]))) rfl ?_
      refine XV.null_r C (xlk_ok okE_removeRope rfl) ?_
      refine XV.run C okE_removeRope 1 (q := (33, ([some (.ref (e)), some (.int (nI i)), some (.int (nI (i + j))), some (.ref (e + 3 + 5 * (i + j))), some (.ref (e + 3 + 5 * (i + j + 1)))], [.ref (e + 3 + 5 * (i + j + 1))]))) rfl ?_
      refine XV.null_r C (xlk_ok okE_removeRope rfl) ?_
      refine XV.run C okE_removeRope 2 (q := (39, ([some (.ref (e)), some (.int (nI i)), some (.int (nI (i + j))), some (.ref (e + 3 + 5 * (i + j))), some (.ref (e + 3 + 5 * (i + j + 1)))], [.ref (e + 3 + 5 * (i + j + 1)), .ref (e + 3 + 5 * (i + j))]))) rfl ?_
      refine XV.callV C (As := [.ref (e + 3 + 5 * (i + j + 1))]) (rest := []) (ci := 2) (ct_R_copyFrom hfl (elev_rope (blk_is h e 28 (elevC e (shiftK f i j))) (by omega)) (by omega) (by omega) (IsRope.of_eq (elev_rope (blk_is h e 28 (elevC e (shiftK f i j))) (i := i + j + 1) (by omega)) (congrArg qfix (shiftK_at f i j (i + j + 1) (by omega)))) (by omega) (by omega) (by omega)) (xlk_ok okE_removeRope rfl) rfl (by omega) (by omega) rfl ((elev_rope (blk_is h e 28 (elevC e (shiftK f i j))) (by omega)) 0 (by decide)) rfl wM_E_47 wI_R_copyFrom wV_R_copyFrom wN_R wB_R_copyFrom hy_R_copyFrom (fun q => q.elim) ⟨Nat.le_of_ble_eq_true rfl, Nat.le_of_ble_eq_true rfl⟩ ⟨Nat.le_of_ble_eq_true rfl, Nat.le_of_ble_eq_true rfl⟩ (Nat.le_of_ble_eq_true rfl) (fun r n h hp => ?_) (fun _ _ _ q => q.elim)
      obtain ⟨rfl, rfl, rfl⟩ := hp
      refine XV.cast (setElev_sh h e f i j (by omega)) ?_
      refine XV.run C okE_removeRope 2 (q := (2, ([some (.ref (e)), some (.int (nI i)), some (.int ((nI (i + j)) + 1)), some (.ref (e + 3 + 5 * (i + j))), some (.ref (e + 3 + 5 * (i + j + 1)))], []))) rfl ?_
      rw [nI_1]
      exact XV.drop (ih (j + 1) (by omega)) rfl (by simp [xle, Nat.add_assoc])
  refine XV.cast (by rw [shiftK_0]) (h' := setElev h e (shiftK f i 0)) ?_
  exact loop (k - 1 - i) 0 (by omega)
end
section
/-! the saved states, the text -/
def histC (a o kp : Nat) (P : Nat → Nat → Int32) : Nat → XC := fun j => match j with
  | 0 => .inr (1, [.ref (a + 1), .int (nI o), .int (nI kp)])
  | 1 => .inl (2, (6, .inr (.inr (fun i => if i < 6 then some (a + 2 + 28 * i) else none))))
  | j + 2 => elevC (a + 2 + 28 * (j / 28)) (P (j / 28)) (j % 28)
abbrev IsHist (h : XH) (a o kp : Nat) (P : Nat → Nat → Int32) : Prop := IsB h a 170 (histC a o kp P)
abbrev setHist (h : XH) (a o kp : Nat) (P : Nat → Nat → Int32) : XH := blk h a 170 (histC a o kp P)
def upP (P : Nat → Nat → Int32) (q : Nat) (f : Nat → Int32) : Nat → Nat → Int32 := fun j => if j = q then f else P j
theorem hist_elev {h : XH} {a o kp : Nat} {P : Nat → Nat → Int32} (hH : IsHist h a o kp P) {q : Nat} (hq : q < 6) : IsElev h (a + 2 + 28 * q) (P q) := by
  refine hH.sub (by omega) (by omega) (fun j hj => ?_)
  rw [show a + 2 + 28 * q - a + j = (28 * q + j) + 2 by omega]
  show elevC (a + 2 + 28 * ((28 * q + j) / 28)) (P ((28 * q + j) / 28)) ((28 * q + j) % 28) = _
  rw [show (28 * q + j) / 28 = q by omega, show (28 * q + j) % 28 = j by omega]
theorem setHist_elev (h : XH) (a o kp : Nat) (P : Nat → Nat → Int32) (q : Nat) (f : Nat → Int32) (hq : q < 6) : setElev (setHist h a o kp P) (a + 2 + 28 * q) f = setHist h a o kp (upP P q f) := by
  refine blk_sub (by omega) (by omega) (fun j hj => ?_) (fun j hj hne => ?_)
  · rw [show a + 2 + 28 * q - a + j = (28 * q + j) + 2 by omega]
    show elevC (a + 2 + 28 * ((28 * q + j) / 28)) (upP P q f ((28 * q + j) / 28)) ((28 * q + j) % 28) = _
    rw [show (28 * q + j) / 28 = q by omega, show (28 * q + j) % 28 = j by omega]
    unfold upP
    rw [if_pos rfl]
  · match j with
    | 0 => rfl
    | 1 => rfl
    | j + 2 =>
      show elevC _ (upP P q f (j / 28)) _ = elevC _ (P (j / 28)) _
      unfold upP
      rw [if_neg (by omega)]
theorem setHist_hd (h : XH) (a o kp o' kp' : Nat) (P : Nat → Nat → Int32) : xup (setHist h a o kp P) a (.inr (1, [.ref (a + 1), .int (nI o'), .int (nI kp')])) = setHist h a o' kp' P := by
  refine blk_up (j := 0) (by decide) rfl (fun i hi hne => ?_)
  match i, hne with
  | 1, _ => rfl
  | j + 2, _ => rfl
theorem setHist_self {h : XH} {a o kp : Nat} {P : Nat → Nat → Int32} (hH : IsHist h a o kp P) : setHist h a o kp P = h := blk_self hH
/-- the text: signs, their number; the parts read: from, to, times, their number -/
abbrev PT : Type := (Nat → Int32) × ((Nat → Int32) × ((Nat → Int32) × Nat))
def textC (a : Nat) (tx : Nat → Int32) (len : Nat) (p : PT) : Nat → XC := fun j => match j with
  | 0 => .inr (3, [.ref (a + 1), .ref (a + 2), .ref (a + 3), .ref (a + 4), .int (nI len), .int (nI p.2.2.2)])
  | 1 => xar 60 tx
  | 2 => xar 15 p.1
  | 3 => xar 15 p.2.1
  | _ => xar 15 p.2.2.1
abbrev IsText (h : XH) (a : Nat) (tx : Nat → Int32) (len : Nat) (p : PT) : Prop := IsB h a 5 (textC a tx len p)
abbrev setText (h : XH) (a : Nat) (tx : Nat → Int32) (len : Nat) (p : PT) : XH := blk h a 5 (textC a tx len p)
theorem setText_self {h : XH} {a : Nat} {tx : Nat → Int32} {len : Nat} {p : PT} (hT : IsText h a tx len p) : setText h a tx len p = h := blk_self hT
theorem setText_hd (h : XH) (a : Nat) (tx : Nat → Int32) (len len' : Nat) (p : PT) (pn' : Nat) : xup (setText h a tx len p) a (.inr (3, [.ref (a + 1), .ref (a + 2), .ref (a + 3), .ref (a + 4), .int (nI len'), .int (nI pn')])) = setText h a tx len' (p.1, (p.2.1, (p.2.2.1, pn'))) := by
  refine blk_up (j := 0) (by decide) rfl (fun i hi hne => ?_)
  match i, hne with
  | 1, _ => rfl
  | 2, _ => rfl
  | 3, _ => rfl
  | j + 4, _ => rfl
theorem setText_1 (h : XH) (a : Nat) (tx tx' : Nat → Int32) (len : Nat) (p : PT) : xup (setText h a tx len p) (a + 1) (xar 60 tx') = setText h a tx' len p := by
  refine blk_up (j := 1) (by decide) rfl (fun i hi hne => ?_)
  match i, hne with
  | 0, _ => rfl
  | 2, _ => rfl
  | 3, _ => rfl
  | j + 4, _ => rfl
theorem setText_2 (h : XH) (a : Nat) (tx : Nat → Int32) (len : Nat) (p : PT) (x : Nat → Int32) : xup (setText h a tx len p) (a + 2) (xar 15 x) = setText h a tx len (x, (p.2.1, (p.2.2.1, p.2.2.2))) := by
  refine blk_up (j := 2) (by decide) rfl (fun i hi hne => ?_)
  match i, hne with
  | 0, _ => rfl
  | 1, _ => rfl
  | 3, _ => rfl
  | j + 4, _ => rfl
theorem setText_3 (h : XH) (a : Nat) (tx : Nat → Int32) (len : Nat) (p : PT) (x : Nat → Int32) : xup (setText h a tx len p) (a + 3) (xar 15 x) = setText h a tx len (p.1, (x, (p.2.2.1, p.2.2.2))) := by
  refine blk_up (j := 3) (by decide) rfl (fun i hi hne => ?_)
  match i, hne with
  | 0, _ => rfl
  | 1, _ => rfl
  | 2, _ => rfl
  | j + 4, _ => rfl
theorem setText_4 (h : XH) (a : Nat) (tx : Nat → Int32) (len : Nat) (p : PT) (x : Nat → Int32) : xup (setText h a tx len p) (a + 4) (xar 15 x) = setText h a tx len (p.1, (p.2.1, (x, p.2.2.2))) := by
  refine blk_up (j := 4) (by decide) rfl (fun i hi hne => ?_)
  match i, hne with
  | 0, _ => rfl
  | 1, _ => rfl
  | 2, _ => rfl
  | 3, _ => rfl
  | j + 5, _ => omega
def floK (c : Int32) : Bool := decide (48 ≤ c ∧ c < 56)
def digK (c : Int32) : Bool := decide (48 ≤ c ∧ c ≤ 57)
def prtK (c : Int32) : Option Nat := if c = 59 then some 0 else none
/-- the next state of the reading, none: an error -/
def stp (s : Nat) (c : Int32) : Option Nat := match s with
  | 0 => if floK c then some 1 else none
  | 1 => if c = 45 then some 2 else none
  | 2 => if floK c then some 3 else none
  | 3 => if c = 42 then some 4 else prtK c
  | 4 => if c = 49 then some 5 else if c = 48 then none else if digK c then some 6 else none
  | 5 => if digK c then some 7 else none
  | 6 => if digK c then some 7 else prtK c
  | 7 => prtK c
  | _ => none
def stI (o : Option Nat) : Int32 := match o with
  | some s => nI s
  | none => -1
theorem stp_le {s s' : Nat} {c : Int32} (h : stp s c = some s') : s' ≤ 7 := by
  unfold stp prtK at h
  split at h <;> (repeat' split at h) <;> first | (cases h; done) | (cases h; decide)
def sgn (tx : Nat → Int32) (len i : Nat) : Int32 := if i < len then tx i else 59
def epK (tx : Nat → Int32) : Nat → Nat → Nat → Nat
  | 0, _, j => j
  | d + 1, s, j => match stp s (tx j) with
    | some s' => epK tx d s' (j + 1)
    | none => j
def rsK (s : Nat) (c : Int32) (p : PT) : PT :=
  if 15 ≤ p.2.2.2 then p
  else if c = 59 then (p.1, (p.2.1, (upd p.2.2.1 p.2.2.2 (if p.2.2.1 p.2.2.2 < 1 then 1 else p.2.2.1 p.2.2.2), p.2.2.2 + 1)))
  else if s = 0 then (upd p.1 p.2.2.2 (c - 48), (p.2.1, (upd p.2.2.1 p.2.2.2 0, p.2.2.2)))
  else if s = 2 then (p.1, (upd p.2.1 p.2.2.2 (c - 48), (p.2.2.1, p.2.2.2)))
  else if s = 4 ∨ s = 5 ∨ s = 6 then (p.1, (p.2.1, (upd p.2.2.1 p.2.2.2 (10 * p.2.2.1 p.2.2.2 + c - 48), p.2.2.2)))
  else p
def rpK (tx : Nat → Int32) (len : Nat) : Nat → Nat → Nat → PT → Bool × PT
  | 0, _, _, p => (true, p)
  | d + 1, s, j, p => match stp s (sgn tx len j) with
    | some s' => rpK tx len d s' (j + 1) (rsK s (sgn tx len j) p)
    | none => (false, p)
theorem floK_t {c : Int32} (h1 : ¬ c < 48) (h2 : ¬ 56 ≤ c) : floK c = true := decide_eq_true ⟨Int32.not_lt.mp h1, Int32.not_le.mp h2⟩
theorem floK_f1 {c : Int32} (h : c < 48) : floK c = false := decide_eq_false fun q => absurd h (Int32.not_lt.mpr q.1)
theorem floK_f2 {c : Int32} (h : 56 ≤ c) : floK c = false := decide_eq_false fun q => absurd h (Int32.not_le.mpr q.2)
theorem digK_t {c : Int32} (h1 : ¬ c < 48) (h2 : ¬ 57 < c) : digK c = true := decide_eq_true ⟨Int32.not_lt.mp h1, Int32.not_lt.mp h2⟩
theorem digK_f1 {c : Int32} (h : c < 48) : digK c = false := decide_eq_false fun q => absurd h (Int32.not_lt.mpr q.1)
theorem digK_f2 {c : Int32} (h : 57 < c) : digK c = false := decide_eq_false fun q => absurd h (Int32.not_lt.mpr q.2)
theorem stp0t {c : Int32} (h : floK c = true) : stp 0 c = some 1 := if_pos h
theorem stp0f {c : Int32} (h : floK c = false) : stp 0 c = none := if_neg (by rw [h]; decide)
theorem stp1t {c : Int32} (h : c = 45) : stp 1 c = some 2 := if_pos h
theorem stp1f {c : Int32} (h : ¬ c = 45) : stp 1 c = none := if_neg h
theorem stp2t {c : Int32} (h : floK c = true) : stp 2 c = some 3 := if_pos h
theorem stp2f {c : Int32} (h : floK c = false) : stp 2 c = none := if_neg (by rw [h]; decide)
theorem stp3t {c : Int32} (h : c = 42) : stp 3 c = some 4 := if_pos h
theorem stp3f {c : Int32} (h : ¬ c = 42) : stp 3 c = prtK c := if_neg h
theorem stp4a {c : Int32} (h : c = 49) : stp 4 c = some 5 := if_pos h
theorem stp4b {c : Int32} (h : ¬ c = 49) (h2 : c = 48) : stp 4 c = none := (if_neg h).trans (if_pos h2)
theorem stp4c {c : Int32} (h : ¬ c = 49) (h2 : ¬ c = 48) (h3 : digK c = true) : stp 4 c = some 6 := (if_neg h).trans ((if_neg h2).trans (if_pos h3))
theorem stp4d {c : Int32} (h : ¬ c = 49) (h2 : ¬ c = 48) (h3 : digK c = false) : stp 4 c = none := (if_neg h).trans ((if_neg h2).trans (if_neg (by rw [h3]; decide)))
theorem stp5t {c : Int32} (h : digK c = true) : stp 5 c = some 7 := if_pos h
theorem stp5f {c : Int32} (h : digK c = false) : stp 5 c = none := if_neg (by rw [h]; decide)
theorem stp6t {c : Int32} (h : digK c = true) : stp 6 c = some 7 := if_pos h
theorem stp6f {c : Int32} (h : digK c = false) : stp 6 c = prtK c := if_neg (by rw [h]; decide)
theorem prtK_t {c : Int32} (h : c = 59) : prtK c = some 0 := if_pos h
theorem prtK_f {c : Int32} (h : ¬ c = 59) : prtK c = none := if_neg h
theorem epK_some {tx : Nat → Int32} {d s s' j : Nat} (h : stp s (tx j) = some s') : epK tx (d + 1) s j = epK tx d s' (j + 1) := by
  show (match stp s (tx j) with | some s' => epK tx d s' (j + 1) | none => j) = _
  rw [h]
theorem epK_none {tx : Nat → Int32} {d s j : Nat} (h : stp s (tx j) = none) : epK tx (d + 1) s j = j := by
  show (match stp s (tx j) with | some s' => epK tx d s' (j + 1) | none => j) = _
  rw [h]
theorem rpK_some {tx : Nat → Int32} {len d s s' j : Nat} {p : PT} (h : stp s (sgn tx len j) = some s') : rpK tx len (d + 1) s j p = rpK tx len d s' (j + 1) (rsK s (sgn tx len j) p) := by
  show (match stp s (sgn tx len j) with | some s' => rpK tx len d s' (j + 1) (rsK s (sgn tx len j) p) | none => (false, p)) = _
  rw [h]
theorem rpK_none {tx : Nat → Int32} {len d s j : Nat} {p : PT} (h : stp s (sgn tx len j) = none) : rpK tx len (d + 1) s j p = (false, p) := by
  show (match stp s (sgn tx len j) with | some s' => rpK tx len d s' (j + 1) (rsK s (sgn tx len j) p) | none => (false, p)) = _
  rw [h]
theorem rsK_le {s : Nat} {c : Int32} {p : PT} (hp : p.2.2.2 ≤ 15) : (rsK s c p).2.2.2 ≤ 15 := by
  unfold rsK
  by_cases h1 : 15 ≤ p.2.2.2
  · rw [if_pos h1]; exact hp
  · rw [if_neg h1]
    by_cases h2 : c = 59
    · rw [if_pos h2]; show p.2.2.2 + 1 ≤ 15; omega
    · rw [if_neg h2]
      by_cases h3 : s = 0
      · rw [if_pos h3]; exact hp
      · rw [if_neg h3]
        by_cases h4 : s = 2
        · rw [if_pos h4]; exact hp
        · rw [if_neg h4]
          split <;> exact hp
end
section
/-! RopeThreads$History, RopeThreads$TripText -/
set_option maxHeartbeats 4000000 in
set_option maxRecDepth 100000 in
theorem ct_H_keep_full {l : Launch} (hfl : l.stackTraces = false) {G : XG} {n : Nat} {h : XH} {a o : Nat} {P : Nat → Nat → Int32} (hH : IsHist h a o 6 P) (a4 : 4 ≤ a) (an : a + 170 ≤ n + 4) (ho : o < 6) {e : Nat} {f : Nat → Int32} (hE : IsElev h e f) (e4 : 4 ≤ e) (en : e + 28 ≤ n + 4) (hd : e + 28 ≤ a ∨ a + 170 ≤ e) : XCt l G False (Cond.code yH_keep bH_keep 3 none) yH_keep 3 71 0 0 [.ref (a), .ref (e)] n h (fun r' n' h' => r' = none ∧ n' = n ∧ h' = setHist h a ((o + 1) % 6) (5 + 1) (upP P ((((o + 1) % 6) + 5) % 6) f)) (fun _ _ _ => False) := by
  refine XCt.of hfl (by decide +kernel) (Nat.le_of_ble_eq_true rfl) ?_
  intro p' e' s' m' g' b' t' c' C hret hname hnt hmd
  refine XV.cast (setHist_self hH).symm ?_
  refine XV.run C okH_keep 1 (q := (1, ([some (.ref (a)), some (.ref (e)), none], [.ref (a)]))) rfl ?_
  refine XV.getf C (ci := 1) (kf := 2) (v := .int (nI 6)) (xlk_ok okH_keep rfl) rfl (by decide) wF_H_21 (by omega) (by omega) ((blk_is h a 170 (histC a o 6 P)) 0 (by decide)) rfl ?_
  refine XV.run C okH_keep 1 (q := (6, ([some (.ref (a)), some (.ref (e)), none], [.int (6), .int (nI 6)]))) rfl ?_
  refine XV.icmp_ne C (tgt := 34) (xlk_ok okH_keep rfl) rfl (fun hc => absurd (rfl) hc) (fun _ => ?_)
  refine XV.run C okH_keep 2 (q := (11, ([some (.ref (a)), some (.ref (e)), none], [.ref (a), .ref (a)]))) rfl ?_
  refine XV.getf C (ci := 1) (kf := 1) (v := .int (nI o)) (xlk_ok okH_keep rfl) rfl (by decide) wF_H_17 (by omega) (by omega) ((blk_is h a 170 (histC a o 6 P)) 0 (by decide)) rfl ?_
  refine XV.run C okH_keep 3 (q := (18, ([some (.ref (a)), some (.ref (e)), none], [.int (6), .int ((nI o) + 1), .ref (a)]))) rfl ?_
  refine XV.callS C (As := [.int ((nI o) + 1), .int (6)]) (rest := [.ref (a)]) (ct_JM_floorMod hfl (i := (o + 1)) (d := 6) (nI_1 o) (rfl) (by omega) (by omega) (by omega)) (xlk_ok okH_keep rfl) rfl wM_H_25 wS_JM_floorMod wN_JM wB_JM_floorMod hy_JM_floorMod (fun q => q.elim) ⟨Nat.le_of_ble_eq_true rfl, Nat.le_of_ble_eq_true rfl⟩ ⟨Nat.le_of_ble_eq_true rfl, Nat.le_of_ble_eq_true rfl⟩ (Nat.le_of_ble_eq_true rfl) (fun r n h hp => ?_) (fun _ _ _ q => q.elim)
  obtain ⟨rfl, rfl, rfl⟩ := hp
  refine XV.putf C (ci := 1) (kf := 1) (ty := .int) (xlk_ok okH_keep rfl) rfl (by decide) wF_H_17 (by omega) (by omega) ((blk_is h a 170 (histC a o 6 P)) 0 (by decide)) rfl rfl rfl rfl (Nat.le_of_ble_eq_true rfl) ?_
  refine XV.cast (setHist_hd h a o 6 ((o + 1) % 6) 6 P) ?_
  refine XV.run C okH_keep 2 (q := (26, ([some (.ref (a)), some (.ref (e)), none], [.ref (a), .ref (a)]))) rfl ?_
  refine XV.getf C (ci := 1) (kf := 2) (v := .int (nI 6)) (xlk_ok okH_keep rfl) rfl (by decide) wF_H_21 (by omega) (by omega) ((blk_is h a 170 (histC a ((o + 1) % 6) 6 P)) 0 (by decide)) rfl ?_
  refine XV.run C okH_keep 2 (q := (31, ([some (.ref (a)), some (.ref (e)), none], [.int ((nI 6) - 1), .ref (a)]))) rfl ?_
  rw [show ((nI 6) - 1 : Int32) = nI 5 from rfl]
  refine XV.putf C (ci := 1) (kf := 2) (ty := .int) (xlk_ok okH_keep rfl) rfl (by decide) wF_H_21 (by omega) (by omega) ((blk_is h a 170 (histC a ((o + 1) % 6) 6 P)) 0 (by decide)) rfl rfl rfl rfl (Nat.le_of_ble_eq_true rfl) ?_
  refine XV.cast (setHist_hd h a ((o + 1) % 6) 6 ((o + 1) % 6) 5 P) ?_
  refine XV.run C okH_keep 1 (q := (35, ([some (.ref (a)), some (.ref (e)), none], [.ref (a)]))) rfl ?_
  refine XV.getf C (ci := 1) (kf := 0) (v := .ref (a + 1)) (xlk_ok okH_keep rfl) rfl (by decide) wF_H_11 (by omega) (by omega) ((blk_is h a 170 (histC a ((o + 1) % 6) 5 P)) 0 (by decide)) rfl ?_
  refine XV.run C okH_keep 1 (q := (39, ([some (.ref (a)), some (.ref (e)), none], [.ref (a), .ref (a + 1)]))) rfl ?_
  refine XV.getf C (ci := 1) (kf := 1) (v := .int (nI ((o + 1) % 6))) (xlk_ok okH_keep rfl) rfl (by decide) wF_H_17 (by omega) (by omega) ((blk_is h a 170 (histC a ((o + 1) % 6) 5 P)) 0 (by decide)) rfl ?_
  refine XV.run C okH_keep 1 (q := (43, ([some (.ref (a)), some (.ref (e)), none], [.ref (a), .int (nI ((o + 1) % 6)), .ref (a + 1)]))) rfl ?_
  refine XV.getf C (ci := 1) (kf := 2) (v := .int (nI 5)) (xlk_ok okH_keep rfl) rfl (by decide) wF_H_21 (by omega) (by omega) ((blk_is h a 170 (histC a ((o + 1) % 6) 5 P)) 0 (by decide)) rfl ?_
  refine XV.run C okH_keep 2 (q := (49, ([some (.ref (a)), some (.ref (e)), none], [.int (6), .int ((nI ((o + 1) % 6)) + (nI 5)), .ref (a + 1)]))) rfl ?_
  refine XV.callS C (As := [.int ((nI ((o + 1) % 6)) + (nI 5)), .int (6)]) (rest := [.ref (a + 1)]) (ct_JM_floorMod hfl (i := ((o + 1) % 6) + 5) (d := 6) (nI_add _ _) (rfl) (by omega) (by omega) (by omega)) (xlk_ok okH_keep rfl) rfl wM_H_25 wS_JM_floorMod wN_JM wB_JM_floorMod hy_JM_floorMod (fun q => q.elim) ⟨Nat.le_of_ble_eq_true rfl, Nat.le_of_ble_eq_true rfl⟩ ⟨Nat.le_of_ble_eq_true rfl, Nat.le_of_ble_eq_true rfl⟩ (Nat.le_of_ble_eq_true rfl) (fun r n h hp => ?_) (fun _ _ _ q => q.elim)
  obtain ⟨rfl, rfl, rfl⟩ := hp
  refine XV.aaldS C (N := 6) (t := 2) (a := ((((o + 1) % 6) + 5) % 6)) (o := a + 2 + 28 * ((((o + 1) % 6) + 5) % 6)) (f := (fun i => if i < 6 then some (a + 2 + 28 * i) else none)) (xlk_ok okH_keep rfl) (by omega) (by omega) ((blk_is h a 170 (histC a ((o + 1) % 6) 5 P)) 1 (by decide)) rfl (rfl) (by omega) (by decide) (if_pos (by omega)) ?_
  refine XV.run C okH_keep 2 (q := (55, ([some (.ref (a)), some (.ref (e)), some (.ref (a + 2 + 28 * ((((o + 1) % 6) + 5) % 6)))], [.ref (a + 2 + 28 * ((((o + 1) % 6) + 5) % 6))]))) rfl ?_
  refine XV.null_r C (xlk_ok okH_keep rfl) ?_
  refine XV.run C okH_keep 2 (q := (60, ([some (.ref (a)), some (.ref (e)), some (.ref (a + 2 + 28 * ((((o + 1) % 6) + 5) % 6)))], [.ref (e), .ref (a + 2 + 28 * ((((o + 1) % 6) + 5) % 6))]))) rfl ?_
  refine XV.callV C (As := [.ref (e)]) (rest := []) (ci := 0) (ct_E_copyFrom hfl (hist_elev (blk_is h a 170 (histC a ((o + 1) % 6) 5 P)) (q := ((((o + 1) % 6) + 5) % 6)) (by omega)) (by omega) (by omega) (hE.out hd) (by omega) (by omega) (by omega)) (xlk_ok okH_keep rfl) rfl (by omega) (by omega) rfl ((hist_elev (blk_is h a 170 (histC a ((o + 1) % 6) 5 P)) (q := ((((o + 1) % 6) + 5) % 6)) (by omega)) 0 (by decide)) rfl wM_H_31 wI_E_copyFrom wV_E_copyFrom wN_E wB_E_copyFrom hy_E_copyFrom (fun q => q.elim) ⟨Nat.le_of_ble_eq_true rfl, Nat.le_of_ble_eq_true rfl⟩ ⟨Nat.le_of_ble_eq_true rfl, Nat.le_of_ble_eq_true rfl⟩ (Nat.le_of_ble_eq_true rfl) (fun r n h hp => ?_) (fun _ _ _ q => q.elim)
  obtain ⟨rfl, rfl, rfl⟩ := hp
  refine XV.cast (setHist_elev h a ((o + 1) % 6) 5 P ((((o + 1) % 6) + 5) % 6) f (by omega)) ?_
  refine XV.run C okH_keep 2 (q := (65, ([some (.ref (a)), some (.ref (e)), some (.ref (a + 2 + 28 * ((((o + 1) % 6) + 5) % 6)))], [.ref (a), .ref (a)]))) rfl ?_
  refine XV.getf C (ci := 1) (kf := 2) (v := .int (nI 5)) (xlk_ok okH_keep rfl) rfl (by decide) wF_H_21 (by omega) (by omega) ((blk_is h a 170 (histC a ((o + 1) % 6) 5 (upP P ((((o + 1) % 6) + 5) % 6) f))) 0 (by decide)) rfl ?_
  refine XV.run C okH_keep 2 (q := (70, ([some (.ref (a)), some (.ref (e)), some (.ref (a + 2 + 28 * ((((o + 1) % 6) + 5) % 6)))], [.int ((nI 5) + 1), .ref (a)]))) rfl ?_
  rw [show ((nI 5) + 1 : Int32) = nI (5 + 1) from nI_1 _]
  refine XV.putf C (ci := 1) (kf := 2) (ty := .int) (xlk_ok okH_keep rfl) rfl (by decide) wF_H_21 (by omega) (by omega) ((blk_is h a 170 (histC a ((o + 1) % 6) 5 (upP P ((((o + 1) % 6) + 5) % 6) f))) 0 (by decide)) rfl rfl rfl rfl (Nat.le_of_ble_eq_true rfl) ?_
  refine XV.cast (setHist_hd h a ((o + 1) % 6) 5 ((o + 1) % 6) (5 + 1) (upP P ((((o + 1) % 6) + 5) % 6) f)) ?_
  exact XV.vret C (xlk_ok okH_keep rfl) hret (Nat.le_of_ble_eq_true rfl) (Nat.le_of_ble_eq_true rfl) (⟨rfl, rfl, rfl⟩)
set_option maxHeartbeats 4000000 in
set_option maxRecDepth 100000 in
theorem ct_H_keep_free {l : Launch} (hfl : l.stackTraces = false) {G : XG} {n : Nat} {h : XH} {a o kp : Nat} {P : Nat → Nat → Int32} (hH : IsHist h a o kp P) (a4 : 4 ≤ a) (an : a + 170 ≤ n + 4) (ho : o < 6) {e : Nat} {f : Nat → Int32} (hE : IsElev h e f) (e4 : 4 ≤ e) (en : e + 28 ≤ n + 4) (hd : e + 28 ≤ a ∨ a + 170 ≤ e) (hk : kp < 6) : XCt l G False (Cond.code yH_keep bH_keep 3 none) yH_keep 3 71 0 0 [.ref (a), .ref (e)] n h (fun r' n' h' => r' = none ∧ n' = n ∧ h' = setHist h a o (kp + 1) (upP P ((o + kp) % 6) f)) (fun _ _ _ => False) := by
  refine XCt.of hfl (by decide +kernel) (Nat.le_of_ble_eq_true rfl) ?_
  intro p' e' s' m' g' b' t' c' C hret hname hnt hmd
  refine XV.cast (setHist_self hH).symm ?_
  refine XV.run C okH_keep 1 (q := (1, ([some (.ref (a)), some (.ref (e)), none], [.ref (a)]))) rfl ?_
  refine XV.getf C (ci := 1) (kf := 2) (v := .int (nI kp)) (xlk_ok okH_keep rfl) rfl (by decide) wF_H_21 (by omega) (by omega) ((blk_is h a 170 (histC a o kp P)) 0 (by decide)) rfl ?_
  refine XV.run C okH_keep 1 (q := (6, ([some (.ref (a)), some (.ref (e)), none], [.int (6), .int (nI kp)]))) rfl ?_
  refine XV.icmp_ne C (tgt := 34) (xlk_ok okH_keep rfl) rfl (fun _ => ?_) (fun hc => absurd hc (fun z => absurd ((nI_eq (a := kp) (b := 6) (by omega) (by omega)).mp z) (by omega)))
  refine XV.run C okH_keep 1 (q := (35, ([some (.ref (a)), some (.ref (e)), none], [.ref (a)]))) rfl ?_
  refine XV.getf C (ci := 1) (kf := 0) (v := .ref (a + 1)) (xlk_ok okH_keep rfl) rfl (by decide) wF_H_11 (by omega) (by omega) ((blk_is h a 170 (histC a o kp P)) 0 (by decide)) rfl ?_
  refine XV.run C okH_keep 1 (q := (39, ([some (.ref (a)), some (.ref (e)), none], [.ref (a), .ref (a + 1)]))) rfl ?_
  refine XV.getf C (ci := 1) (kf := 1) (v := .int (nI o)) (xlk_ok okH_keep rfl) rfl (by decide) wF_H_17 (by omega) (by omega) ((blk_is h a 170 (histC a o kp P)) 0 (by decide)) rfl ?_
  refine XV.run C okH_keep 1 (q := (43, ([some (.ref (a)), some (.ref (e)), none], [.ref (a), .int (nI o), .ref (a + 1)]))) rfl ?_
  refine XV.getf C (ci := 1) (kf := 2) (v := .int (nI kp)) (xlk_ok okH_keep rfl) rfl (by decide) wF_H_21 (by omega) (by omega) ((blk_is h a 170 (histC a o kp P)) 0 (by decide)) rfl ?_
  refine XV.run C okH_keep 2 (q := (49, ([some (.ref (a)), some (.ref (e)), none], [.int (6), .int ((nI o) + (nI kp)), .ref (a + 1)]))) rfl ?_
  refine XV.callS C (As := [.int ((nI o) + (nI kp)), .int (6)]) (rest := [.ref (a + 1)]) (ct_JM_floorMod hfl (i := o + kp) (d := 6) (nI_add _ _) (rfl) (by omega) (by omega) (by omega)) (xlk_ok okH_keep rfl) rfl wM_H_25 wS_JM_floorMod wN_JM wB_JM_floorMod hy_JM_floorMod (fun q => q.elim) ⟨Nat.le_of_ble_eq_true rfl, Nat.le_of_ble_eq_true rfl⟩ ⟨Nat.le_of_ble_eq_true rfl, Nat.le_of_ble_eq_true rfl⟩ (Nat.le_of_ble_eq_true rfl) (fun r n h hp => ?_) (fun _ _ _ q => q.elim)
  obtain ⟨rfl, rfl, rfl⟩ := hp
  refine XV.aaldS C (N := 6) (t := 2) (a := ((o + kp) % 6)) (o := a + 2 + 28 * ((o + kp) % 6)) (f := (fun i => if i < 6 then some (a + 2 + 28 * i) else none)) (xlk_ok okH_keep rfl) (by omega) (by omega) ((blk_is h a 170 (histC a o kp P)) 1 (by decide)) rfl (rfl) (by omega) (by decide) (if_pos (by omega)) ?_
  refine XV.run C okH_keep 2 (q := (55, ([some (.ref (a)), some (.ref (e)), some (.ref (a + 2 + 28 * ((o + kp) % 6)))], [.ref (a + 2 + 28 * ((o + kp) % 6))]))) rfl ?_
  refine XV.null_r C (xlk_ok okH_keep rfl) ?_
  refine XV.run C okH_keep 2 (q := (60, ([some (.ref (a)), some (.ref (e)), some (.ref (a + 2 + 28 * ((o + kp) % 6)))], [.ref (e), .ref (a + 2 + 28 * ((o + kp) % 6))]))) rfl ?_
  refine XV.callV C (As := [.ref (e)]) (rest := []) (ci := 0) (ct_E_copyFrom hfl (hist_elev (blk_is h a 170 (histC a o kp P)) (q := ((o + kp) % 6)) (by omega)) (by omega) (by omega) (hE.out hd) (by omega) (by omega) (by omega)) (xlk_ok okH_keep rfl) rfl (by omega) (by omega) rfl ((hist_elev (blk_is h a 170 (histC a o kp P)) (q := ((o + kp) % 6)) (by omega)) 0 (by decide)) rfl wM_H_31 wI_E_copyFrom wV_E_copyFrom wN_E wB_E_copyFrom hy_E_copyFrom (fun q => q.elim) ⟨Nat.le_of_ble_eq_true rfl, Nat.le_of_ble_eq_true rfl⟩ ⟨Nat.le_of_ble_eq_true rfl, Nat.le_of_ble_eq_true rfl⟩ (Nat.le_of_ble_eq_true rfl) (fun r n h hp => ?_) (fun _ _ _ q => q.elim)
  obtain ⟨rfl, rfl, rfl⟩ := hp
  refine XV.cast (setHist_elev h a o kp P ((o + kp) % 6) f (by omega)) ?_
  refine XV.run C okH_keep 2 (q := (65, ([some (.ref (a)), some (.ref (e)), some (.ref (a + 2 + 28 * ((o + kp) % 6)))], [.ref (a), .ref (a)]))) rfl ?_
  refine XV.getf C (ci := 1) (kf := 2) (v := .int (nI kp)) (xlk_ok okH_keep rfl) rfl (by decide) wF_H_21 (by omega) (by omega) ((blk_is h a 170 (histC a o kp (upP P ((o + kp) % 6) f))) 0 (by decide)) rfl ?_
  refine XV.run C okH_keep 2 (q := (70, ([some (.ref (a)), some (.ref (e)), some (.ref (a + 2 + 28 * ((o + kp) % 6)))], [.int ((nI kp) + 1), .ref (a)]))) rfl ?_
  rw [show ((nI kp) + 1 : Int32) = nI (kp + 1) from nI_1 _]
  refine XV.putf C (ci := 1) (kf := 2) (ty := .int) (xlk_ok okH_keep rfl) rfl (by decide) wF_H_21 (by omega) (by omega) ((blk_is h a 170 (histC a o kp (upP P ((o + kp) % 6) f))) 0 (by decide)) rfl rfl rfl rfl (Nat.le_of_ble_eq_true rfl) ?_
  refine XV.cast (setHist_hd h a o kp o (kp + 1) (upP P ((o + kp) % 6) f)) ?_
  exact XV.vret C (xlk_ok okH_keep rfl) hret (Nat.le_of_ble_eq_true rfl) (Nat.le_of_ble_eq_true rfl) (⟨rfl, rfl, rfl⟩)
set_option maxHeartbeats 4000000 in
set_option maxRecDepth 100000 in
theorem ct_H_giveBack {l : Launch} (hfl : l.stackTraces = false) {G : XG} {n : Nat} {h : XH} {a o kp : Nat} {P : Nat → Nat → Int32} (hH : IsHist h a o (kp + 1) P) (a4 : 4 ≤ a) (an : a + 170 ≤ n + 4) (ho : o < 6) {e : Nat} {f : Nat → Int32} (hE : IsElev h e f) (e4 : 4 ≤ e) (en : e + 28 ≤ n + 4) (hd : e + 28 ≤ a ∨ a + 170 ≤ e) (hk : kp < 6) : XCt l G False (Cond.code yH_giveBack bH_giveBack 3 none) yH_giveBack 3 71 0 0 [.ref (a), .ref (e)] n h (fun r' n' h' => r' = none ∧ n' = n ∧ h' = setElev (setHist h a o kp P) e (P ((o + kp) % 6))) (fun _ _ _ => False) := by
  refine XCt.of hfl (by decide +kernel) (Nat.le_of_ble_eq_true rfl) ?_
  intro p' e' s' m' g' b' t' c' C hret hname hnt hmd
  refine XV.cast (setHist_self hH).symm ?_
  refine XV.run C okH_giveBack 2 (q := (2, ([some (.ref (a)), some (.ref (e)), none], [.ref (a), .ref (a)]))) rfl ?_
  refine XV.getf C (ci := 1) (kf := 2) (v := .int (nI (kp + 1))) (xlk_ok okH_giveBack rfl) rfl (by decide) wF_H_21 (by omega) (by omega) ((blk_is h a 170 (histC a o (kp + 1) P)) 0 (by decide)) rfl ?_
  refine XV.run C okH_giveBack 2 (q := (7, ([some (.ref (a)), some (.ref (e)), none], [.int ((nI (kp + 1)) - 1), .ref (a)]))) rfl ?_
  rw [show ((nI (kp + 1)) - 1 : Int32) = nI kp from nI_pred kp]
  refine XV.putf C (ci := 1) (kf := 2) (ty := .int) (xlk_ok okH_giveBack rfl) rfl (by decide) wF_H_21 (by omega) (by omega) ((blk_is h a 170 (histC a o (kp + 1) P)) 0 (by decide)) rfl rfl rfl rfl (Nat.le_of_ble_eq_true rfl) ?_
  refine XV.cast (setHist_hd h a o (kp + 1) o kp P) ?_
  refine XV.run C okH_giveBack 1 (q := (11, ([some (.ref (a)), some (.ref (e)), none], [.ref (a)]))) rfl ?_
  refine XV.getf C (ci := 1) (kf := 0) (v := .ref (a + 1)) (xlk_ok okH_giveBack rfl) rfl (by decide) wF_H_11 (by omega) (by omega) ((blk_is h a 170 (histC a o kp P)) 0 (by decide)) rfl ?_
  refine XV.run C okH_giveBack 1 (q := (15, ([some (.ref (a)), some (.ref (e)), none], [.ref (a), .ref (a + 1)]))) rfl ?_
  refine XV.getf C (ci := 1) (kf := 1) (v := .int (nI o)) (xlk_ok okH_giveBack rfl) rfl (by decide) wF_H_17 (by omega) (by omega) ((blk_is h a 170 (histC a o kp P)) 0 (by decide)) rfl ?_
  refine XV.run C okH_giveBack 1 (q := (19, ([some (.ref (a)), some (.ref (e)), none], [.ref (a), .int (nI o), .ref (a + 1)]))) rfl ?_
  refine XV.getf C (ci := 1) (kf := 2) (v := .int (nI kp)) (xlk_ok okH_giveBack rfl) rfl (by decide) wF_H_21 (by omega) (by omega) ((blk_is h a 170 (histC a o kp P)) 0 (by decide)) rfl ?_
  refine XV.run C okH_giveBack 2 (q := (25, ([some (.ref (a)), some (.ref (e)), none], [.int (6), .int ((nI o) + (nI kp)), .ref (a + 1)]))) rfl ?_
  refine XV.callS C (As := [.int ((nI o) + (nI kp)), .int (6)]) (rest := [.ref (a + 1)]) (ct_JM_floorMod hfl (i := o + kp) (d := 6) (nI_add _ _) (rfl) (by omega) (by omega) (by omega)) (xlk_ok okH_giveBack rfl) rfl wM_H_25 wS_JM_floorMod wN_JM wB_JM_floorMod hy_JM_floorMod (fun q => q.elim) ⟨Nat.le_of_ble_eq_true rfl, Nat.le_of_ble_eq_true rfl⟩ ⟨Nat.le_of_ble_eq_true rfl, Nat.le_of_ble_eq_true rfl⟩ (Nat.le_of_ble_eq_true rfl) (fun r n h hp => ?_) (fun _ _ _ q => q.elim)
  obtain ⟨rfl, rfl, rfl⟩ := hp
  refine XV.aaldS C (N := 6) (t := 2) (a := ((o + kp) % 6)) (o := a + 2 + 28 * ((o + kp) % 6)) (f := (fun i => if i < 6 then some (a + 2 + 28 * i) else none)) (xlk_ok okH_giveBack rfl) (by omega) (by omega) ((blk_is h a 170 (histC a o kp P)) 1 (by decide)) rfl (rfl) (by omega) (by decide) (if_pos (by omega)) ?_
  refine XV.run C okH_giveBack 2 (q := (31, ([some (.ref (a)), some (.ref (e)), some (.ref (a + 2 + 28 * ((o + kp) % 6)))], [.ref (a + 2 + 28 * ((o + kp) % 6))]))) rfl ?_
  refine XV.null_r C (xlk_ok okH_giveBack rfl) ?_
  refine XV.run C okH_giveBack 2 (q := (36, ([some (.ref (a)), some (.ref (e)), some (.ref (a + 2 + 28 * ((o + kp) % 6)))], [.ref (a + 2 + 28 * ((o + kp) % 6)), .ref (e)]))) rfl ?_
  refine XV.callV C (As := [.ref (a + 2 + 28 * ((o + kp) % 6))]) (rest := []) (ci := 0) (ct_E_copyFrom hfl (hE.out hd) (by omega) (by omega) (hist_elev (blk_is h a 170 (histC a o kp P)) (q := ((o + kp) % 6)) (by omega)) (by omega) (by omega) (by omega)) (xlk_ok okH_giveBack rfl) rfl (by omega) (by omega) rfl ((hE.out hd) 0 (by decide)) rfl wM_H_31 wI_E_copyFrom wV_E_copyFrom wN_E wB_E_copyFrom hy_E_copyFrom (fun q => q.elim) ⟨Nat.le_of_ble_eq_true rfl, Nat.le_of_ble_eq_true rfl⟩ ⟨Nat.le_of_ble_eq_true rfl, Nat.le_of_ble_eq_true rfl⟩ (Nat.le_of_ble_eq_true rfl) (fun r n h hp => ?_) (fun _ _ _ q => q.elim)
  obtain ⟨rfl, rfl, rfl⟩ := hp
  exact XV.vret C (xlk_ok okH_giveBack rfl) hret (Nat.le_of_ble_eq_true rfl) (Nat.le_of_ble_eq_true rfl) (⟨rfl, rfl, rfl⟩)
theorem if1_0 {b : Bool} (h : (if b then (1 : Int32) else 0) = 0) : b = false := by
  cases b
  · rfl
  · exact absurd h (by decide)
theorem if1_1 {b : Bool} (h : ¬ (if b then (1 : Int32) else 0) = 0) : b = true := by
  cases b
  · exact absurd rfl h
  · rfl
theorem st_ne {w : Nat} (h : w ≤ 7) : ¬ stI (some w) = -1 := by
  rcases (show w = 0 ∨ w = 1 ∨ w = 2 ∨ w = 3 ∨ w = 4 ∨ w = 5 ∨ w = 6 ∨ w = 7 by omega) with rfl | rfl | rfl | rfl | rfl | rfl | rfl | rfl <;> decide
theorem rs_fin {p q : PT} {w : Nat} {c : Int32} (hp : p.2.2.2 ≤ 15) (hw : w ≤ 7) (h : (15 ≤ p.2.2.2 ∧ q = p) ∨ (p.2.2.2 < 15 ∧ ((c = 59 ∧ q = (p.1, (p.2.1, (upd p.2.2.1 p.2.2.2 (if p.2.2.1 p.2.2.2 < 1 then 1 else p.2.2.1 p.2.2.2), p.2.2.2 + 1)))) ∨ (¬ c = 59 ∧ ((nI w = 0 ∧ q = (upd p.1 p.2.2.2 (c - 48), (p.2.1, (upd p.2.2.1 p.2.2.2 0, p.2.2.2)))) ∨ (¬ nI w = 0 ∧ ((nI w = 2 ∧ q = (p.1, (upd p.2.1 p.2.2.2 (c - 48), (p.2.2.1, p.2.2.2)))) ∨ (¬ nI w = 2 ∧ (((nI w = 4 ∨ nI w = 5 ∨ nI w = 6) ∧ q = (p.1, (p.2.1, (upd p.2.2.1 p.2.2.2 (10 * p.2.2.1 p.2.2.2 + c - 48), p.2.2.2)))) ∨ (¬ nI w = 4 ∧ ¬ nI w = 5 ∧ ¬ nI w = 6 ∧ q = p))))))))))  : q = rsK w c p := by
  have e0 : nI w = 0 ↔ w = 0 := nI_eq (b := 0) (by omega) (by omega)
  have e2 : nI w = 2 ↔ w = 2 := nI_eq (b := 2) (by omega) (by omega)
  have e4 : nI w = 4 ↔ w = 4 := nI_eq (b := 4) (by omega) (by omega)
  have e5 : nI w = 5 ↔ w = 5 := nI_eq (b := 5) (by omega) (by omega)
  have e6 : nI w = 6 ↔ w = 6 := nI_eq (b := 6) (by omega) (by omega)
  rw [e0, e2, e4, e5, e6] at h
  unfold rsK
  rcases h with ⟨h1, rfl⟩ | ⟨h1, ⟨h2, rfl⟩ | ⟨h2, ⟨h3, rfl⟩ | ⟨h3, ⟨h4, rfl⟩ | ⟨h4, ⟨h5, rfl⟩ | ⟨h5, h6, h7, rfl⟩⟩⟩⟩⟩
  · rw [if_pos h1]
  · rw [if_neg (Nat.not_le.mpr h1), if_pos h2]
  · rw [if_neg (Nat.not_le.mpr h1), if_neg h2, if_pos h3]
  · rw [if_neg (Nat.not_le.mpr h1), if_neg h2, if_neg h3, if_pos h4]
  · rw [if_neg (Nat.not_le.mpr h1), if_neg h2, if_neg h3, if_neg h4, if_pos h5]
  · rw [if_neg (Nat.not_le.mpr h1), if_neg h2, if_neg h3, if_neg h4, if_neg (show ¬ (w = 4 ∨ w = 5 ∨ w = 6) by omega)]
theorem setText_set (h : XH) (a : Nat) (tx : Nat → Int32) (len : Nat) (p q : PT) : setText (setText h a tx len p) a tx len q = setText h a tx len q := blk_blk _ _ _ _ _
theorem sumN_s0 (g : Nat → Int32) (j : Nat) : sumN g 0 (j + 1) = sumN g 0 j + g j := by
  show sumN g 0 j + g (0 + j) = _
  rw [Nat.zero_add]
end
section
/-! the world of the class -/
def cwC (f : Nat → Int32) (o kp : Nat) (P : Nat → Nat → Int32) (tx : Nat → Int32) (len : Nat) (p : PT) (ρ : Nat → Int32) : Nat → XC := fun j =>
  if j = 0 then .inr (4, [.ref 5, .ref 33, .ref 203, .ref 208])
  else if j < 29 then elevC 5 f (j - 1)
  else if j < 199 then histC 33 o kp P (j - 29)
  else if j < 204 then textC 203 tx len p (j - 199)
  else ropeC 208 ρ (j - 204)
abbrev IsCW (h : XH) (f : Nat → Int32) (o kp : Nat) (P : Nat → Nat → Int32) (tx : Nat → Int32) (len : Nat) (p : PT) (ρ : Nat → Int32) : Prop := IsB h 4 209 (cwC f o kp P tx len p ρ)
abbrev setCW (h : XH) (f : Nat → Int32) (o kp : Nat) (P : Nat → Nat → Int32) (tx : Nat → Int32) (len : Nat) (p : PT) (ρ : Nat → Int32) : XH := blk h 4 209 (cwC f o kp P tx len p ρ)
section CW
variable {h : XH} {f : Nat → Int32} {o kp : Nat} {P : Nat → Nat → Int32} {tx : Nat → Int32} {len : Nat} {p : PT} {ρ : Nat → Int32}
theorem setCW_self (hc : IsCW h f o kp P tx len p ρ) : setCW h f o kp P tx len p ρ = h := blk_self hc
theorem cw_o : setCW h f o kp P tx len p ρ 4 = .inr (4, [.ref 5, .ref 33, .ref 203, .ref 208]) := blk_is h 4 209 (cwC f o kp P tx len p ρ) 0 (by decide)
theorem cw_e : IsElev (setCW h f o kp P tx len p ρ) 5 f := by
  refine (blk_is h 4 209 (cwC f o kp P tx len p ρ)).sub (by decide) (by decide) (fun j hj => ?_)
  show (if 5 - 4 + j = 0 then _ else if 5 - 4 + j < 29 then elevC 5 f (5 - 4 + j - 1) else _) = _
  rw [if_neg (by omega), if_pos (by omega), show 5 - 4 + j - 1 = j by omega]
theorem cw_h : IsHist (setCW h f o kp P tx len p ρ) 33 o kp P := by
  refine (blk_is h 4 209 (cwC f o kp P tx len p ρ)).sub (by decide) (by decide) (fun j hj => ?_)
  show (if 33 - 4 + j = 0 then _ else if 33 - 4 + j < 29 then _ else if 33 - 4 + j < 199 then histC 33 o kp P (33 - 4 + j - 29) else _) = _
  rw [if_neg (by omega), if_neg (by omega), if_pos (by omega), show 33 - 4 + j - 29 = j by omega]
theorem cw_t : IsText (setCW h f o kp P tx len p ρ) 203 tx len p := by
  refine (blk_is h 4 209 (cwC f o kp P tx len p ρ)).sub (by decide) (by decide) (fun j hj => ?_)
  show (if 203 - 4 + j = 0 then _ else if 203 - 4 + j < 29 then _ else if 203 - 4 + j < 199 then _ else if 203 - 4 + j < 204 then textC 203 tx len p (203 - 4 + j - 199) else _) = _
  rw [if_neg (by omega), if_neg (by omega), if_neg (by omega), if_pos (by omega), show 203 - 4 + j - 199 = j by omega]
theorem cw_r : IsRope (setCW h f o kp P tx len p ρ) 208 ρ := by
  refine (blk_is h 4 209 (cwC f o kp P tx len p ρ)).sub (by decide) (by decide) (fun j hj => ?_)
  show (if 208 - 4 + j = 0 then _ else if 208 - 4 + j < 29 then _ else if 208 - 4 + j < 199 then _ else if 208 - 4 + j < 204 then _ else ropeC 208 ρ (208 - 4 + j - 204)) = _
  rw [if_neg (by omega), if_neg (by omega), if_neg (by omega), if_neg (by omega), show 208 - 4 + j - 204 = j by omega]
theorem cw_setE (f' : Nat → Int32) : setElev (setCW h f o kp P tx len p ρ) 5 f' = setCW h f' o kp P tx len p ρ := by
  refine blk_sub (by decide) (by decide) (fun j hj => ?_) (fun j hj hne => ?_)
  · show (if 5 - 4 + j = 0 then _ else if 5 - 4 + j < 29 then elevC 5 f' (5 - 4 + j - 1) else _) = _
    rw [if_neg (by omega), if_pos (by omega), show 5 - 4 + j - 1 = j by omega]
  · unfold cwC
    by_cases h0 : j = 0
    · rw [if_pos h0, if_pos h0]
    · rw [if_neg h0, if_neg h0, if_neg (show ¬ j < 29 by omega), if_neg (show ¬ j < 29 by omega)]
theorem cw_setH (o' kp' : Nat) (P' : Nat → Nat → Int32) : setHist (setCW h f o kp P tx len p ρ) 33 o' kp' P' = setCW h f o' kp' P' tx len p ρ := by
  refine blk_sub (by decide) (by decide) (fun j hj => ?_) (fun j hj hne => ?_)
  · show (if 33 - 4 + j = 0 then _ else if 33 - 4 + j < 29 then _ else if 33 - 4 + j < 199 then histC 33 o' kp' P' (33 - 4 + j - 29) else _) = _
    rw [if_neg (by omega), if_neg (by omega), if_pos (by omega), show 33 - 4 + j - 29 = j by omega]
  · unfold cwC
    by_cases h0 : j = 0
    · rw [if_pos h0, if_pos h0]
    · rw [if_neg h0, if_neg h0]
      by_cases h1 : j < 29
      · rw [if_pos h1, if_pos h1]
      · rw [if_neg h1, if_neg h1, if_neg (show ¬ j < 199 by omega), if_neg (show ¬ j < 199 by omega)]
theorem cw_setT (tx' : Nat → Int32) (len' : Nat) (p' : PT) : setText (setCW h f o kp P tx len p ρ) 203 tx' len' p' = setCW h f o kp P tx' len' p' ρ := by
  refine blk_sub (by decide) (by decide) (fun j hj => ?_) (fun j hj hne => ?_)
  · show (if 203 - 4 + j = 0 then _ else if 203 - 4 + j < 29 then _ else if 203 - 4 + j < 199 then _ else if 203 - 4 + j < 204 then textC 203 tx' len' p' (203 - 4 + j - 199) else _) = _
    rw [if_neg (by omega), if_neg (by omega), if_neg (by omega), if_pos (by omega), show 203 - 4 + j - 199 = j by omega]
  · unfold cwC
    by_cases h0 : j = 0
    · rw [if_pos h0, if_pos h0]
    · rw [if_neg h0, if_neg h0]
      by_cases h1 : j < 29
      · rw [if_pos h1, if_pos h1]
      · rw [if_neg h1, if_neg h1]
        by_cases h2 : j < 199
        · rw [if_pos h2, if_pos h2]
        · rw [if_neg h2, if_neg h2, if_neg (show ¬ j < 204 by omega), if_neg (show ¬ j < 204 by omega)]
theorem cw_setR (ρ' : Nat → Int32) : setRope (setCW h f o kp P tx len p ρ) 208 ρ' = setCW h f o kp P tx len p ρ' := by
  refine blk_sub (by decide) (by decide) (fun j hj => ?_) (fun j hj hne => ?_)
  · show (if 208 - 4 + j = 0 then _ else if 208 - 4 + j < 29 then _ else if 208 - 4 + j < 199 then _ else if 208 - 4 + j < 204 then _ else ropeC 208 ρ' (208 - 4 + j - 204)) = _
    rw [if_neg (by omega), if_neg (by omega), if_neg (by omega), if_neg (by omega), show 208 - 4 + j - 204 = j by omega]
  · unfold cwC
    by_cases h0 : j = 0
    · rw [if_pos h0, if_pos h0]
    · rw [if_neg h0, if_neg h0]
      by_cases h1 : j < 29
      · rw [if_pos h1, if_pos h1]
      · rw [if_neg h1, if_neg h1]
        by_cases h2 : j < 199
        · rw [if_pos h2, if_pos h2]
        · rw [if_neg h2, if_neg h2, if_pos (by omega), if_pos (by omega)]
theorem cw_eself : setElev (setCW h f o kp P tx len p ρ) 5 f = setCW h f o kp P tx len p ρ := cw_setE f
theorem cw_tself : setText (setCW h f o kp P tx len p ρ) 203 tx len p = setCW h f o kp P tx len p ρ := cw_setT tx len p
theorem cw_xupE {j : Nat} {c : XC} {f' : Nat → Int32} (hx : xup (setElev (setCW h f o kp P tx len p ρ) 5 f) j c = setElev (setCW h f o kp P tx len p ρ) 5 f') : xup (setCW h f o kp P tx len p ρ) j c = setCW h f' o kp P tx len p ρ := by
  rw [cw_eself, cw_setE] at hx
  exact hx
theorem cw_xupT {j : Nat} {c : XC} {tx' : Nat → Int32} {len' : Nat} {p' : PT} (hx : xup (setText (setCW h f o kp P tx len p ρ) 203 tx len p) j c = setText (setCW h f o kp P tx len p ρ) 203 tx' len' p') : xup (setCW h f o kp P tx len p ρ) j c = setCW h f o kp P tx' len' p' ρ := by
  rw [cw_tself, cw_setT] at hx
  exact hx
/-- a rope that hangs, anew -/
theorem cw_putR {i : Nat} (hi : i < 5) {r : Nat → Int32} (hq : ¬ r 0 = 0) : setRope (setCW h f o kp P tx len p ρ) (5 + 3 + 5 * i) r = setCW h (putRow f i r) o kp P tx len p ρ := by
  have := setElev_put (setCW h f o kp P tx len p ρ) 5 f i r hi hq
  rw [cw_eself, cw_setE] at this
  exact this
end CW
def kO (o kp : Nat) : Nat := if kp = 6 then (o + 1) % 6 else o
def kK (kp : Nat) : Nat := if kp = 6 then 6 else kp + 1
def kP (o kp : Nat) (P : Nat → Nat → Int32) (f : Nat → Int32) : Nat → Nat → Int32 := upP P (if kp = 6 then ((o + 1) % 6 + 5) % 6 else (o + kp) % 6) f
theorem ct_H_keep {l : Launch} (hfl : l.stackTraces = false) {G : XG} {n : Nat} {h : XH} {a o kp : Nat} {P : Nat → Nat → Int32} (hH : IsHist h a o kp P) (a4 : 4 ≤ a) (an : a + 170 ≤ n + 4) (ho : o < 6) {e : Nat} {f : Nat → Int32} (hE : IsElev h e f) (e4 : 4 ≤ e) (en : e + 28 ≤ n + 4) (hd : e + 28 ≤ a ∨ a + 170 ≤ e) (hk : kp ≤ 6) : XCt l G False (Cond.code yH_keep bH_keep 3 none) yH_keep 3 71 0 0 [.ref (a), .ref (e)] n h (fun r' n' h' => r' = none ∧ n' = n ∧ h' = setHist h a (kO o kp) (kK kp) (kP o kp P f)) (fun _ _ _ => False) := by
  by_cases h6 : kp = 6
  · subst h6
    exact ct_H_keep_full hfl hH a4 an ho hE e4 en hd
  · have e1 : kO o kp = o := if_neg h6
    have e2 : kK kp = kp + 1 := if_neg h6
    have e3 : kP o kp P f = upP P ((o + kp) % 6) f := by unfold kP; rw [if_neg h6]
    rw [e1, e2, e3]
    exact ct_H_keep_free hfl hH a4 an ho hE e4 en hd (by omega)
theorem rpK_le {tx : Nat → Int32} {len : Nat} : ∀ (d s j : Nat) (p : PT), p.2.2.2 ≤ 15 → (rpK tx len d s j p).2.2.2.2 ≤ 15
  | 0, _, _, _, h => h
  | d + 1, s, j, p, h => by
    cases hs : stp s (sgn tx len j) with
    | none => rw [rpK_none hs]; exact h
    | some s' => rw [rpK_some hs]; exact rpK_le d s' (j + 1) _ (rsK_le h)
end
section
/-! what the class tells: figures, forecasts, the hash -/
def ropeFigK (f r : Nat → Int32) (z w : Nat) : Int32 := match w with
  | 0 => r 0
  | 1 => r 1
  | 2 => sumN (colR r false) 0 24
  | 3 => sumN (colR r true) 0 24
  | 4 => gmx (winS r false z) (25 - z)
  | 5 => nI (gwinK r z)
  | 6 => gmx (winS r true z) (25 - z)
  | 7 => reasonK f r z
  | 8 => mleftK f r
  | _ => r 2
def countFigK (f : Nat → Int32) (z k kp w : Nat) : Int32 := match w with
  | 0 => f 0
  | 1 => f 1
  | 2 => nI (retK f z k)
  | 3 => if canK f z k = 0 then 0 else 1
  | 4 => f 7
  | 5 => f 8
  | 6 => f 9
  | 7 => sumRK f true k - sumRK f false k
  | _ => nI kp
def lookR (f r : Nat → Int32) : Nat → Int32 := rLook r 0 24 (f 0)
def rchK (f r : Nat → Int32) (z : Nat) (t : Int32) : Bool := decide (f 3 ≤ gmx (winS (rBendT r 0 24 t) true z) (25 - z))
def tlK (f r : Nat → Int32) (z : Nat) : Nat → Int32 → Int32 → Int32
  | 0, low, _ => low
  | d + 1, low, high => if low < high then (if rchK f r z ((low + high) / 2) then tlK f r z d low ((low + high) / 2) else tlK f r z d ((low + high) / 2 + 1) high) else low
def unsK (f : Nat → Int32) (z i : Nat) : Bool := decide (reasonK f (rowOf f i) z = 0 ∧ (reasonK f (lookR f (rowOf f i)) z = 1 ∨ reasonK f (lookR f (rowOf f i)) z = 2))
def luK (f : Nat → Int32) (z : Nat) : Nat → Nat → Int32
  | 0, _ => -1
  | d + 1, j => if unsK f z j then nI j else luK f z d (j + 1)
def shrK (f : Nat → Int32) (k : Nat) : UInt64 := if sumRK f true k = 0 then FP.dconst1 else FP.ddiv (FP.i2d (sumRK f false k)) (FP.i2d (sumRK f true k))
def mixN (g : Nat → Int64) : Nat → Int64 → Int64
  | 0, h => h
  | n + 1, h => 31 * mixN g n h + g n
def secM (r : Nat → Int32) : Nat → Int64 → Int64
  | 0, h => h
  | n + 1, h => mixN (fun w => (secF r n w).toInt64) 5 (secM r n h)
def winM (r : Nat → Int32) (z : Nat) : Nat → Int64 → Int64
  | 0, h => h
  | n + 1, h => 31 * (31 * winM r z n h + (winS r false z n).toInt64) + (winS r true z n).toInt64
def mwrK (f r : Nat → Int32) (z : Nat) (h : Int64) : Int64 := 31 * (31 * (31 * winM r z (25 - z) (secM r 24 (mixN (fun w => (ropeFigK f r z w).toInt64) 10 h)) + (reasonK f (lookR f r) z).toInt64) + (nI (bestI r 5)).toInt64) + (tlK f r z 32 0 (f 3 * r 0)).toInt64
def rpsM (f : Nat → Int32) (z : Nat) : Nat → Int64 → Int64
  | 0, h => h
  | n + 1, h => mwrK f (rowOf f n) z (rpsM f z n h)
end
section
/-! RopeThreads: what the calls require, the calls -/
set_option maxHeartbeats 4000000 in
set_option maxRecDepth 100000 in
theorem ct_C_requireIndex {l : Launch} (hfl : l.stackTraces = false) {G : XG} {n : Nat} {h : XH} (x y : Int32) : XCt l G False (Cond.code yC_requireIndex bC_requireIndex 2 none) yC_requireIndex 6 90 1 6 [.int (x), .int (y)] n h (fun r' n' h' => r' = none ∧ (¬ x < 0 ∧ x < y) ∧ n' = n ∧ h' = h) (fun E n' h' => (E = XIOB ∧ (x < 0 ∨ ¬ x < y)) ∧ n' = n ∧ h' = h) := by
  refine XCt.of hfl (by decide +kernel) (Nat.le_of_ble_eq_true rfl) ?_
  intro p' e' s' m' g' b' t' c' C hret hname hnt hmd
  refine XV.run C okC_requireIndex 1 (q := (1, ([some (.int (x)), some (.int (y))], [.int (x)]))) rfl ?_
  refine XV.if_lt C (tgt := 9) (xlk_ok okC_requireIndex rfl) rfl (fun c1 => ?_) (fun c1 => ?_)
  ·
    refine XV.throwS C hnt (E := XIOB) (Or.inr (Or.inr ⟨rfl, rfl, rfl⟩)) (List.mem_of_getElem? (i := 3) rfl) (xlk_ok okC_requireIndex (pc := 9) rfl) (xlk_ok okC_requireIndex (pc := 12) rfl) (xlk_ok okC_requireIndex (pc := 13) rfl) (xlk_ok okC_requireIndex (pc := 15) rfl) (xlk_ok okC_requireIndex (pc := 18) rfl) (Nat.le_of_ble_eq_true rfl) (Nat.le_of_ble_eq_true rfl) (Nat.le_of_ble_eq_true rfl) (Nat.le_of_ble_eq_true rfl) (Nat.le_of_ble_eq_true rfl) (Nat.le_of_ble_eq_true rfl) ?_
    exact ⟨⟨rfl, by first | exact Or.inl c1 | exact Or.inr c2⟩, rfl, rfl⟩
  ·
    refine XV.run C okC_requireIndex 2 (q := (6, ([some (.int (x)), some (.int (y))], [.int (y), .int (x)]))) rfl ?_
    refine XV.icmp_lt C (tgt := 19) (xlk_ok okC_requireIndex rfl) rfl (fun c2 => ?_) (fun c2 => ?_)
    ·
      exact XV.vret C (xlk_ok okC_requireIndex rfl) hret (Nat.le_of_ble_eq_true rfl) (Nat.le_of_ble_eq_true rfl) (⟨rfl, ⟨c1, c2⟩, rfl, rfl⟩)
    ·
      refine XV.throwS C hnt (E := XIOB) (Or.inr (Or.inr ⟨rfl, rfl, rfl⟩)) (List.mem_of_getElem? (i := 3) rfl) (xlk_ok okC_requireIndex (pc := 9) rfl) (xlk_ok okC_requireIndex (pc := 12) rfl) (xlk_ok okC_requireIndex (pc := 13) rfl) (xlk_ok okC_requireIndex (pc := 15) rfl) (xlk_ok okC_requireIndex (pc := 18) rfl) (Nat.le_of_ble_eq_true rfl) (Nat.le_of_ble_eq_true rfl) (Nat.le_of_ble_eq_true rfl) (Nat.le_of_ble_eq_true rfl) (Nat.le_of_ble_eq_true rfl) (Nat.le_of_ble_eq_true rfl) ?_
      exact ⟨⟨rfl, by first | exact Or.inl c1 | exact Or.inr c2⟩, rfl, rfl⟩
set_option maxHeartbeats 4000000 in
set_option maxRecDepth 100000 in
theorem ct_C_requireRange {l : Launch} (hfl : l.stackTraces = false) {G : XG} {n : Nat} {h : XH} (x a b : Int32) : XCt l G False (Cond.code yC_requireRange bC_requireRange 3 none) yC_requireRange 6 90 1 6 [.int (x), .int (a), .int (b)] n h (fun r' n' h' => r' = none ∧ (¬ x < a ∧ x ≤ b) ∧ n' = n ∧ h' = h) (fun E n' h' => (E = XIAE ∧ (x < a ∨ ¬ x ≤ b)) ∧ n' = n ∧ h' = h) := by
  refine XCt.of hfl (by decide +kernel) (Nat.le_of_ble_eq_true rfl) ?_
  intro p' e' s' m' g' b' t' c' C hret hname hnt hmd
  refine XV.run C okC_requireRange 2 (q := (2, ([some (.int (x)), some (.int (a)), some (.int (b))], [.int (a), .int (x)]))) rfl ?_
  refine XV.icmp_lt C (tgt := 10) (xlk_ok okC_requireRange rfl) rfl (fun c1 => ?_) (fun c1 => ?_)
  ·
    refine XV.throwS C hnt (E := XIAE) (Or.inr (Or.inl ⟨rfl, rfl, rfl⟩)) (List.mem_of_getElem? (i := 0) rfl) (xlk_ok okC_requireRange (pc := 10) rfl) (xlk_ok okC_requireRange (pc := 13) rfl) (xlk_ok okC_requireRange (pc := 14) rfl) (xlk_ok okC_requireRange (pc := 16) rfl) (xlk_ok okC_requireRange (pc := 19) rfl) (Nat.le_of_ble_eq_true rfl) (Nat.le_of_ble_eq_true rfl) (Nat.le_of_ble_eq_true rfl) (Nat.le_of_ble_eq_true rfl) (Nat.le_of_ble_eq_true rfl) (Nat.le_of_ble_eq_true rfl) ?_
    exact ⟨⟨rfl, by first | exact Or.inl c1 | exact Or.inr c2⟩, rfl, rfl⟩
  ·
    refine XV.run C okC_requireRange 2 (q := (7, ([some (.int (x)), some (.int (a)), some (.int (b))], [.int (b), .int (x)]))) rfl ?_
    refine XV.icmp_le C (tgt := 20) (xlk_ok okC_requireRange rfl) rfl (fun c2 => ?_) (fun c2 => ?_)
    ·
      exact XV.vret C (xlk_ok okC_requireRange rfl) hret (Nat.le_of_ble_eq_true rfl) (Nat.le_of_ble_eq_true rfl) (⟨rfl, ⟨c1, c2⟩, rfl, rfl⟩)
    ·
      refine XV.throwS C hnt (E := XIAE) (Or.inr (Or.inl ⟨rfl, rfl, rfl⟩)) (List.mem_of_getElem? (i := 0) rfl) (xlk_ok okC_requireRange (pc := 10) rfl) (xlk_ok okC_requireRange (pc := 13) rfl) (xlk_ok okC_requireRange (pc := 14) rfl) (xlk_ok okC_requireRange (pc := 16) rfl) (xlk_ok okC_requireRange (pc := 19) rfl) (Nat.le_of_ble_eq_true rfl) (Nat.le_of_ble_eq_true rfl) (Nat.le_of_ble_eq_true rfl) (Nat.le_of_ble_eq_true rfl) (Nat.le_of_ble_eq_true rfl) (Nat.le_of_ble_eq_true rfl) ?_
      exact ⟨⟨rfl, by first | exact Or.inl c1 | exact Or.inr c2⟩, rfl, rfl⟩
set_option maxHeartbeats 4000000 in
set_option maxRecDepth 100000 in
theorem ct_C_requireSections {l : Launch} (hfl : l.stackTraces = false) {G : XG} {n : Nat} {h : XH} (x y : Int32) : XCt l G False (Cond.code yC_requireSections bC_requireSections 2 none) yC_requireSections 7 111 3 18 [.int (x), .int (y)] n h (fun r' n' h' => r' = none ∧ ((¬ x < 0 ∧ x < 24) ∧ (¬ y < 0 ∧ y < 24) ∧ x ≤ y) ∧ n' = n ∧ h' = h) (fun E n' h' => ((E = XIOB ∧ ((x < 0 ∨ ¬ x < 24) ∨ (y < 0 ∨ ¬ y < 24))) ∨ (E = XIAE ∧ ((¬ x < 0 ∧ x < 24) ∧ (¬ y < 0 ∧ y < 24) ∧ ¬ x ≤ y))) ∧ n' = n ∧ h' = h) := by
  refine XCt.of hfl (by decide +kernel) (Nat.le_of_ble_eq_true rfl) ?_
  intro p' e' s' m' g' b' t' c' C hret hname hnt hmd
  refine XV.run C okC_requireSections 2 (q := (3, ([some (.int (x)), some (.int (y))], [.int (24), .int (x)]))) rfl ?_
  refine XV.callS C (As := [.int (x), .int (24)]) (rest := []) (ct_C_requireIndex hfl x 24) (xlk_ok okC_requireSections rfl) rfl wM_C_93 wS_C_requireIndex wN_C wB_C_requireIndex hy_C_requireIndex (fun q => q.elim) ⟨Nat.le_of_ble_eq_true rfl, Nat.le_of_ble_eq_true rfl⟩ ⟨Nat.le_of_ble_eq_true rfl, Nat.le_of_ble_eq_true rfl⟩ (Nat.le_of_ble_eq_true rfl) (fun r n h hp => ?_) (fun E n1 h1 q => by obtain ⟨⟨rfl, hbad⟩, rfl, rfl⟩ := q; exact XT.out C hnt (Nat.le_of_ble_eq_true rfl) (Nat.le_of_ble_eq_true rfl) (⟨Or.inl ⟨rfl, Or.inl hbad⟩, rfl, rfl⟩))
  obtain ⟨rfl, h1, rfl, rfl⟩ := hp
  refine XV.run C okC_requireSections 2 (q := (9, ([some (.int (x)), some (.int (y))], [.int (24), .int (y)]))) rfl ?_
  refine XV.callS C (As := [.int (y), .int (24)]) (rest := []) (ct_C_requireIndex hfl y 24) (xlk_ok okC_requireSections rfl) rfl wM_C_93 wS_C_requireIndex wN_C wB_C_requireIndex hy_C_requireIndex (fun q => q.elim) ⟨Nat.le_of_ble_eq_true rfl, Nat.le_of_ble_eq_true rfl⟩ ⟨Nat.le_of_ble_eq_true rfl, Nat.le_of_ble_eq_true rfl⟩ (Nat.le_of_ble_eq_true rfl) (fun r n h hp => ?_) (fun E n1 h1 q => by obtain ⟨⟨rfl, hbad⟩, rfl, rfl⟩ := q; exact XT.out C hnt (Nat.le_of_ble_eq_true rfl) (Nat.le_of_ble_eq_true rfl) (⟨Or.inl ⟨rfl, Or.inr hbad⟩, rfl, rfl⟩))
  obtain ⟨rfl, h2, rfl, rfl⟩ := hp
  refine XV.run C okC_requireSections 2 (q := (14, ([some (.int (x)), some (.int (y))], [.int (x), .int (y)]))) rfl ?_
  refine XV.icmp_ge C (tgt := 27) (xlk_ok okC_requireSections rfl) rfl (fun c1 => ?_) (fun c1 => ?_)
  ·
    exact XV.vret C (xlk_ok okC_requireSections rfl) hret (Nat.le_of_ble_eq_true rfl) (Nat.le_of_ble_eq_true rfl) (⟨rfl, ⟨h1, h2, c1⟩, rfl, rfl⟩)
  ·
    refine XV.throwS C hnt (E := XIAE) (Or.inr (Or.inl ⟨rfl, rfl, rfl⟩)) (List.mem_of_getElem? (i := 4) rfl) (xlk_ok okC_requireSections (pc := 17) rfl) (xlk_ok okC_requireSections (pc := 20) rfl) (xlk_ok okC_requireSections (pc := 21) rfl) (xlk_ok okC_requireSections (pc := 23) rfl) (xlk_ok okC_requireSections (pc := 26) rfl) (Nat.le_of_ble_eq_true rfl) (Nat.le_of_ble_eq_true rfl) (Nat.le_of_ble_eq_true rfl) (Nat.le_of_ble_eq_true rfl) (Nat.le_of_ble_eq_true rfl) (Nat.le_of_ble_eq_true rfl) ?_
    exact ⟨Or.inr ⟨rfl, h1, h2, c1⟩, rfl, rfl⟩
set_option maxHeartbeats 4000000 in
set_option maxRecDepth 100000 in
theorem ct_C_existingRope {l : Launch} (hfl : l.stackTraces = false) {G : XG} {n : Nat} {h : XH} {f : Nat → Int32} {o kp : Nat} {P : Nat → Nat → Int32} {tx : Nat → Int32} {len : Nat} {p : PT} {ρ : Nat → Int32} (hn : 209 ≤ n) {k : Nat} (hm : f 1 = nI k) (hk : k ≤ 5) (hl : ∀ i, i < k → 0 < rowOf f i 0) (x : Int32) : XCt l G False (Cond.code yC_existingRope bC_existingRope 3 (some (.object "RopeThreads$Rope"))) yC_existingRope 6 90 1 6 [.ref (4), .int (x)] n (setCW h f o kp P tx len p ρ) (fun r' n' h' => ∃ i, x = nI i ∧ i < k ∧ r' = some (.ref (5 + 3 + 5 * i)) ∧ n' = n ∧ h' = setCW h f o kp P tx len p ρ) (fun E n' h' => (E = XIOB ∧ (x < 0 ∨ nI k ≤ x)) ∧ n' = n ∧ h' = setCW h f o kp P tx len p ρ) := by
  refine XCt.of hfl (by decide +kernel) (Nat.le_of_ble_eq_true rfl) ?_
  intro p' e' s' m' g' b' t' c' C hret hname hnt hmd
  refine XV.run C okC_existingRope 1 (q := (1, ([some (.ref (4)), some (.int (x)), none], [.ref (4)]))) rfl ?_
  refine XV.getf C (ci := 4) (kf := 0) (v := .ref (5)) (xlk_ok okC_existingRope rfl) rfl (by decide) wF_C_10 (by omega) (by omega) (cw_o) rfl ?_
  refine XV.run C okC_existingRope 1 (q := (5, ([some (.ref (4)), some (.int (x)), none], [.int (x), .ref (5)]))) rfl ?_
  rcases pk_ix x (n := k) (by omega) with hx | hx | ⟨i, hi, hx⟩
  ·
    refine XV.callV C (As := [.int (x)]) (rest := []) (ci := 0) (ct_E_ropeAt_no hfl cw_e (by omega) (by omega) (hm) (by omega) (Or.inl hx)) (xlk_ok okC_existingRope rfl) rfl (by omega) (by omega) rfl (cw_e 0 (by decide)) rfl wM_C_205 wI_E_ropeAt wV_E_ropeAt wN_E wB_E_ropeAt hy_E_ropeAt (fun q => q.elim) ⟨Nat.le_of_ble_eq_true rfl, Nat.le_of_ble_eq_true rfl⟩ ⟨Nat.le_of_ble_eq_true rfl, Nat.le_of_ble_eq_true rfl⟩ (Nat.le_of_ble_eq_true rfl) (fun r n h hp => ?_) (fun _ _ _ q => q.elim)
    obtain ⟨rfl, rfl, rfl⟩ := hp
    refine XV.run C okC_existingRope 2 (q := (10, ([some (.ref (4)), some (.int (x)), some (.null)], [.null]))) rfl ?_
    refine XV.nonnull_n C (xlk_ok okC_existingRope rfl) ?_
    refine XV.throwS C hnt (E := XIOB) (Or.inr (Or.inr ⟨rfl, rfl, rfl⟩)) (List.mem_of_getElem? (i := 2) rfl) (xlk_ok okC_existingRope (pc := 13) rfl) (xlk_ok okC_existingRope (pc := 16) rfl) (xlk_ok okC_existingRope (pc := 17) rfl) (xlk_ok okC_existingRope (pc := 19) rfl) (xlk_ok okC_existingRope (pc := 22) rfl) (Nat.le_of_ble_eq_true rfl) (Nat.le_of_ble_eq_true rfl) (Nat.le_of_ble_eq_true rfl) (Nat.le_of_ble_eq_true rfl) (Nat.le_of_ble_eq_true rfl) (Nat.le_of_ble_eq_true rfl) ?_
    exact ⟨⟨rfl, Or.inl hx⟩, rfl, rfl⟩
  ·
    refine XV.callV C (As := [.int (x)]) (rest := []) (ci := 0) (ct_E_ropeAt_no hfl cw_e (by omega) (by omega) (hm) (by omega) (Or.inr hx)) (xlk_ok okC_existingRope rfl) rfl (by omega) (by omega) rfl (cw_e 0 (by decide)) rfl wM_C_205 wI_E_ropeAt wV_E_ropeAt wN_E wB_E_ropeAt hy_E_ropeAt (fun q => q.elim) ⟨Nat.le_of_ble_eq_true rfl, Nat.le_of_ble_eq_true rfl⟩ ⟨Nat.le_of_ble_eq_true rfl, Nat.le_of_ble_eq_true rfl⟩ (Nat.le_of_ble_eq_true rfl) (fun r n h hp => ?_) (fun _ _ _ q => q.elim)
    obtain ⟨rfl, rfl, rfl⟩ := hp
    refine XV.run C okC_existingRope 2 (q := (10, ([some (.ref (4)), some (.int (x)), some (.null)], [.null]))) rfl ?_
    refine XV.nonnull_n C (xlk_ok okC_existingRope rfl) ?_
    refine XV.throwS C hnt (E := XIOB) (Or.inr (Or.inr ⟨rfl, rfl, rfl⟩)) (List.mem_of_getElem? (i := 2) rfl) (xlk_ok okC_existingRope (pc := 13) rfl) (xlk_ok okC_existingRope (pc := 16) rfl) (xlk_ok okC_existingRope (pc := 17) rfl) (xlk_ok okC_existingRope (pc := 19) rfl) (xlk_ok okC_existingRope (pc := 22) rfl) (Nat.le_of_ble_eq_true rfl) (Nat.le_of_ble_eq_true rfl) (Nat.le_of_ble_eq_true rfl) (Nat.le_of_ble_eq_true rfl) (Nat.le_of_ble_eq_true rfl) (Nat.le_of_ble_eq_true rfl) ?_
    exact ⟨⟨rfl, Or.inr hx⟩, rfl, rfl⟩
  ·
    refine XV.callV C (As := [.int (x)]) (rest := []) (ci := 0) (ct_E_ropeAt hfl cw_e (by omega) (by omega) (i := i) (hx) (hm) (by omega) (by omega)) (xlk_ok okC_existingRope rfl) rfl (by omega) (by omega) rfl (cw_e 0 (by decide)) rfl wM_C_205 wI_E_ropeAt wV_E_ropeAt wN_E wB_E_ropeAt hy_E_ropeAt (fun q => q.elim) ⟨Nat.le_of_ble_eq_true rfl, Nat.le_of_ble_eq_true rfl⟩ ⟨Nat.le_of_ble_eq_true rfl, Nat.le_of_ble_eq_true rfl⟩ (Nat.le_of_ble_eq_true rfl) (fun r n h hp => ?_) (fun _ _ _ q => q.elim)
    obtain ⟨rfl, rfl, rfl⟩ := hp
    refine XV.run C okC_existingRope 2 (q := (10, ([some (.ref (4)), some (.int (x)), some (.ref (5 + 3 + 5 * i))], [.ref (5 + 3 + 5 * i)]))) rfl ?_
    refine XV.nonnull_r C (tgt := 23) (xlk_ok okC_existingRope rfl) rfl ?_
    refine XV.run C okC_existingRope 1 (q := (24, ([some (.ref (4)), some (.int (x)), some (.ref (5 + 3 + 5 * i))], [.ref (5 + 3 + 5 * i)]))) rfl ?_
    exact XV.aret C (o := some (5 + 3 + 5 * i)) (xlk_ok okC_existingRope rfl) hret (Nat.le_of_ble_eq_true rfl) (Nat.le_of_ble_eq_true rfl) (⟨i, hx, hi, rfl, rfl, rfl⟩)
set_option maxHeartbeats 4000000 in
set_option maxRecDepth 100000 in
theorem ct_C_ropeFigure {l : Launch} (hfl : l.stackTraces = false) {G : XG} {n : Nat} {h : XH} {f : Nat → Int32} {o kp : Nat} {P : Nat → Nat → Int32} {tx : Nat → Int32} {len : Nat} {p : PT} {ρ : Nat → Int32} (hn : 209 ≤ n) {k : Nat} (hm : f 1 = nI k) (hk : k ≤ 5) (hl : ∀ i, i < k → 0 < rowOf f i 0) {i : Nat} (hi : i < k) {z : Nat} (hz : f 2 = nI z) (z1 : 1 ≤ z) (z2 : z ≤ 12) {x : Int32} {w : Nat} (hx : x = nI w) (hw : w ≤ 9) : XCt l G False (Cond.code yC_ropeFigure bC_ropeFigure 4 (some .int)) yC_ropeFigure 4 85 0 0 [.ref (4), .ref (5 + 3 + 5 * i), .int (x)] n (setCW h f o kp P tx len p ρ) (fun r' n' h' => r' = some (.int (ropeFigK f (rowOf f i) z w)) ∧ n' = n ∧ h' = setCW h f o kp P tx len p ρ) (fun _ _ _ => False) := by
  subst hx
  refine XCt.of hfl (by decide +kernel) (Nat.le_of_ble_eq_true rfl) ?_
  intro p' e' s' m' g' b' t' c' C hret hname hnt hmd
  refine XV.run C okC_ropeFigure 1 (q := (1, ([some (.ref (4)), some (.ref (5 + 3 + 5 * i)), some (.int (nI w)), none], [.ref (4)]))) rfl ?_
  refine XV.getf C (ci := 4) (kf := 0) (v := .ref (5)) (xlk_ok okC_ropeFigure rfl) rfl (by decide) wF_C_10 (by omega) (by omega) (cw_o) rfl ?_
  refine XV.getfN C (ci := 0) (kf := 0) (v := .ref (5 + 1)) (xlk_ok okC_ropeFigure rfl) rfl (by decide) (List.mem_of_getElem? (i := 13) rfl) (by omega) (by omega) (cw_e 0 (by decide)) rfl ?_
  refine XV.run C okC_ropeFigure 1 (q := (8, ([some (.ref (4)), some (.ref (5 + 3 + 5 * i)), some (.int (nI w)), none], [.int (0), .ref (5 + 1)]))) rfl ?_
  refine XV.ialdC C (N := 5) (f := (fun i => f (2 + i))) (a := 0) (xlk_ok okC_ropeFigure rfl) (by omega) (by omega) (cw_e 1 (by decide)) (rfl) (by decide) (by decide) ?_
  refine XV.run C okC_ropeFigure 2 (q := (11, ([some (.ref (4)), some (.ref (5 + 3 + 5 * i)), some (.int (nI w)), some (.int (f 2))], [.int (nI w)]))) rfl ?_
  rcases (show w = 0 ∨ w = 1 ∨ w = 2 ∨ w = 3 ∨ w = 4 ∨ w = 5 ∨ w = 6 ∨ w = 7 ∨ w = 8 ∨ w = 9 by omega) with rfl | rfl | rfl | rfl | rfl | rfl | rfl | rfl | rfl | rfl
  ·
    refine XV.tabIn C (off := 49) (tgt := 60) (xlk_ok okC_ropeFigure rfl) (by decide) (by decide) rfl rfl ?_
    refine XV.run C okC_ropeFigure 1 (q := (61, ([some (.ref (4)), some (.ref (5 + 3 + 5 * i)), some (.int (nI 0)), some (.int (f 2))], [.ref (5 + 3 + 5 * i)]))) rfl ?_
    refine XV.getfN C (ci := 2) (kf := 4) (v := .int ((rowOf f i) 0)) (xlk_ok okC_ropeFigure rfl) rfl (by decide) (List.mem_of_getElem? (i := 10) rfl) (by omega) (by omega) ((elev_ropeL cw_e (by omega) (hl i hi)) 0 (by decide)) rfl ?_
    exact XV.iret C (xlk_ok okC_ropeFigure rfl) hret rfl (Nat.le_of_ble_eq_true rfl) (Nat.le_of_ble_eq_true rfl) (⟨rfl, rfl, rfl⟩)
  ·
    refine XV.tabIn C (off := 54) (tgt := 65) (xlk_ok okC_ropeFigure rfl) (by decide) (by decide) rfl rfl ?_
    refine XV.run C okC_ropeFigure 1 (q := (66, ([some (.ref (4)), some (.ref (5 + 3 + 5 * i)), some (.int (nI 1)), some (.int (f 2))], [.ref (5 + 3 + 5 * i)]))) rfl ?_
    refine XV.getfN C (ci := 2) (kf := 5) (v := .int ((rowOf f i) 1)) (xlk_ok okC_ropeFigure rfl) rfl (by decide) (List.mem_of_getElem? (i := 11) rfl) (by omega) (by omega) ((elev_ropeL cw_e (by omega) (hl i hi)) 0 (by decide)) rfl ?_
    exact XV.iret C (xlk_ok okC_ropeFigure rfl) hret rfl (Nat.le_of_ble_eq_true rfl) (Nat.le_of_ble_eq_true rfl) (⟨rfl, rfl, rfl⟩)
  ·
    refine XV.tabIn C (off := 59) (tgt := 70) (xlk_ok okC_ropeFigure rfl) (by decide) (by decide) rfl rfl ?_
    refine XV.run C okC_ropeFigure 1 (q := (71, ([some (.ref (4)), some (.ref (5 + 3 + 5 * i)), some (.int (nI 2)), some (.int (f 2))], [.ref (5 + 3 + 5 * i)]))) rfl ?_
    refine XV.callV C (As := []) (rest := []) (ci := 2) (ct_R_allCounts hfl (elev_ropeL cw_e (by omega) (hl i hi)) (by omega) (by omega) ) (xlk_ok okC_ropeFigure rfl) rfl (by omega) (by omega) rfl ((elev_ropeL cw_e (by omega) (hl i hi)) 0 (by decide)) rfl wM_C_84 wI_R_allCounts wV_R_allCounts wN_R wB_R_allCounts hy_R_allCounts (fun q => q.elim) ⟨Nat.le_of_ble_eq_true rfl, Nat.le_of_ble_eq_true rfl⟩ ⟨Nat.le_of_ble_eq_true rfl, Nat.le_of_ble_eq_true rfl⟩ (Nat.le_of_ble_eq_true rfl) (fun r n h hp => ?_) (fun _ _ _ q => q.elim)
    obtain ⟨rfl, rfl, rfl⟩ := hp
    exact XV.iret C (xlk_ok okC_ropeFigure rfl) hret rfl (Nat.le_of_ble_eq_true rfl) (Nat.le_of_ble_eq_true rfl) (⟨rfl, rfl, rfl⟩)
  ·
    refine XV.tabIn C (off := 64) (tgt := 75) (xlk_ok okC_ropeFigure rfl) (by decide) (by decide) rfl rfl ?_
    refine XV.run C okC_ropeFigure 1 (q := (76, ([some (.ref (4)), some (.ref (5 + 3 + 5 * i)), some (.int (nI 3)), some (.int (f 2))], [.ref (5 + 3 + 5 * i)]))) rfl ?_
    refine XV.callV C (As := []) (rest := []) (ci := 2) (ct_R_allBroken hfl (elev_ropeL cw_e (by omega) (hl i hi)) (by omega) (by omega)  (hl i hi)) (xlk_ok okC_ropeFigure rfl) rfl (by omega) (by omega) rfl ((elev_ropeL cw_e (by omega) (hl i hi)) 0 (by decide)) rfl wM_C_67 wI_R_allBroken wV_R_allBroken wN_R wB_R_allBroken hy_R_allBroken (fun q => q.elim) ⟨Nat.le_of_ble_eq_true rfl, Nat.le_of_ble_eq_true rfl⟩ ⟨Nat.le_of_ble_eq_true rfl, Nat.le_of_ble_eq_true rfl⟩ (Nat.le_of_ble_eq_true rfl) (fun r n h hp => ?_) (fun _ _ _ q => q.elim)
    obtain ⟨rfl, rfl, rfl⟩ := hp
    exact XV.iret C (xlk_ok okC_ropeFigure rfl) hret rfl (Nat.le_of_ble_eq_true rfl) (Nat.le_of_ble_eq_true rfl) (⟨rfl, rfl, rfl⟩)
  ·
    refine XV.tabIn C (off := 69) (tgt := 80) (xlk_ok okC_ropeFigure rfl) (by decide) (by decide) rfl rfl ?_
    refine XV.run C okC_ropeFigure 2 (q := (82, ([some (.ref (4)), some (.ref (5 + 3 + 5 * i)), some (.int (nI 4)), some (.int (f 2))], [.int (f 2), .ref (5 + 3 + 5 * i)]))) rfl ?_
    refine XV.callV C (As := [.int (f 2)]) (rest := []) (ci := 2) (ct_R_greatestCounts hfl (elev_ropeL cw_e (by omega) (hl i hi)) (by omega) (by omega) (z := z) (hz) (by omega) (by omega)) (xlk_ok okC_ropeFigure rfl) rfl (by omega) (by omega) rfl ((elev_ropeL cw_e (by omega) (hl i hi)) 0 (by decide)) rfl wM_C_242 wI_R_greatestCounts wV_R_greatestCounts wN_R wB_R_greatestCounts hy_R_greatestCounts (fun q => q.elim) ⟨Nat.le_of_ble_eq_true rfl, Nat.le_of_ble_eq_true rfl⟩ ⟨Nat.le_of_ble_eq_true rfl, Nat.le_of_ble_eq_true rfl⟩ (Nat.le_of_ble_eq_true rfl) (fun r n h hp => ?_) (fun _ _ _ q => q.elim)
    obtain ⟨rfl, rfl, rfl⟩ := hp
    exact XV.iret C (xlk_ok okC_ropeFigure rfl) hret rfl (Nat.le_of_ble_eq_true rfl) (Nat.le_of_ble_eq_true rfl) (⟨rfl, rfl, rfl⟩)
  ·
    refine XV.tabIn C (off := 75) (tgt := 86) (xlk_ok okC_ropeFigure rfl) (by decide) (by decide) rfl rfl ?_
    refine XV.run C okC_ropeFigure 2 (q := (88, ([some (.ref (4)), some (.ref (5 + 3 + 5 * i)), some (.int (nI 5)), some (.int (f 2))], [.int (f 2), .ref (5 + 3 + 5 * i)]))) rfl ?_
    refine XV.callV C (As := [.int (f 2)]) (rest := []) (ci := 2) (ct_R_windowOfGreatestCounts hfl (elev_ropeL cw_e (by omega) (hl i hi)) (by omega) (by omega) (z := z) (hz) (by omega) (by omega)) (xlk_ok okC_ropeFigure rfl) rfl (by omega) (by omega) rfl ((elev_ropeL cw_e (by omega) (hl i hi)) 0 (by decide)) rfl wM_C_245 wI_R_windowOfGreatestCounts wV_R_windowOfGreatestCounts wN_R wB_R_windowOfGreatestCounts hy_R_windowOfGreatestCounts (fun q => q.elim) ⟨Nat.le_of_ble_eq_true rfl, Nat.le_of_ble_eq_true rfl⟩ ⟨Nat.le_of_ble_eq_true rfl, Nat.le_of_ble_eq_true rfl⟩ (Nat.le_of_ble_eq_true rfl) (fun r n h hp => ?_) (fun _ _ _ q => q.elim)
    obtain ⟨rfl, rfl, rfl⟩ := hp
    exact XV.iret C (xlk_ok okC_ropeFigure rfl) hret rfl (Nat.le_of_ble_eq_true rfl) (Nat.le_of_ble_eq_true rfl) (⟨rfl, rfl, rfl⟩)
  ·
    refine XV.tabIn C (off := 81) (tgt := 92) (xlk_ok okC_ropeFigure rfl) (by decide) (by decide) rfl rfl ?_
    refine XV.run C okC_ropeFigure 2 (q := (94, ([some (.ref (4)), some (.ref (5 + 3 + 5 * i)), some (.int (nI 6)), some (.int (f 2))], [.int (f 2), .ref (5 + 3 + 5 * i)]))) rfl ?_
    refine XV.callV C (As := [.int (f 2)]) (rest := []) (ci := 2) (ct_R_greatestBroken hfl (elev_ropeL cw_e (by omega) (hl i hi)) (by omega) (by omega) (z := z) (hz) (by omega) (by omega) (hl i hi)) (xlk_ok okC_ropeFigure rfl) rfl (by omega) (by omega) rfl ((elev_ropeL cw_e (by omega) (hl i hi)) 0 (by decide)) rfl wM_C_248 wI_R_greatestBroken wV_R_greatestBroken wN_R wB_R_greatestBroken hy_R_greatestBroken (fun q => q.elim) ⟨Nat.le_of_ble_eq_true rfl, Nat.le_of_ble_eq_true rfl⟩ ⟨Nat.le_of_ble_eq_true rfl, Nat.le_of_ble_eq_true rfl⟩ (Nat.le_of_ble_eq_true rfl) (fun r n h hp => ?_) (fun _ _ _ q => q.elim)
    obtain ⟨rfl, rfl, rfl⟩ := hp
    exact XV.iret C (xlk_ok okC_ropeFigure rfl) hret rfl (Nat.le_of_ble_eq_true rfl) (Nat.le_of_ble_eq_true rfl) (⟨rfl, rfl, rfl⟩)
  ·
    refine XV.tabIn C (off := 87) (tgt := 98) (xlk_ok okC_ropeFigure rfl) (by decide) (by decide) rfl rfl ?_
    refine XV.run C okC_ropeFigure 1 (q := (99, ([some (.ref (4)), some (.ref (5 + 3 + 5 * i)), some (.int (nI 7)), some (.int (f 2))], [.ref (4)]))) rfl ?_
    refine XV.getf C (ci := 4) (kf := 0) (v := .ref (5)) (xlk_ok okC_ropeFigure rfl) rfl (by decide) wF_C_10 (by omega) (by omega) (cw_o) rfl ?_
    refine XV.run C okC_ropeFigure 1 (q := (103, ([some (.ref (4)), some (.ref (5 + 3 + 5 * i)), some (.int (nI 7)), some (.int (f 2))], [.ref (5 + 3 + 5 * i), .ref (5)]))) rfl ?_
    refine XV.callV C (As := [.ref (5 + 3 + 5 * i)]) (rest := []) (ci := 0) (ct_E_reasonFor hfl cw_e (by omega) (by omega) (elev_ropeL cw_e (by omega) (hl i hi)) (by omega) (by omega) (z := z) (hz) (by omega) (by omega)) (xlk_ok okC_ropeFigure rfl) rfl (by omega) (by omega) rfl (cw_e 0 (by decide)) rfl wM_C_251 wI_E_reasonFor wV_E_reasonFor wN_E wB_E_reasonFor hy_E_reasonFor (fun q => q.elim) ⟨Nat.le_of_ble_eq_true rfl, Nat.le_of_ble_eq_true rfl⟩ ⟨Nat.le_of_ble_eq_true rfl, Nat.le_of_ble_eq_true rfl⟩ (Nat.le_of_ble_eq_true rfl) (fun r n h hp => ?_) (fun _ _ _ q => q.elim)
    obtain ⟨rfl, rfl, rfl⟩ := hp
    exact XV.iret C (xlk_ok okC_ropeFigure rfl) hret rfl (Nat.le_of_ble_eq_true rfl) (Nat.le_of_ble_eq_true rfl) (⟨rfl, rfl, rfl⟩)
  ·
    refine XV.tabIn C (off := 96) (tgt := 107) (xlk_ok okC_ropeFigure rfl) (by decide) (by decide) rfl rfl ?_
    refine XV.run C okC_ropeFigure 1 (q := (108, ([some (.ref (4)), some (.ref (5 + 3 + 5 * i)), some (.int (nI 8)), some (.int (f 2))], [.ref (4)]))) rfl ?_
    refine XV.getf C (ci := 4) (kf := 0) (v := .ref (5)) (xlk_ok okC_ropeFigure rfl) rfl (by decide) wF_C_10 (by omega) (by omega) (cw_o) rfl ?_
    refine XV.run C okC_ropeFigure 1 (q := (112, ([some (.ref (4)), some (.ref (5 + 3 + 5 * i)), some (.int (nI 8)), some (.int (f 2))], [.ref (5 + 3 + 5 * i), .ref (5)]))) rfl ?_
    refine XV.callV C (As := [.ref (5 + 3 + 5 * i)]) (rest := []) (ci := 0) (ct_E_monthsLeft hfl cw_e (by omega) (by omega) (elev_ropeL cw_e (by omega) (hl i hi)) (by omega) (by omega)) (xlk_ok okC_ropeFigure rfl) rfl (by omega) (by omega) rfl (cw_e 0 (by decide)) rfl wM_C_254 wI_E_monthsLeft wV_E_monthsLeft wN_E wB_E_monthsLeft hy_E_monthsLeft (fun q => q.elim) ⟨Nat.le_of_ble_eq_true rfl, Nat.le_of_ble_eq_true rfl⟩ ⟨Nat.le_of_ble_eq_true rfl, Nat.le_of_ble_eq_true rfl⟩ (Nat.le_of_ble_eq_true rfl) (fun r n h hp => ?_) (fun _ _ _ q => q.elim)
    obtain ⟨rfl, rfl, rfl⟩ := hp
    exact XV.iret C (xlk_ok okC_ropeFigure rfl) hret rfl (Nat.le_of_ble_eq_true rfl) (Nat.le_of_ble_eq_true rfl) (⟨rfl, rfl, rfl⟩)
  ·
    refine XV.tabOut C (tgt := 116) (xlk_ok okC_ropeFigure rfl) (by decide) rfl ?_
    refine XV.run C okC_ropeFigure 1 (q := (117, ([some (.ref (4)), some (.ref (5 + 3 + 5 * i)), some (.int (nI 9)), some (.int (f 2))], [.ref (5 + 3 + 5 * i)]))) rfl ?_
    refine XV.getfN C (ci := 2) (kf := 6) (v := .int ((rowOf f i) 2)) (xlk_ok okC_ropeFigure rfl) rfl (by decide) (List.mem_of_getElem? (i := 12) rfl) (by omega) (by omega) ((elev_ropeL cw_e (by omega) (hl i hi)) 0 (by decide)) rfl ?_
    exact XV.iret C (xlk_ok okC_ropeFigure rfl) hret rfl (Nat.le_of_ble_eq_true rfl) (Nat.le_of_ble_eq_true rfl) (⟨rfl, rfl, rfl⟩)
set_option maxHeartbeats 4000000 in
set_option maxRecDepth 100000 in
theorem ct_C_windowFigure {l : Launch} (hfl : l.stackTraces = false) {G : XG} {n : Nat} {h : XH} {f : Nat → Int32} {o kp : Nat} {P : Nat → Nat → Int32} {tx : Nat → Int32} {len : Nat} {p : PT} {ρ : Nat → Int32} (hn : 209 ≤ n) {k : Nat} (hm : f 1 = nI k) (hk : k ≤ 5) (hl : ∀ i, i < k → 0 < rowOf f i 0) {i : Nat} (hi : i < k) {z : Nat} (hz : f 2 = nI z) (z1 : 1 ≤ z) (z2 : z ≤ 12) {x y : Int32} {j w : Nat} (hx : x = nI j) (hy : y = nI w) (hw : w ≤ 1) (hj : j + z ≤ 24) : XCt l G False (Cond.code yC_windowFigure bC_windowFigure 5 (some .int)) yC_windowFigure 2 45 0 0 [.ref (4), .ref (5 + 3 + 5 * i), .int (x), .int (y)] n (setCW h f o kp P tx len p ρ) (fun r' n' h' => r' = some (.int (winS (rowOf f i) (decide (w = 1)) z j)) ∧ n' = n ∧ h' = setCW h f o kp P tx len p ρ) (fun _ _ _ => False) := by
  subst hx; subst hy
  refine XCt.of hfl (by decide +kernel) (Nat.le_of_ble_eq_true rfl) ?_
  intro p' e' s' m' g' b' t' c' C hret hname hnt hmd
  refine XV.run C okC_windowFigure 2 (q := (2, ([some (.ref (4)), some (.ref (5 + 3 + 5 * i)), some (.int (nI j)), some (.int (nI w)), none], [.ref (4), .int (nI j)]))) rfl ?_
  refine XV.getf C (ci := 4) (kf := 0) (v := .ref (5)) (xlk_ok okC_windowFigure rfl) rfl (by decide) wF_C_10 (by omega) (by omega) (cw_o) rfl ?_
  refine XV.getfN C (ci := 0) (kf := 0) (v := .ref (5 + 1)) (xlk_ok okC_windowFigure rfl) rfl (by decide) (List.mem_of_getElem? (i := 13) rfl) (by omega) (by omega) (cw_e 0 (by decide)) rfl ?_
  refine XV.run C okC_windowFigure 1 (q := (9, ([some (.ref (4)), some (.ref (5 + 3 + 5 * i)), some (.int (nI j)), some (.int (nI w)), none], [.int (0), .ref (5 + 1), .int (nI j)]))) rfl ?_
  refine XV.ialdC C (N := 5) (f := (fun i => f (2 + i))) (a := 0) (xlk_ok okC_windowFigure rfl) (by omega) (by omega) (cw_e 1 (by decide)) (rfl) (by decide) (by decide) ?_
  refine XV.run C okC_windowFigure 3 (q := (13, ([some (.ref (4)), some (.ref (5 + 3 + 5 * i)), some (.int (nI j)), some (.int (nI w)), none], [.int (((nI j) + (f 2)) - 1)]))) rfl ?_
  rw [show (((nI j) + (f 2)) - 1 : Int32) = nI (j + z - 1) from by rw [hz, nI_add]; exact nI_m1 (by omega)]
  refine XV.run C okC_windowFigure 2 (q := (16, ([some (.ref (4)), some (.ref (5 + 3 + 5 * i)), some (.int (nI j)), some (.int (nI w)), some (.int (nI (j + z - 1)))], [.int (nI w)]))) rfl ?_
  refine XV.if_ne C (tgt := 29) (xlk_ok okC_windowFigure rfl) rfl (fun c1 => ?_) (fun c1 => ?_)
  ·
    have hw1 : w = 1 := by
      rcases (show w = 0 ∨ w = 1 by omega) with q | q
      · subst q; exact absurd rfl c1
      · exact q
    refine XV.run C okC_windowFigure 3 (q := (33, ([some (.ref (4)), some (.ref (5 + 3 + 5 * i)), some (.int (nI j)), some (.int (nI w)), some (.int (nI (j + z - 1)))], [.int (nI (j + z - 1)), .int (nI j), .ref (5 + 3 + 5 * i)]))) rfl ?_
    refine XV.callV C (As := [.int (nI j), .int (nI (j + z - 1))]) (rest := []) (ci := 2) (ct_R_sumOfBroken hfl (elev_ropeL cw_e (by omega) (hl i hi)) (by omega) (by omega) (i := j) (w := z) (b := j + z - 1) (rfl) (rfl) (by omega) (by omega) (hl i hi)) (xlk_ok okC_windowFigure rfl) rfl (by omega) (by omega) rfl ((elev_ropeL cw_e (by omega) (hl i hi)) 0 (by decide)) rfl wM_C_261 wI_R_sumOfBroken wV_R_sumOfBroken wN_R wB_R_sumOfBroken hy_R_sumOfBroken (fun q => q.elim) ⟨Nat.le_of_ble_eq_true rfl, Nat.le_of_ble_eq_true rfl⟩ ⟨Nat.le_of_ble_eq_true rfl, Nat.le_of_ble_eq_true rfl⟩ (Nat.le_of_ble_eq_true rfl) (fun r n h hp => ?_) (fun _ _ _ q => q.elim)
    obtain ⟨rfl, rfl, rfl⟩ := hp
    exact XV.iret C (xlk_ok okC_windowFigure rfl) hret rfl (Nat.le_of_ble_eq_true rfl) (Nat.le_of_ble_eq_true rfl) (⟨by subst hw1; rfl, rfl, rfl⟩)
  ·
    have hw1 : w = 0 := (nI_eq (b := 0) (by omega) (by omega)).mp c1
    refine XV.run C okC_windowFigure 3 (q := (23, ([some (.ref (4)), some (.ref (5 + 3 + 5 * i)), some (.int (nI j)), some (.int (nI w)), some (.int (nI (j + z - 1)))], [.int (nI (j + z - 1)), .int (nI j), .ref (5 + 3 + 5 * i)]))) rfl ?_
    refine XV.callV C (As := [.int (nI j), .int (nI (j + z - 1))]) (rest := []) (ci := 2) (ct_R_sumOfCounts hfl (elev_ropeL cw_e (by omega) (hl i hi)) (by omega) (by omega) (i := j) (w := z) (b := j + z - 1) (rfl) (rfl) (by omega) (by omega)) (xlk_ok okC_windowFigure rfl) rfl (by omega) (by omega) rfl ((elev_ropeL cw_e (by omega) (hl i hi)) 0 (by decide)) rfl wM_C_258 wI_R_sumOfCounts wV_R_sumOfCounts wN_R wB_R_sumOfCounts hy_R_sumOfCounts (fun q => q.elim) ⟨Nat.le_of_ble_eq_true rfl, Nat.le_of_ble_eq_true rfl⟩ ⟨Nat.le_of_ble_eq_true rfl, Nat.le_of_ble_eq_true rfl⟩ (Nat.le_of_ble_eq_true rfl) (fun r n h hp => ?_) (fun _ _ _ q => q.elim)
    obtain ⟨rfl, rfl, rfl⟩ := hp
    refine XV.run C okC_windowFigure 1 (q := (36, ([some (.ref (4)), some (.ref (5 + 3 + 5 * i)), some (.int (nI j)), some (.int (nI w)), some (.int (nI (j + z - 1)))], [.int (sumN (colR (rowOf f i) false) j z)]))) rfl ?_
    exact XV.iret C (xlk_ok okC_windowFigure rfl) hret rfl (Nat.le_of_ble_eq_true rfl) (Nat.le_of_ble_eq_true rfl) (⟨by subst hw1; rfl, rfl, rfl⟩)
set_option maxHeartbeats 4000000 in
set_option maxRecDepth 100000 in
theorem ct_C_countFigure {l : Launch} (hfl : l.stackTraces = false) {G : XG} {n : Nat} {h : XH} {f : Nat → Int32} {o kp : Nat} {P : Nat → Nat → Int32} {tx : Nat → Int32} {len : Nat} {p : PT} {ρ : Nat → Int32} (hn : 209 ≤ n) {k : Nat} (hm : f 1 = nI k) (hk : k ≤ 5) (hl : ∀ i, i < k → 0 < rowOf f i 0) {z : Nat} (hz : f 2 = nI z) (z1 : 1 ≤ z) (z2 : z ≤ 12) (ho : o < 6) (hkp : kp ≤ 6) {x : Int32} {w : Nat} (hx : x = nI w) (hw : w ≤ 8) : XCt l G False (Cond.code yC_countFigure bC_countFigure 2 (some .int)) yC_countFigure 6 128 0 0 [.ref (4), .int (x)] n (setCW h f o kp P tx len p ρ) (fun r' n' h' => r' = some (.int (countFigK f z k kp w)) ∧ n' = n ∧ h' = setCW h f o kp P tx len p ρ) (fun _ _ _ => False) := by
  subst hx
  have hrk := retK_le f z k
  refine XCt.of hfl (by decide +kernel) (Nat.le_of_ble_eq_true rfl) ?_
  intro p' e' s' m' g' b' t' c' C hret hname hnt hmd
  refine XV.run C okC_countFigure 1 (q := (1, ([some (.ref (4)), some (.int (nI w))], [.int (nI w)]))) rfl ?_
  rcases (show w = 0 ∨ w = 1 ∨ w = 2 ∨ w = 3 ∨ w = 4 ∨ w = 5 ∨ w = 6 ∨ w = 7 ∨ w = 8 by omega) with rfl | rfl | rfl | rfl | rfl | rfl | rfl | rfl | rfl
  ·
    refine XV.tabIn C (off := 47) (tgt := 48) (xlk_ok okC_countFigure rfl) (by decide) (by decide) rfl rfl ?_
    refine XV.run C okC_countFigure 1 (q := (49, ([some (.ref (4)), some (.int (nI 0))], [.ref (4)]))) rfl ?_
    refine XV.getf C (ci := 4) (kf := 0) (v := .ref (5)) (xlk_ok okC_countFigure rfl) rfl (by decide) wF_C_10 (by omega) (by omega) (cw_o) rfl ?_
    refine XV.getfN C (ci := 0) (kf := 3) (v := .int (f 0)) (xlk_ok okC_countFigure rfl) rfl (by decide) (List.mem_of_getElem? (i := 15) rfl) (by omega) (by omega) (cw_e 0 (by decide)) rfl ?_
    exact XV.iret C (xlk_ok okC_countFigure rfl) hret rfl (Nat.le_of_ble_eq_true rfl) (Nat.le_of_ble_eq_true rfl) (⟨rfl, rfl, rfl⟩)
  ·
    refine XV.tabIn C (off := 55) (tgt := 56) (xlk_ok okC_countFigure rfl) (by decide) (by decide) rfl rfl ?_
    refine XV.run C okC_countFigure 1 (q := (57, ([some (.ref (4)), some (.int (nI 1))], [.ref (4)]))) rfl ?_
    refine XV.getf C (ci := 4) (kf := 0) (v := .ref (5)) (xlk_ok okC_countFigure rfl) rfl (by decide) wF_C_10 (by omega) (by omega) (cw_o) rfl ?_
    refine XV.getfN C (ci := 0) (kf := 2) (v := .int (f 1)) (xlk_ok okC_countFigure rfl) rfl (by decide) (List.mem_of_getElem? (i := 14) rfl) (by omega) (by omega) (cw_e 0 (by decide)) rfl ?_
    exact XV.iret C (xlk_ok okC_countFigure rfl) hret rfl (Nat.le_of_ble_eq_true rfl) (Nat.le_of_ble_eq_true rfl) (⟨rfl, rfl, rfl⟩)
  ·
    refine XV.tabIn C (off := 63) (tgt := 64) (xlk_ok okC_countFigure rfl) (by decide) (by decide) rfl rfl ?_
    refine XV.run C okC_countFigure 1 (q := (65, ([some (.ref (4)), some (.int (nI 2))], [.ref (4)]))) rfl ?_
    refine XV.getf C (ci := 4) (kf := 0) (v := .ref (5)) (xlk_ok okC_countFigure rfl) rfl (by decide) wF_C_10 (by omega) (by omega) (cw_o) rfl ?_
    refine XV.callV C (As := []) (rest := []) (ci := 0) (ct_E_ropesToRetire hfl cw_e (by omega) (by omega) (k := k) (hm) (by omega) (hl) (z := z) (hz) (by omega) (by omega)) (xlk_ok okC_countFigure rfl) rfl (by omega) (by omega) rfl (cw_e 0 (by decide)) rfl wM_C_117 wI_E_ropesToRetire wV_E_ropesToRetire wN_E wB_E_ropesToRetire hy_E_ropesToRetire (fun q => q.elim) ⟨Nat.le_of_ble_eq_true rfl, Nat.le_of_ble_eq_true rfl⟩ ⟨Nat.le_of_ble_eq_true rfl, Nat.le_of_ble_eq_true rfl⟩ (Nat.le_of_ble_eq_true rfl) (fun r n h hp => ?_) (fun _ _ _ q => q.elim)
    obtain ⟨rfl, rfl, rfl⟩ := hp
    exact XV.iret C (xlk_ok okC_countFigure rfl) hret rfl (Nat.le_of_ble_eq_true rfl) (Nat.le_of_ble_eq_true rfl) (⟨rfl, rfl, rfl⟩)
  ·
    refine XV.tabIn C (off := 71) (tgt := 72) (xlk_ok okC_countFigure rfl) (by decide) (by decide) rfl rfl ?_
    refine XV.run C okC_countFigure 1 (q := (73, ([some (.ref (4)), some (.int (nI 3))], [.ref (4)]))) rfl ?_
    refine XV.getf C (ci := 4) (kf := 0) (v := .ref (5)) (xlk_ok okC_countFigure rfl) rfl (by decide) wF_C_10 (by omega) (by omega) (cw_o) rfl ?_
    refine XV.callV C (As := []) (rest := []) (ci := 0) (ct_E_canRun hfl cw_e (by omega) (by omega) (k := k) (hm) (by omega) (hl) (z := z) (hz) (by omega) (by omega)) (xlk_ok okC_countFigure rfl) rfl (by omega) (by omega) rfl (cw_e 0 (by decide)) rfl wM_C_230 wI_E_canRun wV_E_canRun wN_E wB_E_canRun hy_E_canRun (fun q => q.elim) ⟨Nat.le_of_ble_eq_true rfl, Nat.le_of_ble_eq_true rfl⟩ ⟨Nat.le_of_ble_eq_true rfl, Nat.le_of_ble_eq_true rfl⟩ (Nat.le_of_ble_eq_true rfl) (fun r n h hp => ?_) (fun _ _ _ q => q.elim)
    obtain ⟨rfl, rfl, rfl⟩ := hp
    refine XV.if_eq C (tgt := 86) (xlk_ok okC_countFigure rfl) rfl (fun c1 => ?_) (fun c1 => ?_)
    ·
      refine XV.run C okC_countFigure 1 (q := (87, ([some (.ref (4)), some (.int (nI 3))], [.int (0)]))) rfl ?_
      exact XV.iret C (xlk_ok okC_countFigure rfl) hret rfl (Nat.le_of_ble_eq_true rfl) (Nat.le_of_ble_eq_true rfl) (⟨by show _ = some (Value.int (if _ then _ else _)); first | rw [if_pos c1] | rw [if_neg c1], rfl, rfl⟩)
    ·
      refine XV.run C okC_countFigure 2 (q := (87, ([some (.ref (4)), some (.int (nI 3))], [.int (1)]))) rfl ?_
      exact XV.iret C (xlk_ok okC_countFigure rfl) hret rfl (Nat.le_of_ble_eq_true rfl) (Nat.le_of_ble_eq_true rfl) (⟨by show _ = some (Value.int (if _ then _ else _)); first | rw [if_pos c1] | rw [if_neg c1], rfl, rfl⟩)
  ·
    refine XV.tabIn C (off := 87) (tgt := 88) (xlk_ok okC_countFigure rfl) (by decide) (by decide) rfl rfl ?_
    refine XV.run C okC_countFigure 1 (q := (89, ([some (.ref (4)), some (.int (nI 4))], [.ref (4)]))) rfl ?_
    refine XV.getf C (ci := 4) (kf := 0) (v := .ref (5)) (xlk_ok okC_countFigure rfl) rfl (by decide) wF_C_10 (by omega) (by omega) (cw_o) rfl ?_
    refine XV.getfN C (ci := 0) (kf := 4) (v := .int (f 7)) (xlk_ok okC_countFigure rfl) rfl (by decide) (List.mem_of_getElem? (i := 16) rfl) (by omega) (by omega) (cw_e 0 (by decide)) rfl ?_
    exact XV.iret C (xlk_ok okC_countFigure rfl) hret rfl (Nat.le_of_ble_eq_true rfl) (Nat.le_of_ble_eq_true rfl) (⟨rfl, rfl, rfl⟩)
  ·
    refine XV.tabIn C (off := 95) (tgt := 96) (xlk_ok okC_countFigure rfl) (by decide) (by decide) rfl rfl ?_
    refine XV.run C okC_countFigure 1 (q := (97, ([some (.ref (4)), some (.int (nI 5))], [.ref (4)]))) rfl ?_
    refine XV.getf C (ci := 4) (kf := 0) (v := .ref (5)) (xlk_ok okC_countFigure rfl) rfl (by decide) wF_C_10 (by omega) (by omega) (cw_o) rfl ?_
    refine XV.getfN C (ci := 0) (kf := 5) (v := .int (f 8)) (xlk_ok okC_countFigure rfl) rfl (by decide) (List.mem_of_getElem? (i := 17) rfl) (by omega) (by omega) (cw_e 0 (by decide)) rfl ?_
    exact XV.iret C (xlk_ok okC_countFigure rfl) hret rfl (Nat.le_of_ble_eq_true rfl) (Nat.le_of_ble_eq_true rfl) (⟨rfl, rfl, rfl⟩)
  ·
    refine XV.tabIn C (off := 103) (tgt := 104) (xlk_ok okC_countFigure rfl) (by decide) (by decide) rfl rfl ?_
    refine XV.run C okC_countFigure 1 (q := (105, ([some (.ref (4)), some (.int (nI 6))], [.ref (4)]))) rfl ?_
    refine XV.getf C (ci := 4) (kf := 0) (v := .ref (5)) (xlk_ok okC_countFigure rfl) rfl (by decide) wF_C_10 (by omega) (by omega) (cw_o) rfl ?_
    refine XV.getfN C (ci := 0) (kf := 6) (v := .int (f 9)) (xlk_ok okC_countFigure rfl) rfl (by decide) (List.mem_of_getElem? (i := 18) rfl) (by omega) (by omega) (cw_e 0 (by decide)) rfl ?_
    exact XV.iret C (xlk_ok okC_countFigure rfl) hret rfl (Nat.le_of_ble_eq_true rfl) (Nat.le_of_ble_eq_true rfl) (⟨rfl, rfl, rfl⟩)
  ·
    refine XV.tabIn C (off := 111) (tgt := 112) (xlk_ok okC_countFigure rfl) (by decide) (by decide) rfl rfl ?_
    refine XV.run C okC_countFigure 1 (q := (113, ([some (.ref (4)), some (.int (nI 7))], [.ref (4)]))) rfl ?_
    refine XV.getf C (ci := 4) (kf := 0) (v := .ref (5)) (xlk_ok okC_countFigure rfl) rfl (by decide) wF_C_10 (by omega) (by omega) (cw_o) rfl ?_
    refine XV.callV C (As := []) (rest := []) (ci := 0) (ct_E_brokenOfRopes hfl cw_e (by omega) (by omega) (k := k) (hm) (by omega) (hl)) (xlk_ok okC_countFigure rfl) rfl (by omega) (by omega) rfl (cw_e 0 (by decide)) rfl wM_C_264 wI_E_brokenOfRopes wV_E_brokenOfRopes wN_E wB_E_brokenOfRopes hy_E_brokenOfRopes (fun q => q.elim) ⟨Nat.le_of_ble_eq_true rfl, Nat.le_of_ble_eq_true rfl⟩ ⟨Nat.le_of_ble_eq_true rfl, Nat.le_of_ble_eq_true rfl⟩ (Nat.le_of_ble_eq_true rfl) (fun r n h hp => ?_) (fun _ _ _ q => q.elim)
    obtain ⟨rfl, rfl, rfl⟩ := hp
    refine XV.run C okC_countFigure 1 (q := (120, ([some (.ref (4)), some (.int (nI 7))], [.ref (4), .int (sumRK f true k)]))) rfl ?_
    refine XV.getf C (ci := 4) (kf := 0) (v := .ref (5)) (xlk_ok okC_countFigure rfl) rfl (by decide) wF_C_10 (by omega) (by omega) (cw_o) rfl ?_
    refine XV.callV C (As := []) (rest := [.int (sumRK f true k)]) (ci := 0) (ct_E_countsOfRopes hfl cw_e (by omega) (by omega) (k := k) (hm) (by omega) (hl)) (xlk_ok okC_countFigure rfl) rfl (by omega) (by omega) rfl (cw_e 0 (by decide)) rfl wM_C_267 wI_E_countsOfRopes wV_E_countsOfRopes wN_E wB_E_countsOfRopes hy_E_countsOfRopes (fun q => q.elim) ⟨Nat.le_of_ble_eq_true rfl, Nat.le_of_ble_eq_true rfl⟩ ⟨Nat.le_of_ble_eq_true rfl, Nat.le_of_ble_eq_true rfl⟩ (Nat.le_of_ble_eq_true rfl) (fun r n h hp => ?_) (fun _ _ _ q => q.elim)
    obtain ⟨rfl, rfl, rfl⟩ := hp
    refine XV.run C okC_countFigure 1 (q := (127, ([some (.ref (4)), some (.int (nI 7))], [.int ((sumRK f true k) - (sumRK f false k))]))) rfl ?_
    exact XV.iret C (xlk_ok okC_countFigure rfl) hret rfl (Nat.le_of_ble_eq_true rfl) (Nat.le_of_ble_eq_true rfl) (⟨rfl, rfl, rfl⟩)
  ·
    refine XV.tabOut C (tgt := 128) (xlk_ok okC_countFigure rfl) (by decide) rfl ?_
    refine XV.run C okC_countFigure 1 (q := (129, ([some (.ref (4)), some (.int (nI 8))], [.ref (4)]))) rfl ?_
    refine XV.getf C (ci := 4) (kf := 1) (v := .ref (33)) (xlk_ok okC_countFigure rfl) rfl (by decide) wF_C_19 (by omega) (by omega) (cw_o) rfl ?_
    refine XV.getfN C (ci := 1) (kf := 2) (v := .int (nI kp)) (xlk_ok okC_countFigure rfl) rfl (by decide) (List.mem_of_getElem? (i := 19) rfl) (by omega) (by omega) (cw_h 0 (by decide)) rfl ?_
    exact XV.iret C (xlk_ok okC_countFigure rfl) hret rfl (Nat.le_of_ble_eq_true rfl) (Nat.le_of_ble_eq_true rfl) (⟨rfl, rfl, rfl⟩)
set_option maxHeartbeats 4000000 in
set_option maxRecDepth 100000 in
theorem ct_C_reasonIfInspected {l : Launch} (hfl : l.stackTraces = false) {G : XG} {n : Nat} {h : XH} {f : Nat → Int32} {o kp : Nat} {P : Nat → Nat → Int32} {tx : Nat → Int32} {len : Nat} {p : PT} {ρ : Nat → Int32} (hn : 209 ≤ n) {k : Nat} (hm : f 1 = nI k) (hk : k ≤ 5) (hl : ∀ i, i < k → 0 < rowOf f i 0) {i : Nat} (hi : i < k) {z : Nat} (hz : f 2 = nI z) (z1 : 1 ≤ z) (z2 : z ≤ 12) {x y : Int32} {j w b : Nat} (hx : x = nI j) (hy : y = nI b) (hb : b < 24) (hw : j + w = b + 1) : XCt l G False (Cond.code yC_reasonIfInspected bC_reasonIfInspected 4 (some .int)) yC_reasonIfInspected 4 85 0 0 [.ref (4), .ref (5 + 3 + 5 * i), .int (x), .int (y)] n (setCW h f o kp P tx len p ρ) (fun r' n' h' => r' = some (.int (reasonK f (rLook (rowOf f i) j w (f 0)) z)) ∧ n' = n ∧ h' = setCW h f o kp P tx len p (rLook (rowOf f i) j w (f 0))) (fun _ _ _ => False) := by
  subst hx; subst hy
  refine XCt.of hfl (by decide +kernel) (Nat.le_of_ble_eq_true rfl) ?_
  intro p' e' s' m' g' b' t' c' C hret hname hnt hmd
  refine XV.run C okC_reasonIfInspected 1 (q := (1, ([some (.ref (4)), some (.ref (5 + 3 + 5 * i)), some (.int (nI j)), some (.int (nI b))], [.ref (4)]))) rfl ?_
  refine XV.getf C (ci := 4) (kf := 3) (v := .ref (208)) (xlk_ok okC_reasonIfInspected rfl) rfl (by decide) wF_C_33 (by omega) (by omega) (cw_o) rfl ?_
  refine XV.run C okC_reasonIfInspected 1 (q := (5, ([some (.ref (4)), some (.ref (5 + 3 + 5 * i)), some (.int (nI j)), some (.int (nI b))], [.ref (5 + 3 + 5 * i), .ref (208)]))) rfl ?_
  refine XV.callV C (As := [.ref (5 + 3 + 5 * i)]) (rest := []) (ci := 2) (ct_R_copyFrom hfl cw_r (by omega) (by omega) (elev_ropeL cw_e (by omega) (hl i hi)) (by omega) (by omega) (by omega)) (xlk_ok okC_reasonIfInspected rfl) rfl (by omega) (by omega) rfl (cw_r 0 (by decide)) rfl wM_C_270 wI_R_copyFrom wV_R_copyFrom wN_R wB_R_copyFrom hy_R_copyFrom (fun q => q.elim) ⟨Nat.le_of_ble_eq_true rfl, Nat.le_of_ble_eq_true rfl⟩ ⟨Nat.le_of_ble_eq_true rfl, Nat.le_of_ble_eq_true rfl⟩ (Nat.le_of_ble_eq_true rfl) (fun r n h hp => ?_) (fun _ _ _ q => q.elim)
  obtain ⟨rfl, rfl, rfl⟩ := hp
  refine XV.cast (cw_setR _) ?_
  refine XV.run C okC_reasonIfInspected 1 (q := (9, ([some (.ref (4)), some (.ref (5 + 3 + 5 * i)), some (.int (nI j)), some (.int (nI b))], [.ref (4)]))) rfl ?_
  refine XV.getf C (ci := 4) (kf := 3) (v := .ref (208)) (xlk_ok okC_reasonIfInspected rfl) rfl (by decide) wF_C_33 (by omega) (by omega) (cw_o) rfl ?_
  refine XV.run C okC_reasonIfInspected 3 (q := (15, ([some (.ref (4)), some (.ref (5 + 3 + 5 * i)), some (.int (nI j)), some (.int (nI b))], [.ref (4), .int (nI b), .int (nI j), .ref (208)]))) rfl ?_
  refine XV.getf C (ci := 4) (kf := 0) (v := .ref (5)) (xlk_ok okC_reasonIfInspected rfl) rfl (by decide) wF_C_10 (by omega) (by omega) (cw_o) rfl ?_
  refine XV.getfN C (ci := 0) (kf := 3) (v := .int (f 0)) (xlk_ok okC_reasonIfInspected rfl) rfl (by decide) (List.mem_of_getElem? (i := 15) rfl) (by omega) (by omega) (cw_e 0 (by decide)) rfl ?_
  refine XV.callV C (As := [.int (nI j), .int (nI b), .int (f 0)]) (rest := []) (ci := 2) (ct_R_lookAt hfl cw_r (by omega) (by omega) (i := j) (w := w) (b := b) (rfl) (rfl) (by omega) (by omega) (f 0) (hl i hi)) (xlk_ok okC_reasonIfInspected rfl) rfl (by omega) (by omega) rfl (cw_r 0 (by decide)) rfl wM_C_87 wI_R_lookAt wV_R_lookAt wN_R wB_R_lookAt hy_R_lookAt (fun q => q.elim) ⟨Nat.le_of_ble_eq_true rfl, Nat.le_of_ble_eq_true rfl⟩ ⟨Nat.le_of_ble_eq_true rfl, Nat.le_of_ble_eq_true rfl⟩ (Nat.le_of_ble_eq_true rfl) (fun r n h hp => ?_) (fun _ _ _ q => q.elim)
  obtain ⟨rfl, rfl, rfl⟩ := hp
  refine XV.cast (cw_setR _) ?_
  refine XV.run C okC_reasonIfInspected 1 (q := (25, ([some (.ref (4)), some (.ref (5 + 3 + 5 * i)), some (.int (nI j)), some (.int (nI b))], [.ref (4)]))) rfl ?_
  refine XV.getf C (ci := 4) (kf := 0) (v := .ref (5)) (xlk_ok okC_reasonIfInspected rfl) rfl (by decide) wF_C_10 (by omega) (by omega) (cw_o) rfl ?_
  refine XV.run C okC_reasonIfInspected 1 (q := (29, ([some (.ref (4)), some (.ref (5 + 3 + 5 * i)), some (.int (nI j)), some (.int (nI b))], [.ref (4), .ref (5)]))) rfl ?_
  refine XV.getf C (ci := 4) (kf := 3) (v := .ref (208)) (xlk_ok okC_reasonIfInspected rfl) rfl (by decide) wF_C_33 (by omega) (by omega) (cw_o) rfl ?_
  refine XV.callV C (As := [.ref (208)]) (rest := []) (ci := 0) (ct_E_reasonFor hfl cw_e (by omega) (by omega) cw_r (by omega) (by omega) (z := z) (hz) (by omega) (by omega)) (xlk_ok okC_reasonIfInspected rfl) rfl (by omega) (by omega) rfl (cw_e 0 (by decide)) rfl wM_C_251 wI_E_reasonFor wV_E_reasonFor wN_E wB_E_reasonFor hy_E_reasonFor (fun q => q.elim) ⟨Nat.le_of_ble_eq_true rfl, Nat.le_of_ble_eq_true rfl⟩ ⟨Nat.le_of_ble_eq_true rfl, Nat.le_of_ble_eq_true rfl⟩ (Nat.le_of_ble_eq_true rfl) (fun r n h hp => ?_) (fun _ _ _ q => q.elim)
  obtain ⟨rfl, rfl, rfl⟩ := hp
  exact XV.iret C (xlk_ok okC_reasonIfInspected rfl) hret rfl (Nat.le_of_ble_eq_true rfl) (Nat.le_of_ble_eq_true rfl) (⟨rfl, rfl, rfl⟩)
set_option maxHeartbeats 4000000 in
set_option maxRecDepth 100000 in
theorem ct_C_reachesLimit {l : Launch} (hfl : l.stackTraces = false) {G : XG} {n : Nat} {h : XH} {f : Nat → Int32} {o kp : Nat} {P : Nat → Nat → Int32} {tx : Nat → Int32} {len : Nat} {p : PT} {ρ : Nat → Int32} (hn : 209 ≤ n) {k : Nat} (hm : f 1 = nI k) (hk : k ≤ 5) (hl : ∀ i, i < k → 0 < rowOf f i 0) {i : Nat} (hi : i < k) {z : Nat} (hz : f 2 = nI z) (z1 : 1 ≤ z) (z2 : z ≤ 12) (t : Int32) : XCt l G False (Cond.code yC_reachesLimit bC_reachesLimit 3 (some .boolean)) yC_reachesLimit 3 68 0 0 [.ref (4), .ref (5 + 3 + 5 * i), .int (t)] n (setCW h f o kp P tx len p ρ) (fun r' n' h' => r' = some (.int (if rchK f (rowOf f i) z t then 1 else 0)) ∧ n' = n ∧ h' = setCW h f o kp P tx len p (rBendT (rowOf f i) 0 24 t)) (fun _ _ _ => False) := by
  refine XCt.of hfl (by decide +kernel) (Nat.le_of_ble_eq_true rfl) ?_
  intro p' e' s' m' g' b' t' c' C hret hname hnt hmd
  refine XV.run C okC_reachesLimit 1 (q := (1, ([some (.ref (4)), some (.ref (5 + 3 + 5 * i)), some (.int (t))], [.ref (4)]))) rfl ?_
  refine XV.getf C (ci := 4) (kf := 3) (v := .ref (208)) (xlk_ok okC_reachesLimit rfl) rfl (by decide) wF_C_33 (by omega) (by omega) (cw_o) rfl ?_
  refine XV.run C okC_reachesLimit 1 (q := (5, ([some (.ref (4)), some (.ref (5 + 3 + 5 * i)), some (.int (t))], [.ref (5 + 3 + 5 * i), .ref (208)]))) rfl ?_
  refine XV.callV C (As := [.ref (5 + 3 + 5 * i)]) (rest := []) (ci := 2) (ct_R_copyFrom hfl cw_r (by omega) (by omega) (elev_ropeL cw_e (by omega) (hl i hi)) (by omega) (by omega) (by omega)) (xlk_ok okC_reachesLimit rfl) rfl (by omega) (by omega) rfl (cw_r 0 (by decide)) rfl wM_C_270 wI_R_copyFrom wV_R_copyFrom wN_R wB_R_copyFrom hy_R_copyFrom (fun q => q.elim) ⟨Nat.le_of_ble_eq_true rfl, Nat.le_of_ble_eq_true rfl⟩ ⟨Nat.le_of_ble_eq_true rfl, Nat.le_of_ble_eq_true rfl⟩ (Nat.le_of_ble_eq_true rfl) (fun r n h hp => ?_) (fun _ _ _ q => q.elim)
  obtain ⟨rfl, rfl, rfl⟩ := hp
  refine XV.cast (cw_setR _) ?_
  refine XV.run C okC_reachesLimit 1 (q := (9, ([some (.ref (4)), some (.ref (5 + 3 + 5 * i)), some (.int (t))], [.ref (4)]))) rfl ?_
  refine XV.getf C (ci := 4) (kf := 3) (v := .ref (208)) (xlk_ok okC_reachesLimit rfl) rfl (by decide) wF_C_33 (by omega) (by omega) (cw_o) rfl ?_
  refine XV.run C okC_reachesLimit 3 (q := (16, ([some (.ref (4)), some (.ref (5 + 3 + 5 * i)), some (.int (t))], [.int (t), .int (23), .int (0), .ref (208)]))) rfl ?_
  refine XV.callV C (As := [.int (0), .int (23), .int (t)]) (rest := []) (ci := 2) (ct_R_bend hfl cw_r (by omega) (by omega) (i := 0) (w := 24) (b := 23) (rfl) (rfl) (by omega) (by omega) (t)) (xlk_ok okC_reachesLimit rfl) rfl (by omega) (by omega) rfl (cw_r 0 (by decide)) rfl wM_C_278 wI_R_bend wV_R_bend wN_R wB_R_bend hy_R_bend (fun q => q.elim) ⟨Nat.le_of_ble_eq_true rfl, Nat.le_of_ble_eq_true rfl⟩ ⟨Nat.le_of_ble_eq_true rfl, Nat.le_of_ble_eq_true rfl⟩ (Nat.le_of_ble_eq_true rfl) (fun r n h hp => ?_) (fun _ _ _ q => q.elim)
  obtain ⟨rfl, rfl, rfl⟩ := hp
  refine XV.cast (cw_setR _) ?_
  refine XV.run C okC_reachesLimit 1 (q := (20, ([some (.ref (4)), some (.ref (5 + 3 + 5 * i)), some (.int (t))], [.ref (4)]))) rfl ?_
  refine XV.getf C (ci := 4) (kf := 3) (v := .ref (208)) (xlk_ok okC_reachesLimit rfl) rfl (by decide) wF_C_33 (by omega) (by omega) (cw_o) rfl ?_
  refine XV.run C okC_reachesLimit 1 (q := (24, ([some (.ref (4)), some (.ref (5 + 3 + 5 * i)), some (.int (t))], [.ref (4), .ref (208)]))) rfl ?_
  refine XV.getf C (ci := 4) (kf := 0) (v := .ref (5)) (xlk_ok okC_reachesLimit rfl) rfl (by decide) wF_C_10 (by omega) (by omega) (cw_o) rfl ?_
  refine XV.getfN C (ci := 0) (kf := 0) (v := .ref (5 + 1)) (xlk_ok okC_reachesLimit rfl) rfl (by decide) (List.mem_of_getElem? (i := 13) rfl) (by omega) (by omega) (cw_e 0 (by decide)) rfl ?_
  refine XV.run C okC_reachesLimit 1 (q := (31, ([some (.ref (4)), some (.ref (5 + 3 + 5 * i)), some (.int (t))], [.int (0), .ref (5 + 1), .ref (208)]))) rfl ?_
  refine XV.ialdC C (N := 5) (f := (fun i => f (2 + i))) (a := 0) (xlk_ok okC_reachesLimit rfl) (by omega) (by omega) (cw_e 1 (by decide)) (rfl) (by decide) (by decide) ?_
  refine XV.callV C (As := [.int (f 2)]) (rest := []) (ci := 2) (ct_R_greatestBroken hfl cw_r (by omega) (by omega) (z := z) (hz) (by omega) (by omega) (by rw [rBendT_0]; exact hl i hi)) (xlk_ok okC_reachesLimit rfl) rfl (by omega) (by omega) rfl (cw_r 0 (by decide)) rfl wM_C_248 wI_R_greatestBroken wV_R_greatestBroken wN_R wB_R_greatestBroken hy_R_greatestBroken (fun q => q.elim) ⟨Nat.le_of_ble_eq_true rfl, Nat.le_of_ble_eq_true rfl⟩ ⟨Nat.le_of_ble_eq_true rfl, Nat.le_of_ble_eq_true rfl⟩ (Nat.le_of_ble_eq_true rfl) (fun r n h hp => ?_) (fun _ _ _ q => q.elim)
  obtain ⟨rfl, rfl, rfl⟩ := hp
  refine XV.run C okC_reachesLimit 1 (q := (36, ([some (.ref (4)), some (.ref (5 + 3 + 5 * i)), some (.int (t))], [.ref (4), .int (gmx (winS (rBendT (rowOf f i) 0 24 t) true z) (25 - z))]))) rfl ?_
  refine XV.getf C (ci := 4) (kf := 0) (v := .ref (5)) (xlk_ok okC_reachesLimit rfl) rfl (by decide) wF_C_10 (by omega) (by omega) (cw_o) rfl ?_
  refine XV.getfN C (ci := 0) (kf := 0) (v := .ref (5 + 1)) (xlk_ok okC_reachesLimit rfl) rfl (by decide) (List.mem_of_getElem? (i := 13) rfl) (by omega) (by omega) (cw_e 0 (by decide)) rfl ?_
  refine XV.run C okC_reachesLimit 1 (q := (43, ([some (.ref (4)), some (.ref (5 + 3 + 5 * i)), some (.int (t))], [.int (1), .ref (5 + 1), .int (gmx (winS (rBendT (rowOf f i) 0 24 t) true z) (25 - z))]))) rfl ?_
  refine XV.ialdC C (N := 5) (f := (fun i => f (2 + i))) (a := 1) (xlk_ok okC_reachesLimit rfl) (by omega) (by omega) (cw_e 1 (by decide)) (rfl) (by decide) (by decide) ?_
  refine XV.icmp_lt C (tgt := 51) (xlk_ok okC_reachesLimit rfl) rfl (fun c1 => ?_) (fun c1 => ?_)
  ·
    refine XV.run C okC_reachesLimit 1 (q := (52, ([some (.ref (4)), some (.ref (5 + 3 + 5 * i)), some (.int (t))], [.int (0)]))) rfl ?_
    exact XV.iret C (xlk_ok okC_reachesLimit rfl) hret (rfl) (Nat.le_of_ble_eq_true rfl) (Nat.le_of_ble_eq_true rfl) (⟨by rw [show rchK f (rowOf f i) z t = false from decide_eq_false (Int32.not_le.mpr c1)]; rfl, rfl, rfl⟩)
  ·
    refine XV.run C okC_reachesLimit 2 (q := (52, ([some (.ref (4)), some (.ref (5 + 3 + 5 * i)), some (.int (t))], [.int (1)]))) rfl ?_
    exact XV.iret C (xlk_ok okC_reachesLimit rfl) hret (rfl) (Nat.le_of_ble_eq_true rfl) (Nat.le_of_ble_eq_true rfl) (⟨by rw [show rchK f (rowOf f i) z t = true from decide_eq_true (Int32.not_lt.mp c1)]; rfl, rfl, rfl⟩)
set_option maxHeartbeats 4000000 in
set_option maxRecDepth 100000 in
theorem ct_C_tripsToLimit {l : Launch} (hfl : l.stackTraces = false) {G : XG} {n : Nat} {h : XH} {f : Nat → Int32} {o kp : Nat} {P : Nat → Nat → Int32} {tx : Nat → Int32} {len : Nat} {p : PT} {ρ : Nat → Int32} (hn : 209 ≤ n) {k : Nat} (hm : f 1 = nI k) (hk : k ≤ 5) (hl : ∀ i, i < k → 0 < rowOf f i 0) {i : Nat} (hi : i < k) {z : Nat} (hz : f 2 = nI z) (z1 : 1 ≤ z) (z2 : z ≤ 12) : XCt l G False (Cond.code yC_tripsToLimit bC_tripsToLimit 6 (some .int)) yC_tripsToLimit 4 90 0 0 [.ref (4), .ref (5 + 3 + 5 * i)] n (setCW h f o kp P tx len p ρ) (fun r' n' h' => r' = some (.int (tlK f (rowOf f i) z 32 0 (f 3 * rowOf f i 0))) ∧ n' = n ∧ ∃ ρ', h' = setCW h f o kp P tx len p ρ') (fun _ _ _ => False) := by
  refine XCt.of hfl (by decide +kernel) (Nat.le_of_ble_eq_true rfl) ?_
  intro p' e' s' m' g' b' t' c' C hret hname hnt hmd
  refine XV.run C okC_tripsToLimit 3 (q := (3, ([some (.ref (4)), some (.ref (5 + 3 + 5 * i)), some (.int (0)), none, none, none], [.ref (4)]))) rfl ?_
  refine XV.getf C (ci := 4) (kf := 0) (v := .ref (5)) (xlk_ok okC_tripsToLimit rfl) rfl (by decide) wF_C_10 (by omega) (by omega) (cw_o) rfl ?_
  refine XV.getfN C (ci := 0) (kf := 0) (v := .ref (5 + 1)) (xlk_ok okC_tripsToLimit rfl) rfl (by decide) (List.mem_of_getElem? (i := 13) rfl) (by omega) (by omega) (cw_e 0 (by decide)) rfl ?_
  refine XV.run C okC_tripsToLimit 1 (q := (10, ([some (.ref (4)), some (.ref (5 + 3 + 5 * i)), some (.int (0)), none, none, none], [.int (1), .ref (5 + 1)]))) rfl ?_
  refine XV.ialdC C (N := 5) (f := (fun i => f (2 + i))) (a := 1) (xlk_ok okC_tripsToLimit rfl) (by omega) (by omega) (cw_e 1 (by decide)) (rfl) (by decide) (by decide) ?_
  refine XV.run C okC_tripsToLimit 1 (q := (12, ([some (.ref (4)), some (.ref (5 + 3 + 5 * i)), some (.int (0)), none, none, none], [.ref (5 + 3 + 5 * i), .int (f 3)]))) rfl ?_
  refine XV.getfN C (ci := 2) (kf := 4) (v := .int ((rowOf f i) 0)) (xlk_ok okC_tripsToLimit rfl) rfl (by decide) (List.mem_of_getElem? (i := 10) rfl) (by omega) (by omega) ((elev_ropeL cw_e (by omega) (hl i hi)) 0 (by decide)) rfl ?_
  refine XV.run C okC_tripsToLimit 4 (q := (20, ([some (.ref (4)), some (.ref (5 + 3 + 5 * i)), some (.int (0)), some (.int ((f 3) * ((rowOf f i) 0))), some (.int (0)), none], []))) rfl ?_
  obtain ⟨V, hV⟩ : ∃ V, V = tlK f (rowOf f i) z 32 0 (f 3 * rowOf f i 0) := ⟨_, rfl⟩
  rw [← hV]
  have loop : ∀ (d j : Nat) (lo hg : Int32) (σ : Nat → Int32), j + d = 32 → tlK f (rowOf f i) z d lo hg = V → XV G 6 p' l e' ({ frames := 4, cells := 0, slots := 0, locals := 90 } : Room) s' m' g' b' t' c' (XEnd G b' (fun r' n' h' => r' = some (.int (V)) ∧ n' = n ∧ ∃ ρ', h' = setCW h f o kp P tx len p ρ') (fun _ _ _ => False) g' s' 0 0) 20 [some (.ref (4)), some (.ref (5 + 3 + 5 * i)), some (.int (lo)), some (.int (hg)), some (.int (nI j)), none] [] n (setCW h f o kp P tx len p σ) 0 0 := by
    intro d
    induction d with
    | zero =>
      intro j lo hg σ hj hv
      refine XV.run C okC_tripsToLimit 2 (q := (24, ([some (.ref (4)), some (.ref (5 + 3 + 5 * i)), some (.int (lo)), some (.int (hg)), some (.int (nI j)), none], [.int (32), .int (nI j)]))) rfl ?_
      refine XV.icmp_ge C (tgt := 66) (xlk_ok okC_tripsToLimit rfl) rfl (fun _ => ?_) (fun hc => absurd (nI_le (a := 32) (by omega) (by omega)) hc)
      refine XV.run C okC_tripsToLimit 1 (q := (67, ([some (.ref (4)), some (.ref (5 + 3 + 5 * i)), some (.int (lo)), some (.int (hg)), some (.int (nI j)), none], [.int (lo)]))) rfl ?_
      exact XV.iret C (xlk_ok okC_tripsToLimit rfl) hret rfl (Nat.le_of_ble_eq_true rfl) (Nat.le_of_ble_eq_true rfl) (⟨by first | rw [hv1] | rw [← hv]; rfl, rfl, _, rfl⟩)
    | succ d ih =>
      intro j lo hg σ hj hv
      refine XV.run C okC_tripsToLimit 2 (q := (24, ([some (.ref (4)), some (.ref (5 + 3 + 5 * i)), some (.int (lo)), some (.int (hg)), some (.int (nI j)), none], [.int (32), .int (nI j)]))) rfl ?_
      refine XV.icmp_ge C (tgt := 66) (xlk_ok okC_tripsToLimit rfl) rfl (fun hc => absurd hc (nI_ge (b := 32) (by omega) (by omega))) (fun _ => ?_)
      refine XV.run C okC_tripsToLimit 2 (q := (29, ([some (.ref (4)), some (.ref (5 + 3 + 5 * i)), some (.int (lo)), some (.int (hg)), some (.int (nI j)), none], [.int (hg), .int (lo)]))) rfl ?_
      refine XV.icmp_ge C (tgt := 66) (xlk_ok okC_tripsToLimit rfl) rfl (fun c1 => ?_) (fun c1 => ?_)
      ·
        have hv1 : lo = V := by rw [← hv]; exact (if_neg (Int32.not_lt.mpr c1)).symm
        refine XV.run C okC_tripsToLimit 1 (q := (67, ([some (.ref (4)), some (.ref (5 + 3 + 5 * i)), some (.int (lo)), some (.int (hg)), some (.int (nI j)), none], [.int (lo)]))) rfl ?_
        exact XV.iret C (xlk_ok okC_tripsToLimit rfl) hret rfl (Nat.le_of_ble_eq_true rfl) (Nat.le_of_ble_eq_true rfl) (⟨by first | rw [hv1] | rw [← hv]; rfl, rfl, _, rfl⟩)
      ·
        have c1 : lo < hg := Int32.not_le.mp c1
        refine XV.run C okC_tripsToLimit 4 (q := (36, ([some (.ref (4)), some (.ref (5 + 3 + 5 * i)), some (.int (lo)), some (.int (hg)), some (.int (nI j)), none], [.int (2), .int (lo + hg)]))) rfl ?_
        refine XV.idiv C (xlk_ok okC_tripsToLimit rfl) (by decide) ?_
        refine XV.run C okC_tripsToLimit 4 (q := (43, ([some (.ref (4)), some (.ref (5 + 3 + 5 * i)), some (.int (lo)), some (.int (hg)), some (.int (nI j)), some (.int ((lo + hg) / 2))], [.int ((lo + hg) / 2), .ref (5 + 3 + 5 * i), .ref (4)]))) rfl ?_
        refine XV.callV C (As := [.ref (5 + 3 + 5 * i), .int ((lo + hg) / 2)]) (rest := []) (ci := 4) (ct_C_reachesLimit hfl hn hm hk hl (i := i) hi hz z1 z2 ((lo + hg) / 2)) (xlk_ok okC_tripsToLimit rfl) rfl (by omega) (by omega) rfl (cw_o) rfl wM_C_274 wI_C_reachesLimit wV_C_reachesLimit wN_C wB_C_reachesLimit hy_C_reachesLimit (fun q => q.elim) ⟨Nat.le_of_ble_eq_true rfl, Nat.le_of_ble_eq_true rfl⟩ ⟨Nat.le_of_ble_eq_true rfl, Nat.le_of_ble_eq_true rfl⟩ (Nat.le_of_ble_eq_true rfl) (fun r n h hp => ?_) (fun _ _ _ q => q.elim)
        obtain ⟨rfl, rfl, rfl⟩ := hp
        refine XV.if_eq C (tgt := 55) (xlk_ok okC_tripsToLimit rfl) rfl (fun c2 => ?_) (fun c2 => ?_)
        ·
          have hv2 : tlK f (rowOf f i) z d ((lo + hg) / 2 + 1) hg = V := by rw [← hv]; show _ = if _ then (if _ then _ else _) else _; rw [if_pos c1, if1_0 c2]; rfl
          refine XV.run C okC_tripsToLimit 6 (q := (20, ([some (.ref (4)), some (.ref (5 + 3 + 5 * i)), some (.int (((lo + hg) / 2) + 1)), some (.int (hg)), some (.int ((nI j) + 1)), some (.int ((lo + hg) / 2))], []))) rfl ?_
          rw [nI_1]
          exact XV.drop (ih (j + 1) _ _ _ (by omega) hv2) rfl (by simp [xle])
        ·
          have hv2 : tlK f (rowOf f i) z d lo ((lo + hg) / 2) = V := by rw [← hv]; show _ = if _ then (if _ then _ else _) else _; rw [if_pos c1, if1_1 c2]; rfl
          refine XV.run C okC_tripsToLimit 5 (q := (20, ([some (.ref (4)), some (.ref (5 + 3 + 5 * i)), some (.int (lo)), some (.int ((lo + hg) / 2)), some (.int ((nI j) + 1)), some (.int ((lo + hg) / 2))], []))) rfl ?_
          rw [nI_1]
          exact XV.drop (ih (j + 1) _ _ _ (by omega) hv2) rfl (by simp [xle])
  exact loop 32 0 0 _ ρ (by omega) hV.symm
end
section
/-! RopeThreads: the calls -/
set_option maxHeartbeats 4000000 in
set_option maxRecDepth 100000 in
theorem ct_C_requireTripsAllowed {l : Launch} (hfl : l.stackTraces = false) {G : XG} {n : Nat} {h : XH} {f : Nat → Int32} {o kp : Nat} {P : Nat → Nat → Int32} {tx : Nat → Int32} {len : Nat} {p : PT} {ρ : Nat → Int32} (hn : 209 ≤ n) {k : Nat} (hm : f 1 = nI k) (hk : k ≤ 5) (hl : ∀ i, i < k → 0 < rowOf f i 0) {z : Nat} (hz : f 2 = nI z) (z1 : 1 ≤ z) (z2 : z ≤ 12) (x : Int32) : XCt l G False (Cond.code yC_requireTripsAllowed bC_requireTripsAllowed 2 none) yC_requireTripsAllowed 6 128 1 6 [.ref (4), .int (x)] n (setCW h f o kp P tx len p ρ) (fun r' n' h' => r' = none ∧ (¬ canK f z k = 0 ∧ f 7 + x ≤ 99999) ∧ n' = n ∧ h' = setCW h f o kp P tx len p ρ) (fun E n' h' => (E = XISE ∧ ¬ (¬ canK f z k = 0 ∧ f 7 + x ≤ 99999)) ∧ n' = n ∧ h' = setCW h f o kp P tx len p ρ) := by
  refine XCt.of hfl (by decide +kernel) (Nat.le_of_ble_eq_true rfl) ?_
  intro p' e' s' m' g' b' t' c' C hret hname hnt hmd
  refine XV.run C okC_requireTripsAllowed 1 (q := (1, ([some (.ref (4)), some (.int (x))], [.ref (4)]))) rfl ?_
  refine XV.getf C (ci := 4) (kf := 0) (v := .ref (5)) (xlk_ok okC_requireTripsAllowed rfl) rfl (by decide) wF_C_10 (by omega) (by omega) (cw_o) rfl ?_
  refine XV.callV C (As := []) (rest := []) (ci := 0) (ct_E_canRun hfl cw_e (by omega) (by omega) (k := k) (hm) (by omega) (hl) (z := z) (hz) (by omega) (by omega)) (xlk_ok okC_requireTripsAllowed rfl) rfl (by omega) (by omega) rfl (cw_e 0 (by decide)) rfl wM_C_230 wI_E_canRun wV_E_canRun wN_E wB_E_canRun hy_E_canRun (fun q => q.elim) ⟨Nat.le_of_ble_eq_true rfl, Nat.le_of_ble_eq_true rfl⟩ ⟨Nat.le_of_ble_eq_true rfl, Nat.le_of_ble_eq_true rfl⟩ (Nat.le_of_ble_eq_true rfl) (fun r n h hp => ?_) (fun _ _ _ q => q.elim)
  obtain ⟨rfl, rfl, rfl⟩ := hp
  refine XV.if_eq C (tgt := 24) (xlk_ok okC_requireTripsAllowed rfl) rfl (fun c1 => ?_) (fun c1 => ?_)
  ·
    refine XV.throwS C hnt (E := XISE) (Or.inl ⟨rfl, rfl, rfl⟩) (List.mem_of_getElem? (i := 5) rfl) (xlk_ok okC_requireTripsAllowed (pc := 24) rfl) (xlk_ok okC_requireTripsAllowed (pc := 27) rfl) (xlk_ok okC_requireTripsAllowed (pc := 28) rfl) (xlk_ok okC_requireTripsAllowed (pc := 30) rfl) (xlk_ok okC_requireTripsAllowed (pc := 33) rfl) (Nat.le_of_ble_eq_true rfl) (Nat.le_of_ble_eq_true rfl) (Nat.le_of_ble_eq_true rfl) (Nat.le_of_ble_eq_true rfl) (Nat.le_of_ble_eq_true rfl) (Nat.le_of_ble_eq_true rfl) ?_
    exact ⟨⟨rfl, fun q => by first | exact q.1 c1 | exact c2 q.2⟩, rfl, rfl⟩
  ·
    refine XV.run C okC_requireTripsAllowed 1 (q := (11, ([some (.ref (4)), some (.int (x))], [.ref (4)]))) rfl ?_
    refine XV.getf C (ci := 4) (kf := 0) (v := .ref (5)) (xlk_ok okC_requireTripsAllowed rfl) rfl (by decide) wF_C_10 (by omega) (by omega) (cw_o) rfl ?_
    refine XV.getfN C (ci := 0) (kf := 4) (v := .int (f 7)) (xlk_ok okC_requireTripsAllowed rfl) rfl (by decide) (List.mem_of_getElem? (i := 16) rfl) (by omega) (by omega) (cw_e 0 (by decide)) rfl ?_
    refine XV.run C okC_requireTripsAllowed 2 (q := (19, ([some (.ref (4)), some (.int (x))], [.int ((f 7) + x)]))) rfl ?_
    refine XV.ldc C (xlk_ok okC_requireTripsAllowed rfl) wK_C_233 ?_
    refine XV.icmp_le C (tgt := 34) (xlk_ok okC_requireTripsAllowed rfl) rfl (fun c2 => ?_) (fun c2 => ?_)
    ·
      exact XV.vret C (xlk_ok okC_requireTripsAllowed rfl) hret (Nat.le_of_ble_eq_true rfl) (Nat.le_of_ble_eq_true rfl) (⟨rfl, ⟨c1, c2⟩, rfl, rfl⟩)
    ·
      refine XV.throwS C hnt (E := XISE) (Or.inl ⟨rfl, rfl, rfl⟩) (List.mem_of_getElem? (i := 5) rfl) (xlk_ok okC_requireTripsAllowed (pc := 24) rfl) (xlk_ok okC_requireTripsAllowed (pc := 27) rfl) (xlk_ok okC_requireTripsAllowed (pc := 28) rfl) (xlk_ok okC_requireTripsAllowed (pc := 30) rfl) (xlk_ok okC_requireTripsAllowed (pc := 33) rfl) (Nat.le_of_ble_eq_true rfl) (Nat.le_of_ble_eq_true rfl) (Nat.le_of_ble_eq_true rfl) (Nat.le_of_ble_eq_true rfl) (Nat.le_of_ble_eq_true rfl) (Nat.le_of_ble_eq_true rfl) ?_
      exact ⟨⟨rfl, fun q => by first | exact q.1 c1 | exact c2 q.2⟩, rfl, rfl⟩
theorem uns_f0 {f : Nat → Int32} {z i : Nat} (h : ¬ reasonK f (rowOf f i) z = 0) : unsK f z i = false := decide_eq_false fun q => h q.1
theorem uns_f1 {f : Nat → Int32} {z i : Nat} (h1 : ¬ reasonK f (lookR f (rowOf f i)) z = 1) (h2 : ¬ reasonK f (lookR f (rowOf f i)) z = 2) : unsK f z i = false := decide_eq_false fun q => q.2.elim h1 h2
theorem uns_t {f : Nat → Int32} {z i : Nat} (h : reasonK f (rowOf f i) z = 0) (h1 : reasonK f (lookR f (rowOf f i)) z = 1 ∨ reasonK f (lookR f (rowOf f i)) z = 2) : unsK f z i = true := decide_eq_true ⟨h, h1⟩
theorem luK_t {f : Nat → Int32} {z d j : Nat} (h : unsK f z j = true) : luK f z (d + 1) j = nI j := by unfold luK; rw [h]; rfl
theorem luK_f {f : Nat → Int32} {z d j : Nat} (h : unsK f z j = false) : luK f z (d + 1) j = luK f z d (j + 1) := by show (if unsK f z j then _ else _) = _; rw [h]; rfl
set_option maxHeartbeats 4000000 in
set_option maxRecDepth 100000 in
theorem ct_C_lowestUnseen {l : Launch} (hfl : l.stackTraces = false) {G : XG} {n : Nat} {h : XH} {f : Nat → Int32} {o kp : Nat} {P : Nat → Nat → Int32} {tx : Nat → Int32} {len : Nat} {p : PT} {ρ : Nat → Int32} (hn : 209 ≤ n) {k : Nat} (hm : f 1 = nI k) (hk : k ≤ 5) (hl : ∀ i, i < k → 0 < rowOf f i 0) {z : Nat} (hz : f 2 = nI z) (z1 : 1 ≤ z) (z2 : z ≤ 12) : XCt l G False (Cond.code yC_lowestUnseen bC_lowestUnseen 4 (some .int)) yC_lowestUnseen 5 108 0 0 [.ref (4)] n (setCW h f o kp P tx len p ρ) (fun r' n' h' => r' = some (.int (luK f z k 0)) ∧ n' = n ∧ ∃ ρ', h' = setCW h f o kp P tx len p ρ') (fun _ _ _ => False) := by
  refine XCt.of hfl (by decide +kernel) (Nat.le_of_ble_eq_true rfl) ?_
  intro p' e' s' m' g' b' t' c' C hret hname hnt hmd
  refine XV.run C okC_lowestUnseen 2 (q := (2, ([some (.ref (4)), some (.int (0)), none, none], []))) rfl ?_
  have loop : ∀ (d j : Nat) (σ : Nat → Int32), j + d = k → luK f z d j = luK f z k 0 → XV G 4 p' l e' ({ frames := 5, cells := 0, slots := 0, locals := 108 } : Room) s' m' g' b' t' c' (XEnd G b' (fun r' n' h' => r' = some (.int (luK f z k 0)) ∧ n' = n ∧ ∃ ρ', h' = setCW h f o kp P tx len p ρ') (fun _ _ _ => False) g' s' 0 0) 2 [some (.ref (4)), some (.int (nI j)), none, none] [] n (setCW h f o kp P tx len p σ) 0 0 := by
    intro d
    induction d with
    | zero =>
      intro j σ hj hv
      refine XV.run C okC_lowestUnseen 2 (q := (4, ([some (.ref (4)), some (.int (nI j)), none, none], [.ref (4), .int (nI j)]))) rfl ?_
      refine XV.getf C (ci := 4) (kf := 0) (v := .ref (5)) (xlk_ok okC_lowestUnseen rfl) rfl (by decide) wF_C_10 (by omega) (by omega) (cw_o) rfl ?_
      refine XV.getfN C (ci := 0) (kf := 2) (v := .int (f 1)) (xlk_ok okC_lowestUnseen rfl) rfl (by decide) (List.mem_of_getElem? (i := 14) rfl) (by omega) (by omega) (cw_e 0 (by decide)) rfl ?_
      refine XV.icmp_ge C (tgt := 64) (xlk_ok okC_lowestUnseen rfl) rfl (fun _ => ?_) (fun hc => absurd (by rw [hm]; exact nI_le (by omega) (by omega)) hc)
      refine XV.run C okC_lowestUnseen 1 (q := (65, ([some (.ref (4)), some (.int (nI j)), none, none], [.int ((-1))]))) rfl ?_
      exact XV.iret C (xlk_ok okC_lowestUnseen rfl) hret (rfl) (Nat.le_of_ble_eq_true rfl) (Nat.le_of_ble_eq_true rfl) (⟨by rw [← hv]; rfl, rfl, _, rfl⟩)
    | succ d ih =>
      intro j σ hj hv
      refine XV.run C okC_lowestUnseen 2 (q := (4, ([some (.ref (4)), some (.int (nI j)), none, none], [.ref (4), .int (nI j)]))) rfl ?_
      refine XV.getf C (ci := 4) (kf := 0) (v := .ref (5)) (xlk_ok okC_lowestUnseen rfl) rfl (by decide) wF_C_10 (by omega) (by omega) (cw_o) rfl ?_
      refine XV.getfN C (ci := 0) (kf := 2) (v := .int (f 1)) (xlk_ok okC_lowestUnseen rfl) rfl (by decide) (List.mem_of_getElem? (i := 14) rfl) (by omega) (by omega) (cw_e 0 (by decide)) rfl ?_
      refine XV.icmp_ge C (tgt := 64) (xlk_ok okC_lowestUnseen rfl) rfl (fun hc => absurd hc (by rw [hm]; exact nI_ge (by omega) (by omega))) (fun _ => ?_)
      refine XV.run C okC_lowestUnseen 1 (q := (14, ([some (.ref (4)), some (.int (nI j)), none, none], [.ref (4)]))) rfl ?_
      refine XV.getf C (ci := 4) (kf := 0) (v := .ref (5)) (xlk_ok okC_lowestUnseen rfl) rfl (by decide) wF_C_10 (by omega) (by omega) (cw_o) rfl ?_
      refine XV.run C okC_lowestUnseen 1 (q := (18, ([some (.ref (4)), some (.int (nI j)), none, none], [.int (nI j), .ref (5)]))) rfl ?_
      refine XV.callV C (As := [.int (nI j)]) (rest := []) (ci := 0) (ct_E_ropeAt hfl cw_e (by omega) (by omega) (i := j) (rfl) (hm) (by omega) (by omega)) (xlk_ok okC_lowestUnseen rfl) rfl (by omega) (by omega) rfl (cw_e 0 (by decide)) rfl wM_C_205 wI_E_ropeAt wV_E_ropeAt wN_E wB_E_ropeAt hy_E_ropeAt (fun q => q.elim) ⟨Nat.le_of_ble_eq_true rfl, Nat.le_of_ble_eq_true rfl⟩ ⟨Nat.le_of_ble_eq_true rfl, Nat.le_of_ble_eq_true rfl⟩ (Nat.le_of_ble_eq_true rfl) (fun r n h hp => ?_) (fun _ _ _ q => q.elim)
      obtain ⟨rfl, rfl, rfl⟩ := hp
      refine XV.run C okC_lowestUnseen 2 (q := (23, ([some (.ref (4)), some (.int (nI j)), some (.ref (5 + 3 + 5 * j)), none], [.ref (5 + 3 + 5 * j)]))) rfl ?_
      refine XV.null_r C (xlk_ok okC_lowestUnseen rfl) ?_
      refine XV.run C okC_lowestUnseen 1 (q := (27, ([some (.ref (4)), some (.int (nI j)), some (.ref (5 + 3 + 5 * j)), none], [.ref (4)]))) rfl ?_
      refine XV.getf C (ci := 4) (kf := 0) (v := .ref (5)) (xlk_ok okC_lowestUnseen rfl) rfl (by decide) wF_C_10 (by omega) (by omega) (cw_o) rfl ?_
      refine XV.run C okC_lowestUnseen 1 (q := (31, ([some (.ref (4)), some (.int (nI j)), some (.ref (5 + 3 + 5 * j)), none], [.ref (5 + 3 + 5 * j), .ref (5)]))) rfl ?_
      refine XV.callV C (As := [.ref (5 + 3 + 5 * j)]) (rest := []) (ci := 0) (ct_E_reasonFor hfl cw_e (by omega) (by omega) (elev_ropeL cw_e (by omega) (hl j (by omega))) (by omega) (by omega) (z := z) (hz) (by omega) (by omega)) (xlk_ok okC_lowestUnseen rfl) rfl (by omega) (by omega) rfl (cw_e 0 (by decide)) rfl wM_C_251 wI_E_reasonFor wV_E_reasonFor wN_E wB_E_reasonFor hy_E_reasonFor (fun q => q.elim) ⟨Nat.le_of_ble_eq_true rfl, Nat.le_of_ble_eq_true rfl⟩ ⟨Nat.le_of_ble_eq_true rfl, Nat.le_of_ble_eq_true rfl⟩ (Nat.le_of_ble_eq_true rfl) (fun r n h hp => ?_) (fun _ _ _ q => q.elim)
      obtain ⟨rfl, rfl, rfl⟩ := hp
      refine XV.if_ne C (tgt := 58) (xlk_ok okC_lowestUnseen rfl) rfl (fun c1 => ?_) (fun c1 => ?_)
      ·
        refine XV.run C okC_lowestUnseen 2 (q := (2, ([some (.ref (4)), some (.int ((nI j) + 1)), some (.ref (5 + 3 + 5 * j)), none], []))) rfl ?_
        rw [nI_1]
        exact XV.drop (ih (j + 1) _ (by omega) (by rw [← hv, luK_f (by first | exact uns_f0 c1 | exact uns_f1 c2 c3)])) rfl (by simp [xle])
      ·
        refine XV.run C okC_lowestUnseen 4 (q := (42, ([some (.ref (4)), some (.int (nI j)), some (.ref (5 + 3 + 5 * j)), none], [.int (23), .int (0), .ref (5 + 3 + 5 * j), .ref (4)]))) rfl ?_
        refine XV.callV C (As := [.ref (5 + 3 + 5 * j), .int (0), .int (23)]) (rest := []) (ci := 4) (ct_C_reasonIfInspected hfl hn hm hk hl (i := j) (by omega) hz z1 z2 (j := 0) (w := 24) (b := 23) (rfl) (rfl) (by omega) (by omega)) (xlk_ok okC_lowestUnseen rfl) rfl (by omega) (by omega) rfl (cw_o) rfl wM_C_182 wI_C_reasonIfInspected wV_C_reasonIfInspected wN_C wB_C_reasonIfInspected hy_C_reasonIfInspected (fun q => q.elim) ⟨Nat.le_of_ble_eq_true rfl, Nat.le_of_ble_eq_true rfl⟩ ⟨Nat.le_of_ble_eq_true rfl, Nat.le_of_ble_eq_true rfl⟩ (Nat.le_of_ble_eq_true rfl) (fun r n h hp => ?_) (fun _ _ _ q => q.elim)
        obtain ⟨rfl, rfl, rfl⟩ := hp
        refine XV.run C okC_lowestUnseen 3 (q := (48, ([some (.ref (4)), some (.int (nI j)), some (.ref (5 + 3 + 5 * j)), some (.int (reasonK f (rLook (rowOf f j) 0 24 (f 0)) z))], [.int (1), .int (reasonK f (rLook (rowOf f j) 0 24 (f 0)) z)]))) rfl ?_
        refine XV.icmp_eq C (tgt := 56) (xlk_ok okC_lowestUnseen rfl) rfl (fun c2 => ?_) (fun c2 => ?_)
        ·
          refine XV.run C okC_lowestUnseen 1 (q := (57, ([some (.ref (4)), some (.int (nI j)), some (.ref (5 + 3 + 5 * j)), some (.int (reasonK f (rLook (rowOf f j) 0 24 (f 0)) z))], [.int (nI j)]))) rfl ?_
          exact XV.iret C (xlk_ok okC_lowestUnseen rfl) hret rfl (Nat.le_of_ble_eq_true rfl) (Nat.le_of_ble_eq_true rfl) (⟨by rw [← hv, luK_t (uns_t c1 (by first | exact Or.inl c2 | exact Or.inr c3))], rfl, _, rfl⟩)
        ·
          refine XV.run C okC_lowestUnseen 2 (q := (53, ([some (.ref (4)), some (.int (nI j)), some (.ref (5 + 3 + 5 * j)), some (.int (reasonK f (rLook (rowOf f j) 0 24 (f 0)) z))], [.int (2), .int (reasonK f (rLook (rowOf f j) 0 24 (f 0)) z)]))) rfl ?_
          refine XV.icmp_ne C (tgt := 58) (xlk_ok okC_lowestUnseen rfl) rfl (fun c3 => ?_) (fun c3 => ?_)
          ·
            refine XV.run C okC_lowestUnseen 2 (q := (2, ([some (.ref (4)), some (.int ((nI j) + 1)), some (.ref (5 + 3 + 5 * j)), some (.int (reasonK f (rLook (rowOf f j) 0 24 (f 0)) z))], []))) rfl ?_
            rw [nI_1]
            exact XV.drop (ih (j + 1) _ (by omega) (by rw [← hv, luK_f (by first | exact uns_f0 c1 | exact uns_f1 c2 c3)])) rfl (by simp [xle])
          ·
            refine XV.run C okC_lowestUnseen 1 (q := (57, ([some (.ref (4)), some (.int (nI j)), some (.ref (5 + 3 + 5 * j)), some (.int (reasonK f (rLook (rowOf f j) 0 24 (f 0)) z))], [.int (nI j)]))) rfl ?_
            exact XV.iret C (xlk_ok okC_lowestUnseen rfl) hret rfl (Nat.le_of_ble_eq_true rfl) (Nat.le_of_ble_eq_true rfl) (⟨by rw [← hv, luK_t (uns_t c1 (by first | exact Or.inl c2 | exact Or.inr c3))], rfl, _, rfl⟩)
  exact loop k 0 ρ (by omega) rfl
set_option maxHeartbeats 4000000 in
set_option maxRecDepth 100000 in
theorem ct_C_shareCounted {l : Launch} (hfl : l.stackTraces = false) {G : XG} {n : Nat} {h : XH} {f : Nat → Int32} {o kp : Nat} {P : Nat → Nat → Int32} {tx : Nat → Int32} {len : Nat} {p : PT} {ρ : Nat → Int32} (hn : 209 ≤ n) {k : Nat} (hm : f 1 = nI k) (hk : k ≤ 5) (hl : ∀ i, i < k → 0 < rowOf f i 0) (hdv : ¬ sumRK f true k = 0 → vf_n64 (FP.ddiv (FP.i2d (sumRK f false k)) (FP.i2d (sumRK f true k)))) : XCt l G False (Cond.code yC_shareCounted bC_shareCounted 2 (some .double)) yC_shareCounted 4 88 0 0 [.ref (4)] n (setCW h f o kp P tx len p ρ) (fun r' n' h' => r' = some (.double (shrK f k)) ∧ n' = n ∧ h' = setCW h f o kp P tx len p ρ) (fun _ _ _ => False) := by
  refine XCt.of hfl (by decide +kernel) (Nat.le_of_ble_eq_true rfl) ?_
  intro p' e' s' m' g' b' t' c' C hret hname hnt hmd
  refine XV.run C okC_shareCounted 1 (q := (1, ([some (.ref (4)), none], [.ref (4)]))) rfl ?_
  refine XV.getf C (ci := 4) (kf := 0) (v := .ref (5)) (xlk_ok okC_shareCounted rfl) rfl (by decide) wF_C_10 (by omega) (by omega) (cw_o) rfl ?_
  refine XV.callV C (As := []) (rest := []) (ci := 0) (ct_E_brokenOfRopes hfl cw_e (by omega) (by omega) (k := k) (hm) (by omega) (hl)) (xlk_ok okC_shareCounted rfl) rfl (by omega) (by omega) rfl (cw_e 0 (by decide)) rfl wM_C_264 wI_E_brokenOfRopes wV_E_brokenOfRopes wN_E wB_E_brokenOfRopes hy_E_brokenOfRopes (fun q => q.elim) ⟨Nat.le_of_ble_eq_true rfl, Nat.le_of_ble_eq_true rfl⟩ ⟨Nat.le_of_ble_eq_true rfl, Nat.le_of_ble_eq_true rfl⟩ (Nat.le_of_ble_eq_true rfl) (fun r n h hp => ?_) (fun _ _ _ q => q.elim)
  obtain ⟨rfl, rfl, rfl⟩ := hp
  refine XV.run C okC_shareCounted 2 (q := (9, ([some (.ref (4)), some (.int (sumRK f true k))], [.int (sumRK f true k)]))) rfl ?_
  refine XV.if_ne C (tgt := 14) (xlk_ok okC_shareCounted rfl) rfl (fun c1 => ?_) (fun c1 => ?_)
  ·
    refine XV.run C okC_shareCounted 1 (q := (15, ([some (.ref (4)), some (.int (sumRK f true k))], [.ref (4)]))) rfl ?_
    refine XV.getf C (ci := 4) (kf := 0) (v := .ref (5)) (xlk_ok okC_shareCounted rfl) rfl (by decide) wF_C_10 (by omega) (by omega) (cw_o) rfl ?_
    refine XV.callV C (As := []) (rest := []) (ci := 0) (ct_E_countsOfRopes hfl cw_e (by omega) (by omega) (k := k) (hm) (by omega) (hl)) (xlk_ok okC_shareCounted rfl) rfl (by omega) (by omega) rfl (cw_e 0 (by decide)) rfl wM_C_267 wI_E_countsOfRopes wV_E_countsOfRopes wN_E wB_E_countsOfRopes hy_E_countsOfRopes (fun q => q.elim) ⟨Nat.le_of_ble_eq_true rfl, Nat.le_of_ble_eq_true rfl⟩ ⟨Nat.le_of_ble_eq_true rfl, Nat.le_of_ble_eq_true rfl⟩ (Nat.le_of_ble_eq_true rfl) (fun r n h hp => ?_) (fun _ _ _ q => q.elim)
    obtain ⟨rfl, rfl, rfl⟩ := hp
    refine XV.run C okC_shareCounted 3 (q := (24, ([some (.ref (4)), some (.int (sumRK f true k))], [.double (FP.i2d (sumRK f true k)), .double (FP.i2d (sumRK f false k))]))) rfl ?_
    refine XV.ddiv C (xlk_ok okC_shareCounted rfl) (hdv c1) ?_
    exact XV.dret C (xlk_ok okC_shareCounted rfl) hret (Nat.le_of_ble_eq_true rfl) (Nat.le_of_ble_eq_true rfl) (⟨by unfold shrK; first | rw [if_pos c1] | rw [if_neg c1], rfl, rfl⟩)
  ·
    refine XV.dconst1 C (xlk_ok okC_shareCounted rfl) ?_
    exact XV.dret C (xlk_ok okC_shareCounted rfl) hret (Nat.le_of_ble_eq_true rfl) (Nat.le_of_ble_eq_true rfl) (⟨by unfold shrK; first | rw [if_pos c1] | rw [if_neg c1], rfl, rfl⟩)
set_option maxHeartbeats 4000000 in
set_option maxRecDepth 100000 in
theorem ct_C_countedShare {l : Launch} (hfl : l.stackTraces = false) {G : XG} {n : Nat} {h : XH} {f : Nat → Int32} {o kp : Nat} {P : Nat → Nat → Int32} {tx : Nat → Int32} {len : Nat} {p : PT} {ρ : Nat → Int32} (hn : 209 ≤ n) {k : Nat} (hm : f 1 = nI k) (hk : k ≤ 5) (hl : ∀ i, i < k → 0 < rowOf f i 0) (hdv : ¬ sumRK f true k = 0 → vf_n64 (FP.ddiv (FP.i2d (sumRK f false k)) (FP.i2d (sumRK f true k)))) : XCt l G False (Cond.code yC_countedShare bC_countedShare 1 (some .double)) yC_countedShare 5 109 0 0 [.ref (4)] n (setCW h f o kp P tx len p ρ) (fun r' n' h' => r' = some (.double (shrK f k)) ∧ n' = n ∧ h' = setCW h f o kp P tx len p ρ) (fun _ _ _ => False) := by
  refine XCt.of hfl (by decide +kernel) (Nat.le_of_ble_eq_true rfl) ?_
  intro p' e' s' m' g' b' t' c' C hret hname hnt hmd
  refine XV.run C okC_countedShare 1 (q := (1, ([some (.ref (4))], [.ref (4)]))) rfl ?_
  refine XV.callV C (As := []) (rest := []) (ci := 4) (ct_C_shareCounted hfl hn hm hk hl hdv) (xlk_ok okC_countedShare rfl) rfl (by omega) (by omega) rfl (cw_o) rfl wM_C_195 wI_C_shareCounted wV_C_shareCounted wN_C wB_C_shareCounted hy_C_shareCounted (fun q => q.elim) ⟨Nat.le_of_ble_eq_true rfl, Nat.le_of_ble_eq_true rfl⟩ ⟨Nat.le_of_ble_eq_true rfl, Nat.le_of_ble_eq_true rfl⟩ (Nat.le_of_ble_eq_true rfl) (fun r n h hp => ?_) (fun _ _ _ q => q.elim)
  obtain ⟨rfl, rfl, rfl⟩ := hp
  exact XV.dret C (xlk_ok okC_countedShare rfl) hret (Nat.le_of_ble_eq_true rfl) (Nat.le_of_ble_eq_true rfl) (⟨rfl, rfl, rfl⟩)
theorem mixN_s (g : Nat → Int64) (n : Nat) (h : Int64) : mixN g (n + 1) h = 31 * mixN g n h + g n := rfl
theorem secM_s (r : Nat → Int32) (n : Nat) (h : Int64) : secM r (n + 1) h = mixN (fun w => (secF r n w).toInt64) 5 (secM r n h) := rfl
theorem winM_s (r : Nat → Int32) (z n : Nat) (h : Int64) : winM r z (n + 1) h = 31 * (31 * winM r z n h + (winS r false z n).toInt64) + (winS r true z n).toInt64 := rfl
theorem bestI_lt (r : Nat → Int32) (w : Nat) : bestI r w ≤ 24 - w := amax_le _ _
theorem rpsM_s (f : Nat → Int32) (z n : Nat) (h : Int64) : rpsM f z (n + 1) h = mwrK f (rowOf f n) z (rpsM f z n h) := rfl
def digK2 (f : Nat → Int32) (z k kp : Nat) (tx : Nat → Int32) (len : Nat) (B : Int64) : Int64 := mixN (fun w => (sgn tx len w).toInt64) len (31 * (31 * (31 * rpsM f z k (mixN (fun w => (f (2 + w)).toInt64) 5 (mixN (fun w => (countFigK f z k kp w).toInt64) 9 2677)) + (luK f z k 0).toInt64) + B) + (nI len).toInt64)
end
section
/-! RopeThreads: the public calls -/
theorem pos_of {x : Int32} (h : ¬ x < 1) : 0 < x := by
  have h2 := Int32.not_lt.mp h
  rw [Int32.le_iff_toInt_le] at h2
  rw [Int32.lt_iff_toInt_lt]
  have h3 : (1 : Int32).toInt = 1 := by decide
  have h4 : (0 : Int32).toInt = 0 := by decide
  omega
theorem rng_ge0 {x : Int32} (h : ¬ x < 0) : 0 ≤ x := Int32.not_lt.mp h
theorem ix_nat {x y : Int32} {d : Nat} (h : ¬ x < 0 ∧ x < y) (hy : y = nI d) (hd : d < 2 ^ 31) : ∃ j, x = nI j ∧ j < d := by
  subst hy
  rcases pk_ix x (n := d) hd with q | q | ⟨i, hi, hx⟩
  · exact absurd q h.1
  · exact absurd h.2 (Int32.not_lt.mpr q)
  · exact ⟨i, hx, hi⟩
theorem rg_nat {x y : Int32} {d : Nat} (h : ¬ x < 0 ∧ x ≤ y) (hy : y = nI d) (hd : d + 1 < 2 ^ 31) : ∃ j, x = nI j ∧ j ≤ d := by
  subst hy
  rcases pk_ix x (n := d + 1) hd with q | q | ⟨i, hi, hx⟩
  · exact absurd q h.1
  · exact absurd (Int32.le_trans q h.2) (Int32.not_le.mpr (nI_lt (by omega) (by omega)))
  · exact ⟨i, hx, by omega⟩
set_option maxHeartbeats 4000000 in
set_option maxRecDepth 100000 in
theorem ct_C_hang {l : Launch} (hfl : l.stackTraces = false) {G : XG} {n : Nat} {h : XH} {f : Nat → Int32} {o kp : Nat} {P : Nat → Nat → Int32} {tx : Nat → Int32} {len : Nat} {p : PT} {ρ : Nat → Int32} (hn : 209 ≤ n) {k : Nat} (hm : f 1 = nI k) (hk : k ≤ 5) (hl : ∀ i, i < k → 0 < rowOf f i 0) (ho : o < 6) (hkp : kp ≤ 6) (x : Int32) : XCt l G False (Cond.code yC_hang bC_hang 2 (some .int)) yC_hang 7 112 2 12 [.ref (4), .int (x)] n (setCW h f o kp P tx len p ρ) (fun r' n' h' => ((¬ x < 1 ∧ x ≤ 99) ∧ k < 5) ∧ r' = some (.int (nI k)) ∧ n' = n ∧ h' = setCW h (putRow (upd f 1 (f 1 + 1)) k (rNew x (f 0))) (kO o kp) (kK kp) (kP o kp P f) tx len p ρ) (fun E n' h' => ((E = XIAE ∧ ((x < 1 ∨ ¬ x ≤ 99))) ∨ (E = XISE ∧ ((¬ x < 1 ∧ x ≤ 99) ∧ ¬ k < 5))) ∧ n' = n ∧ h' = setCW h f o kp P tx len p ρ) := by
  refine XCt.of hfl (by decide +kernel) (Nat.le_of_ble_eq_true rfl) ?_
  intro p' e' s' m' g' b' t' c' C hret hname hnt hmd
  refine XV.run C okC_hang 3 (q := (4, ([some (.ref (4)), some (.int (x))], [.int (99), .int (1), .int (x)]))) rfl ?_
  refine XV.callS C (As := [.int (x), .int (1), .int (99)]) (rest := []) (ct_C_requireRange hfl x 1 99) (xlk_ok okC_hang rfl) rfl wM_C_37 wS_C_requireRange wN_C wB_C_requireRange hy_C_requireRange (fun q => q.elim) ⟨Nat.le_of_ble_eq_true rfl, Nat.le_of_ble_eq_true rfl⟩ ⟨Nat.le_of_ble_eq_true rfl, Nat.le_of_ble_eq_true rfl⟩ (Nat.le_of_ble_eq_true rfl) (fun r n h hp => ?_) (fun E n1 h1 q => by obtain ⟨⟨rfl, hbad⟩, rfl, rfl⟩ := q; exact XT.out C hnt (Nat.le_of_ble_eq_true rfl) (Nat.le_of_ble_eq_true rfl) (⟨Or.inl (⟨rfl, hbad⟩), rfl, rfl⟩))
  obtain ⟨rfl, h1, rfl, rfl⟩ := hp
  refine XV.run C okC_hang 1 (q := (8, ([some (.ref (4)), some (.int (x))], [.ref (4)]))) rfl ?_
  refine XV.getf C (ci := 4) (kf := 0) (v := .ref (5)) (xlk_ok okC_hang rfl) rfl (by decide) wF_C_10 (by omega) (by omega) (cw_o) rfl ?_
  refine XV.getfN C (ci := 0) (kf := 2) (v := .int (f 1)) (xlk_ok okC_hang rfl) rfl (by decide) (List.mem_of_getElem? (i := 14) rfl) (by omega) (by omega) (cw_e 0 (by decide)) rfl ?_
  refine XV.run C okC_hang 1 (q := (15, ([some (.ref (4)), some (.int (x))], [.int (5), .int (f 1)]))) rfl ?_
  refine XV.icmp_lt C (tgt := 28) (xlk_ok okC_hang rfl) rfl (fun c1 => ?_) (fun c1 => ?_)
  ·
    have hk5 : k < 5 := by rw [hm] at c1; exact (nI_ltI (b := 5) (by omega) (by omega)).mp c1
    refine XV.run C okC_hang 1 (q := (29, ([some (.ref (4)), some (.int (x))], [.ref (4)]))) rfl ?_
    refine XV.getf C (ci := 4) (kf := 1) (v := .ref (33)) (xlk_ok okC_hang rfl) rfl (by decide) wF_C_19 (by omega) (by omega) (cw_o) rfl ?_
    refine XV.run C okC_hang 1 (q := (33, ([some (.ref (4)), some (.int (x))], [.ref (4), .ref (33)]))) rfl ?_
    refine XV.getf C (ci := 4) (kf := 0) (v := .ref (5)) (xlk_ok okC_hang rfl) rfl (by decide) wF_C_10 (by omega) (by omega) (cw_o) rfl ?_
    refine XV.callV C (As := [.ref (5)]) (rest := []) (ci := 1) (ct_H_keep hfl cw_h (by omega) (by omega) ho cw_e (by omega) (by omega) (by omega) hkp) (xlk_ok okC_hang rfl) rfl (by omega) (by omega) rfl (cw_h 0 (by decide)) rfl wM_C_52 wI_H_keep wV_H_keep wN_H wB_H_keep hy_H_keep (fun q => q.elim) ⟨Nat.le_of_ble_eq_true rfl, Nat.le_of_ble_eq_true rfl⟩ ⟨Nat.le_of_ble_eq_true rfl, Nat.le_of_ble_eq_true rfl⟩ (Nat.le_of_ble_eq_true rfl) (fun r n h hp => ?_) (fun _ _ _ q => q.elim)
    obtain ⟨rfl, rfl, rfl⟩ := hp
    refine XV.cast (cw_setH _ _ _) ?_
    refine XV.run C okC_hang 1 (q := (40, ([some (.ref (4)), some (.int (x))], [.ref (4)]))) rfl ?_
    refine XV.getf C (ci := 4) (kf := 0) (v := .ref (5)) (xlk_ok okC_hang rfl) rfl (by decide) wF_C_10 (by omega) (by omega) (cw_o) rfl ?_
    refine XV.run C okC_hang 1 (q := (44, ([some (.ref (4)), some (.int (x))], [.int (x), .ref (5)]))) rfl ?_
    refine XV.callV C (As := [.int (x)]) (rest := []) (ci := 0) (ct_E_addRope hfl cw_e (by omega) (by omega) hm (by omega) (x) (pos_of h1.1)) (xlk_ok okC_hang rfl) rfl (by omega) (by omega) rfl (cw_e 0 (by decide)) rfl wM_C_56 wI_E_addRope wV_E_addRope wN_E wB_E_addRope hy_E_addRope (fun q => q.elim) ⟨Nat.le_of_ble_eq_true rfl, Nat.le_of_ble_eq_true rfl⟩ ⟨Nat.le_of_ble_eq_true rfl, Nat.le_of_ble_eq_true rfl⟩ (Nat.le_of_ble_eq_true rfl) (fun r n h hp => ?_) (fun _ _ _ q => q.elim)
    obtain ⟨rfl, rfl, rfl⟩ := hp
    refine XV.cast (cw_setE _) ?_
    refine XV.run C okC_hang 1 (q := (48, ([some (.ref (4)), some (.int (x))], [.ref (4)]))) rfl ?_
    refine XV.getf C (ci := 4) (kf := 0) (v := .ref (5)) (xlk_ok okC_hang rfl) rfl (by decide) wF_C_10 (by omega) (by omega) (cw_o) rfl ?_
    refine XV.getfN C (ci := 0) (kf := 2) (v := .int ((putRow (upd f 1 (f 1 + 1)) k (rNew x (f 0))) 1)) (xlk_ok okC_hang rfl) rfl (by decide) (List.mem_of_getElem? (i := 14) rfl) (by omega) (by omega) (cw_e 0 (by decide)) rfl ?_
    refine XV.run C okC_hang 1 (q := (55, ([some (.ref (4)), some (.int (x))], [.int (1), .int ((putRow (upd f 1 (f 1 + 1)) k (rNew x (f 0))) 1)]))) rfl ?_
    refine XV.run C okC_hang 1 (q := (56, ([some (.ref (4)), some (.int (x))], [.int ((putRow (upd f 1 (f 1 + 1)) k (rNew x (f 0))) 1 - 1)]))) rfl ?_
    rw [show ((putRow (upd f 1 (f 1 + 1)) k (rNew x (f 0))) 1 - 1 : Int32) = nI k from by rw [show putRow (upd f 1 (f 1 + 1)) k (rNew x (f 0)) 1 = f 1 + 1 from (if_neg (by omega)).trans upd_eq, hm, nI_1]; exact nI_m1 (by omega)]
    exact XV.iret C (xlk_ok okC_hang rfl) hret rfl (Nat.le_of_ble_eq_true rfl) (Nat.le_of_ble_eq_true rfl) (⟨⟨h1, hk5⟩, rfl, rfl, rfl⟩)
  ·
    have hk5 : ¬ k < 5 := fun q => c1 (by rw [hm]; exact nI_lt (b := 5) q (by omega))
    refine XV.throwS C hnt (E := XISE) (Or.inl ⟨rfl, rfl, rfl⟩) (List.mem_of_getElem? (i := 1) rfl) (xlk_ok okC_hang (pc := 18) rfl) (xlk_ok okC_hang (pc := 21) rfl) (xlk_ok okC_hang (pc := 22) rfl) (xlk_ok okC_hang (pc := 24) rfl) (xlk_ok okC_hang (pc := 27) rfl) (Nat.le_of_ble_eq_true rfl) (Nat.le_of_ble_eq_true rfl) (Nat.le_of_ble_eq_true rfl) (Nat.le_of_ble_eq_true rfl) (Nat.le_of_ble_eq_true rfl) (Nat.le_of_ble_eq_true rfl) ?_
    exact ⟨Or.inr (⟨rfl, h1, hk5⟩), rfl, rfl⟩
set_option maxHeartbeats 4000000 in
set_option maxRecDepth 100000 in
theorem ct_C_cut {l : Launch} (hfl : l.stackTraces = false) {G : XG} {n : Nat} {h : XH} {f : Nat → Int32} {o kp : Nat} {P : Nat → Nat → Int32} {tx : Nat → Int32} {len : Nat} {p : PT} {ρ : Nat → Int32} (hn : 209 ≤ n) {k : Nat} (hm : f 1 = nI k) (hk : k ≤ 5) (hl : ∀ i, i < k → 0 < rowOf f i 0) (ho : o < 6) (hkp : kp ≤ 6) (x : Int32) : XCt l G False (Cond.code yC_cut bC_cut 2 (some .int)) yC_cut 7 112 1 6 [.ref (4), .int (x)] n (setCW h f o kp P tx len p ρ) (fun r' n' h' => ∃ i, (x = nI i ∧ i < k) ∧ r' = some (.int (nI (k - 1))) ∧ n' = n ∧ h' = setCW h (upd (shiftK f i (k - 1 - i)) 1 (f 1 - 1)) (kO o kp) (kK kp) (kP o kp P f) tx len p ρ) (fun E n' h' => ((E = XIOB ∧ ((x < 0 ∨ nI k ≤ x)))) ∧ n' = n ∧ h' = setCW h f o kp P tx len p ρ) := by
  refine XCt.of hfl (by decide +kernel) (Nat.le_of_ble_eq_true rfl) ?_
  intro p' e' s' m' g' b' t' c' C hret hname hnt hmd
  refine XV.run C okC_cut 2 (q := (2, ([some (.ref (4)), some (.int (x))], [.int (x), .ref (4)]))) rfl ?_
  refine XV.callV C (As := [.int (x)]) (rest := []) (ci := 4) (ct_C_existingRope hfl hn hm hk hl (x)) (xlk_ok okC_cut rfl) rfl (by omega) (by omega) rfl (cw_o) rfl wM_C_60 wI_C_existingRope wV_C_existingRope wN_C wB_C_existingRope hy_C_existingRope (fun q => q.elim) ⟨Nat.le_of_ble_eq_true rfl, Nat.le_of_ble_eq_true rfl⟩ ⟨Nat.le_of_ble_eq_true rfl, Nat.le_of_ble_eq_true rfl⟩ (Nat.le_of_ble_eq_true rfl) (fun r n h hp => ?_) (fun E n1 h1 q => by obtain ⟨⟨rfl, hbad⟩, rfl, rfl⟩ := q; exact XT.out C hnt (Nat.le_of_ble_eq_true rfl) (Nat.le_of_ble_eq_true rfl) (⟨⟨rfl, hbad⟩, rfl, rfl⟩))
  obtain ⟨i, hx, hi, rfl, rfl, rfl⟩ := hp
  refine XV.run C okC_cut 2 (q := (7, ([some (.ref (4)), some (.int (x))], [.ref (4)]))) rfl ?_
  refine XV.getf C (ci := 4) (kf := 1) (v := .ref (33)) (xlk_ok okC_cut rfl) rfl (by decide) wF_C_19 (by omega) (by omega) (cw_o) rfl ?_
  refine XV.run C okC_cut 1 (q := (11, ([some (.ref (4)), some (.int (x))], [.ref (4), .ref (33)]))) rfl ?_
  refine XV.getf C (ci := 4) (kf := 0) (v := .ref (5)) (xlk_ok okC_cut rfl) rfl (by decide) wF_C_10 (by omega) (by omega) (cw_o) rfl ?_
  refine XV.callV C (As := [.ref (5)]) (rest := []) (ci := 1) (ct_H_keep hfl cw_h (by omega) (by omega) ho cw_e (by omega) (by omega) (by omega) hkp) (xlk_ok okC_cut rfl) rfl (by omega) (by omega) rfl (cw_h 0 (by decide)) rfl wM_C_52 wI_H_keep wV_H_keep wN_H wB_H_keep hy_H_keep (fun q => q.elim) ⟨Nat.le_of_ble_eq_true rfl, Nat.le_of_ble_eq_true rfl⟩ ⟨Nat.le_of_ble_eq_true rfl, Nat.le_of_ble_eq_true rfl⟩ (Nat.le_of_ble_eq_true rfl) (fun r n h hp => ?_) (fun _ _ _ q => q.elim)
  obtain ⟨rfl, rfl, rfl⟩ := hp
  refine XV.cast (cw_setH _ _ _) ?_
  refine XV.run C okC_cut 1 (q := (18, ([some (.ref (4)), some (.int (x))], [.ref (4)]))) rfl ?_
  refine XV.getf C (ci := 4) (kf := 0) (v := .ref (5)) (xlk_ok okC_cut rfl) rfl (by decide) wF_C_10 (by omega) (by omega) (cw_o) rfl ?_
  refine XV.run C okC_cut 1 (q := (22, ([some (.ref (4)), some (.int (x))], [.int (x), .ref (5)]))) rfl ?_
  refine XV.callV C (As := [.int (x)]) (rest := []) (ci := 0) (ct_E_removeRope hfl cw_e (by omega) (by omega) (i := i) (hx) hm hk hi) (xlk_ok okC_cut rfl) rfl (by omega) (by omega) rfl (cw_e 0 (by decide)) rfl wM_C_64 wI_E_removeRope wV_E_removeRope wN_E wB_E_removeRope hy_E_removeRope (fun q => q.elim) ⟨Nat.le_of_ble_eq_true rfl, Nat.le_of_ble_eq_true rfl⟩ ⟨Nat.le_of_ble_eq_true rfl, Nat.le_of_ble_eq_true rfl⟩ (Nat.le_of_ble_eq_true rfl) (fun r n h hp => ?_) (fun _ _ _ q => q.elim)
  obtain ⟨rfl, rfl, rfl⟩ := hp
  refine XV.cast (cw_setE _) ?_
  refine XV.run C okC_cut 1 (q := (26, ([some (.ref (4)), some (.int (x))], [.ref (4)]))) rfl ?_
  refine XV.getf C (ci := 4) (kf := 0) (v := .ref (5)) (xlk_ok okC_cut rfl) rfl (by decide) wF_C_10 (by omega) (by omega) (cw_o) rfl ?_
  refine XV.getfN C (ci := 0) (kf := 2) (v := .int ((upd (shiftK f i (k - 1 - i)) 1 (f 1 - 1)) 1)) (xlk_ok okC_cut rfl) rfl (by decide) (List.mem_of_getElem? (i := 14) rfl) (by omega) (by omega) (cw_e 0 (by decide)) rfl ?_
  rw [show ((upd (shiftK f i (k - 1 - i)) 1 (f 1 - 1)) 1 : Int32) = nI (k - 1) from by rw [upd_eq, hm]; exact nI_m1 (by omega)]
  exact XV.iret C (xlk_ok okC_cut rfl) hret rfl (Nat.le_of_ble_eq_true rfl) (Nat.le_of_ble_eq_true rfl) (⟨i, ⟨hx, hi⟩, rfl, rfl, rfl⟩)
theorem nbad {x : Int32} {i k : Nat} (hx : x = nI i) (hi : i < k) (hk : k ≤ 5) : ¬ (x < 0 ∨ nI k ≤ x) := by
  subst hx
  rintro (q | q)
  · exact nI_pos (by omega) q
  · exact Int32.not_le.mpr (nI_lt hi (by omega)) q
set_option maxHeartbeats 4000000 in
set_option maxRecDepth 100000 in
theorem ct_C_swap {l : Launch} (hfl : l.stackTraces = false) {G : XG} {n : Nat} {h : XH} {f : Nat → Int32} {o kp : Nat} {P : Nat → Nat → Int32} {tx : Nat → Int32} {len : Nat} {p : PT} {ρ : Nat → Int32} (hn : 209 ≤ n) {k : Nat} (hm : f 1 = nI k) (hk : k ≤ 5) (hl : ∀ i, i < k → 0 < rowOf f i 0) (ho : o < 6) (hkp : kp ≤ 6) (x y : Int32) : XCt l G False (Cond.code yC_swap bC_swap 5 (some .int)) yC_swap 7 112 2 12 [.ref (4), .int (x), .int (y)] n (setCW h f o kp P tx len p ρ) (fun r' n' h' => ∃ i, (x = nI i ∧ i < k ∧ (¬ y < 1 ∧ y ≤ 99)) ∧ r' = some (.int (sumN (colR (rowOf f i) true) 0 24)) ∧ n' = n ∧ h' = setCW h (upd (putRow f i (rNew y (f 0))) 9 (putRow f i (rNew y (f 0)) 9 + 1)) (kO o kp) (kK kp) (kP o kp P f) tx len p ρ) (fun E n' h' => ((E = XIOB ∧ ((x < 0 ∨ nI k ≤ x))) ∨ (E = XIAE ∧ (¬ (x < 0 ∨ nI k ≤ x) ∧ (y < 1 ∨ ¬ y ≤ 99)))) ∧ n' = n ∧ h' = setCW h f o kp P tx len p ρ) := by
  refine XCt.of hfl (by decide +kernel) (Nat.le_of_ble_eq_true rfl) ?_
  intro p' e' s' m' g' b' t' c' C hret hname hnt hmd
  refine XV.run C okC_swap 2 (q := (2, ([some (.ref (4)), some (.int (x)), some (.int (y)), none, none], [.int (x), .ref (4)]))) rfl ?_
  refine XV.callV C (As := [.int (x)]) (rest := []) (ci := 4) (ct_C_existingRope hfl hn hm hk hl (x)) (xlk_ok okC_swap rfl) rfl (by omega) (by omega) rfl (cw_o) rfl wM_C_60 wI_C_existingRope wV_C_existingRope wN_C wB_C_existingRope hy_C_existingRope (fun q => q.elim) ⟨Nat.le_of_ble_eq_true rfl, Nat.le_of_ble_eq_true rfl⟩ ⟨Nat.le_of_ble_eq_true rfl, Nat.le_of_ble_eq_true rfl⟩ (Nat.le_of_ble_eq_true rfl) (fun r n h hp => ?_) (fun E n1 h1 q => by obtain ⟨⟨rfl, hbad⟩, rfl, rfl⟩ := q; exact XT.out C hnt (Nat.le_of_ble_eq_true rfl) (Nat.le_of_ble_eq_true rfl) (⟨Or.inl (⟨rfl, hbad⟩), rfl, rfl⟩))
  obtain ⟨i, hx, hi, rfl, rfl, rfl⟩ := hp
  refine XV.run C okC_swap 4 (q := (10, ([some (.ref (4)), some (.int (x)), some (.int (y)), some (.ref (5 + 3 + 5 * i)), none], [.int (99), .int (1), .int (y)]))) rfl ?_
  refine XV.callS C (As := [.int (y), .int (1), .int (99)]) (rest := []) (ct_C_requireRange hfl y 1 99) (xlk_ok okC_swap rfl) rfl wM_C_37 wS_C_requireRange wN_C wB_C_requireRange hy_C_requireRange (fun q => q.elim) ⟨Nat.le_of_ble_eq_true rfl, Nat.le_of_ble_eq_true rfl⟩ ⟨Nat.le_of_ble_eq_true rfl, Nat.le_of_ble_eq_true rfl⟩ (Nat.le_of_ble_eq_true rfl) (fun r n h hp => ?_) (fun E n1 h1 q => by obtain ⟨⟨rfl, hbad⟩, rfl, rfl⟩ := q; exact XT.out C hnt (Nat.le_of_ble_eq_true rfl) (Nat.le_of_ble_eq_true rfl) (⟨Or.inr (⟨rfl, nbad hx hi hk, hbad⟩), rfl, rfl⟩))
  obtain ⟨rfl, h1, rfl, rfl⟩ := hp
  refine XV.run C okC_swap 1 (q := (14, ([some (.ref (4)), some (.int (x)), some (.int (y)), some (.ref (5 + 3 + 5 * i)), none], [.ref (5 + 3 + 5 * i)]))) rfl ?_
  refine XV.callV C (As := []) (rest := []) (ci := 2) (ct_R_allBroken hfl (elev_ropeL cw_e (by omega) (hl i hi)) (by omega) (by omega)  (hl i hi)) (xlk_ok okC_swap rfl) rfl (by omega) (by omega) rfl ((elev_ropeL cw_e (by omega) (hl i hi)) 0 (by decide)) rfl wM_C_67 wI_R_allBroken wV_R_allBroken wN_R wB_R_allBroken hy_R_allBroken (fun q => q.elim) ⟨Nat.le_of_ble_eq_true rfl, Nat.le_of_ble_eq_true rfl⟩ ⟨Nat.le_of_ble_eq_true rfl, Nat.le_of_ble_eq_true rfl⟩ (Nat.le_of_ble_eq_true rfl) (fun r n h hp => ?_) (fun _ _ _ q => q.elim)
  obtain ⟨rfl, rfl, rfl⟩ := hp
  refine XV.run C okC_swap 2 (q := (20, ([some (.ref (4)), some (.int (x)), some (.int (y)), some (.ref (5 + 3 + 5 * i)), some (.int (sumN (colR (rowOf f i) true) 0 24))], [.ref (4)]))) rfl ?_
  refine XV.getf C (ci := 4) (kf := 1) (v := .ref (33)) (xlk_ok okC_swap rfl) rfl (by decide) wF_C_19 (by omega) (by omega) (cw_o) rfl ?_
  refine XV.run C okC_swap 1 (q := (24, ([some (.ref (4)), some (.int (x)), some (.int (y)), some (.ref (5 + 3 + 5 * i)), some (.int (sumN (colR (rowOf f i) true) 0 24))], [.ref (4), .ref (33)]))) rfl ?_
  refine XV.getf C (ci := 4) (kf := 0) (v := .ref (5)) (xlk_ok okC_swap rfl) rfl (by decide) wF_C_10 (by omega) (by omega) (cw_o) rfl ?_
  refine XV.callV C (As := [.ref (5)]) (rest := []) (ci := 1) (ct_H_keep hfl cw_h (by omega) (by omega) ho cw_e (by omega) (by omega) (by omega) hkp) (xlk_ok okC_swap rfl) rfl (by omega) (by omega) rfl (cw_h 0 (by decide)) rfl wM_C_52 wI_H_keep wV_H_keep wN_H wB_H_keep hy_H_keep (fun q => q.elim) ⟨Nat.le_of_ble_eq_true rfl, Nat.le_of_ble_eq_true rfl⟩ ⟨Nat.le_of_ble_eq_true rfl, Nat.le_of_ble_eq_true rfl⟩ (Nat.le_of_ble_eq_true rfl) (fun r n h hp => ?_) (fun _ _ _ q => q.elim)
  obtain ⟨rfl, rfl, rfl⟩ := hp
  refine XV.cast (cw_setH _ _ _) ?_
  refine XV.run C okC_swap 3 (q := (33, ([some (.ref (4)), some (.int (x)), some (.int (y)), some (.ref (5 + 3 + 5 * i)), some (.int (sumN (colR (rowOf f i) true) 0 24))], [.ref (4), .int (y), .ref (5 + 3 + 5 * i)]))) rfl ?_
  refine XV.getf C (ci := 4) (kf := 0) (v := .ref (5)) (xlk_ok okC_swap rfl) rfl (by decide) wF_C_10 (by omega) (by omega) (cw_o) rfl ?_
  refine XV.getfN C (ci := 0) (kf := 3) (v := .int (f 0)) (xlk_ok okC_swap rfl) rfl (by decide) (List.mem_of_getElem? (i := 15) rfl) (by omega) (by omega) (cw_e 0 (by decide)) rfl ?_
  refine XV.callV C (As := [.int (y), .int (f 0)]) (rest := []) (ci := 2) (ct_R_renew hfl (elev_ropeL cw_e (by omega) (hl i hi)) (by omega) (by omega) (y) (f 0)) (xlk_ok okC_swap rfl) rfl (by omega) (by omega) rfl ((elev_ropeL cw_e (by omega) (hl i hi)) 0 (by decide)) rfl wM_C_74 wI_R_renew wV_R_renew wN_R wB_R_renew hy_R_renew (fun q => q.elim) ⟨Nat.le_of_ble_eq_true rfl, Nat.le_of_ble_eq_true rfl⟩ ⟨Nat.le_of_ble_eq_true rfl, Nat.le_of_ble_eq_true rfl⟩ (Nat.le_of_ble_eq_true rfl) (fun r n h hp => ?_) (fun _ _ _ q => q.elim)
  obtain ⟨rfl, rfl, rfl⟩ := hp
  refine XV.cast (cw_putR (by omega) (ne_of_gt (pos_of h1.1))) ?_
  refine XV.run C okC_swap 1 (q := (43, ([some (.ref (4)), some (.int (x)), some (.int (y)), some (.ref (5 + 3 + 5 * i)), some (.int (sumN (colR (rowOf f i) true) 0 24))], [.ref (4)]))) rfl ?_
  refine XV.getf C (ci := 4) (kf := 0) (v := .ref (5)) (xlk_ok okC_swap rfl) rfl (by decide) wF_C_10 (by omega) (by omega) (cw_o) rfl ?_
  refine XV.run C okC_swap 1 (q := (47, ([some (.ref (4)), some (.int (x)), some (.int (y)), some (.ref (5 + 3 + 5 * i)), some (.int (sumN (colR (rowOf f i) true) 0 24))], [.ref (5), .ref (5)]))) rfl ?_
  refine XV.getfN C (ci := 0) (kf := 6) (v := .int ((putRow f i (rNew y (f 0))) 9)) (xlk_ok okC_swap rfl) rfl (by decide) (List.mem_of_getElem? (i := 18) rfl) (by omega) (by omega) (cw_e 0 (by decide)) rfl ?_
  refine XV.run C okC_swap 2 (q := (52, ([some (.ref (4)), some (.int (x)), some (.int (y)), some (.ref (5 + 3 + 5 * i)), some (.int (sumN (colR (rowOf f i) true) 0 24))], [.int (((putRow f i (rNew y (f 0))) 9) + 1), .ref (5)]))) rfl ?_
  refine XV.putfN C (ci := 0) (kf := 6) (ty := .int) (xlk_ok okC_swap rfl) rfl (by decide) (List.mem_of_getElem? (i := 18) rfl) (by omega) (by omega) (cw_e 0 (by decide)) rfl rfl rfl rfl (Nat.le_of_ble_eq_true rfl) ?_
  refine XV.cast (cw_xupE (setElev_f6 _ 5 _ (((putRow f i (rNew y (f 0))) 9) + 1))) ?_
  refine XV.run C okC_swap 1 (q := (57, ([some (.ref (4)), some (.int (x)), some (.int (y)), some (.ref (5 + 3 + 5 * i)), some (.int (sumN (colR (rowOf f i) true) 0 24))], [.int (sumN (colR (rowOf f i) true) 0 24)]))) rfl ?_
  exact XV.iret C (xlk_ok okC_swap rfl) hret rfl (Nat.le_of_ble_eq_true rfl) (Nat.le_of_ble_eq_true rfl) (⟨i, ⟨hx, hi, h1⟩, rfl, rfl, rfl⟩)
theorem secs_nat {y u : Int32} (h : (¬ y < 0 ∧ y < 24) ∧ (¬ u < 0 ∧ u < 24) ∧ y ≤ u) : ∃ a b, y = nI a ∧ u = nI b ∧ a ≤ b ∧ b < 24 := by
  obtain ⟨a, ha, ha2⟩ := ix_nat (d := 24) h.1 rfl (by omega)
  obtain ⟨b, hb, hb2⟩ := ix_nat (d := 24) h.2.1 rfl (by omega)
  refine ⟨a, b, ha, hb, ?_, hb2⟩
  have h3 := h.2.2
  rw [ha, hb] at h3
  rcases Nat.lt_or_ge b a with q | q
  · exact absurd h3 (Int32.not_le.mpr (nI_lt q (by omega)))
  · exact q
theorem rowUpd_lo {f : Nat → Int32} {i j : Nat} {v : Int32} (hj : j < 10) : rowOf (upd f j v) i = rowOf f i := by
  funext k
  exact upd_ne (by omega)
theorem look0 (r : Nat → Int32) (a w : Nat) (t : Int32) : rLook r a w t 0 = r 0 := by
  unfold rLook
  simp
theorem lookLive {f : Nat → Int32} {i a w : Nat} {t : Int32} (h : 0 < rowOf f i 0) : 0 < rowOf (putRow f i (rLook (rowOf f i) a w t)) i 0 := by
  rw [putRow_row (by omega), look0]
  exact h
theorem lookLive2 {f : Nat → Int32} {i a w j : Nat} {t v : Int32} (hj : j < 10) (h : 0 < rowOf f i 0) : 0 < rowOf (upd (putRow f i (rLook (rowOf f i) a w t)) j v) i 0 := by
  rw [rowUpd_lo hj]
  exact lookLive h
set_option maxHeartbeats 4000000 in
set_option maxRecDepth 100000 in
theorem ct_C_inspect {l : Launch} (hfl : l.stackTraces = false) {G : XG} {n : Nat} {h : XH} {f : Nat → Int32} {o kp : Nat} {P : Nat → Nat → Int32} {tx : Nat → Int32} {len : Nat} {p : PT} {ρ : Nat → Int32} (hn : 209 ≤ n) {k : Nat} (hm : f 1 = nI k) (hk : k ≤ 5) (hl : ∀ i, i < k → 0 < rowOf f i 0) (ho : o < 6) (hkp : kp ≤ 6) (x y u : Int32) : XCt l G False (Cond.code yC_inspect bC_inspect 6 (some .int)) yC_inspect 8 132 4 24 [.ref (4), .int (x), .int (y), .int (u)] n (setCW h f o kp P tx len p ρ) (fun r' n' h' => ∃ i a b, (x = nI i ∧ i < k ∧ y = nI a ∧ u = nI b ∧ a ≤ b ∧ b < 24) ∧ r' = some (.int (sumN (colR (rowOf (upd (putRow f i (rLook (rowOf f i) a (b + 1 - a) (f 0))) 8 (putRow f i (rLook (rowOf f i) a (b + 1 - a) (f 0)) 8 + (u - y + 1))) i) false) 0 24 - sumN (colR (rowOf f i) false) 0 24)) ∧ n' = n ∧ h' = setCW h (upd (putRow f i (rLook (rowOf f i) a (b + 1 - a) (f 0))) 8 (putRow f i (rLook (rowOf f i) a (b + 1 - a) (f 0)) 8 + (u - y + 1))) (kO o kp) (kK kp) (kP o kp P f) tx len p ρ) (fun E n' h' => ((E = XIOB ∧ ((x < 0 ∨ nI k ≤ x))) ∨ (E = XIOB ∧ (¬ (x < 0 ∨ nI k ≤ x) ∧ ((y < 0 ∨ ¬ y < 24) ∨ (u < 0 ∨ ¬ u < 24)))) ∨ (E = XIAE ∧ (¬ (x < 0 ∨ nI k ≤ x) ∧ ((¬ y < 0 ∧ y < 24) ∧ (¬ u < 0 ∧ u < 24) ∧ ¬ y ≤ u)))) ∧ n' = n ∧ h' = setCW h f o kp P tx len p ρ) := by
  refine XCt.of hfl (by decide +kernel) (Nat.le_of_ble_eq_true rfl) ?_
  intro p' e' s' m' g' b' t' c' C hret hname hnt hmd
  refine XV.run C okC_inspect 2 (q := (2, ([some (.ref (4)), some (.int (x)), some (.int (y)), some (.int (u)), none, none], [.int (x), .ref (4)]))) rfl ?_
  refine XV.callV C (As := [.int (x)]) (rest := []) (ci := 4) (ct_C_existingRope hfl hn hm hk hl (x)) (xlk_ok okC_inspect rfl) rfl (by omega) (by omega) rfl (cw_o) rfl wM_C_60 wI_C_existingRope wV_C_existingRope wN_C wB_C_existingRope hy_C_existingRope (fun q => q.elim) ⟨Nat.le_of_ble_eq_true rfl, Nat.le_of_ble_eq_true rfl⟩ ⟨Nat.le_of_ble_eq_true rfl, Nat.le_of_ble_eq_true rfl⟩ (Nat.le_of_ble_eq_true rfl) (fun r n h hp => ?_) (fun E n1 h1 q => by obtain ⟨⟨rfl, hbad⟩, rfl, rfl⟩ := q; exact XT.out C hnt (Nat.le_of_ble_eq_true rfl) (Nat.le_of_ble_eq_true rfl) (⟨Or.inl (⟨rfl, hbad⟩), rfl, rfl⟩))
  obtain ⟨i, hx, hi, rfl, rfl, rfl⟩ := hp
  refine XV.run C okC_inspect 3 (q := (9, ([some (.ref (4)), some (.int (x)), some (.int (y)), some (.int (u)), some (.ref (5 + 3 + 5 * i)), none], [.int (u), .int (y)]))) rfl ?_
  refine XV.callS C (As := [.int (y), .int (u)]) (rest := []) (ct_C_requireSections hfl (y) (u)) (xlk_ok okC_inspect rfl) rfl wM_C_81 wS_C_requireSections wN_C wB_C_requireSections hy_C_requireSections (fun q => q.elim) ⟨Nat.le_of_ble_eq_true rfl, Nat.le_of_ble_eq_true rfl⟩ ⟨Nat.le_of_ble_eq_true rfl, Nat.le_of_ble_eq_true rfl⟩ (Nat.le_of_ble_eq_true rfl) (fun r n h hp => ?_) (fun E n1 h1 q => by obtain ⟨⟨rfl, hbad⟩ | ⟨rfl, hbad⟩, rfl, rfl⟩ := q <;> first | exact XT.out C hnt (Nat.le_of_ble_eq_true rfl) (Nat.le_of_ble_eq_true rfl) (⟨Or.inr (Or.inl (⟨rfl, nbad hx hi hk, hbad⟩)), rfl, rfl⟩) | exact XT.out C hnt (Nat.le_of_ble_eq_true rfl) (Nat.le_of_ble_eq_true rfl) (⟨Or.inr (Or.inr (⟨rfl, nbad hx hi hk, hbad⟩)), rfl, rfl⟩))
  obtain ⟨rfl, h1, rfl, rfl⟩ := hp
  obtain ⟨a, b, hy, hu, hab, hb⟩ := secs_nat h1
  refine XV.run C okC_inspect 1 (q := (14, ([some (.ref (4)), some (.int (x)), some (.int (y)), some (.int (u)), some (.ref (5 + 3 + 5 * i)), none], [.ref (5 + 3 + 5 * i)]))) rfl ?_
  refine XV.callV C (As := []) (rest := []) (ci := 2) (ct_R_allCounts hfl (elev_ropeL cw_e (by omega) (hl i hi)) (by omega) (by omega) ) (xlk_ok okC_inspect rfl) rfl (by omega) (by omega) rfl ((elev_ropeL cw_e (by omega) (hl i hi)) 0 (by decide)) rfl wM_C_84 wI_R_allCounts wV_R_allCounts wN_R wB_R_allCounts hy_R_allCounts (fun q => q.elim) ⟨Nat.le_of_ble_eq_true rfl, Nat.le_of_ble_eq_true rfl⟩ ⟨Nat.le_of_ble_eq_true rfl, Nat.le_of_ble_eq_true rfl⟩ (Nat.le_of_ble_eq_true rfl) (fun r n h hp => ?_) (fun _ _ _ q => q.elim)
  obtain ⟨rfl, rfl, rfl⟩ := hp
  refine XV.run C okC_inspect 2 (q := (20, ([some (.ref (4)), some (.int (x)), some (.int (y)), some (.int (u)), some (.ref (5 + 3 + 5 * i)), some (.int (sumN (colR (rowOf f i) false) 0 24))], [.ref (4)]))) rfl ?_
  refine XV.getf C (ci := 4) (kf := 1) (v := .ref (33)) (xlk_ok okC_inspect rfl) rfl (by decide) wF_C_19 (by omega) (by omega) (cw_o) rfl ?_
  refine XV.run C okC_inspect 1 (q := (24, ([some (.ref (4)), some (.int (x)), some (.int (y)), some (.int (u)), some (.ref (5 + 3 + 5 * i)), some (.int (sumN (colR (rowOf f i) false) 0 24))], [.ref (4), .ref (33)]))) rfl ?_
  refine XV.getf C (ci := 4) (kf := 0) (v := .ref (5)) (xlk_ok okC_inspect rfl) rfl (by decide) wF_C_10 (by omega) (by omega) (cw_o) rfl ?_
  refine XV.callV C (As := [.ref (5)]) (rest := []) (ci := 1) (ct_H_keep hfl cw_h (by omega) (by omega) ho cw_e (by omega) (by omega) (by omega) hkp) (xlk_ok okC_inspect rfl) rfl (by omega) (by omega) rfl (cw_h 0 (by decide)) rfl wM_C_52 wI_H_keep wV_H_keep wN_H wB_H_keep hy_H_keep (fun q => q.elim) ⟨Nat.le_of_ble_eq_true rfl, Nat.le_of_ble_eq_true rfl⟩ ⟨Nat.le_of_ble_eq_true rfl, Nat.le_of_ble_eq_true rfl⟩ (Nat.le_of_ble_eq_true rfl) (fun r n h hp => ?_) (fun _ _ _ q => q.elim)
  obtain ⟨rfl, rfl, rfl⟩ := hp
  refine XV.cast (cw_setH _ _ _) ?_
  refine XV.run C okC_inspect 4 (q := (35, ([some (.ref (4)), some (.int (x)), some (.int (y)), some (.int (u)), some (.ref (5 + 3 + 5 * i)), some (.int (sumN (colR (rowOf f i) false) 0 24))], [.ref (4), .int (u), .int (y), .ref (5 + 3 + 5 * i)]))) rfl ?_
  refine XV.getf C (ci := 4) (kf := 0) (v := .ref (5)) (xlk_ok okC_inspect rfl) rfl (by decide) wF_C_10 (by omega) (by omega) (cw_o) rfl ?_
  refine XV.getfN C (ci := 0) (kf := 3) (v := .int (f 0)) (xlk_ok okC_inspect rfl) rfl (by decide) (List.mem_of_getElem? (i := 15) rfl) (by omega) (by omega) (cw_e 0 (by decide)) rfl ?_
  refine XV.callV C (As := [.int (y), .int (u), .int (f 0)]) (rest := []) (ci := 2) (ct_R_lookAt hfl (elev_ropeL cw_e (by omega) (hl i hi)) (by omega) (by omega) (i := a) (w := (b + 1 - a)) (b := b) (hy) (hu) (by omega) (by omega) (f 0) (hl i hi)) (xlk_ok okC_inspect rfl) rfl (by omega) (by omega) rfl ((elev_ropeL cw_e (by omega) (hl i hi)) 0 (by decide)) rfl wM_C_87 wI_R_lookAt wV_R_lookAt wN_R wB_R_lookAt hy_R_lookAt (fun q => q.elim) ⟨Nat.le_of_ble_eq_true rfl, Nat.le_of_ble_eq_true rfl⟩ ⟨Nat.le_of_ble_eq_true rfl, Nat.le_of_ble_eq_true rfl⟩ (Nat.le_of_ble_eq_true rfl) (fun r n h hp => ?_) (fun _ _ _ q => q.elim)
  obtain ⟨rfl, rfl, rfl⟩ := hp
  refine XV.cast (cw_putR (by omega) (by rw [look0]; exact ne_of_gt (hl i hi))) ?_
  refine XV.run C okC_inspect 1 (q := (45, ([some (.ref (4)), some (.int (x)), some (.int (y)), some (.int (u)), some (.ref (5 + 3 + 5 * i)), some (.int (sumN (colR (rowOf f i) false) 0 24))], [.ref (4)]))) rfl ?_
  refine XV.getf C (ci := 4) (kf := 0) (v := .ref (5)) (xlk_ok okC_inspect rfl) rfl (by decide) wF_C_10 (by omega) (by omega) (cw_o) rfl ?_
  refine XV.run C okC_inspect 1 (q := (49, ([some (.ref (4)), some (.int (x)), some (.int (y)), some (.int (u)), some (.ref (5 + 3 + 5 * i)), some (.int (sumN (colR (rowOf f i) false) 0 24))], [.ref (5), .ref (5)]))) rfl ?_
  refine XV.getfN C (ci := 0) (kf := 5) (v := .int ((putRow f i (rLook (rowOf f i) a (b + 1 - a) (f 0))) 8)) (xlk_ok okC_inspect rfl) rfl (by decide) (List.mem_of_getElem? (i := 17) rfl) (by omega) (by omega) (cw_e 0 (by decide)) rfl ?_
  refine XV.run C okC_inspect 6 (q := (58, ([some (.ref (4)), some (.int (x)), some (.int (y)), some (.int (u)), some (.ref (5 + 3 + 5 * i)), some (.int (sumN (colR (rowOf f i) false) 0 24))], [.int (((putRow f i (rLook (rowOf f i) a (b + 1 - a) (f 0))) 8) + ((u - y) + 1)), .ref (5)]))) rfl ?_
  refine XV.putfN C (ci := 0) (kf := 5) (ty := .int) (xlk_ok okC_inspect rfl) rfl (by decide) (List.mem_of_getElem? (i := 17) rfl) (by omega) (by omega) (cw_e 0 (by decide)) rfl rfl rfl rfl (Nat.le_of_ble_eq_true rfl) ?_
  refine XV.cast (cw_xupE (setElev_f5 _ 5 _ (((putRow f i (rLook (rowOf f i) a (b + 1 - a) (f 0))) 8) + ((u - y) + 1)))) ?_
  refine XV.run C okC_inspect 1 (q := (63, ([some (.ref (4)), some (.int (x)), some (.int (y)), some (.int (u)), some (.ref (5 + 3 + 5 * i)), some (.int (sumN (colR (rowOf f i) false) 0 24))], [.ref (5 + 3 + 5 * i)]))) rfl ?_
  refine XV.callV C (As := []) (rest := []) (ci := 2) (ct_R_allCounts hfl (elev_ropeL cw_e (by omega) (lookLive2 (by decide) (hl i hi))) (by omega) (by omega) ) (xlk_ok okC_inspect rfl) rfl (by omega) (by omega) rfl ((elev_ropeL cw_e (by omega) (lookLive2 (by decide) (hl i hi))) 0 (by decide)) rfl wM_C_84 wI_R_allCounts wV_R_allCounts wN_R wB_R_allCounts hy_R_allCounts (fun q => q.elim) ⟨Nat.le_of_ble_eq_true rfl, Nat.le_of_ble_eq_true rfl⟩ ⟨Nat.le_of_ble_eq_true rfl, Nat.le_of_ble_eq_true rfl⟩ (Nat.le_of_ble_eq_true rfl) (fun r n h hp => ?_) (fun _ _ _ q => q.elim)
  obtain ⟨rfl, rfl, rfl⟩ := hp
  refine XV.run C okC_inspect 2 (q := (69, ([some (.ref (4)), some (.int (x)), some (.int (y)), some (.int (u)), some (.ref (5 + 3 + 5 * i)), some (.int (sumN (colR (rowOf f i) false) 0 24))], [.int ((sumN (colR (rowOf (upd (putRow f i (rLook (rowOf f i) a (b + 1 - a) (f 0))) 8 (((putRow f i (rLook (rowOf f i) a (b + 1 - a) (f 0))) 8) + ((u - y) + 1))) i) false) 0 24) - (sumN (colR (rowOf f i) false) 0 24))]))) rfl ?_
  exact XV.iret C (xlk_ok okC_inspect rfl) hret rfl (Nat.le_of_ble_eq_true rfl) (Nat.le_of_ble_eq_true rfl) (⟨i, a, b, ⟨hx, hi, hy, hu, hab, hb⟩, rfl, rfl, rfl⟩)
set_option maxHeartbeats 4000000 in
set_option maxRecDepth 100000 in
theorem ct_C_ifInspected {l : Launch} (hfl : l.stackTraces = false) {G : XG} {n : Nat} {h : XH} {f : Nat → Int32} {o kp : Nat} {P : Nat → Nat → Int32} {tx : Nat → Int32} {len : Nat} {p : PT} {ρ : Nat → Int32} (hn : 209 ≤ n) {k : Nat} (hm : f 1 = nI k) (hk : k ≤ 5) (hl : ∀ i, i < k → 0 < rowOf f i 0) {z : Nat} (hz : f 2 = nI z) (z1 : 1 ≤ z) (z2 : z ≤ 12) (x y u : Int32) : XCt l G False (Cond.code yC_ifInspected bC_ifInspected 5 (some .int)) yC_ifInspected 8 132 4 24 [.ref (4), .int (x), .int (y), .int (u)] n (setCW h f o kp P tx len p ρ) (fun r' n' h' => ∃ i a b, (x = nI i ∧ i < k ∧ y = nI a ∧ u = nI b ∧ a ≤ b ∧ b < 24) ∧ r' = some (.int (reasonK f (rLook (rowOf f i) a (b + 1 - a) (f 0)) z)) ∧ n' = n ∧ h' = setCW h f o kp P tx len p (rLook (rowOf f i) a (b + 1 - a) (f 0))) (fun E n' h' => ((E = XIOB ∧ ((x < 0 ∨ nI k ≤ x))) ∨ (E = XIOB ∧ (¬ (x < 0 ∨ nI k ≤ x) ∧ ((y < 0 ∨ ¬ y < 24) ∨ (u < 0 ∨ ¬ u < 24)))) ∨ (E = XIAE ∧ (¬ (x < 0 ∨ nI k ≤ x) ∧ ((¬ y < 0 ∧ y < 24) ∧ (¬ u < 0 ∧ u < 24) ∧ ¬ y ≤ u)))) ∧ n' = n ∧ h' = setCW h f o kp P tx len p ρ) := by
  refine XCt.of hfl (by decide +kernel) (Nat.le_of_ble_eq_true rfl) ?_
  intro p' e' s' m' g' b' t' c' C hret hname hnt hmd
  refine XV.run C okC_ifInspected 2 (q := (2, ([some (.ref (4)), some (.int (x)), some (.int (y)), some (.int (u)), none], [.int (x), .ref (4)]))) rfl ?_
  refine XV.callV C (As := [.int (x)]) (rest := []) (ci := 4) (ct_C_existingRope hfl hn hm hk hl (x)) (xlk_ok okC_ifInspected rfl) rfl (by omega) (by omega) rfl (cw_o) rfl wM_C_60 wI_C_existingRope wV_C_existingRope wN_C wB_C_existingRope hy_C_existingRope (fun q => q.elim) ⟨Nat.le_of_ble_eq_true rfl, Nat.le_of_ble_eq_true rfl⟩ ⟨Nat.le_of_ble_eq_true rfl, Nat.le_of_ble_eq_true rfl⟩ (Nat.le_of_ble_eq_true rfl) (fun r n h hp => ?_) (fun E n1 h1 q => by obtain ⟨⟨rfl, hbad⟩, rfl, rfl⟩ := q; exact XT.out C hnt (Nat.le_of_ble_eq_true rfl) (Nat.le_of_ble_eq_true rfl) (⟨Or.inl (⟨rfl, hbad⟩), rfl, rfl⟩))
  obtain ⟨i, hx, hi, rfl, rfl, rfl⟩ := hp
  refine XV.run C okC_ifInspected 3 (q := (9, ([some (.ref (4)), some (.int (x)), some (.int (y)), some (.int (u)), some (.ref (5 + 3 + 5 * i))], [.int (u), .int (y)]))) rfl ?_
  refine XV.callS C (As := [.int (y), .int (u)]) (rest := []) (ct_C_requireSections hfl (y) (u)) (xlk_ok okC_ifInspected rfl) rfl wM_C_81 wS_C_requireSections wN_C wB_C_requireSections hy_C_requireSections (fun q => q.elim) ⟨Nat.le_of_ble_eq_true rfl, Nat.le_of_ble_eq_true rfl⟩ ⟨Nat.le_of_ble_eq_true rfl, Nat.le_of_ble_eq_true rfl⟩ (Nat.le_of_ble_eq_true rfl) (fun r n h hp => ?_) (fun E n1 h1 q => by obtain ⟨⟨rfl, hbad⟩ | ⟨rfl, hbad⟩, rfl, rfl⟩ := q <;> first | exact XT.out C hnt (Nat.le_of_ble_eq_true rfl) (Nat.le_of_ble_eq_true rfl) (⟨Or.inr (Or.inl (⟨rfl, nbad hx hi hk, hbad⟩)), rfl, rfl⟩) | exact XT.out C hnt (Nat.le_of_ble_eq_true rfl) (Nat.le_of_ble_eq_true rfl) (⟨Or.inr (Or.inr (⟨rfl, nbad hx hi hk, hbad⟩)), rfl, rfl⟩))
  obtain ⟨rfl, h1, rfl, rfl⟩ := hp
  obtain ⟨a, b, hy, hu, hab, hb⟩ := secs_nat h1
  refine XV.run C okC_ifInspected 4 (q := (17, ([some (.ref (4)), some (.int (x)), some (.int (y)), some (.int (u)), some (.ref (5 + 3 + 5 * i))], [.int (u), .int (y), .ref (5 + 3 + 5 * i), .ref (4)]))) rfl ?_
  refine XV.callV C (As := [.ref (5 + 3 + 5 * i), .int (y), .int (u)]) (rest := []) (ci := 4) (ct_C_reasonIfInspected hfl hn hm hk hl (i := i) hi hz z1 z2 (j := a) (w := (b + 1 - a)) (b := b) (hy) (hu) (by omega) (by omega)) (xlk_ok okC_ifInspected rfl) rfl (by omega) (by omega) rfl (cw_o) rfl wM_C_182 wI_C_reasonIfInspected wV_C_reasonIfInspected wN_C wB_C_reasonIfInspected hy_C_reasonIfInspected (fun q => q.elim) ⟨Nat.le_of_ble_eq_true rfl, Nat.le_of_ble_eq_true rfl⟩ ⟨Nat.le_of_ble_eq_true rfl, Nat.le_of_ble_eq_true rfl⟩ (Nat.le_of_ble_eq_true rfl) (fun r n h hp => ?_) (fun _ _ _ q => q.elim)
  obtain ⟨rfl, rfl, rfl⟩ := hp
  exact XV.iret C (xlk_ok okC_ifInspected rfl) hret rfl (Nat.le_of_ble_eq_true rfl) (Nat.le_of_ble_eq_true rfl) (⟨i, a, b, ⟨hx, hi, hy, hu, hab, hb⟩, rfl, rfl, rfl⟩)
set_option maxHeartbeats 4000000 in
set_option maxRecDepth 100000 in
theorem ct_C_set {l : Launch} (hfl : l.stackTraces = false) {G : XG} {n : Nat} {h : XH} {f : Nat → Int32} {o kp : Nat} {P : Nat → Nat → Int32} {tx : Nat → Int32} {len : Nat} {p : PT} {ρ : Nat → Int32} (hn : 209 ≤ n) (ho : o < 6) (hkp : kp ≤ 6) (x y : Int32) : XCt l G False (Cond.code yC_set bC_set 4 (some .int)) yC_set 7 112 2 12 [.ref (4), .int (x), .int (y)] n (setCW h f o kp P tx len p ρ) (fun r' n' h' => ∃ i, (x = nI i ∧ i < 5 ∧ (¬ y < 1 ∧ y ≤ (XSA 2).2 i)) ∧ r' = some (.int (f (2 + i))) ∧ n' = n ∧ h' = setCW h (upd f (2 + i) y) (kO o kp) (kK kp) (kP o kp P f) tx len p ρ) (fun E n' h' => ((E = XIOB ∧ ((x < 0 ∨ ¬ x < 5))) ∨ (E = XIAE ∧ (∃ i, x = nI i ∧ i < 5 ∧ (y < 1 ∨ ¬ y ≤ (XSA 2).2 i)))) ∧ n' = n ∧ h' = setCW h f o kp P tx len p ρ) := by
  refine XCt.of hfl (by decide +kernel) (Nat.le_of_ble_eq_true rfl) ?_
  intro p' e' s' m' g' b' t' c' C hret hname hnt hmd
  refine XV.run C okC_set 2 (q := (2, ([some (.ref (4)), some (.int (x)), some (.int (y)), none], [.int (5), .int (x)]))) rfl ?_
  refine XV.callS C (As := [.int (x), .int (5)]) (rest := []) (ct_C_requireIndex hfl x 5) (xlk_ok okC_set rfl) rfl wM_C_93 wS_C_requireIndex wN_C wB_C_requireIndex hy_C_requireIndex (fun q => q.elim) ⟨Nat.le_of_ble_eq_true rfl, Nat.le_of_ble_eq_true rfl⟩ ⟨Nat.le_of_ble_eq_true rfl, Nat.le_of_ble_eq_true rfl⟩ (Nat.le_of_ble_eq_true rfl) (fun r n h hp => ?_) (fun E n1 h1 q => by obtain ⟨⟨rfl, hbad⟩, rfl, rfl⟩ := q; exact XT.out C hnt (Nat.le_of_ble_eq_true rfl) (Nat.le_of_ble_eq_true rfl) (⟨Or.inl (⟨rfl, hbad⟩), rfl, rfl⟩))
  obtain ⟨rfl, h0, rfl, rfl⟩ := hp
  obtain ⟨i, hx, hi⟩ := ix_nat (d := 5) h0 rfl (by omega)
  refine XV.run C okC_set 1 (q := (6, ([some (.ref (4)), some (.int (x)), some (.int (y)), none], [.int (y)]))) rfl ?_
  refine XV.gets C (i := 1) (xlk_ok okC_set rfl) (by decide) (by decide) wF_C_96 ?_
  refine XV.run C okC_set 1 (q := (10, ([some (.ref (4)), some (.int (x)), some (.int (y)), none], [.int (x), .ref (1), .int (y)]))) rfl ?_
  refine XV.tald C (i := 1) (a := i) (xlk_ok okC_set rfl) (by decide) (by decide) (hx) (hi) ?_
  refine XV.gets C (i := 2) (xlk_ok okC_set rfl) (by decide) (by decide) wF_C_100 ?_
  refine XV.run C okC_set 1 (q := (15, ([some (.ref (4)), some (.int (x)), some (.int (y)), none], [.int (x), .ref (2), .int ((XSA 1).2 i), .int (y)]))) rfl ?_
  refine XV.tald C (i := 2) (a := i) (xlk_ok okC_set rfl) (by decide) (by decide) (hx) (hi) ?_
  refine XV.callS C (As := [.int (y), .int ((XSA 1).2 i), .int ((XSA 2).2 i)]) (rest := []) (ct_C_requireRange hfl y ((XSA 1).2 i) ((XSA 2).2 i)) (xlk_ok okC_set rfl) rfl wM_C_37 wS_C_requireRange wN_C wB_C_requireRange hy_C_requireRange (fun q => q.elim) ⟨Nat.le_of_ble_eq_true rfl, Nat.le_of_ble_eq_true rfl⟩ ⟨Nat.le_of_ble_eq_true rfl, Nat.le_of_ble_eq_true rfl⟩ (Nat.le_of_ble_eq_true rfl) (fun r n h hp => ?_) (fun E n1 h1 q => by obtain ⟨⟨rfl, hbad⟩, rfl, rfl⟩ := q; exact XT.out C hnt (Nat.le_of_ble_eq_true rfl) (Nat.le_of_ble_eq_true rfl) (⟨Or.inr (⟨rfl, i, hx, hi, hbad⟩), rfl, rfl⟩))
  obtain ⟨rfl, h1, rfl, rfl⟩ := hp
  refine XV.run C okC_set 1 (q := (20, ([some (.ref (4)), some (.int (x)), some (.int (y)), none], [.ref (4)]))) rfl ?_
  refine XV.getf C (ci := 4) (kf := 0) (v := .ref (5)) (xlk_ok okC_set rfl) rfl (by decide) wF_C_10 (by omega) (by omega) (cw_o) rfl ?_
  refine XV.getfN C (ci := 0) (kf := 0) (v := .ref (5 + 1)) (xlk_ok okC_set rfl) rfl (by decide) (List.mem_of_getElem? (i := 13) rfl) (by omega) (by omega) (cw_e 0 (by decide)) rfl ?_
  refine XV.run C okC_set 1 (q := (27, ([some (.ref (4)), some (.int (x)), some (.int (y)), none], [.int (x), .ref (5 + 1)]))) rfl ?_
  refine XV.ialdC C (N := 5) (f := (fun i => f (2 + i))) (a := i) (xlk_ok okC_set rfl) (by omega) (by omega) (cw_e 1 (by decide)) (hx) (hi) (by decide) ?_
  refine XV.run C okC_set 2 (q := (30, ([some (.ref (4)), some (.int (x)), some (.int (y)), some (.int (f (2 + i)))], [.ref (4)]))) rfl ?_
  refine XV.getf C (ci := 4) (kf := 1) (v := .ref (33)) (xlk_ok okC_set rfl) rfl (by decide) wF_C_19 (by omega) (by omega) (cw_o) rfl ?_
  refine XV.run C okC_set 1 (q := (34, ([some (.ref (4)), some (.int (x)), some (.int (y)), some (.int (f (2 + i)))], [.ref (4), .ref (33)]))) rfl ?_
  refine XV.getf C (ci := 4) (kf := 0) (v := .ref (5)) (xlk_ok okC_set rfl) rfl (by decide) wF_C_10 (by omega) (by omega) (cw_o) rfl ?_
  refine XV.callV C (As := [.ref (5)]) (rest := []) (ci := 1) (ct_H_keep hfl cw_h (by omega) (by omega) ho cw_e (by omega) (by omega) (by omega) hkp) (xlk_ok okC_set rfl) rfl (by omega) (by omega) rfl (cw_h 0 (by decide)) rfl wM_C_52 wI_H_keep wV_H_keep wN_H wB_H_keep hy_H_keep (fun q => q.elim) ⟨Nat.le_of_ble_eq_true rfl, Nat.le_of_ble_eq_true rfl⟩ ⟨Nat.le_of_ble_eq_true rfl, Nat.le_of_ble_eq_true rfl⟩ (Nat.le_of_ble_eq_true rfl) (fun r n h hp => ?_) (fun _ _ _ q => q.elim)
  obtain ⟨rfl, rfl, rfl⟩ := hp
  refine XV.cast (cw_setH _ _ _) ?_
  refine XV.run C okC_set 1 (q := (41, ([some (.ref (4)), some (.int (x)), some (.int (y)), some (.int (f (2 + i)))], [.ref (4)]))) rfl ?_
  refine XV.getf C (ci := 4) (kf := 0) (v := .ref (5)) (xlk_ok okC_set rfl) rfl (by decide) wF_C_10 (by omega) (by omega) (cw_o) rfl ?_
  refine XV.getfN C (ci := 0) (kf := 0) (v := .ref (5 + 1)) (xlk_ok okC_set rfl) rfl (by decide) (List.mem_of_getElem? (i := 13) rfl) (by omega) (by omega) (cw_e 0 (by decide)) rfl ?_
  refine XV.run C okC_set 2 (q := (49, ([some (.ref (4)), some (.int (x)), some (.int (y)), some (.int (f (2 + i)))], [.int (y), .int (x), .ref (5 + 1)]))) rfl ?_
  refine XV.iastC C (N := 5) (f := (fun i => f (2 + i))) (a := i) (xlk_ok okC_set rfl) (by omega) (by omega) (cw_e 1 (by decide)) (hx) (hi) (by decide) ?_
  refine XV.cast (cw_xupE (setElev_s1 _ 5 _ (i) (y) (hi))) ?_
  refine XV.run C okC_set 1 (q := (51, ([some (.ref (4)), some (.int (x)), some (.int (y)), some (.int (f (2 + i)))], [.int (f (2 + i))]))) rfl ?_
  exact XV.iret C (xlk_ok okC_set rfl) hret rfl (Nat.le_of_ble_eq_true rfl) (Nat.le_of_ble_eq_true rfl) (⟨i, ⟨hx, hi, h1⟩, rfl, rfl, rfl⟩)
set_option maxHeartbeats 4000000 in
set_option maxRecDepth 100000 in
theorem ct_C_setting {l : Launch} (hfl : l.stackTraces = false) {G : XG} {n : Nat} {h : XH} {f : Nat → Int32} {o kp : Nat} {P : Nat → Nat → Int32} {tx : Nat → Int32} {len : Nat} {p : PT} {ρ : Nat → Int32} (hn : 209 ≤ n) (x : Int32) : XCt l G False (Cond.code yC_setting bC_setting 2 (some .int)) yC_setting 7 111 1 6 [.ref (4), .int (x)] n (setCW h f o kp P tx len p ρ) (fun r' n' h' => ∃ i, (x = nI i ∧ i < 5) ∧ r' = some (.int (f (2 + i))) ∧ n' = n ∧ h' = setCW h f o kp P tx len p ρ) (fun E n' h' => ((E = XIOB ∧ ((x < 0 ∨ ¬ x < 5)))) ∧ n' = n ∧ h' = setCW h f o kp P tx len p ρ) := by
  refine XCt.of hfl (by decide +kernel) (Nat.le_of_ble_eq_true rfl) ?_
  intro p' e' s' m' g' b' t' c' C hret hname hnt hmd
  refine XV.run C okC_setting 2 (q := (2, ([some (.ref (4)), some (.int (x))], [.int (5), .int (x)]))) rfl ?_
  refine XV.callS C (As := [.int (x), .int (5)]) (rest := []) (ct_C_requireIndex hfl x 5) (xlk_ok okC_setting rfl) rfl wM_C_93 wS_C_requireIndex wN_C wB_C_requireIndex hy_C_requireIndex (fun q => q.elim) ⟨Nat.le_of_ble_eq_true rfl, Nat.le_of_ble_eq_true rfl⟩ ⟨Nat.le_of_ble_eq_true rfl, Nat.le_of_ble_eq_true rfl⟩ (Nat.le_of_ble_eq_true rfl) (fun r n h hp => ?_) (fun E n1 h1 q => by obtain ⟨⟨rfl, hbad⟩, rfl, rfl⟩ := q; exact XT.out C hnt (Nat.le_of_ble_eq_true rfl) (Nat.le_of_ble_eq_true rfl) (⟨⟨rfl, hbad⟩, rfl, rfl⟩))
  obtain ⟨rfl, h0, rfl, rfl⟩ := hp
  obtain ⟨i, hx, hi⟩ := ix_nat (d := 5) h0 rfl (by omega)
  refine XV.run C okC_setting 1 (q := (6, ([some (.ref (4)), some (.int (x))], [.ref (4)]))) rfl ?_
  refine XV.getf C (ci := 4) (kf := 0) (v := .ref (5)) (xlk_ok okC_setting rfl) rfl (by decide) wF_C_10 (by omega) (by omega) (cw_o) rfl ?_
  refine XV.getfN C (ci := 0) (kf := 0) (v := .ref (5 + 1)) (xlk_ok okC_setting rfl) rfl (by decide) (List.mem_of_getElem? (i := 13) rfl) (by omega) (by omega) (cw_e 0 (by decide)) rfl ?_
  refine XV.run C okC_setting 1 (q := (13, ([some (.ref (4)), some (.int (x))], [.int (x), .ref (5 + 1)]))) rfl ?_
  refine XV.ialdC C (N := 5) (f := (fun i => f (2 + i))) (a := i) (xlk_ok okC_setting rfl) (by omega) (by omega) (cw_e 1 (by decide)) (hx) (hi) (by decide) ?_
  exact XV.iret C (xlk_ok okC_setting rfl) hret rfl (Nat.le_of_ble_eq_true rfl) (Nat.le_of_ble_eq_true rfl) (⟨i, ⟨hx, hi⟩, rfl, rfl, rfl⟩)
set_option maxHeartbeats 4000000 in
set_option maxRecDepth 100000 in
theorem ct_C_trip {l : Launch} (hfl : l.stackTraces = false) {G : XG} {n : Nat} {h : XH} {f : Nat → Int32} {o kp : Nat} {P : Nat → Nat → Int32} {tx : Nat → Int32} {len : Nat} {p : PT} {ρ : Nat → Int32} (hn : 209 ≤ n) {k : Nat} (hm : f 1 = nI k) (hk : k ≤ 5) (hl : ∀ i, i < k → 0 < rowOf f i 0) {z : Nat} (hz : f 2 = nI z) (z1 : 1 ≤ z) (z2 : z ≤ 12) (ho : o < 6) (hkp : kp ≤ 6) (x y u : Int32) : XCt l G False (Cond.code yC_trip bC_trip 4 (some .int)) yC_trip 7 149 4 24 [.ref (4), .int (x), .int (y), .int (u)] n (setCW h f o kp P tx len p ρ) (fun r' n' h' => ∃ a b, (x = nI a ∧ a < 8 ∧ y = nI b ∧ b < 8 ∧ (¬ u < 1 ∧ u ≤ 99) ∧ (¬ canK f z k = 0 ∧ f 7 + u ≤ 99999)) ∧ r' = some (.int (f 7 + u)) ∧ n' = n ∧ h' = setCW h (travK f (min a b) (max a b) k u) (kO o kp) (kK kp) (kP o kp P f) tx len p ρ) (fun E n' h' => ((E = XIOB ∧ ((x < 0 ∨ ¬ x < 8))) ∨ (E = XIOB ∧ ((¬ x < 0 ∧ x < 8) ∧ (y < 0 ∨ ¬ y < 8))) ∨ (E = XIAE ∧ ((¬ x < 0 ∧ x < 8) ∧ (¬ y < 0 ∧ y < 8) ∧ (u < 1 ∨ ¬ u ≤ 99))) ∨ (E = XISE ∧ ((¬ x < 0 ∧ x < 8) ∧ (¬ y < 0 ∧ y < 8) ∧ (¬ u < 1 ∧ u ≤ 99) ∧ ¬ (¬ canK f z k = 0 ∧ f 7 + u ≤ 99999)))) ∧ n' = n ∧ h' = setCW h f o kp P tx len p ρ) := by
  refine XCt.of hfl (by decide +kernel) (Nat.le_of_ble_eq_true rfl) ?_
  intro p' e' s' m' g' b' t' c' C hret hname hnt hmd
  refine XV.run C okC_trip 2 (q := (3, ([some (.ref (4)), some (.int (x)), some (.int (y)), some (.int (u))], [.int (8), .int (x)]))) rfl ?_
  refine XV.callS C (As := [.int (x), .int (8)]) (rest := []) (ct_C_requireIndex hfl x 8) (xlk_ok okC_trip rfl) rfl wM_C_93 wS_C_requireIndex wN_C wB_C_requireIndex hy_C_requireIndex (fun q => q.elim) ⟨Nat.le_of_ble_eq_true rfl, Nat.le_of_ble_eq_true rfl⟩ ⟨Nat.le_of_ble_eq_true rfl, Nat.le_of_ble_eq_true rfl⟩ (Nat.le_of_ble_eq_true rfl) (fun r n h hp => ?_) (fun E n1 h1 q => by obtain ⟨⟨rfl, hbad⟩, rfl, rfl⟩ := q; exact XT.out C hnt (Nat.le_of_ble_eq_true rfl) (Nat.le_of_ble_eq_true rfl) (⟨Or.inl (⟨rfl, hbad⟩), rfl, rfl⟩))
  obtain ⟨rfl, h0, rfl, rfl⟩ := hp
  refine XV.run C okC_trip 2 (q := (9, ([some (.ref (4)), some (.int (x)), some (.int (y)), some (.int (u))], [.int (8), .int (y)]))) rfl ?_
  refine XV.callS C (As := [.int (y), .int (8)]) (rest := []) (ct_C_requireIndex hfl y 8) (xlk_ok okC_trip rfl) rfl wM_C_93 wS_C_requireIndex wN_C wB_C_requireIndex hy_C_requireIndex (fun q => q.elim) ⟨Nat.le_of_ble_eq_true rfl, Nat.le_of_ble_eq_true rfl⟩ ⟨Nat.le_of_ble_eq_true rfl, Nat.le_of_ble_eq_true rfl⟩ (Nat.le_of_ble_eq_true rfl) (fun r n h hp => ?_) (fun E n1 h1 q => by obtain ⟨⟨rfl, hbad⟩, rfl, rfl⟩ := q; exact XT.out C hnt (Nat.le_of_ble_eq_true rfl) (Nat.le_of_ble_eq_true rfl) (⟨Or.inr (Or.inl (⟨rfl, h0, hbad⟩)), rfl, rfl⟩))
  obtain ⟨rfl, h1, rfl, rfl⟩ := hp
  refine XV.run C okC_trip 3 (q := (16, ([some (.ref (4)), some (.int (x)), some (.int (y)), some (.int (u))], [.int (99), .int (1), .int (u)]))) rfl ?_
  refine XV.callS C (As := [.int (u), .int (1), .int (99)]) (rest := []) (ct_C_requireRange hfl u 1 99) (xlk_ok okC_trip rfl) rfl wM_C_37 wS_C_requireRange wN_C wB_C_requireRange hy_C_requireRange (fun q => q.elim) ⟨Nat.le_of_ble_eq_true rfl, Nat.le_of_ble_eq_true rfl⟩ ⟨Nat.le_of_ble_eq_true rfl, Nat.le_of_ble_eq_true rfl⟩ (Nat.le_of_ble_eq_true rfl) (fun r n h hp => ?_) (fun E n1 h1 q => by obtain ⟨⟨rfl, hbad⟩, rfl, rfl⟩ := q; exact XT.out C hnt (Nat.le_of_ble_eq_true rfl) (Nat.le_of_ble_eq_true rfl) (⟨Or.inr (Or.inr (Or.inl (⟨rfl, h0, h1, hbad⟩))), rfl, rfl⟩))
  obtain ⟨rfl, h2, rfl, rfl⟩ := hp
  refine XV.run C okC_trip 2 (q := (21, ([some (.ref (4)), some (.int (x)), some (.int (y)), some (.int (u))], [.int (u), .ref (4)]))) rfl ?_
  refine XV.callV C (As := [.int (u)]) (rest := []) (ci := 4) (ct_C_requireTripsAllowed hfl hn hm hk hl hz z1 z2 (u)) (xlk_ok okC_trip rfl) rfl (by omega) (by omega) rfl (cw_o) rfl wM_C_106 wI_C_requireTripsAllowed wV_C_requireTripsAllowed wN_C wB_C_requireTripsAllowed hy_C_requireTripsAllowed (fun q => q.elim) ⟨Nat.le_of_ble_eq_true rfl, Nat.le_of_ble_eq_true rfl⟩ ⟨Nat.le_of_ble_eq_true rfl, Nat.le_of_ble_eq_true rfl⟩ (Nat.le_of_ble_eq_true rfl) (fun r n h hp => ?_) (fun E n1 h1 q => by obtain ⟨⟨rfl, hbad⟩, rfl, rfl⟩ := q; exact XT.out C hnt (Nat.le_of_ble_eq_true rfl) (Nat.le_of_ble_eq_true rfl) (⟨Or.inr (Or.inr (Or.inr (⟨rfl, h0, h1, h2, hbad⟩))), rfl, rfl⟩))
  obtain ⟨rfl, h3, rfl, rfl⟩ := hp
  obtain ⟨a, hxa, ha⟩ := ix_nat (d := 8) h0 rfl (by omega)
  obtain ⟨b, hyb, hb⟩ := ix_nat (d := 8) h1 rfl (by omega)
  refine XV.run C okC_trip 1 (q := (25, ([some (.ref (4)), some (.int (x)), some (.int (y)), some (.int (u))], [.ref (4)]))) rfl ?_
  refine XV.getf C (ci := 4) (kf := 1) (v := .ref (33)) (xlk_ok okC_trip rfl) rfl (by decide) wF_C_19 (by omega) (by omega) (cw_o) rfl ?_
  refine XV.run C okC_trip 1 (q := (29, ([some (.ref (4)), some (.int (x)), some (.int (y)), some (.int (u))], [.ref (4), .ref (33)]))) rfl ?_
  refine XV.getf C (ci := 4) (kf := 0) (v := .ref (5)) (xlk_ok okC_trip rfl) rfl (by decide) wF_C_10 (by omega) (by omega) (cw_o) rfl ?_
  refine XV.callV C (As := [.ref (5)]) (rest := []) (ci := 1) (ct_H_keep hfl cw_h (by omega) (by omega) ho cw_e (by omega) (by omega) (by omega) hkp) (xlk_ok okC_trip rfl) rfl (by omega) (by omega) rfl (cw_h 0 (by decide)) rfl wM_C_52 wI_H_keep wV_H_keep wN_H wB_H_keep hy_H_keep (fun q => q.elim) ⟨Nat.le_of_ble_eq_true rfl, Nat.le_of_ble_eq_true rfl⟩ ⟨Nat.le_of_ble_eq_true rfl, Nat.le_of_ble_eq_true rfl⟩ (Nat.le_of_ble_eq_true rfl) (fun r n h hp => ?_) (fun _ _ _ q => q.elim)
  obtain ⟨rfl, rfl, rfl⟩ := hp
  refine XV.cast (cw_setH _ _ _) ?_
  refine XV.run C okC_trip 1 (q := (36, ([some (.ref (4)), some (.int (x)), some (.int (y)), some (.int (u))], [.ref (4)]))) rfl ?_
  refine XV.getf C (ci := 4) (kf := 0) (v := .ref (5)) (xlk_ok okC_trip rfl) rfl (by decide) wF_C_10 (by omega) (by omega) (cw_o) rfl ?_
  refine XV.run C okC_trip 3 (q := (42, ([some (.ref (4)), some (.int (x)), some (.int (y)), some (.int (u))], [.int (u), .int (y), .int (x), .ref (5)]))) rfl ?_
  refine XV.callV C (As := [.int (x), .int (y), .int (u)]) (rest := []) (ci := 0) (ct_E_travel hfl cw_e (by omega) (by omega) hm hk hl (a := a) (b := b) (lo := min a b) (hi := max a b) (u) hxa hyb (by omega) (by omega) (by omega)) (xlk_ok okC_trip rfl) rfl (by omega) (by omega) rfl (cw_e 0 (by decide)) rfl wM_C_109 wI_E_travel wV_E_travel wN_E wB_E_travel hy_E_travel (fun q => q.elim) ⟨Nat.le_of_ble_eq_true rfl, Nat.le_of_ble_eq_true rfl⟩ ⟨Nat.le_of_ble_eq_true rfl, Nat.le_of_ble_eq_true rfl⟩ (Nat.le_of_ble_eq_true rfl) (fun r n h hp => ?_) (fun _ _ _ q => q.elim)
  obtain ⟨rfl, rfl, rfl⟩ := hp
  refine XV.cast (cw_setE _) ?_
  refine XV.run C okC_trip 1 (q := (46, ([some (.ref (4)), some (.int (x)), some (.int (y)), some (.int (u))], [.ref (4)]))) rfl ?_
  refine XV.getf C (ci := 4) (kf := 0) (v := .ref (5)) (xlk_ok okC_trip rfl) rfl (by decide) wF_C_10 (by omega) (by omega) (cw_o) rfl ?_
  refine XV.getfN C (ci := 0) (kf := 4) (v := .int ((travK f (min a b) (max a b) k u) 7)) (xlk_ok okC_trip rfl) rfl (by decide) (List.mem_of_getElem? (i := 16) rfl) (by omega) (by omega) (cw_e 0 (by decide)) rfl ?_
  exact XV.iret C (xlk_ok okC_trip rfl) hret (rfl) (Nat.le_of_ble_eq_true rfl) (Nat.le_of_ble_eq_true rfl) (⟨a, b, ⟨hxa, ha, hyb, hb, h2, h3⟩, by rw [show travK f (min a b) (max a b) k u 7 = f 7 + u from upd_eq], rfl, rfl⟩)
set_option maxHeartbeats 4000000 in
set_option maxRecDepth 100000 in
theorem ct_C_pass {l : Launch} (hfl : l.stackTraces = false) {G : XG} {n : Nat} {h : XH} {f : Nat → Int32} {o kp : Nat} {P : Nat → Nat → Int32} {tx : Nat → Int32} {len : Nat} {p : PT} {ρ : Nat → Int32} (hn : 209 ≤ n) {k : Nat} (hm : f 1 = nI k) (hk : k ≤ 5) (hl : ∀ i, i < k → 0 < rowOf f i 0) {z : Nat} (hz : f 2 = nI z) (z1 : 1 ≤ z) (z2 : z ≤ 12) (ho : o < 6) (hkp : kp ≤ 6) (x : Int32) : XCt l G False (Cond.code yC_pass bC_pass 2 (some .int)) yC_pass 7 112 2 12 [.ref (4), .int (x)] n (setCW h f o kp P tx len p ρ) (fun r' n' h' => ((¬ x < 1 ∧ x ≤ 24) ∧ f 0 + x ≤ 2000) ∧ r' = some (.int (nI (retK (upd f 0 (f 0 + x)) z k))) ∧ n' = n ∧ h' = setCW h (upd f 0 (f 0 + x)) (kO o kp) (kK kp) (kP o kp P f) tx len p ρ) (fun E n' h' => ((E = XIAE ∧ ((x < 1 ∨ ¬ x ≤ 24))) ∨ (E = XISE ∧ ((¬ x < 1 ∧ x ≤ 24) ∧ ¬ f 0 + x ≤ 2000))) ∧ n' = n ∧ h' = setCW h f o kp P tx len p ρ) := by
  refine XCt.of hfl (by decide +kernel) (Nat.le_of_ble_eq_true rfl) ?_
  intro p' e' s' m' g' b' t' c' C hret hname hnt hmd
  refine XV.run C okC_pass 3 (q := (4, ([some (.ref (4)), some (.int (x))], [.int (24), .int (1), .int (x)]))) rfl ?_
  refine XV.callS C (As := [.int (x), .int (1), .int (24)]) (rest := []) (ct_C_requireRange hfl x 1 24) (xlk_ok okC_pass rfl) rfl wM_C_37 wS_C_requireRange wN_C wB_C_requireRange hy_C_requireRange (fun q => q.elim) ⟨Nat.le_of_ble_eq_true rfl, Nat.le_of_ble_eq_true rfl⟩ ⟨Nat.le_of_ble_eq_true rfl, Nat.le_of_ble_eq_true rfl⟩ (Nat.le_of_ble_eq_true rfl) (fun r n h hp => ?_) (fun E n1 h1 q => by obtain ⟨⟨rfl, hbad⟩, rfl, rfl⟩ := q; exact XT.out C hnt (Nat.le_of_ble_eq_true rfl) (Nat.le_of_ble_eq_true rfl) (⟨Or.inl (⟨rfl, hbad⟩), rfl, rfl⟩))
  obtain ⟨rfl, h1, rfl, rfl⟩ := hp
  refine XV.run C okC_pass 1 (q := (8, ([some (.ref (4)), some (.int (x))], [.ref (4)]))) rfl ?_
  refine XV.getf C (ci := 4) (kf := 0) (v := .ref (5)) (xlk_ok okC_pass rfl) rfl (by decide) wF_C_10 (by omega) (by omega) (cw_o) rfl ?_
  refine XV.getfN C (ci := 0) (kf := 3) (v := .int (f 0)) (xlk_ok okC_pass rfl) rfl (by decide) (List.mem_of_getElem? (i := 15) rfl) (by omega) (by omega) (cw_e 0 (by decide)) rfl ?_
  refine XV.run C okC_pass 3 (q := (19, ([some (.ref (4)), some (.int (x))], [.int (2000), .int ((f 0) + x)]))) rfl ?_
  refine XV.icmp_le C (tgt := 32) (xlk_ok okC_pass rfl) rfl (fun c1 => ?_) (fun c1 => ?_)
  ·
    refine XV.run C okC_pass 1 (q := (33, ([some (.ref (4)), some (.int (x))], [.ref (4)]))) rfl ?_
    refine XV.getf C (ci := 4) (kf := 1) (v := .ref (33)) (xlk_ok okC_pass rfl) rfl (by decide) wF_C_19 (by omega) (by omega) (cw_o) rfl ?_
    refine XV.run C okC_pass 1 (q := (37, ([some (.ref (4)), some (.int (x))], [.ref (4), .ref (33)]))) rfl ?_
    refine XV.getf C (ci := 4) (kf := 0) (v := .ref (5)) (xlk_ok okC_pass rfl) rfl (by decide) wF_C_10 (by omega) (by omega) (cw_o) rfl ?_
    refine XV.callV C (As := [.ref (5)]) (rest := []) (ci := 1) (ct_H_keep hfl cw_h (by omega) (by omega) ho cw_e (by omega) (by omega) (by omega) hkp) (xlk_ok okC_pass rfl) rfl (by omega) (by omega) rfl (cw_h 0 (by decide)) rfl wM_C_52 wI_H_keep wV_H_keep wN_H wB_H_keep hy_H_keep (fun q => q.elim) ⟨Nat.le_of_ble_eq_true rfl, Nat.le_of_ble_eq_true rfl⟩ ⟨Nat.le_of_ble_eq_true rfl, Nat.le_of_ble_eq_true rfl⟩ (Nat.le_of_ble_eq_true rfl) (fun r n h hp => ?_) (fun _ _ _ q => q.elim)
    obtain ⟨rfl, rfl, rfl⟩ := hp
    refine XV.cast (cw_setH _ _ _) ?_
    refine XV.run C okC_pass 1 (q := (44, ([some (.ref (4)), some (.int (x))], [.ref (4)]))) rfl ?_
    refine XV.getf C (ci := 4) (kf := 0) (v := .ref (5)) (xlk_ok okC_pass rfl) rfl (by decide) wF_C_10 (by omega) (by omega) (cw_o) rfl ?_
    refine XV.run C okC_pass 1 (q := (48, ([some (.ref (4)), some (.int (x))], [.ref (5), .ref (5)]))) rfl ?_
    refine XV.getfN C (ci := 0) (kf := 3) (v := .int (f 0)) (xlk_ok okC_pass rfl) rfl (by decide) (List.mem_of_getElem? (i := 15) rfl) (by omega) (by omega) (cw_e 0 (by decide)) rfl ?_
    refine XV.run C okC_pass 2 (q := (53, ([some (.ref (4)), some (.int (x))], [.int ((f 0) + x), .ref (5)]))) rfl ?_
    refine XV.putfN C (ci := 0) (kf := 3) (ty := .int) (xlk_ok okC_pass rfl) rfl (by decide) (List.mem_of_getElem? (i := 15) rfl) (by omega) (by omega) (cw_e 0 (by decide)) rfl rfl rfl rfl (Nat.le_of_ble_eq_true rfl) ?_
    refine XV.cast (cw_xupE (setElev_f3 _ 5 _ ((f 0) + x))) ?_
    refine XV.run C okC_pass 1 (q := (57, ([some (.ref (4)), some (.int (x))], [.ref (4)]))) rfl ?_
    refine XV.getf C (ci := 4) (kf := 0) (v := .ref (5)) (xlk_ok okC_pass rfl) rfl (by decide) wF_C_10 (by omega) (by omega) (cw_o) rfl ?_
    refine XV.callV C (As := []) (rest := []) (ci := 0) (ct_E_ropesToRetire hfl cw_e (by omega) (by omega) (k := k) (show upd f 0 (f 0 + x) 1 = nI k from (upd_ne (by decide)).trans hm) (by omega) (fun i hi => by rw [rowUpd_lo (by decide)]; exact hl i hi) (z := z) (show upd f 0 (f 0 + x) 2 = nI z from (upd_ne (by decide)).trans hz) (by omega) (by omega)) (xlk_ok okC_pass rfl) rfl (by omega) (by omega) rfl (cw_e 0 (by decide)) rfl wM_C_117 wI_E_ropesToRetire wV_E_ropesToRetire wN_E wB_E_ropesToRetire hy_E_ropesToRetire (fun q => q.elim) ⟨Nat.le_of_ble_eq_true rfl, Nat.le_of_ble_eq_true rfl⟩ ⟨Nat.le_of_ble_eq_true rfl, Nat.le_of_ble_eq_true rfl⟩ (Nat.le_of_ble_eq_true rfl) (fun r n h hp => ?_) (fun _ _ _ q => q.elim)
    obtain ⟨rfl, rfl, rfl⟩ := hp
    exact XV.iret C (xlk_ok okC_pass rfl) hret rfl (Nat.le_of_ble_eq_true rfl) (Nat.le_of_ble_eq_true rfl) (⟨⟨h1, c1⟩, rfl, rfl, rfl⟩)
  ·
    refine XV.throwS C hnt (E := XISE) (Or.inl ⟨rfl, rfl, rfl⟩) (List.mem_of_getElem? (i := 6) rfl) (xlk_ok okC_pass (pc := 22) rfl) (xlk_ok okC_pass (pc := 25) rfl) (xlk_ok okC_pass (pc := 26) rfl) (xlk_ok okC_pass (pc := 28) rfl) (xlk_ok okC_pass (pc := 31) rfl) (Nat.le_of_ble_eq_true rfl) (Nat.le_of_ble_eq_true rfl) (Nat.le_of_ble_eq_true rfl) (Nat.le_of_ble_eq_true rfl) (Nat.le_of_ble_eq_true rfl) (Nat.le_of_ble_eq_true rfl) ?_
    exact ⟨Or.inr (⟨rfl, h1, c1⟩), rfl, rfl⟩
theorem pred_ex {n : Nat} (h : n ≠ 0) : ∃ j, n = j + 1 := ⟨n - 1, by omega⟩
set_option maxHeartbeats 4000000 in
set_option maxRecDepth 100000 in
theorem ct_C_undo {l : Launch} (hfl : l.stackTraces = false) {G : XG} {n : Nat} {h : XH} {f : Nat → Int32} {o kp : Nat} {P : Nat → Nat → Int32} {tx : Nat → Int32} {len : Nat} {p : PT} {ρ : Nat → Int32} (hn : 209 ≤ n) (ho : o < 6) (hkp : kp ≤ 6) : XCt l G False (Cond.code yC_undo bC_undo 1 (some .int)) yC_undo 6 93 1 6 [.ref (4)] n (setCW h f o kp P tx len p ρ) (fun r' n' h' => ∃ j, kp = j + 1 ∧ r' = some (.int (nI j)) ∧ n' = n ∧ h' = setCW h (P ((o + j) % 6)) o j P tx len p ρ) (fun E n' h' => ((E = XISE ∧ (kp = 0))) ∧ n' = n ∧ h' = setCW h f o kp P tx len p ρ) := by
  refine XCt.of hfl (by decide +kernel) (Nat.le_of_ble_eq_true rfl) ?_
  intro p' e' s' m' g' b' t' c' C hret hname hnt hmd
  refine XV.run C okC_undo 1 (q := (1, ([some (.ref (4))], [.ref (4)]))) rfl ?_
  refine XV.getf C (ci := 4) (kf := 1) (v := .ref (33)) (xlk_ok okC_undo rfl) rfl (by decide) wF_C_19 (by omega) (by omega) (cw_o) rfl ?_
  refine XV.getfN C (ci := 1) (kf := 2) (v := .int (nI kp)) (xlk_ok okC_undo rfl) rfl (by decide) (List.mem_of_getElem? (i := 19) rfl) (by omega) (by omega) (cw_h 0 (by decide)) rfl ?_
  refine XV.if_ne C (tgt := 20) (xlk_ok okC_undo rfl) rfl (fun c1 => ?_) (fun c1 => ?_)
  ·
    obtain ⟨j, rfl⟩ := pred_ex (show kp ≠ 0 from fun q => c1 (by rw [q]; rfl))
    refine XV.run C okC_undo 1 (q := (21, ([some (.ref (4))], [.ref (4)]))) rfl ?_
    refine XV.getf C (ci := 4) (kf := 1) (v := .ref (33)) (xlk_ok okC_undo rfl) rfl (by decide) wF_C_19 (by omega) (by omega) (cw_o) rfl ?_
    refine XV.run C okC_undo 1 (q := (25, ([some (.ref (4))], [.ref (4), .ref (33)]))) rfl ?_
    refine XV.getf C (ci := 4) (kf := 0) (v := .ref (5)) (xlk_ok okC_undo rfl) rfl (by decide) wF_C_10 (by omega) (by omega) (cw_o) rfl ?_
    refine XV.callV C (As := [.ref (5)]) (rest := []) (ci := 1) (ct_H_giveBack hfl (kp := j) cw_h (by omega) (by omega) ho cw_e (by omega) (by omega) (by omega) (by omega)) (xlk_ok okC_undo rfl) rfl (by omega) (by omega) rfl (cw_h 0 (by decide)) rfl wM_C_160 wI_H_giveBack wV_H_giveBack wN_H wB_H_giveBack hy_H_giveBack (fun q => q.elim) ⟨Nat.le_of_ble_eq_true rfl, Nat.le_of_ble_eq_true rfl⟩ ⟨Nat.le_of_ble_eq_true rfl, Nat.le_of_ble_eq_true rfl⟩ (Nat.le_of_ble_eq_true rfl) (fun r n h hp => ?_) (fun _ _ _ q => q.elim)
    obtain ⟨rfl, rfl, rfl⟩ := hp
    refine XV.cast ((congrArg (fun w => setElev w 5 (P ((o + j) % 6))) (cw_setH _ _ _)).trans (cw_setE _)) ?_
    refine XV.run C okC_undo 1 (q := (32, ([some (.ref (4))], [.ref (4)]))) rfl ?_
    refine XV.getf C (ci := 4) (kf := 1) (v := .ref (33)) (xlk_ok okC_undo rfl) rfl (by decide) wF_C_19 (by omega) (by omega) (cw_o) rfl ?_
    refine XV.getfN C (ci := 1) (kf := 2) (v := .int (nI j)) (xlk_ok okC_undo rfl) rfl (by decide) (List.mem_of_getElem? (i := 19) rfl) (by omega) (by omega) (cw_h 0 (by decide)) rfl ?_
    exact XV.iret C (xlk_ok okC_undo rfl) hret rfl (Nat.le_of_ble_eq_true rfl) (Nat.le_of_ble_eq_true rfl) (⟨j, rfl, rfl, rfl, rfl⟩)
  ·
    have hk0 : kp = 0 := (nI_eq (b := 0) (by omega) (by omega)).mp (c1)
    refine XV.throwS C hnt (E := XISE) (Or.inl ⟨rfl, rfl, rfl⟩) (List.mem_of_getElem? (i := 7) rfl) (xlk_ok okC_undo (pc := 10) rfl) (xlk_ok okC_undo (pc := 13) rfl) (xlk_ok okC_undo (pc := 14) rfl) (xlk_ok okC_undo (pc := 16) rfl) (xlk_ok okC_undo (pc := 19) rfl) (Nat.le_of_ble_eq_true rfl) (Nat.le_of_ble_eq_true rfl) (Nat.le_of_ble_eq_true rfl) (Nat.le_of_ble_eq_true rfl) (Nat.le_of_ble_eq_true rfl) (Nat.le_of_ble_eq_true rfl) ?_
    exact ⟨⟨rfl, hk0⟩, rfl, rfl⟩
set_option maxHeartbeats 4000000 in
set_option maxRecDepth 100000 in
theorem ct_C_rope {l : Launch} (hfl : l.stackTraces = false) {G : XG} {n : Nat} {h : XH} {f : Nat → Int32} {o kp : Nat} {P : Nat → Nat → Int32} {tx : Nat → Int32} {len : Nat} {p : PT} {ρ : Nat → Int32} (hn : 209 ≤ n) {k : Nat} (hm : f 1 = nI k) (hk : k ≤ 5) (hl : ∀ i, i < k → 0 < rowOf f i 0) {z : Nat} (hz : f 2 = nI z) (z1 : 1 ≤ z) (z2 : z ≤ 12) (x y : Int32) : XCt l G False (Cond.code yC_rope bC_rope 4 (some .int)) yC_rope 7 112 2 12 [.ref (4), .int (x), .int (y)] n (setCW h f o kp P tx len p ρ) (fun r' n' h' => ∃ i w, (x = nI i ∧ i < k ∧ y = nI w ∧ w ≤ 9) ∧ r' = some (.int (ropeFigK f (rowOf f i) z w)) ∧ n' = n ∧ h' = setCW h f o kp P tx len p ρ) (fun E n' h' => ((E = XIOB ∧ ((x < 0 ∨ nI k ≤ x))) ∨ (E = XIAE ∧ (¬ (x < 0 ∨ nI k ≤ x) ∧ (y < 0 ∨ ¬ y ≤ 9)))) ∧ n' = n ∧ h' = setCW h f o kp P tx len p ρ) := by
  refine XCt.of hfl (by decide +kernel) (Nat.le_of_ble_eq_true rfl) ?_
  intro p' e' s' m' g' b' t' c' C hret hname hnt hmd
  refine XV.run C okC_rope 2 (q := (2, ([some (.ref (4)), some (.int (x)), some (.int (y)), none], [.int (x), .ref (4)]))) rfl ?_
  refine XV.callV C (As := [.int (x)]) (rest := []) (ci := 4) (ct_C_existingRope hfl hn hm hk hl (x)) (xlk_ok okC_rope rfl) rfl (by omega) (by omega) rfl (cw_o) rfl wM_C_60 wI_C_existingRope wV_C_existingRope wN_C wB_C_existingRope hy_C_existingRope (fun q => q.elim) ⟨Nat.le_of_ble_eq_true rfl, Nat.le_of_ble_eq_true rfl⟩ ⟨Nat.le_of_ble_eq_true rfl, Nat.le_of_ble_eq_true rfl⟩ (Nat.le_of_ble_eq_true rfl) (fun r n h hp => ?_) (fun E n1 h1 q => by obtain ⟨⟨rfl, hbad⟩, rfl, rfl⟩ := q; exact XT.out C hnt (Nat.le_of_ble_eq_true rfl) (Nat.le_of_ble_eq_true rfl) (⟨Or.inl (⟨rfl, hbad⟩), rfl, rfl⟩))
  obtain ⟨i, hx, hi, rfl, rfl, rfl⟩ := hp
  refine XV.run C okC_rope 4 (q := (10, ([some (.ref (4)), some (.int (x)), some (.int (y)), some (.ref (5 + 3 + 5 * i))], [.int (9), .int (0), .int (y)]))) rfl ?_
  refine XV.callS C (As := [.int (y), .int (0), .int (9)]) (rest := []) (ct_C_requireRange hfl y 0 9) (xlk_ok okC_rope rfl) rfl wM_C_37 wS_C_requireRange wN_C wB_C_requireRange hy_C_requireRange (fun q => q.elim) ⟨Nat.le_of_ble_eq_true rfl, Nat.le_of_ble_eq_true rfl⟩ ⟨Nat.le_of_ble_eq_true rfl, Nat.le_of_ble_eq_true rfl⟩ (Nat.le_of_ble_eq_true rfl) (fun r n h hp => ?_) (fun E n1 h1 q => by obtain ⟨⟨rfl, hbad⟩, rfl, rfl⟩ := q; exact XT.out C hnt (Nat.le_of_ble_eq_true rfl) (Nat.le_of_ble_eq_true rfl) (⟨Or.inr (⟨rfl, nbad hx hi hk, hbad⟩), rfl, rfl⟩))
  obtain ⟨rfl, h1, rfl, rfl⟩ := hp
  obtain ⟨w, hw, hwl⟩ := rg_nat (d := 9) h1 rfl (by omega)
  refine XV.run C okC_rope 3 (q := (16, ([some (.ref (4)), some (.int (x)), some (.int (y)), some (.ref (5 + 3 + 5 * i))], [.int (y), .ref (5 + 3 + 5 * i), .ref (4)]))) rfl ?_
  refine XV.callV C (As := [.ref (5 + 3 + 5 * i), .int (y)]) (rest := []) (ci := 4) (ct_C_ropeFigure hfl hn hm hk hl (i := i) hi hz z1 z2 (w := w) (hw) (by omega)) (xlk_ok okC_rope rfl) rfl (by omega) (by omega) rfl (cw_o) rfl wM_C_163 wI_C_ropeFigure wV_C_ropeFigure wN_C wB_C_ropeFigure hy_C_ropeFigure (fun q => q.elim) ⟨Nat.le_of_ble_eq_true rfl, Nat.le_of_ble_eq_true rfl⟩ ⟨Nat.le_of_ble_eq_true rfl, Nat.le_of_ble_eq_true rfl⟩ (Nat.le_of_ble_eq_true rfl) (fun r n h hp => ?_) (fun _ _ _ q => q.elim)
  obtain ⟨rfl, rfl, rfl⟩ := hp
  exact XV.iret C (xlk_ok okC_rope rfl) hret rfl (Nat.le_of_ble_eq_true rfl) (Nat.le_of_ble_eq_true rfl) (⟨i, w, ⟨hx, hi, hw, hwl⟩, rfl, rfl, rfl⟩)
set_option maxHeartbeats 4000000 in
set_option maxRecDepth 100000 in
theorem ct_C_section {l : Launch} (hfl : l.stackTraces = false) {G : XG} {n : Nat} {h : XH} {f : Nat → Int32} {o kp : Nat} {P : Nat → Nat → Int32} {tx : Nat → Int32} {len : Nat} {p : PT} {ρ : Nat → Int32} (hn : 209 ≤ n) {k : Nat} (hm : f 1 = nI k) (hk : k ≤ 5) (hl : ∀ i, i < k → 0 < rowOf f i 0) (x y u : Int32) : XCt l G False (Cond.code yC_section bC_section 5 (some .int)) yC_section 7 112 3 18 [.ref (4), .int (x), .int (y), .int (u)] n (setCW h f o kp P tx len p ρ) (fun r' n' h' => ∃ i s w, (x = nI i ∧ i < k ∧ y = nI s ∧ s < 24 ∧ u = nI w ∧ w ≤ 4) ∧ r' = some (.int (secF (rowOf f i) s w)) ∧ n' = n ∧ h' = setCW h f o kp P tx len p ρ) (fun E n' h' => ((E = XIOB ∧ ((x < 0 ∨ nI k ≤ x))) ∨ (E = XIOB ∧ (¬ (x < 0 ∨ nI k ≤ x) ∧ (y < 0 ∨ ¬ y < 24))) ∨ (E = XIAE ∧ (¬ (x < 0 ∨ nI k ≤ x) ∧ (¬ y < 0 ∧ y < 24) ∧ (u < 0 ∨ ¬ u ≤ 4)))) ∧ n' = n ∧ h' = setCW h f o kp P tx len p ρ) := by
  refine XCt.of hfl (by decide +kernel) (Nat.le_of_ble_eq_true rfl) ?_
  intro p' e' s' m' g' b' t' c' C hret hname hnt hmd
  refine XV.run C okC_section 2 (q := (2, ([some (.ref (4)), some (.int (x)), some (.int (y)), some (.int (u)), none], [.int (x), .ref (4)]))) rfl ?_
  refine XV.callV C (As := [.int (x)]) (rest := []) (ci := 4) (ct_C_existingRope hfl hn hm hk hl (x)) (xlk_ok okC_section rfl) rfl (by omega) (by omega) rfl (cw_o) rfl wM_C_60 wI_C_existingRope wV_C_existingRope wN_C wB_C_existingRope hy_C_existingRope (fun q => q.elim) ⟨Nat.le_of_ble_eq_true rfl, Nat.le_of_ble_eq_true rfl⟩ ⟨Nat.le_of_ble_eq_true rfl, Nat.le_of_ble_eq_true rfl⟩ (Nat.le_of_ble_eq_true rfl) (fun r n h hp => ?_) (fun E n1 h1 q => by obtain ⟨⟨rfl, hbad⟩, rfl, rfl⟩ := q; exact XT.out C hnt (Nat.le_of_ble_eq_true rfl) (Nat.le_of_ble_eq_true rfl) (⟨Or.inl (⟨rfl, hbad⟩), rfl, rfl⟩))
  obtain ⟨i, hx, hi, rfl, rfl, rfl⟩ := hp
  refine XV.run C okC_section 3 (q := (10, ([some (.ref (4)), some (.int (x)), some (.int (y)), some (.int (u)), some (.ref (5 + 3 + 5 * i))], [.int (24), .int (y)]))) rfl ?_
  refine XV.callS C (As := [.int (y), .int (24)]) (rest := []) (ct_C_requireIndex hfl y 24) (xlk_ok okC_section rfl) rfl wM_C_93 wS_C_requireIndex wN_C wB_C_requireIndex hy_C_requireIndex (fun q => q.elim) ⟨Nat.le_of_ble_eq_true rfl, Nat.le_of_ble_eq_true rfl⟩ ⟨Nat.le_of_ble_eq_true rfl, Nat.le_of_ble_eq_true rfl⟩ (Nat.le_of_ble_eq_true rfl) (fun r n h hp => ?_) (fun E n1 h1 q => by obtain ⟨⟨rfl, hbad⟩, rfl, rfl⟩ := q; exact XT.out C hnt (Nat.le_of_ble_eq_true rfl) (Nat.le_of_ble_eq_true rfl) (⟨Or.inr (Or.inl (⟨rfl, nbad hx hi hk, hbad⟩)), rfl, rfl⟩))
  obtain ⟨rfl, h1, rfl, rfl⟩ := hp
  obtain ⟨sx, hs, hsl⟩ := ix_nat (d := 24) h1 rfl (by omega)
  refine XV.run C okC_section 3 (q := (16, ([some (.ref (4)), some (.int (x)), some (.int (y)), some (.int (u)), some (.ref (5 + 3 + 5 * i))], [.int (4), .int (0), .int (u)]))) rfl ?_
  refine XV.callS C (As := [.int (u), .int (0), .int (4)]) (rest := []) (ct_C_requireRange hfl u 0 4) (xlk_ok okC_section rfl) rfl wM_C_37 wS_C_requireRange wN_C wB_C_requireRange hy_C_requireRange (fun q => q.elim) ⟨Nat.le_of_ble_eq_true rfl, Nat.le_of_ble_eq_true rfl⟩ ⟨Nat.le_of_ble_eq_true rfl, Nat.le_of_ble_eq_true rfl⟩ (Nat.le_of_ble_eq_true rfl) (fun r n h hp => ?_) (fun E n1 h1 q => by obtain ⟨⟨rfl, hbad⟩, rfl, rfl⟩ := q; exact XT.out C hnt (Nat.le_of_ble_eq_true rfl) (Nat.le_of_ble_eq_true rfl) (⟨Or.inr (Or.inr (⟨rfl, nbad hx hi hk, h1, hbad⟩)), rfl, rfl⟩))
  obtain ⟨rfl, h2, rfl, rfl⟩ := hp
  obtain ⟨w, hw, hwl⟩ := rg_nat (d := 4) h2 rfl (by omega)
  refine XV.run C okC_section 3 (q := (23, ([some (.ref (4)), some (.int (x)), some (.int (y)), some (.int (u)), some (.ref (5 + 3 + 5 * i))], [.int (u), .int (y), .ref (5 + 3 + 5 * i)]))) rfl ?_
  refine XV.callV C (As := [.int (y), .int (u)]) (rest := []) (ci := 2) (ct_R_sectionFigure hfl (elev_ropeL cw_e (by omega) (hl i hi)) (by omega) (by omega) (i := sx) (w := w) (hs) (hw) (by omega) (by omega) (hl i hi)) (xlk_ok okC_section rfl) rfl (by omega) (by omega) rfl ((elev_ropeL cw_e (by omega) (hl i hi)) 0 (by decide)) rfl wM_C_167 wI_R_sectionFigure wV_R_sectionFigure wN_R wB_R_sectionFigure hy_R_sectionFigure (fun q => q.elim) ⟨Nat.le_of_ble_eq_true rfl, Nat.le_of_ble_eq_true rfl⟩ ⟨Nat.le_of_ble_eq_true rfl, Nat.le_of_ble_eq_true rfl⟩ (Nat.le_of_ble_eq_true rfl) (fun r n h hp => ?_) (fun _ _ _ q => q.elim)
  obtain ⟨rfl, rfl, rfl⟩ := hp
  exact XV.iret C (xlk_ok okC_section rfl) hret rfl (Nat.le_of_ble_eq_true rfl) (Nat.le_of_ble_eq_true rfl) (⟨i, sx, w, ⟨hx, hi, hs, hsl, hw, hwl⟩, rfl, rfl, rfl⟩)
set_option maxHeartbeats 4000000 in
set_option maxRecDepth 100000 in
theorem ct_C_window {l : Launch} (hfl : l.stackTraces = false) {G : XG} {n : Nat} {h : XH} {f : Nat → Int32} {o kp : Nat} {P : Nat → Nat → Int32} {tx : Nat → Int32} {len : Nat} {p : PT} {ρ : Nat → Int32} (hn : 209 ≤ n) {k : Nat} (hm : f 1 = nI k) (hk : k ≤ 5) (hl : ∀ i, i < k → 0 < rowOf f i 0) {z : Nat} (hz : f 2 = nI z) (z1 : 1 ≤ z) (z2 : z ≤ 12) (x y u : Int32) : XCt l G False (Cond.code yC_window bC_window 5 (some .int)) yC_window 7 112 3 18 [.ref (4), .int (x), .int (y), .int (u)] n (setCW h f o kp P tx len p ρ) (fun r' n' h' => ∃ i j w, (x = nI i ∧ i < k ∧ y = nI j ∧ j < 25 - z ∧ u = nI w ∧ w ≤ 1) ∧ r' = some (.int (winS (rowOf f i) (decide (w = 1)) z j)) ∧ n' = n ∧ h' = setCW h f o kp P tx len p ρ) (fun E n' h' => ((E = XIOB ∧ ((x < 0 ∨ nI k ≤ x))) ∨ (E = XIOB ∧ (¬ (x < 0 ∨ nI k ≤ x) ∧ (y < 0 ∨ ¬ y < nI (25 - z)))) ∨ (E = XIAE ∧ (¬ (x < 0 ∨ nI k ≤ x) ∧ (¬ y < 0 ∧ y < nI (25 - z)) ∧ (u < 0 ∨ ¬ u ≤ 1)))) ∧ n' = n ∧ h' = setCW h f o kp P tx len p ρ) := by
  refine XCt.of hfl (by decide +kernel) (Nat.le_of_ble_eq_true rfl) ?_
  intro p' e' s' m' g' b' t' c' C hret hname hnt hmd
  refine XV.run C okC_window 2 (q := (2, ([some (.ref (4)), some (.int (x)), some (.int (y)), some (.int (u)), none], [.int (x), .ref (4)]))) rfl ?_
  refine XV.callV C (As := [.int (x)]) (rest := []) (ci := 4) (ct_C_existingRope hfl hn hm hk hl (x)) (xlk_ok okC_window rfl) rfl (by omega) (by omega) rfl (cw_o) rfl wM_C_60 wI_C_existingRope wV_C_existingRope wN_C wB_C_existingRope hy_C_existingRope (fun q => q.elim) ⟨Nat.le_of_ble_eq_true rfl, Nat.le_of_ble_eq_true rfl⟩ ⟨Nat.le_of_ble_eq_true rfl, Nat.le_of_ble_eq_true rfl⟩ (Nat.le_of_ble_eq_true rfl) (fun r n h hp => ?_) (fun E n1 h1 q => by obtain ⟨⟨rfl, hbad⟩, rfl, rfl⟩ := q; exact XT.out C hnt (Nat.le_of_ble_eq_true rfl) (Nat.le_of_ble_eq_true rfl) (⟨Or.inl (⟨rfl, hbad⟩), rfl, rfl⟩))
  obtain ⟨i, hx, hi, rfl, rfl, rfl⟩ := hp
  refine XV.run C okC_window 3 (q := (9, ([some (.ref (4)), some (.int (x)), some (.int (y)), some (.int (u)), some (.ref (5 + 3 + 5 * i))], [.ref (4), .int (y)]))) rfl ?_
  refine XV.getf C (ci := 4) (kf := 0) (v := .ref (5)) (xlk_ok okC_window rfl) rfl (by decide) wF_C_10 (by omega) (by omega) (cw_o) rfl ?_
  refine XV.callV C (As := []) (rest := [.int (y)]) (ci := 0) (ct_E_windows hfl cw_e (by omega) (by omega) (z := z) (hz) (by omega) (by omega)) (xlk_ok okC_window rfl) rfl (by omega) (by omega) rfl (cw_e 0 (by decide)) rfl wM_C_171 wI_E_windows wV_E_windows wN_E wB_E_windows hy_E_windows (fun q => q.elim) ⟨Nat.le_of_ble_eq_true rfl, Nat.le_of_ble_eq_true rfl⟩ ⟨Nat.le_of_ble_eq_true rfl, Nat.le_of_ble_eq_true rfl⟩ (Nat.le_of_ble_eq_true rfl) (fun r n h hp => ?_) (fun _ _ _ q => q.elim)
  obtain ⟨rfl, rfl, rfl⟩ := hp
  refine XV.callS C (As := [.int (y), .int (nI (25 - z))]) (rest := []) (ct_C_requireIndex hfl y (nI (25 - z))) (xlk_ok okC_window rfl) rfl wM_C_93 wS_C_requireIndex wN_C wB_C_requireIndex hy_C_requireIndex (fun q => q.elim) ⟨Nat.le_of_ble_eq_true rfl, Nat.le_of_ble_eq_true rfl⟩ ⟨Nat.le_of_ble_eq_true rfl, Nat.le_of_ble_eq_true rfl⟩ (Nat.le_of_ble_eq_true rfl) (fun r n h hp => ?_) (fun E n1 h1 q => by obtain ⟨⟨rfl, hbad⟩, rfl, rfl⟩ := q; exact XT.out C hnt (Nat.le_of_ble_eq_true rfl) (Nat.le_of_ble_eq_true rfl) (⟨Or.inr (Or.inl (⟨rfl, nbad hx hi hk, hbad⟩)), rfl, rfl⟩))
  obtain ⟨rfl, h1, rfl, rfl⟩ := hp
  obtain ⟨j, hj, hjl⟩ := ix_nat (d := (25 - z)) h1 rfl (by omega)
  refine XV.run C okC_window 3 (q := (21, ([some (.ref (4)), some (.int (x)), some (.int (y)), some (.int (u)), some (.ref (5 + 3 + 5 * i))], [.int (1), .int (0), .int (u)]))) rfl ?_
  refine XV.callS C (As := [.int (u), .int (0), .int (1)]) (rest := []) (ct_C_requireRange hfl u 0 1) (xlk_ok okC_window rfl) rfl wM_C_37 wS_C_requireRange wN_C wB_C_requireRange hy_C_requireRange (fun q => q.elim) ⟨Nat.le_of_ble_eq_true rfl, Nat.le_of_ble_eq_true rfl⟩ ⟨Nat.le_of_ble_eq_true rfl, Nat.le_of_ble_eq_true rfl⟩ (Nat.le_of_ble_eq_true rfl) (fun r n h hp => ?_) (fun E n1 h1 q => by obtain ⟨⟨rfl, hbad⟩, rfl, rfl⟩ := q; exact XT.out C hnt (Nat.le_of_ble_eq_true rfl) (Nat.le_of_ble_eq_true rfl) (⟨Or.inr (Or.inr (⟨rfl, nbad hx hi hk, h1, hbad⟩)), rfl, rfl⟩))
  obtain ⟨rfl, h2, rfl, rfl⟩ := hp
  obtain ⟨w, hw, hwl⟩ := rg_nat (d := 1) h2 rfl (by omega)
  refine XV.run C okC_window 4 (q := (29, ([some (.ref (4)), some (.int (x)), some (.int (y)), some (.int (u)), some (.ref (5 + 3 + 5 * i))], [.int (u), .int (y), .ref (5 + 3 + 5 * i), .ref (4)]))) rfl ?_
  refine XV.callV C (As := [.ref (5 + 3 + 5 * i), .int (y), .int (u)]) (rest := []) (ci := 4) (ct_C_windowFigure hfl hn hm hk hl (i := i) hi hz z1 z2 (j := j) (w := w) (hj) (hw) (by omega) (by omega)) (xlk_ok okC_window rfl) rfl (by omega) (by omega) rfl (cw_o) rfl wM_C_174 wI_C_windowFigure wV_C_windowFigure wN_C wB_C_windowFigure hy_C_windowFigure (fun q => q.elim) ⟨Nat.le_of_ble_eq_true rfl, Nat.le_of_ble_eq_true rfl⟩ ⟨Nat.le_of_ble_eq_true rfl, Nat.le_of_ble_eq_true rfl⟩ (Nat.le_of_ble_eq_true rfl) (fun r n h hp => ?_) (fun _ _ _ q => q.elim)
  obtain ⟨rfl, rfl, rfl⟩ := hp
  exact XV.iret C (xlk_ok okC_window rfl) hret rfl (Nat.le_of_ble_eq_true rfl) (Nat.le_of_ble_eq_true rfl) (⟨i, j, w, ⟨hx, hi, hj, hjl, hw, hwl⟩, rfl, rfl, rfl⟩)
set_option maxHeartbeats 4000000 in
set_option maxRecDepth 100000 in
theorem ct_C_count {l : Launch} (hfl : l.stackTraces = false) {G : XG} {n : Nat} {h : XH} {f : Nat → Int32} {o kp : Nat} {P : Nat → Nat → Int32} {tx : Nat → Int32} {len : Nat} {p : PT} {ρ : Nat → Int32} (hn : 209 ≤ n) {k : Nat} (hm : f 1 = nI k) (hk : k ≤ 5) (hl : ∀ i, i < k → 0 < rowOf f i 0) {z : Nat} (hz : f 2 = nI z) (z1 : 1 ≤ z) (z2 : z ≤ 12) (ho : o < 6) (hkp : kp ≤ 6) (x : Int32) : XCt l G False (Cond.code yC_count bC_count 2 (some .int)) yC_count 7 149 1 6 [.ref (4), .int (x)] n (setCW h f o kp P tx len p ρ) (fun r' n' h' => ∃ w, (x = nI w ∧ w ≤ 8) ∧ r' = some (.int (countFigK f z k kp w)) ∧ n' = n ∧ h' = setCW h f o kp P tx len p ρ) (fun E n' h' => ((E = XIAE ∧ ((x < 0 ∨ ¬ x ≤ 8)))) ∧ n' = n ∧ h' = setCW h f o kp P tx len p ρ) := by
  refine XCt.of hfl (by decide +kernel) (Nat.le_of_ble_eq_true rfl) ?_
  intro p' e' s' m' g' b' t' c' C hret hname hnt hmd
  refine XV.run C okC_count 3 (q := (4, ([some (.ref (4)), some (.int (x))], [.int (8), .int (0), .int (x)]))) rfl ?_
  refine XV.callS C (As := [.int (x), .int (0), .int (8)]) (rest := []) (ct_C_requireRange hfl x 0 8) (xlk_ok okC_count rfl) rfl wM_C_37 wS_C_requireRange wN_C wB_C_requireRange hy_C_requireRange (fun q => q.elim) ⟨Nat.le_of_ble_eq_true rfl, Nat.le_of_ble_eq_true rfl⟩ ⟨Nat.le_of_ble_eq_true rfl, Nat.le_of_ble_eq_true rfl⟩ (Nat.le_of_ble_eq_true rfl) (fun r n h hp => ?_) (fun E n1 h1 q => by obtain ⟨⟨rfl, hbad⟩, rfl, rfl⟩ := q; exact XT.out C hnt (Nat.le_of_ble_eq_true rfl) (Nat.le_of_ble_eq_true rfl) (⟨⟨rfl, hbad⟩, rfl, rfl⟩))
  obtain ⟨rfl, h1, rfl, rfl⟩ := hp
  obtain ⟨w, hw, hwl⟩ := rg_nat (d := 8) h1 rfl (by omega)
  refine XV.run C okC_count 2 (q := (9, ([some (.ref (4)), some (.int (x))], [.int (x), .ref (4)]))) rfl ?_
  refine XV.callV C (As := [.int (x)]) (rest := []) (ci := 4) (ct_C_countFigure hfl hn hm hk hl hz z1 z2 ho hkp (w := w) (hw) (by omega)) (xlk_ok okC_count rfl) rfl (by omega) (by omega) rfl (cw_o) rfl wM_C_178 wI_C_countFigure wV_C_countFigure wN_C wB_C_countFigure hy_C_countFigure (fun q => q.elim) ⟨Nat.le_of_ble_eq_true rfl, Nat.le_of_ble_eq_true rfl⟩ ⟨Nat.le_of_ble_eq_true rfl, Nat.le_of_ble_eq_true rfl⟩ (Nat.le_of_ble_eq_true rfl) (fun r n h hp => ?_) (fun _ _ _ q => q.elim)
  obtain ⟨rfl, rfl, rfl⟩ := hp
  exact XV.iret C (xlk_ok okC_count rfl) hret rfl (Nat.le_of_ble_eq_true rfl) (Nat.le_of_ble_eq_true rfl) (⟨w, ⟨hw, hwl⟩, rfl, rfl, rfl⟩)
theorem rg1_nat {x y : Int32} {d : Nat} (h : ¬ x < 1 ∧ x ≤ y) (hy : y = nI d) (hd : d + 1 < 2 ^ 31) : ∃ j, x = nI j ∧ 1 ≤ j ∧ j ≤ d := by
  obtain ⟨j, hj, hj2⟩ := rg_nat (x := x) ⟨fun q => h.1 (Int32.lt_trans q (by decide)), h.2⟩ hy hd
  refine ⟨j, hj, ?_, hj2⟩
  rcases Nat.eq_zero_or_pos j with q | q
  · subst q; subst hj; exact absurd (show nI 0 < 1 by decide) h.1
  · exact q
set_option maxHeartbeats 4000000 in
set_option maxRecDepth 100000 in
theorem ct_C_tripsLeft {l : Launch} (hfl : l.stackTraces = false) {G : XG} {n : Nat} {h : XH} {f : Nat → Int32} {o kp : Nat} {P : Nat → Nat → Int32} {tx : Nat → Int32} {len : Nat} {p : PT} {ρ : Nat → Int32} (hn : 209 ≤ n) {k : Nat} (hm : f 1 = nI k) (hk : k ≤ 5) (hl : ∀ i, i < k → 0 < rowOf f i 0) {z : Nat} (hz : f 2 = nI z) (z1 : 1 ≤ z) (z2 : z ≤ 12) (x : Int32) : XCt l G False (Cond.code yC_tripsLeft bC_tripsLeft 2 (some .int)) yC_tripsLeft 7 115 1 6 [.ref (4), .int (x)] n (setCW h f o kp P tx len p ρ) (fun r' n' h' => ∃ i, (x = nI i ∧ i < k) ∧ r' = some (.int (tlK f (rowOf f i) z 32 0 (f 3 * rowOf f i 0))) ∧ n' = n ∧ ∃ ρ', h' = setCW h f o kp P tx len p ρ') (fun E n' h' => ((E = XIOB ∧ ((x < 0 ∨ nI k ≤ x)))) ∧ n' = n ∧ h' = setCW h f o kp P tx len p ρ) := by
  refine XCt.of hfl (by decide +kernel) (Nat.le_of_ble_eq_true rfl) ?_
  intro p' e' s' m' g' b' t' c' C hret hname hnt hmd
  refine XV.run C okC_tripsLeft 3 (q := (3, ([some (.ref (4)), some (.int (x))], [.int (x), .ref (4), .ref (4)]))) rfl ?_
  refine XV.callV C (As := [.int (x)]) (rest := [.ref (4)]) (ci := 4) (ct_C_existingRope hfl hn hm hk hl (x)) (xlk_ok okC_tripsLeft rfl) rfl (by omega) (by omega) rfl (cw_o) rfl wM_C_60 wI_C_existingRope wV_C_existingRope wN_C wB_C_existingRope hy_C_existingRope (fun q => q.elim) ⟨Nat.le_of_ble_eq_true rfl, Nat.le_of_ble_eq_true rfl⟩ ⟨Nat.le_of_ble_eq_true rfl, Nat.le_of_ble_eq_true rfl⟩ (Nat.le_of_ble_eq_true rfl) (fun r n h hp => ?_) (fun E n1 h1 q => by obtain ⟨⟨rfl, hbad⟩, rfl, rfl⟩ := q; exact XT.out C hnt (Nat.le_of_ble_eq_true rfl) (Nat.le_of_ble_eq_true rfl) (⟨⟨rfl, hbad⟩, rfl, rfl⟩))
  obtain ⟨i, hx, hi, rfl, rfl, rfl⟩ := hp
  refine XV.callV C (As := [.ref (5 + 3 + 5 * i)]) (rest := []) (ci := 4) (ct_C_tripsToLimit hfl hn hm hk hl (i := i) hi hz z1 z2) (xlk_ok okC_tripsLeft rfl) rfl (by omega) (by omega) rfl (cw_o) rfl wM_C_188 wI_C_tripsToLimit wV_C_tripsToLimit wN_C wB_C_tripsToLimit hy_C_tripsToLimit (fun q => q.elim) ⟨Nat.le_of_ble_eq_true rfl, Nat.le_of_ble_eq_true rfl⟩ ⟨Nat.le_of_ble_eq_true rfl, Nat.le_of_ble_eq_true rfl⟩ (Nat.le_of_ble_eq_true rfl) (fun r n h hp => ?_) (fun _ _ _ q => q.elim)
  obtain ⟨rfl, rfl, ρ1, rfl⟩ := hp
  exact XV.iret C (xlk_ok okC_tripsLeft rfl) hret rfl (Nat.le_of_ble_eq_true rfl) (Nat.le_of_ble_eq_true rfl) (⟨i, ⟨hx, hi⟩, rfl, rfl, _, rfl⟩)
set_option maxHeartbeats 4000000 in
set_option maxRecDepth 100000 in
theorem ct_C_unseen {l : Launch} (hfl : l.stackTraces = false) {G : XG} {n : Nat} {h : XH} {f : Nat → Int32} {o kp : Nat} {P : Nat → Nat → Int32} {tx : Nat → Int32} {len : Nat} {p : PT} {ρ : Nat → Int32} (hn : 209 ≤ n) {k : Nat} (hm : f 1 = nI k) (hk : k ≤ 5) (hl : ∀ i, i < k → 0 < rowOf f i 0) {z : Nat} (hz : f 2 = nI z) (z1 : 1 ≤ z) (z2 : z ≤ 12) : XCt l G False (Cond.code yC_unseen bC_unseen 1 (some .int)) yC_unseen 6 131 0 0 [.ref (4)] n (setCW h f o kp P tx len p ρ) (fun r' n' h' => r' = some (.int (luK f z k 0)) ∧ n' = n ∧ ∃ ρ', h' = setCW h f o kp P tx len p ρ') (fun _ _ _ => False) := by
  refine XCt.of hfl (by decide +kernel) (Nat.le_of_ble_eq_true rfl) ?_
  intro p' e' s' m' g' b' t' c' C hret hname hnt hmd
  refine XV.run C okC_unseen 1 (q := (1, ([some (.ref (4))], [.ref (4)]))) rfl ?_
  refine XV.callV C (As := []) (rest := []) (ci := 4) (ct_C_lowestUnseen hfl hn hm hk hl hz z1 z2) (xlk_ok okC_unseen rfl) rfl (by omega) (by omega) rfl (cw_o) rfl wM_C_192 wI_C_lowestUnseen wV_C_lowestUnseen wN_C wB_C_lowestUnseen hy_C_lowestUnseen (fun q => q.elim) ⟨Nat.le_of_ble_eq_true rfl, Nat.le_of_ble_eq_true rfl⟩ ⟨Nat.le_of_ble_eq_true rfl, Nat.le_of_ble_eq_true rfl⟩ (Nat.le_of_ble_eq_true rfl) (fun r n h hp => ?_) (fun _ _ _ q => q.elim)
  obtain ⟨rfl, rfl, ρ1, rfl⟩ := hp
  exact XV.iret C (xlk_ok okC_unseen rfl) hret rfl (Nat.le_of_ble_eq_true rfl) (Nat.le_of_ble_eq_true rfl) (⟨rfl, rfl, _, rfl⟩)
end
section
/-! the constructors -/
def blkL (h : XH) (a : Nat) (L : List XC) : XH := blk h a L.length (fun i => L.getD i (.inr (0, [])))
theorem blkL_1 (h : XH) (a : Nat) (c : XC) : xup h a c = blkL h a [c] := by
  funext j
  unfold xup blkL blk
  by_cases hj : j = a
  · subst hj
    rw [if_pos rfl, if_pos (by simp)]
    simp
  · rw [if_neg hj, if_neg (by simp; omega)]
theorem blkL_new {h : XH} {a b : Nat} {L : List XC} {c : XC} (hb : b = a + L.length) : xup (blkL h a L) b c = blkL h a (L ++ [c]) := by
  subst hb
  funext j
  unfold xup blkL blk
  by_cases hj : j = a + L.length
  · subst hj
    rw [if_pos rfl, if_pos (by simp)]
    simp
  · rw [if_neg hj]
    by_cases h2 : a ≤ j ∧ j < a + L.length
    · rw [if_pos h2, if_pos (by simp; omega)]
      dsimp only
      rw [List.getD_eq_getElem?_getD, List.getD_eq_getElem?_getD, List.getElem?_append_left (by omega)]
    · rw [if_neg h2, if_neg (by simp; omega)]
theorem blkL_up {h : XH} {a b i : Nat} {L : List XC} {c : XC} (hb : b = a + i) (hi : i < L.length) : xup (blkL h a L) b c = blkL h a (L.set i c) := by
  subst hb
  funext j
  unfold xup blkL blk
  by_cases hj : j = a + i
  · subst hj
    rw [if_pos rfl, if_pos (by simp; omega)]
    simp [hi]
  · rw [if_neg hj]
    by_cases h2 : a ≤ j ∧ j < a + L.length
    · rw [if_pos h2, if_pos (by simp; omega)]
      dsimp only
      rw [List.getD_eq_getElem?_getD, List.getD_eq_getElem?_getD, List.getElem?_set_ne (by omega)]
    · rw [if_neg h2, if_neg (by simp; omega)]
theorem blkL_get {h : XH} {a b i : Nat} {L : List XC} {c : XC} (hb : b = a + i) (hc : L[i]? = some c) : blkL h a L b = c := by
  subst hb
  have hi : i < L.length := (List.getElem?_eq_some_iff.mp hc).1
  unfold blkL blk
  rw [if_pos (by omega), show a + i - a = i by omega]
  show L.getD i _ = c
  rw [List.getD_eq_getElem?_getD, hc]
  rfl
theorem blkL_blk {h : XH} {a N : Nat} {L : List XC} {c : Nat → XC} (hN : L.length = N) (hc : ∀ j, j < N → L[j]? = some (c j)) : blkL h a L = blk h a N c := by
  subst hN
  refine blk_eq fun j hj => ?_
  rw [List.getD_eq_getElem?_getD, hc j hj]
  rfl
theorem XV.num {G : XG} {nL : Nat} {p : Program} {l : Launch} {e : Env} {R : Room} {s : State} {m : MethodId} {args : Array Value} {below : List Frame} {meth : Method} {c : Code} {Q : State → Prop} {pc : Nat} {ls : List (Option Value)} {st : List Value} {n n' : Nat} {h h' : XH} {k ks k' ks' : Nat} (hh : h = h') (hn : n = n') (hk : k = k') (hks : ks = ks') (kk : XV G nL p l e R s m args below meth c Q pc ls st n' h' k' ks') : XV G nL p l e R s m args below meth c Q pc ls st n h k ks := by
  subst hh hn hk hks
  exact kk
def rI : Nat → Int32 := fun k => if k = 0 then 1 else 0
set_option maxHeartbeats 4000000 in
set_option maxRecDepth 100000 in
theorem ct_R_init {l : Launch} (hfl : l.stackTraces = false) {G : XG} {m : Nat} {h : XH} : XCt l G True (Cond.code yR_init bR_init 1 none) yR_init 1 20 4 96 [.ref (m + 4)] (m + 1) (blkL h (m + 4) [.inr (2, [.null, .null, .null, .null, .int (0), .int (0), .int (0)])]) (fun r' n' h' => r' = none ∧ n' = m + 5 ∧ h' = setRope h (m + 4) rI) (fun _ _ _ => False) := by
  have hmd2 : True := trivial
  refine XCt.of hfl (by decide +kernel) (Nat.le_of_ble_eq_true rfl) ?_
  intro p' e' s' m' g' b' t' c' C hret hname hnt hmd
  have hex := hmd trivial
  have hAO := (show xEnv G s' from (id C).2.2.2.2.2.2.1).2.2.2.2.2.2.2.2
  refine XV.run C okR_init 1 (q := (1, ([some (.ref (m + 4))], [.ref (m + 4)]))) rfl ?_
  refine XV.objInit C (xlk_ok okR_init rfl) wM_R_3 (Nat.le_of_ble_eq_true rfl) (Nat.le_of_ble_eq_true rfl) ?_
  refine XV.run C okR_init 2 (q := (7, ([some (.ref (m + 4))], [.int (24), .ref (m + 4)]))) rfl ?_
  refine XV.newI C (N := 24) (xlk_ok okR_init rfl) wR_74 rfl (by decide) (by omega) (Nat.le_of_ble_eq_true rfl) (Nat.le_of_ble_eq_true rfl) ?_
  refine XV.cast ((congrArg (fun w => xup _ _ w) (xar_0 24)).trans (blkL_new rfl)) ?_
  show XV G 1 p' l e' ({ frames := 1, cells := 4, slots := 96, locals := 20 } : Room) s' m' g' b' t' c' (XEnd G b' (fun r' n' h' => r' = none ∧ n' = m + 5 ∧ h' = setRope h (m + 4) rI) (fun _ _ _ => False) g' s' 4 96) 9 [some (.ref (m + 4))] [.ref (m + 4 + 1), .ref (m + 4)] (m + 1 + 1) (blkL h (m + 4) [.inr (2, [.null, .null, .null, .null, .int (0), .int (0), .int (0)]), xar 24 (fun _ => 0)]) (0 + 1) (0 + 24)
  refine XV.putF C (ci := 2) (kf := 0) hname (xlk_ok okR_init rfl) rfl (by decide) wF_R_9 (by omega) (by omega) (blkL_get (i := 0) rfl rfl) rfl rfl rfl rfl rfl (Nat.le_of_ble_eq_true rfl) ?_
  refine XV.cast (blkL_up (i := 0) rfl (Nat.le_of_ble_eq_true rfl)) ?_
  show XV G 1 p' l e' ({ frames := 1, cells := 4, slots := 96, locals := 20 } : Room) s' m' g' b' t' c' (XEnd G b' (fun r' n' h' => r' = none ∧ n' = m + 5 ∧ h' = setRope h (m + 4) rI) (fun _ _ _ => False) g' s' 4 96) 12 [some (.ref (m + 4))] [] (m + 1 + 1) (blkL h (m + 4) [.inr (2, [.ref (m + 4 + 1), .null, .null, .null, .int (0), .int (0), .int (0)]), xar 24 (fun _ => 0)]) (0 + 1) (0 + 24)
  refine XV.run C okR_init 2 (q := (15, ([some (.ref (m + 4))], [.int (24), .ref (m + 4)]))) rfl ?_
  refine XV.newI C (N := 24) (xlk_ok okR_init rfl) wR_74 rfl (by decide) (by omega) (Nat.le_of_ble_eq_true rfl) (Nat.le_of_ble_eq_true rfl) ?_
  refine XV.cast ((congrArg (fun w => xup _ _ w) (xar_0 24)).trans (blkL_new rfl)) ?_
  show XV G 1 p' l e' ({ frames := 1, cells := 4, slots := 96, locals := 20 } : Room) s' m' g' b' t' c' (XEnd G b' (fun r' n' h' => r' = none ∧ n' = m + 5 ∧ h' = setRope h (m + 4) rI) (fun _ _ _ => False) g' s' 4 96) 17 [some (.ref (m + 4))] [.ref (m + 4 + 2), .ref (m + 4)] (m + 1 + 2) (blkL h (m + 4) [.inr (2, [.ref (m + 4 + 1), .null, .null, .null, .int (0), .int (0), .int (0)]), xar 24 (fun _ => 0), xar 24 (fun _ => 0)]) ((0 + 1) + 1) ((0 + 24) + 24)
  refine XV.putF C (ci := 2) (kf := 1) hname (xlk_ok okR_init rfl) rfl (by decide) wF_R_15 (by omega) (by omega) (blkL_get (i := 0) rfl rfl) rfl rfl rfl rfl rfl (Nat.le_of_ble_eq_true rfl) ?_
  refine XV.cast (blkL_up (i := 0) rfl (Nat.le_of_ble_eq_true rfl)) ?_
  show XV G 1 p' l e' ({ frames := 1, cells := 4, slots := 96, locals := 20 } : Room) s' m' g' b' t' c' (XEnd G b' (fun r' n' h' => r' = none ∧ n' = m + 5 ∧ h' = setRope h (m + 4) rI) (fun _ _ _ => False) g' s' 4 96) 20 [some (.ref (m + 4))] [] (m + 1 + 2) (blkL h (m + 4) [.inr (2, [.ref (m + 4 + 1), .ref (m + 4 + 2), .null, .null, .int (0), .int (0), .int (0)]), xar 24 (fun _ => 0), xar 24 (fun _ => 0)]) ((0 + 1) + 1) ((0 + 24) + 24)
  refine XV.run C okR_init 2 (q := (23, ([some (.ref (m + 4))], [.int (24), .ref (m + 4)]))) rfl ?_
  refine XV.newI C (N := 24) (xlk_ok okR_init rfl) wR_74 rfl (by decide) (by omega) (Nat.le_of_ble_eq_true rfl) (Nat.le_of_ble_eq_true rfl) ?_
  refine XV.cast ((congrArg (fun w => xup _ _ w) (xar_0 24)).trans (blkL_new rfl)) ?_
  show XV G 1 p' l e' ({ frames := 1, cells := 4, slots := 96, locals := 20 } : Room) s' m' g' b' t' c' (XEnd G b' (fun r' n' h' => r' = none ∧ n' = m + 5 ∧ h' = setRope h (m + 4) rI) (fun _ _ _ => False) g' s' 4 96) 25 [some (.ref (m + 4))] [.ref (m + 4 + 3), .ref (m + 4)] (m + 1 + 3) (blkL h (m + 4) [.inr (2, [.ref (m + 4 + 1), .ref (m + 4 + 2), .null, .null, .int (0), .int (0), .int (0)]), xar 24 (fun _ => 0), xar 24 (fun _ => 0), xar 24 (fun _ => 0)]) (((0 + 1) + 1) + 1) (((0 + 24) + 24) + 24)
  refine XV.putF C (ci := 2) (kf := 2) hname (xlk_ok okR_init rfl) rfl (by decide) wF_R_18 (by omega) (by omega) (blkL_get (i := 0) rfl rfl) rfl rfl rfl rfl rfl (Nat.le_of_ble_eq_true rfl) ?_
  refine XV.cast (blkL_up (i := 0) rfl (Nat.le_of_ble_eq_true rfl)) ?_
  show XV G 1 p' l e' ({ frames := 1, cells := 4, slots := 96, locals := 20 } : Room) s' m' g' b' t' c' (XEnd G b' (fun r' n' h' => r' = none ∧ n' = m + 5 ∧ h' = setRope h (m + 4) rI) (fun _ _ _ => False) g' s' 4 96) 28 [some (.ref (m + 4))] [] (m + 1 + 3) (blkL h (m + 4) [.inr (2, [.ref (m + 4 + 1), .ref (m + 4 + 2), .ref (m + 4 + 3), .null, .int (0), .int (0), .int (0)]), xar 24 (fun _ => 0), xar 24 (fun _ => 0), xar 24 (fun _ => 0)]) (((0 + 1) + 1) + 1) (((0 + 24) + 24) + 24)
  refine XV.run C okR_init 2 (q := (31, ([some (.ref (m + 4))], [.int (24), .ref (m + 4)]))) rfl ?_
  refine XV.newI C (N := 24) (xlk_ok okR_init rfl) wR_74 rfl (by decide) (by omega) (Nat.le_of_ble_eq_true rfl) (Nat.le_of_ble_eq_true rfl) ?_
  refine XV.cast ((congrArg (fun w => xup _ _ w) (xar_0 24)).trans (blkL_new rfl)) ?_
  show XV G 1 p' l e' ({ frames := 1, cells := 4, slots := 96, locals := 20 } : Room) s' m' g' b' t' c' (XEnd G b' (fun r' n' h' => r' = none ∧ n' = m + 5 ∧ h' = setRope h (m + 4) rI) (fun _ _ _ => False) g' s' 4 96) 33 [some (.ref (m + 4))] [.ref (m + 4 + 4), .ref (m + 4)] (m + 1 + 4) (blkL h (m + 4) [.inr (2, [.ref (m + 4 + 1), .ref (m + 4 + 2), .ref (m + 4 + 3), .null, .int (0), .int (0), .int (0)]), xar 24 (fun _ => 0), xar 24 (fun _ => 0), xar 24 (fun _ => 0), xar 24 (fun _ => 0)]) ((((0 + 1) + 1) + 1) + 1) ((((0 + 24) + 24) + 24) + 24)
  refine XV.putF C (ci := 2) (kf := 3) hname (xlk_ok okR_init rfl) rfl (by decide) wF_R_21 (by omega) (by omega) (blkL_get (i := 0) rfl rfl) rfl rfl rfl rfl rfl (Nat.le_of_ble_eq_true rfl) ?_
  refine XV.cast (blkL_up (i := 0) rfl (Nat.le_of_ble_eq_true rfl)) ?_
  show XV G 1 p' l e' ({ frames := 1, cells := 4, slots := 96, locals := 20 } : Room) s' m' g' b' t' c' (XEnd G b' (fun r' n' h' => r' = none ∧ n' = m + 5 ∧ h' = setRope h (m + 4) rI) (fun _ _ _ => False) g' s' 4 96) 36 [some (.ref (m + 4))] [] (m + 1 + 4) (blkL h (m + 4) [.inr (2, [.ref (m + 4 + 1), .ref (m + 4 + 2), .ref (m + 4 + 3), .ref (m + 4 + 4), .int (0), .int (0), .int (0)]), xar 24 (fun _ => 0), xar 24 (fun _ => 0), xar 24 (fun _ => 0), xar 24 (fun _ => 0)]) ((((0 + 1) + 1) + 1) + 1) ((((0 + 24) + 24) + 24) + 24)
  refine XV.run C okR_init 2 (q := (38, ([some (.ref (m + 4))], [.int (1), .ref (m + 4)]))) rfl ?_
  refine XV.putf C (ci := 2) (kf := 4) (xlk_ok okR_init rfl) rfl (by decide) wF_R_24 (by omega) (by omega) (blkL_get (i := 0) rfl rfl) rfl rfl rfl rfl (Nat.le_of_ble_eq_true rfl) ?_
  refine XV.cast (blkL_up (i := 0) rfl (Nat.le_of_ble_eq_true rfl)) ?_
  show XV G 1 p' l e' ({ frames := 1, cells := 4, slots := 96, locals := 20 } : Room) s' m' g' b' t' c' (XEnd G b' (fun r' n' h' => r' = none ∧ n' = m + 5 ∧ h' = setRope h (m + 4) rI) (fun _ _ _ => False) g' s' 4 96) 41 [some (.ref (m + 4))] [] (m + 1 + 4) (blkL h (m + 4) [.inr (2, [.ref (m + 4 + 1), .ref (m + 4 + 2), .ref (m + 4 + 3), .ref (m + 4 + 4), .int (1), .int (0), .int (0)]), xar 24 (fun _ => 0), xar 24 (fun _ => 0), xar 24 (fun _ => 0), xar 24 (fun _ => 0)]) ((((0 + 1) + 1) + 1) + 1) ((((0 + 24) + 24) + 24) + 24)
  refine XV.run C okR_init 2 (q := (43, ([some (.ref (m + 4))], [.int (0), .ref (m + 4)]))) rfl ?_
  refine XV.putf C (ci := 2) (kf := 5) (xlk_ok okR_init rfl) rfl (by decide) wF_R_28 (by omega) (by omega) (blkL_get (i := 0) rfl rfl) rfl rfl rfl rfl (Nat.le_of_ble_eq_true rfl) ?_
  refine XV.cast (blkL_up (i := 0) rfl (Nat.le_of_ble_eq_true rfl)) ?_
  show XV G 1 p' l e' ({ frames := 1, cells := 4, slots := 96, locals := 20 } : Room) s' m' g' b' t' c' (XEnd G b' (fun r' n' h' => r' = none ∧ n' = m + 5 ∧ h' = setRope h (m + 4) rI) (fun _ _ _ => False) g' s' 4 96) 46 [some (.ref (m + 4))] [] (m + 1 + 4) (blkL h (m + 4) [.inr (2, [.ref (m + 4 + 1), .ref (m + 4 + 2), .ref (m + 4 + 3), .ref (m + 4 + 4), .int (1), .int (0), .int (0)]), xar 24 (fun _ => 0), xar 24 (fun _ => 0), xar 24 (fun _ => 0), xar 24 (fun _ => 0)]) ((((0 + 1) + 1) + 1) + 1) ((((0 + 24) + 24) + 24) + 24)
  refine XV.run C okR_init 2 (q := (48, ([some (.ref (m + 4))], [.int (0), .ref (m + 4)]))) rfl ?_
  refine XV.putf C (ci := 2) (kf := 6) (xlk_ok okR_init rfl) rfl (by decide) wF_R_31 (by omega) (by omega) (blkL_get (i := 0) rfl rfl) rfl rfl rfl rfl (Nat.le_of_ble_eq_true rfl) ?_
  refine XV.cast (blkL_up (i := 0) rfl (Nat.le_of_ble_eq_true rfl)) ?_
  show XV G 1 p' l e' ({ frames := 1, cells := 4, slots := 96, locals := 20 } : Room) s' m' g' b' t' c' (XEnd G b' (fun r' n' h' => r' = none ∧ n' = m + 5 ∧ h' = setRope h (m + 4) rI) (fun _ _ _ => False) g' s' 4 96) 51 [some (.ref (m + 4))] [] (m + 1 + 4) (blkL h (m + 4) [.inr (2, [.ref (m + 4 + 1), .ref (m + 4 + 2), .ref (m + 4 + 3), .ref (m + 4 + 4), .int (1), .int (0), .int (0)]), xar 24 (fun _ => 0), xar 24 (fun _ => 0), xar 24 (fun _ => 0), xar 24 (fun _ => 0)]) ((((0 + 1) + 1) + 1) + 1) ((((0 + 24) + 24) + 24) + 24)
  exact XV.vret C (xlk_ok okR_init rfl) hret (Nat.le_of_ble_eq_true rfl) (Nat.le_of_ble_eq_true rfl) (⟨rfl, rfl, blkL_blk rfl (fun j hj => by rcases (show j = 0 ∨ j = 1 ∨ j = 2 ∨ j = 3 ∨ j = 4 by omega) with rfl | rfl | rfl | rfl | rfl <;> first | rfl | (refine congrArg some (xar_eq fun s hs => ?_); unfold rI; rw [if_neg (by omega)]))⟩)
set_option maxHeartbeats 4000000 in
set_option maxRecDepth 100000 in
theorem ct_T_init {l : Launch} (hfl : l.stackTraces = false) {G : XG} {m : Nat} {h : XH} : XCt l G True (Cond.code yT_init bT_init 1 none) yT_init 1 20 4 105 [.ref (m + 4)] (m + 1) (blkL h (m + 4) [.inr (3, [.null, .null, .null, .null, .int (0), .int (0)])]) (fun r' n' h' => r' = none ∧ n' = m + 5 ∧ h' = setText h (m + 4) (fun _ => 0) 0 (fun _ => 0, (fun _ => 0, (fun _ => 0, 0)))) (fun _ _ _ => False) := by
  have hmd2 : True := trivial
  refine XCt.of hfl (by decide +kernel) (Nat.le_of_ble_eq_true rfl) ?_
  intro p' e' s' m' g' b' t' c' C hret hname hnt hmd
  have hex := hmd trivial
  have hAO := (show xEnv G s' from (id C).2.2.2.2.2.2.1).2.2.2.2.2.2.2.2
  refine XV.run C okT_init 1 (q := (1, ([some (.ref (m + 4))], [.ref (m + 4)]))) rfl ?_
  refine XV.objInit C (xlk_ok okT_init rfl) wM_T_3 (Nat.le_of_ble_eq_true rfl) (Nat.le_of_ble_eq_true rfl) ?_
  refine XV.run C okT_init 2 (q := (7, ([some (.ref (m + 4))], [.int (60), .ref (m + 4)]))) rfl ?_
  refine XV.newI C (N := 60) (xlk_ok okT_init rfl) wR_74 rfl (by decide) (by omega) (Nat.le_of_ble_eq_true rfl) (Nat.le_of_ble_eq_true rfl) ?_
  refine XV.cast ((congrArg (fun w => xup _ _ w) (xar_0 60)).trans (blkL_new rfl)) ?_
  show XV G 1 p' l e' ({ frames := 1, cells := 4, slots := 105, locals := 20 } : Room) s' m' g' b' t' c' (XEnd G b' (fun r' n' h' => r' = none ∧ n' = m + 5 ∧ h' = setText h (m + 4) (fun _ => 0) 0 (fun _ => 0, (fun _ => 0, (fun _ => 0, 0)))) (fun _ _ _ => False) g' s' 4 105) 9 [some (.ref (m + 4))] [.ref (m + 4 + 1), .ref (m + 4)] (m + 1 + 1) (blkL h (m + 4) [.inr (3, [.null, .null, .null, .null, .int (0), .int (0)]), xar 60 (fun _ => 0)]) (0 + 1) (0 + 60)
  refine XV.putF C (ci := 3) (kf := 0) hname (xlk_ok okT_init rfl) rfl (by decide) wF_T_9 (by omega) (by omega) (blkL_get (i := 0) rfl rfl) rfl rfl rfl rfl rfl (Nat.le_of_ble_eq_true rfl) ?_
  refine XV.cast (blkL_up (i := 0) rfl (Nat.le_of_ble_eq_true rfl)) ?_
  show XV G 1 p' l e' ({ frames := 1, cells := 4, slots := 105, locals := 20 } : Room) s' m' g' b' t' c' (XEnd G b' (fun r' n' h' => r' = none ∧ n' = m + 5 ∧ h' = setText h (m + 4) (fun _ => 0) 0 (fun _ => 0, (fun _ => 0, (fun _ => 0, 0)))) (fun _ _ _ => False) g' s' 4 105) 12 [some (.ref (m + 4))] [] (m + 1 + 1) (blkL h (m + 4) [.inr (3, [.ref (m + 4 + 1), .null, .null, .null, .int (0), .int (0)]), xar 60 (fun _ => 0)]) (0 + 1) (0 + 60)
  refine XV.run C okT_init 2 (q := (15, ([some (.ref (m + 4))], [.int (15), .ref (m + 4)]))) rfl ?_
  refine XV.newI C (N := 15) (xlk_ok okT_init rfl) wR_74 rfl (by decide) (by omega) (Nat.le_of_ble_eq_true rfl) (Nat.le_of_ble_eq_true rfl) ?_
  refine XV.cast ((congrArg (fun w => xup _ _ w) (xar_0 15)).trans (blkL_new rfl)) ?_
  show XV G 1 p' l e' ({ frames := 1, cells := 4, slots := 105, locals := 20 } : Room) s' m' g' b' t' c' (XEnd G b' (fun r' n' h' => r' = none ∧ n' = m + 5 ∧ h' = setText h (m + 4) (fun _ => 0) 0 (fun _ => 0, (fun _ => 0, (fun _ => 0, 0)))) (fun _ _ _ => False) g' s' 4 105) 17 [some (.ref (m + 4))] [.ref (m + 4 + 2), .ref (m + 4)] (m + 1 + 2) (blkL h (m + 4) [.inr (3, [.ref (m + 4 + 1), .null, .null, .null, .int (0), .int (0)]), xar 60 (fun _ => 0), xar 15 (fun _ => 0)]) ((0 + 1) + 1) ((0 + 60) + 15)
  refine XV.putF C (ci := 3) (kf := 1) hname (xlk_ok okT_init rfl) rfl (by decide) wF_T_15 (by omega) (by omega) (blkL_get (i := 0) rfl rfl) rfl rfl rfl rfl rfl (Nat.le_of_ble_eq_true rfl) ?_
  refine XV.cast (blkL_up (i := 0) rfl (Nat.le_of_ble_eq_true rfl)) ?_
  show XV G 1 p' l e' ({ frames := 1, cells := 4, slots := 105, locals := 20 } : Room) s' m' g' b' t' c' (XEnd G b' (fun r' n' h' => r' = none ∧ n' = m + 5 ∧ h' = setText h (m + 4) (fun _ => 0) 0 (fun _ => 0, (fun _ => 0, (fun _ => 0, 0)))) (fun _ _ _ => False) g' s' 4 105) 20 [some (.ref (m + 4))] [] (m + 1 + 2) (blkL h (m + 4) [.inr (3, [.ref (m + 4 + 1), .ref (m + 4 + 2), .null, .null, .int (0), .int (0)]), xar 60 (fun _ => 0), xar 15 (fun _ => 0)]) ((0 + 1) + 1) ((0 + 60) + 15)
  refine XV.run C okT_init 2 (q := (23, ([some (.ref (m + 4))], [.int (15), .ref (m + 4)]))) rfl ?_
  refine XV.newI C (N := 15) (xlk_ok okT_init rfl) wR_74 rfl (by decide) (by omega) (Nat.le_of_ble_eq_true rfl) (Nat.le_of_ble_eq_true rfl) ?_
  refine XV.cast ((congrArg (fun w => xup _ _ w) (xar_0 15)).trans (blkL_new rfl)) ?_
  show XV G 1 p' l e' ({ frames := 1, cells := 4, slots := 105, locals := 20 } : Room) s' m' g' b' t' c' (XEnd G b' (fun r' n' h' => r' = none ∧ n' = m + 5 ∧ h' = setText h (m + 4) (fun _ => 0) 0 (fun _ => 0, (fun _ => 0, (fun _ => 0, 0)))) (fun _ _ _ => False) g' s' 4 105) 25 [some (.ref (m + 4))] [.ref (m + 4 + 3), .ref (m + 4)] (m + 1 + 3) (blkL h (m + 4) [.inr (3, [.ref (m + 4 + 1), .ref (m + 4 + 2), .null, .null, .int (0), .int (0)]), xar 60 (fun _ => 0), xar 15 (fun _ => 0), xar 15 (fun _ => 0)]) (((0 + 1) + 1) + 1) (((0 + 60) + 15) + 15)
  refine XV.putF C (ci := 3) (kf := 2) hname (xlk_ok okT_init rfl) rfl (by decide) wF_T_18 (by omega) (by omega) (blkL_get (i := 0) rfl rfl) rfl rfl rfl rfl rfl (Nat.le_of_ble_eq_true rfl) ?_
  refine XV.cast (blkL_up (i := 0) rfl (Nat.le_of_ble_eq_true rfl)) ?_
  show XV G 1 p' l e' ({ frames := 1, cells := 4, slots := 105, locals := 20 } : Room) s' m' g' b' t' c' (XEnd G b' (fun r' n' h' => r' = none ∧ n' = m + 5 ∧ h' = setText h (m + 4) (fun _ => 0) 0 (fun _ => 0, (fun _ => 0, (fun _ => 0, 0)))) (fun _ _ _ => False) g' s' 4 105) 28 [some (.ref (m + 4))] [] (m + 1 + 3) (blkL h (m + 4) [.inr (3, [.ref (m + 4 + 1), .ref (m + 4 + 2), .ref (m + 4 + 3), .null, .int (0), .int (0)]), xar 60 (fun _ => 0), xar 15 (fun _ => 0), xar 15 (fun _ => 0)]) (((0 + 1) + 1) + 1) (((0 + 60) + 15) + 15)
  refine XV.run C okT_init 2 (q := (31, ([some (.ref (m + 4))], [.int (15), .ref (m + 4)]))) rfl ?_
  refine XV.newI C (N := 15) (xlk_ok okT_init rfl) wR_74 rfl (by decide) (by omega) (Nat.le_of_ble_eq_true rfl) (Nat.le_of_ble_eq_true rfl) ?_
  refine XV.cast ((congrArg (fun w => xup _ _ w) (xar_0 15)).trans (blkL_new rfl)) ?_
  show XV G 1 p' l e' ({ frames := 1, cells := 4, slots := 105, locals := 20 } : Room) s' m' g' b' t' c' (XEnd G b' (fun r' n' h' => r' = none ∧ n' = m + 5 ∧ h' = setText h (m + 4) (fun _ => 0) 0 (fun _ => 0, (fun _ => 0, (fun _ => 0, 0)))) (fun _ _ _ => False) g' s' 4 105) 33 [some (.ref (m + 4))] [.ref (m + 4 + 4), .ref (m + 4)] (m + 1 + 4) (blkL h (m + 4) [.inr (3, [.ref (m + 4 + 1), .ref (m + 4 + 2), .ref (m + 4 + 3), .null, .int (0), .int (0)]), xar 60 (fun _ => 0), xar 15 (fun _ => 0), xar 15 (fun _ => 0), xar 15 (fun _ => 0)]) ((((0 + 1) + 1) + 1) + 1) ((((0 + 60) + 15) + 15) + 15)
  refine XV.putF C (ci := 3) (kf := 3) hname (xlk_ok okT_init rfl) rfl (by decide) wF_T_21 (by omega) (by omega) (blkL_get (i := 0) rfl rfl) rfl rfl rfl rfl rfl (Nat.le_of_ble_eq_true rfl) ?_
  refine XV.cast (blkL_up (i := 0) rfl (Nat.le_of_ble_eq_true rfl)) ?_
  show XV G 1 p' l e' ({ frames := 1, cells := 4, slots := 105, locals := 20 } : Room) s' m' g' b' t' c' (XEnd G b' (fun r' n' h' => r' = none ∧ n' = m + 5 ∧ h' = setText h (m + 4) (fun _ => 0) 0 (fun _ => 0, (fun _ => 0, (fun _ => 0, 0)))) (fun _ _ _ => False) g' s' 4 105) 36 [some (.ref (m + 4))] [] (m + 1 + 4) (blkL h (m + 4) [.inr (3, [.ref (m + 4 + 1), .ref (m + 4 + 2), .ref (m + 4 + 3), .ref (m + 4 + 4), .int (0), .int (0)]), xar 60 (fun _ => 0), xar 15 (fun _ => 0), xar 15 (fun _ => 0), xar 15 (fun _ => 0)]) ((((0 + 1) + 1) + 1) + 1) ((((0 + 60) + 15) + 15) + 15)
  refine XV.run C okT_init 2 (q := (38, ([some (.ref (m + 4))], [.int (0), .ref (m + 4)]))) rfl ?_
  refine XV.putf C (ci := 3) (kf := 4) (xlk_ok okT_init rfl) rfl (by decide) wF_T_24 (by omega) (by omega) (blkL_get (i := 0) rfl rfl) rfl rfl rfl rfl (Nat.le_of_ble_eq_true rfl) ?_
  refine XV.cast (blkL_up (i := 0) rfl (Nat.le_of_ble_eq_true rfl)) ?_
  show XV G 1 p' l e' ({ frames := 1, cells := 4, slots := 105, locals := 20 } : Room) s' m' g' b' t' c' (XEnd G b' (fun r' n' h' => r' = none ∧ n' = m + 5 ∧ h' = setText h (m + 4) (fun _ => 0) 0 (fun _ => 0, (fun _ => 0, (fun _ => 0, 0)))) (fun _ _ _ => False) g' s' 4 105) 41 [some (.ref (m + 4))] [] (m + 1 + 4) (blkL h (m + 4) [.inr (3, [.ref (m + 4 + 1), .ref (m + 4 + 2), .ref (m + 4 + 3), .ref (m + 4 + 4), .int (0), .int (0)]), xar 60 (fun _ => 0), xar 15 (fun _ => 0), xar 15 (fun _ => 0), xar 15 (fun _ => 0)]) ((((0 + 1) + 1) + 1) + 1) ((((0 + 60) + 15) + 15) + 15)
  refine XV.run C okT_init 2 (q := (43, ([some (.ref (m + 4))], [.int (0), .ref (m + 4)]))) rfl ?_
  refine XV.putf C (ci := 3) (kf := 5) (xlk_ok okT_init rfl) rfl (by decide) wF_T_28 (by omega) (by omega) (blkL_get (i := 0) rfl rfl) rfl rfl rfl rfl (Nat.le_of_ble_eq_true rfl) ?_
  refine XV.cast (blkL_up (i := 0) rfl (Nat.le_of_ble_eq_true rfl)) ?_
  show XV G 1 p' l e' ({ frames := 1, cells := 4, slots := 105, locals := 20 } : Room) s' m' g' b' t' c' (XEnd G b' (fun r' n' h' => r' = none ∧ n' = m + 5 ∧ h' = setText h (m + 4) (fun _ => 0) 0 (fun _ => 0, (fun _ => 0, (fun _ => 0, 0)))) (fun _ _ _ => False) g' s' 4 105) 46 [some (.ref (m + 4))] [] (m + 1 + 4) (blkL h (m + 4) [.inr (3, [.ref (m + 4 + 1), .ref (m + 4 + 2), .ref (m + 4 + 3), .ref (m + 4 + 4), .int (0), .int (0)]), xar 60 (fun _ => 0), xar 15 (fun _ => 0), xar 15 (fun _ => 0), xar 15 (fun _ => 0)]) ((((0 + 1) + 1) + 1) + 1) ((((0 + 60) + 15) + 15) + 15)
  exact XV.vret C (xlk_ok okT_init rfl) hret (Nat.le_of_ble_eq_true rfl) (Nat.le_of_ble_eq_true rfl) (⟨rfl, rfl, blkL_blk rfl (fun j hj => by rcases (show j = 0 ∨ j = 1 ∨ j = 2 ∨ j = 3 ∨ j = 4 by omega) with rfl | rfl | rfl | rfl | rfl <;> rfl)⟩)
def f0K : Nat → Int32 := fun k => if k = 2 then 4 else if k = 3 then 8 else if k = 4 then 20 else if k = 5 then 5 else if k = 6 then 3 else 0
theorem f0K_hi {k : Nat} (h : 7 ≤ k) : f0K k = 0 := by
  unfold f0K
  rw [if_neg (by omega), if_neg (by omega), if_neg (by omega), if_neg (by omega), if_neg (by omega)]
def sK (j : Nat) : Nat → Int32 := fun s => if s < j then (XSA 3).2 s else 0
theorem sK_s (j : Nat) : upd (sK j) j ((XSA 3).2 j) = sK (j + 1) := by
  funext s
  unfold upd sK
  by_cases h : s = j
  · subst h
    rw [if_pos rfl, if_pos (by omega)]
  · rw [if_neg h]
    by_cases h2 : s < j
    · rw [if_pos h2, if_pos (by omega)]
    · rw [if_neg h2, if_neg (by omega)]
def eIn (a j : Nat) : Nat → XC := fun i => match i with
  | 0 => .inr (0, [.ref (a + 1), .ref (a + 2), .int 0, .int 0, .int 0, .int 0, .int 0])
  | 1 => xar 5 (sK 5)
  | 2 => .inl (3, (5, .inr (.inr (fun i => if i < j then some (a + 3 + 5 * i) else none))))
  | i + 3 => ropeC (a + 3 + 5 * (i / 5)) rI (i % 5)
theorem up_next {a b d j : Nat} : va_up (fun i => if i < j then some (a + b + d * i) else none) j (some (a + b + d * j)) = fun i => if i < j + 1 then some (a + b + d * i) else none := by
  funext i
  unfold va_up
  by_cases h : i = j
  · subst h
    rw [if_pos rfl, if_pos (by omega)]
  · rw [if_neg h]
    show (if i < j then _ else _) = _
    by_cases h2 : i < j
    · rw [if_pos h2, if_pos (by omega)]
    · rw [if_neg h2, if_neg (by omega)]
theorem eIn_s {h : XH} {a j : Nat} : xup (blk (blk h a (3 + 5 * j) (eIn a j)) (a + 3 + 5 * j) 5 (ropeC (a + 3 + 5 * j) rI)) (a + 2) (.inl (3, (5, .inr (.inr (va_up (fun i => if i < j then some (a + 3 + 5 * i) else none) j (some (a + 3 + 5 * j))))))) = blk h a (3 + 5 * (j + 1)) (eIn a (j + 1)) := by
  rw [up_next]
  funext q
  unfold xup blk
  by_cases h2 : q = a + 2
  · subst h2
    rw [if_pos rfl, if_pos (by omega), show a + 2 - a = 2 by omega]
    rfl
  rw [if_neg h2]
  by_cases h3 : a + 3 + 5 * j ≤ q ∧ q < a + 3 + 5 * j + 5
  · rw [if_pos h3, if_pos (by omega)]
    obtain ⟨t, rfl, ht⟩ : ∃ t, q = a + 3 + 5 * j + t ∧ t < 5 := ⟨q - (a + 3 + 5 * j), by omega, by omega⟩
    rw [show a + 3 + 5 * j + t - (a + 3 + 5 * j) = t by omega, show a + 3 + 5 * j + t - a = (5 * j + t) + 3 by omega]
    show _ = ropeC (a + 3 + 5 * ((5 * j + t) / 5)) rI ((5 * j + t) % 5)
    rw [show (5 * j + t) / 5 = j by omega, show (5 * j + t) % 5 = t by omega]
  rw [if_neg h3]
  by_cases h4 : a ≤ q ∧ q < a + (3 + 5 * j)
  · rw [if_pos h4, if_pos (by omega)]
    obtain ⟨t, rfl⟩ : ∃ t, q = a + t := ⟨q - a, by omega⟩
    rw [show a + t - a = t by omega]
    match t, h2 with
    | 0, _ => rfl
    | 1, _ => rfl
    | 2, h2 => exact absurd rfl h2
    | t + 3, _ => rfl
  · rw [if_neg h4, if_neg (by omega)]
theorem eIn_0 {h : XH} {a : Nat} : blkL h a [.inr (0, [.ref (a + 1), .ref (a + 2), .int 0, .int 0, .int 0, .int 0, .int 0]), xar 5 (sK 5), .inl (3, (5, .inr (.inr (fun _ => none))))] = blk h a (3 + 5 * 0) (eIn a 0) := by
  refine blkL_blk rfl fun j hj => ?_
  rcases (show j = 0 ∨ j = 1 ∨ j = 2 by omega) with rfl | rfl | rfl
  · rfl
  · rfl
  · show some _ = some _
    refine congrArg some ?_
    show (Sum.inl (3, (5, .inr (.inr (fun _ => none)))) : XC) = .inl (3, (5, .inr (.inr (fun i => if i < 0 then some (a + 3 + 5 * i) else none))))
    congr 4
theorem eIn_5 {h : XH} {a : Nat} : blk h a (3 + 5 * 5) (eIn a 5) = setElev h a f0K := by
  refine blk_eq fun i hi => ?_
  match i, hi with
  | 0, _ => rfl
  | 1, _ =>
    refine xar_eq fun s hs => ?_
    rcases (show s = 0 ∨ s = 1 ∨ s = 2 ∨ s = 3 ∨ s = 4 by omega) with rfl | rfl | rfl | rfl | rfl <;> rfl
  | 2, _ => rfl
  | i + 3, _ =>
    show ropeC _ rI _ = ropeC _ (qfix (rowOf f0K (i / 5))) _
    refine ropeC_congr (fun k hk => ?_) _
    unfold rI qfix rowOf
    rw [f0K_hi (by omega), f0K_hi (by omega), if_pos rfl]
theorem blk_o2 {h : XH} {a N q : Nat} {c : Nat → XC} (hq : q < a ∨ a + N ≤ q) : blk h a N c q = h q := by
  unfold blk
  rw [if_neg (by omega)]
theorem blk_i2 {h : XH} {a N q j : Nat} {c : Nat → XC} (hq : q = a + j) (hj : j < N) : blk h a N c q = c j := by
  subst hq
  exact blk_is h a N c j hj
set_option maxHeartbeats 4000000 in
set_option maxRecDepth 100000 in
theorem ct_E_init {l : Launch} (hfl : l.stackTraces = false) {G : XG} {m : Nat} {h : XH} : XCt l G True (Cond.code yE_init bE_init 2 none) yE_init 2 40 27 525 [.ref (m + 4)] (m + 1) (blkL h (m + 4) [.inr (0, [.null, .null, .int (0), .int (0), .int (0), .int (0), .int (0)])]) (fun r' n' h' => r' = none ∧ n' = m + 28 ∧ h' = setElev h (m + 4) f0K) (fun _ _ _ => False) := by
  have hmd2 : True := trivial
  refine XCt.of hfl (by decide +kernel) (Nat.le_of_ble_eq_true rfl) ?_
  intro p' e' s' m' g' b' t' c' C hret hname hnt hmd
  have hex := hmd trivial
  have hAO := (show xEnv G s' from (id C).2.2.2.2.2.2.1).2.2.2.2.2.2.2.2
  refine XV.run C okE_init 1 (q := (1, ([some (.ref (m + 4)), none], [.ref (m + 4)]))) rfl ?_
  refine XV.objInit C (xlk_ok okE_init rfl) wM_E_3 (Nat.le_of_ble_eq_true rfl) (Nat.le_of_ble_eq_true rfl) ?_
  refine XV.run C okE_init 2 (q := (6, ([some (.ref (m + 4)), none], [.int (5), .ref (m + 4)]))) rfl ?_
  refine XV.newI C (N := 5) (xlk_ok okE_init rfl) wR_74 rfl (by decide) (by omega) (Nat.le_of_ble_eq_true rfl) (Nat.le_of_ble_eq_true rfl) ?_
  refine XV.cast ((congrArg (fun w => xup _ _ w) (xar_0 5)).trans (blkL_new rfl)) ?_
  show XV G 2 p' l e' ({ frames := 2, cells := 27, slots := 525, locals := 40 } : Room) s' m' g' b' t' c' (XEnd G b' (fun r' n' h' => r' = none ∧ n' = m + 28 ∧ h' = setElev h (m + 4) f0K) (fun _ _ _ => False) g' s' 27 525) 8 [some (.ref (m + 4)), none] [.ref (m + 4 + 1), .ref (m + 4)] (m + 1 + 1) (blkL h (m + 4) [.inr (0, [.null, .null, .int (0), .int (0), .int (0), .int (0), .int (0)]), xar 5 (fun _ => 0)]) (0 + 1) (0 + 5)
  refine XV.putF C (ci := 0) (kf := 0) hname (xlk_ok okE_init rfl) rfl (by decide) wF_E_9 (by omega) (by omega) (blkL_get (i := 0) rfl rfl) rfl rfl rfl rfl rfl (Nat.le_of_ble_eq_true rfl) ?_
  refine XV.cast (blkL_up (i := 0) rfl (Nat.le_of_ble_eq_true rfl)) ?_
  show XV G 2 p' l e' ({ frames := 2, cells := 27, slots := 525, locals := 40 } : Room) s' m' g' b' t' c' (XEnd G b' (fun r' n' h' => r' = none ∧ n' = m + 28 ∧ h' = setElev h (m + 4) f0K) (fun _ _ _ => False) g' s' 27 525) 11 [some (.ref (m + 4)), none] [] (m + 1 + 1) (blkL h (m + 4) [.inr (0, [.ref (m + 4 + 1), .null, .int (0), .int (0), .int (0), .int (0), .int (0)]), xar 5 (fun _ => 0)]) (0 + 1) (0 + 5)
  refine XV.run C okE_init 2 (q := (13, ([some (.ref (m + 4)), none], [.int (5), .ref (m + 4)]))) rfl ?_
  refine XV.newA C (N := 5) (t := 3) (xlk_ok okE_init rfl) wC_E_15 hAO.1 rfl rfl (by decide) (by omega) (Nat.le_of_ble_eq_true rfl) (Nat.le_of_ble_eq_true rfl) ?_
  refine XV.cast (blkL_new rfl) ?_
  show XV G 2 p' l e' ({ frames := 2, cells := 27, slots := 525, locals := 40 } : Room) s' m' g' b' t' c' (XEnd G b' (fun r' n' h' => r' = none ∧ n' = m + 28 ∧ h' = setElev h (m + 4) f0K) (fun _ _ _ => False) g' s' 27 525) 16 [some (.ref (m + 4)), none] [.ref (m + 4 + 2), .ref (m + 4)] (m + 1 + 2) (blkL h (m + 4) [.inr (0, [.ref (m + 4 + 1), .null, .int (0), .int (0), .int (0), .int (0), .int (0)]), xar 5 (fun _ => 0), .inl (3, (5, .inr (.inr (fun _ => none))))]) ((0 + 1) + 1) ((0 + 5) + 5)
  refine XV.putF C (ci := 0) (kf := 1) hname (xlk_ok okE_init rfl) rfl (by decide) wF_E_17 (by omega) (by omega) (blkL_get (i := 0) rfl rfl) rfl rfl rfl rfl rfl (Nat.le_of_ble_eq_true rfl) ?_
  refine XV.cast (blkL_up (i := 0) rfl (Nat.le_of_ble_eq_true rfl)) ?_
  show XV G 2 p' l e' ({ frames := 2, cells := 27, slots := 525, locals := 40 } : Room) s' m' g' b' t' c' (XEnd G b' (fun r' n' h' => r' = none ∧ n' = m + 28 ∧ h' = setElev h (m + 4) f0K) (fun _ _ _ => False) g' s' 27 525) 19 [some (.ref (m + 4)), none] [] (m + 1 + 2) (blkL h (m + 4) [.inr (0, [.ref (m + 4 + 1), .ref (m + 4 + 2), .int (0), .int (0), .int (0), .int (0), .int (0)]), xar 5 (fun _ => 0), .inl (3, (5, .inr (.inr (fun _ => none))))]) ((0 + 1) + 1) ((0 + 5) + 5)
  refine XV.run C okE_init 2 (q := (21, ([some (.ref (m + 4)), none], [.int (0), .ref (m + 4)]))) rfl ?_
  refine XV.putf C (ci := 0) (kf := 2) (xlk_ok okE_init rfl) rfl (by decide) wF_E_21 (by omega) (by omega) (blkL_get (i := 0) rfl rfl) rfl rfl rfl rfl (Nat.le_of_ble_eq_true rfl) ?_
  refine XV.cast (blkL_up (i := 0) rfl (Nat.le_of_ble_eq_true rfl)) ?_
  show XV G 2 p' l e' ({ frames := 2, cells := 27, slots := 525, locals := 40 } : Room) s' m' g' b' t' c' (XEnd G b' (fun r' n' h' => r' = none ∧ n' = m + 28 ∧ h' = setElev h (m + 4) f0K) (fun _ _ _ => False) g' s' 27 525) 24 [some (.ref (m + 4)), none] [] (m + 1 + 2) (blkL h (m + 4) [.inr (0, [.ref (m + 4 + 1), .ref (m + 4 + 2), .int (0), .int (0), .int (0), .int (0), .int (0)]), xar 5 (fun _ => 0), .inl (3, (5, .inr (.inr (fun _ => none))))]) ((0 + 1) + 1) ((0 + 5) + 5)
  refine XV.run C okE_init 2 (q := (26, ([some (.ref (m + 4)), none], [.int (0), .ref (m + 4)]))) rfl ?_
  refine XV.putf C (ci := 0) (kf := 3) (xlk_ok okE_init rfl) rfl (by decide) wF_E_25 (by omega) (by omega) (blkL_get (i := 0) rfl rfl) rfl rfl rfl rfl (Nat.le_of_ble_eq_true rfl) ?_
  refine XV.cast (blkL_up (i := 0) rfl (Nat.le_of_ble_eq_true rfl)) ?_
  show XV G 2 p' l e' ({ frames := 2, cells := 27, slots := 525, locals := 40 } : Room) s' m' g' b' t' c' (XEnd G b' (fun r' n' h' => r' = none ∧ n' = m + 28 ∧ h' = setElev h (m + 4) f0K) (fun _ _ _ => False) g' s' 27 525) 29 [some (.ref (m + 4)), none] [] (m + 1 + 2) (blkL h (m + 4) [.inr (0, [.ref (m + 4 + 1), .ref (m + 4 + 2), .int (0), .int (0), .int (0), .int (0), .int (0)]), xar 5 (fun _ => 0), .inl (3, (5, .inr (.inr (fun _ => none))))]) ((0 + 1) + 1) ((0 + 5) + 5)
  refine XV.run C okE_init 2 (q := (31, ([some (.ref (m + 4)), none], [.int (0), .ref (m + 4)]))) rfl ?_
  refine XV.putf C (ci := 0) (kf := 4) (xlk_ok okE_init rfl) rfl (by decide) wF_E_28 (by omega) (by omega) (blkL_get (i := 0) rfl rfl) rfl rfl rfl rfl (Nat.le_of_ble_eq_true rfl) ?_
  refine XV.cast (blkL_up (i := 0) rfl (Nat.le_of_ble_eq_true rfl)) ?_
  show XV G 2 p' l e' ({ frames := 2, cells := 27, slots := 525, locals := 40 } : Room) s' m' g' b' t' c' (XEnd G b' (fun r' n' h' => r' = none ∧ n' = m + 28 ∧ h' = setElev h (m + 4) f0K) (fun _ _ _ => False) g' s' 27 525) 34 [some (.ref (m + 4)), none] [] (m + 1 + 2) (blkL h (m + 4) [.inr (0, [.ref (m + 4 + 1), .ref (m + 4 + 2), .int (0), .int (0), .int (0), .int (0), .int (0)]), xar 5 (fun _ => 0), .inl (3, (5, .inr (.inr (fun _ => none))))]) ((0 + 1) + 1) ((0 + 5) + 5)
  refine XV.run C okE_init 2 (q := (36, ([some (.ref (m + 4)), none], [.int (0), .ref (m + 4)]))) rfl ?_
  refine XV.putf C (ci := 0) (kf := 5) (xlk_ok okE_init rfl) rfl (by decide) wF_E_31 (by omega) (by omega) (blkL_get (i := 0) rfl rfl) rfl rfl rfl rfl (Nat.le_of_ble_eq_true rfl) ?_
  refine XV.cast (blkL_up (i := 0) rfl (Nat.le_of_ble_eq_true rfl)) ?_
  show XV G 2 p' l e' ({ frames := 2, cells := 27, slots := 525, locals := 40 } : Room) s' m' g' b' t' c' (XEnd G b' (fun r' n' h' => r' = none ∧ n' = m + 28 ∧ h' = setElev h (m + 4) f0K) (fun _ _ _ => False) g' s' 27 525) 39 [some (.ref (m + 4)), none] [] (m + 1 + 2) (blkL h (m + 4) [.inr (0, [.ref (m + 4 + 1), .ref (m + 4 + 2), .int (0), .int (0), .int (0), .int (0), .int (0)]), xar 5 (fun _ => 0), .inl (3, (5, .inr (.inr (fun _ => none))))]) ((0 + 1) + 1) ((0 + 5) + 5)
  refine XV.run C okE_init 2 (q := (41, ([some (.ref (m + 4)), none], [.int (0), .ref (m + 4)]))) rfl ?_
  refine XV.putf C (ci := 0) (kf := 6) (xlk_ok okE_init rfl) rfl (by decide) wF_E_34 (by omega) (by omega) (blkL_get (i := 0) rfl rfl) rfl rfl rfl rfl (Nat.le_of_ble_eq_true rfl) ?_
  refine XV.cast (blkL_up (i := 0) rfl (Nat.le_of_ble_eq_true rfl)) ?_
  show XV G 2 p' l e' ({ frames := 2, cells := 27, slots := 525, locals := 40 } : Room) s' m' g' b' t' c' (XEnd G b' (fun r' n' h' => r' = none ∧ n' = m + 28 ∧ h' = setElev h (m + 4) f0K) (fun _ _ _ => False) g' s' 27 525) 44 [some (.ref (m + 4)), none] [] (m + 1 + 2) (blkL h (m + 4) [.inr (0, [.ref (m + 4 + 1), .ref (m + 4 + 2), .int (0), .int (0), .int (0), .int (0), .int (0)]), xar 5 (fun _ => 0), .inl (3, (5, .inr (.inr (fun _ => none))))]) ((0 + 1) + 1) ((0 + 5) + 5)
  refine XV.run C okE_init 2 (q := (46, ([some (.ref (m + 4)), some (.int (0))], []))) rfl ?_
  have loop : ∀ (d j : Nat), j + d = 5 → XV G 2 p' l e' ({ frames := 2, cells := 27, slots := 525, locals := 40 } : Room) s' m' g' b' t' c' (XEnd G b' (fun r' n' h' => r' = none ∧ n' = m + 28 ∧ h' = setElev h (m + 4) f0K) (fun _ _ _ => False) g' s' 27 525) 46 [some (.ref (m + 4)), some (.int (nI j))] [] (m + 1 + 2) (blkL h (m + 4) [.inr (0, [.ref (m + 4 + 1), .ref (m + 4 + 2), .int (0), .int (0), .int (0), .int (0), .int (0)]), xar 5 (sK j), .inl (3, (5, .inr (.inr (fun _ => none))))]) ((0 + 1) + 1) ((0 + 5) + 5) := by
    intro d
    induction d with
    | zero =>
      intro j hj
      refine XV.run C okE_init 2 (q := (48, ([some (.ref (m + 4)), some (.int (nI j))], [.int (5), .int (nI j)]))) rfl ?_
      refine XV.icmp_ge C (tgt := 68) (xlk_ok okE_init rfl) rfl (fun _ => ?_) (fun hc => absurd (nI_le (a := 5) (by omega) (by omega)) hc)
      obtain rfl : 5 = j := by omega
      refine XV.run C okE_init 2 (q := (70, ([some (.ref (m + 4)), some (.int (0))], []))) rfl ?_
      have loop : ∀ (d j : Nat), j + d = 5 → XV G 2 p' l e' ({ frames := 2, cells := 27, slots := 525, locals := 40 } : Room) s' m' g' b' t' c' (XEnd G b' (fun r' n' h' => r' = none ∧ n' = m + 28 ∧ h' = setElev h (m + 4) f0K) (fun _ _ _ => False) g' s' 27 525) 70 [some (.ref (m + 4)), some (.int (nI j))] [] (m + 3 + 5 * j) (blk h (m + 4) (3 + 5 * j) (eIn (m + 4) j)) (2 + 5 * j) (10 + 103 * j) := by
        intro d
        induction d with
        | zero =>
          intro j hj
          refine XV.run C okE_init 2 (q := (72, ([some (.ref (m + 4)), some (.int (nI j))], [.int (5), .int (nI j)]))) rfl ?_
          refine XV.icmp_ge C (tgt := 94) (xlk_ok okE_init rfl) rfl (fun _ => ?_) (fun hc => absurd (nI_le (a := 5) (by omega) (by omega)) hc)
          obtain rfl : 5 = j := by omega
          exact XV.vret C (xlk_ok okE_init rfl) hret (Nat.le_of_ble_eq_true rfl) (Nat.le_of_ble_eq_true rfl) (⟨rfl, rfl, eIn_5⟩)
        | succ d ih =>
          intro j hj
          refine XV.run C okE_init 2 (q := (72, ([some (.ref (m + 4)), some (.int (nI j))], [.int (5), .int (nI j)]))) rfl ?_
          refine XV.icmp_ge C (tgt := 94) (xlk_ok okE_init rfl) rfl (fun hc => absurd hc (nI_ge (b := 5) (by omega) (by omega))) (fun _ => ?_)
          refine XV.run C okE_init 1 (q := (76, ([some (.ref (m + 4)), some (.int (nI j))], [.ref (m + 4)]))) rfl ?_
          refine XV.getf C (ci := 0) (kf := 1) (v := .ref (m + 4 + 2)) (xlk_ok okE_init rfl) rfl (by decide) wF_E_17 (by omega) (by omega) (show (blk h (m + 4) (3 + 5 * j) (eIn (m + 4) j)) (m + 4) = .inr (0, [.ref (m + 4 + 1), .ref (m + 4 + 2), .int (0), .int (0), .int (0), .int (0), .int (0)]) from blk_i2 (j := 0) rfl (by omega)) rfl ?_
          refine XV.run C okE_init 1 (q := (80, ([some (.ref (m + 4)), some (.int (nI j))], [.int (nI j), .ref (m + 4 + 2)]))) rfl ?_
          refine XV.new C (ci := 2) (fs := [.null, .null, .null, .null, .int 0, .int 0, .int 0]) (xlk_ok okE_init rfl) rfl wC_E_15 wA_R wN_R (by intro j ty hj hp; rcases (show j = 0 ∨ j = 1 ∨ j = 2 ∨ j = 3 ∨ j = 4 ∨ j = 5 ∨ j = 6 by have : j < 7 := hj; omega) with rfl | rfl | rfl | rfl | rfl | rfl | rfl <;> (cases hp; rfl)) (by omega) (by show 2 + 5 * j + 1 ≤ 27; omega) (by show 10 + 103 * j + 7 ≤ 525; omega) ?_
          refine XV.cast (blkL_1 _ _ _) ?_
          refine XV.run C okE_init 1 (q := (84, ([some (.ref (m + 4)), some (.int (nI j))], [.ref (m + 3 + 5 * j + 4), .ref (m + 3 + 5 * j + 4), .int (nI j), .ref (m + 4 + 2)]))) rfl ?_
          refine XV.callIN C (As := []) (rest := [.ref (m + 3 + 5 * j + 4), .int (nI j), .ref (m + 4 + 2)]) (ct_R_init hfl (m := m + 3 + 5 * j) (h := blk h (m + 4) (3 + 5 * j) (eIn (m + 4) j))) (xlk_ok okE_init rfl) rfl (List.mem_of_getElem? (i := 20) rfl) wI_R_init wN_R wB_R_init rfl hy_R_init (fun _ => by omega) ⟨Nat.le_of_ble_eq_true rfl, Nat.le_of_ble_eq_true rfl⟩ ⟨by show 2 + 5 * j + 1 + 4 ≤ 27; omega, by show 10 + 103 * j + 7 + 96 ≤ 525; omega⟩ (Nat.le_of_ble_eq_true rfl) (fun r n h hp => ?_) (fun _ _ _ q => q.elim)
          obtain ⟨rfl, rfl, rfl⟩ := hp
          refine XV.aast C (N := 5) (t := 3) (a := j) (o := m + 3 + 5 * j + 4) (ci := 2) (f := (fun i => if i < j then some (m + 4 + 3 + 5 * i) else none)) (xlk_ok okE_init rfl) (by omega) (by omega) ((blk_o2 (by omega)).trans (blk_i2 (j := 2) rfl (by omega))) rfl (by omega) (by omega) rfl (blk_i2 (j := 0) rfl (by decide)) rfl (by omega) (by decide) ?_
          rw [show m + 3 + 5 * j + 4 = m + 4 + 3 + 5 * j by omega]
          refine XV.cast eIn_s ?_
          refine XV.run C okE_init 2 (q := (70, ([some (.ref (m + 4)), some (.int ((nI j) + 1))], []))) rfl ?_
          rw [nI_1]
          exact XV.num rfl (by omega) (by omega) (by show 10 + 103 * j + 7 + 96 = 10 + 103 * (j + 1); omega) (ih (j + 1) (by omega))
      exact XV.num eIn_0 rfl rfl rfl (loop 5 0 (by omega))
    | succ d ih =>
      intro j hj
      refine XV.run C okE_init 2 (q := (48, ([some (.ref (m + 4)), some (.int (nI j))], [.int (5), .int (nI j)]))) rfl ?_
      refine XV.icmp_ge C (tgt := 68) (xlk_ok okE_init rfl) rfl (fun hc => absurd hc (nI_ge (b := 5) (by omega) (by omega))) (fun _ => ?_)
      refine XV.run C okE_init 1 (q := (52, ([some (.ref (m + 4)), some (.int (nI j))], [.ref (m + 4)]))) rfl ?_
      refine XV.getf C (ci := 0) (kf := 0) (v := .ref (m + 4 + 1)) (xlk_ok okE_init rfl) rfl (by decide) wF_E_9 (by omega) (by omega) (blkL_get (i := 0) rfl rfl) rfl ?_
      refine XV.run C okE_init 1 (q := (56, ([some (.ref (m + 4)), some (.int (nI j))], [.int (nI j), .ref (m + 4 + 1)]))) rfl ?_
      refine XV.getsN C (i := 3) (xlk_ok okE_init rfl) (by decide) (by decide) (List.mem_of_getElem? (i := 9) rfl) ?_
      refine XV.run C okE_init 1 (q := (60, ([some (.ref (m + 4)), some (.int (nI j))], [.int (nI j), .ref (3), .int (nI j), .ref (m + 4 + 1)]))) rfl ?_
      refine XV.tald C (i := 3) (a := j) (xlk_ok okE_init rfl) (by decide) (by decide) (rfl) (by omega) ?_
      refine XV.iastC C (N := 5) (f := (sK j)) (a := j) (xlk_ok okE_init rfl) (by omega) (by omega) (blkL_get (i := 1) rfl rfl) rfl (by omega) (by decide) ?_
      refine XV.cast ((blkL_up (i := 1) rfl (Nat.le_of_ble_eq_true rfl)).trans (congrArg (fun w => blkL h (m + 4) (List.set [.inr (0, [.ref (m + 4 + 1), .ref (m + 4 + 2), .int (0), .int (0), .int (0), .int (0), .int (0)]), xar 5 (sK j), .inl (3, (5, .inr (.inr (fun _ => none))))] 1 (xar 5 w))) (sK_s j))) ?_
      refine XV.run C okE_init 2 (q := (46, ([some (.ref (m + 4)), some (.int ((nI j) + 1))], []))) rfl ?_
      rw [nI_1]
      exact ih (j + 1) (by omega)
  exact XV.cast (by rfl) (loop 5 0 (by omega))
def hIn (a j : Nat) : Nat → XC := fun i => match i with
  | 0 => .inr (1, [.ref (a + 1), .int 0, .int 0])
  | 1 => .inl (2, (6, .inr (.inr (fun i => if i < j then some (a + 2 + 28 * i) else none))))
  | i + 2 => elevC (a + 2 + 28 * (i / 28)) f0K (i % 28)
theorem hIn_s {h : XH} {a j : Nat} : xup (blk (blk h a (2 + 28 * j) (hIn a j)) (a + 2 + 28 * j) 28 (elevC (a + 2 + 28 * j) f0K)) (a + 1) (.inl (2, (6, .inr (.inr (va_up (fun i => if i < j then some (a + 2 + 28 * i) else none) j (some (a + 2 + 28 * j))))))) = blk h a (2 + 28 * (j + 1)) (hIn a (j + 1)) := by
  rw [up_next]
  funext q
  unfold xup blk
  by_cases h2 : q = a + 1
  · subst h2
    rw [if_pos rfl, if_pos (by omega), show a + 1 - a = 1 by omega]
    rfl
  rw [if_neg h2]
  by_cases h3 : a + 2 + 28 * j ≤ q ∧ q < a + 2 + 28 * j + 28
  · rw [if_pos h3, if_pos (by omega)]
    obtain ⟨t, rfl, ht⟩ : ∃ t, q = a + 2 + 28 * j + t ∧ t < 28 := ⟨q - (a + 2 + 28 * j), by omega, by omega⟩
    rw [show a + 2 + 28 * j + t - (a + 2 + 28 * j) = t by omega, show a + 2 + 28 * j + t - a = (28 * j + t) + 2 by omega]
    show _ = elevC (a + 2 + 28 * ((28 * j + t) / 28)) f0K ((28 * j + t) % 28)
    rw [show (28 * j + t) / 28 = j by omega, show (28 * j + t) % 28 = t by omega]
  rw [if_neg h3]
  by_cases h4 : a ≤ q ∧ q < a + (2 + 28 * j)
  · rw [if_pos h4, if_pos (by omega)]
    obtain ⟨t, rfl⟩ : ∃ t, q = a + t := ⟨q - a, by omega⟩
    rw [show a + t - a = t by omega]
    match t, h2 with
    | 0, _ => rfl
    | 1, h2 => exact absurd rfl h2
    | t + 2, _ => rfl
  · rw [if_neg h4, if_neg (by omega)]
theorem hIn_0 {h : XH} {a : Nat} : blkL h a [.inr (1, [.ref (a + 1), .int 0, .int 0]), .inl (2, (6, .inr (.inr (fun _ => none))))] = blk h a (2 + 28 * 0) (hIn a 0) := by
  refine blkL_blk rfl fun j hj => ?_
  rcases (show j = 0 ∨ j = 1 by omega) with rfl | rfl
  · rfl
  · show some _ = some _
    refine congrArg some ?_
    show (Sum.inl (2, (6, .inr (.inr (fun _ => none)))) : XC) = .inl (2, (6, .inr (.inr (fun i => if i < 0 then some (a + 2 + 28 * i) else none))))
    congr 4
theorem hIn_6 {h : XH} {a : Nat} : blk h a (2 + 28 * 6) (hIn a 6) = setHist h a 0 0 (fun _ => f0K) := by
  refine blk_eq fun i hi => ?_
  match i, hi with
  | 0, _ => rfl
  | 1, _ => rfl
  | i + 2, _ => rfl
set_option maxHeartbeats 4000000 in
set_option maxRecDepth 100000 in
theorem ct_H_init {l : Launch} (hfl : l.stackTraces = false) {G : XG} {m : Nat} {h : XH} : XCt l G True (Cond.code yH_init bH_init 2 none) yH_init 3 61 169 3198 [.ref (m + 4)] (m + 1) (blkL h (m + 4) [.inr (1, [.null, .int (0), .int (0)])]) (fun r' n' h' => r' = none ∧ n' = m + 170 ∧ h' = setHist h (m + 4) 0 0 (fun _ => f0K)) (fun _ _ _ => False) := by
  have hmd2 : True := trivial
  refine XCt.of hfl (by decide +kernel) (Nat.le_of_ble_eq_true rfl) ?_
  intro p' e' s' m' g' b' t' c' C hret hname hnt hmd
  have hex := hmd trivial
  have hAO := (show xEnv G s' from (id C).2.2.2.2.2.2.1).2.2.2.2.2.2.2.2
  refine XV.run C okH_init 1 (q := (1, ([some (.ref (m + 4)), none], [.ref (m + 4)]))) rfl ?_
  refine XV.objInit C (xlk_ok okH_init rfl) wM_H_3 (Nat.le_of_ble_eq_true rfl) (Nat.le_of_ble_eq_true rfl) ?_
  refine XV.run C okH_init 2 (q := (7, ([some (.ref (m + 4)), none], [.int (6), .ref (m + 4)]))) rfl ?_
  refine XV.newA C (N := 6) (t := 2) (xlk_ok okH_init rfl) wC_H_9 hAO.2 rfl rfl (by decide) (by omega) (Nat.le_of_ble_eq_true rfl) (Nat.le_of_ble_eq_true rfl) ?_
  refine XV.cast (blkL_new rfl) ?_
  show XV G 2 p' l e' ({ frames := 3, cells := 169, slots := 3198, locals := 61 } : Room) s' m' g' b' t' c' (XEnd G b' (fun r' n' h' => r' = none ∧ n' = m + 170 ∧ h' = setHist h (m + 4) 0 0 (fun _ => f0K)) (fun _ _ _ => False) g' s' 169 3198) 10 [some (.ref (m + 4)), none] [.ref (m + 4 + 1), .ref (m + 4)] (m + 1 + 1) (blkL h (m + 4) [.inr (1, [.null, .int (0), .int (0)]), .inl (2, (6, .inr (.inr (fun _ => none))))]) (0 + 1) (0 + 6)
  refine XV.putF C (ci := 1) (kf := 0) hname (xlk_ok okH_init rfl) rfl (by decide) wF_H_11 (by omega) (by omega) (blkL_get (i := 0) rfl rfl) rfl rfl rfl rfl rfl (Nat.le_of_ble_eq_true rfl) ?_
  refine XV.cast (blkL_up (i := 0) rfl (Nat.le_of_ble_eq_true rfl)) ?_
  show XV G 2 p' l e' ({ frames := 3, cells := 169, slots := 3198, locals := 61 } : Room) s' m' g' b' t' c' (XEnd G b' (fun r' n' h' => r' = none ∧ n' = m + 170 ∧ h' = setHist h (m + 4) 0 0 (fun _ => f0K)) (fun _ _ _ => False) g' s' 169 3198) 13 [some (.ref (m + 4)), none] [] (m + 1 + 1) (blkL h (m + 4) [.inr (1, [.ref (m + 4 + 1), .int (0), .int (0)]), .inl (2, (6, .inr (.inr (fun _ => none))))]) (0 + 1) (0 + 6)
  refine XV.run C okH_init 2 (q := (15, ([some (.ref (m + 4)), none], [.int (0), .ref (m + 4)]))) rfl ?_
  refine XV.putf C (ci := 1) (kf := 1) (xlk_ok okH_init rfl) rfl (by decide) wF_H_17 (by omega) (by omega) (blkL_get (i := 0) rfl rfl) rfl rfl rfl rfl (Nat.le_of_ble_eq_true rfl) ?_
  refine XV.cast (blkL_up (i := 0) rfl (Nat.le_of_ble_eq_true rfl)) ?_
  show XV G 2 p' l e' ({ frames := 3, cells := 169, slots := 3198, locals := 61 } : Room) s' m' g' b' t' c' (XEnd G b' (fun r' n' h' => r' = none ∧ n' = m + 170 ∧ h' = setHist h (m + 4) 0 0 (fun _ => f0K)) (fun _ _ _ => False) g' s' 169 3198) 18 [some (.ref (m + 4)), none] [] (m + 1 + 1) (blkL h (m + 4) [.inr (1, [.ref (m + 4 + 1), .int (0), .int (0)]), .inl (2, (6, .inr (.inr (fun _ => none))))]) (0 + 1) (0 + 6)
  refine XV.run C okH_init 2 (q := (20, ([some (.ref (m + 4)), none], [.int (0), .ref (m + 4)]))) rfl ?_
  refine XV.putf C (ci := 1) (kf := 2) (xlk_ok okH_init rfl) rfl (by decide) wF_H_21 (by omega) (by omega) (blkL_get (i := 0) rfl rfl) rfl rfl rfl rfl (Nat.le_of_ble_eq_true rfl) ?_
  refine XV.cast (blkL_up (i := 0) rfl (Nat.le_of_ble_eq_true rfl)) ?_
  show XV G 2 p' l e' ({ frames := 3, cells := 169, slots := 3198, locals := 61 } : Room) s' m' g' b' t' c' (XEnd G b' (fun r' n' h' => r' = none ∧ n' = m + 170 ∧ h' = setHist h (m + 4) 0 0 (fun _ => f0K)) (fun _ _ _ => False) g' s' 169 3198) 23 [some (.ref (m + 4)), none] [] (m + 1 + 1) (blkL h (m + 4) [.inr (1, [.ref (m + 4 + 1), .int (0), .int (0)]), .inl (2, (6, .inr (.inr (fun _ => none))))]) (0 + 1) (0 + 6)
  refine XV.run C okH_init 2 (q := (25, ([some (.ref (m + 4)), some (.int (0))], []))) rfl ?_
  have loop : ∀ (d j : Nat), j + d = 6 → XV G 2 p' l e' ({ frames := 3, cells := 169, slots := 3198, locals := 61 } : Room) s' m' g' b' t' c' (XEnd G b' (fun r' n' h' => r' = none ∧ n' = m + 170 ∧ h' = setHist h (m + 4) 0 0 (fun _ => f0K)) (fun _ _ _ => False) g' s' 169 3198) 25 [some (.ref (m + 4)), some (.int (nI j))] [] (m + 2 + 28 * j) (blk h (m + 4) (2 + 28 * j) (hIn (m + 4) j)) (1 + 28 * j) (6 + 532 * j) := by
    intro d
    induction d with
    | zero =>
      intro j hj
      refine XV.run C okH_init 2 (q := (28, ([some (.ref (m + 4)), some (.int (nI j))], [.int (6), .int (nI j)]))) rfl ?_
      refine XV.icmp_ge C (tgt := 50) (xlk_ok okH_init rfl) rfl (fun _ => ?_) (fun hc => absurd (nI_le (a := 6) (by omega) (by omega)) hc)
      obtain rfl : 6 = j := by omega
      exact XV.vret C (xlk_ok okH_init rfl) hret (Nat.le_of_ble_eq_true rfl) (Nat.le_of_ble_eq_true rfl) (⟨rfl, rfl, hIn_6⟩)
    | succ d ih =>
      intro j hj
      refine XV.run C okH_init 2 (q := (28, ([some (.ref (m + 4)), some (.int (nI j))], [.int (6), .int (nI j)]))) rfl ?_
      refine XV.icmp_ge C (tgt := 50) (xlk_ok okH_init rfl) rfl (fun hc => absurd hc (nI_ge (b := 6) (by omega) (by omega))) (fun _ => ?_)
      refine XV.run C okH_init 1 (q := (32, ([some (.ref (m + 4)), some (.int (nI j))], [.ref (m + 4)]))) rfl ?_
      refine XV.getf C (ci := 1) (kf := 0) (v := .ref (m + 4 + 1)) (xlk_ok okH_init rfl) rfl (by decide) wF_H_11 (by omega) (by omega) (show (blk h (m + 4) (2 + 28 * j) (hIn (m + 4) j)) (m + 4) = .inr (1, [.ref (m + 4 + 1), .int (0), .int (0)]) from blk_i2 (j := 0) rfl (by omega)) rfl ?_
      refine XV.run C okH_init 1 (q := (36, ([some (.ref (m + 4)), some (.int (nI j))], [.int (nI j), .ref (m + 4 + 1)]))) rfl ?_
      refine XV.new C (ci := 0) (fs := [.null, .null, .int 0, .int 0, .int 0, .int 0, .int 0]) (xlk_ok okH_init rfl) rfl wC_H_9 wA_E wN_E (by intro j ty hj hp; rcases (show j = 0 ∨ j = 1 ∨ j = 2 ∨ j = 3 ∨ j = 4 ∨ j = 5 ∨ j = 6 by have : j < 7 := hj; omega) with rfl | rfl | rfl | rfl | rfl | rfl | rfl <;> (cases hp; rfl)) (by omega) (by show 1 + 28 * j + 1 ≤ 169; omega) (by show 6 + 532 * j + 7 ≤ 3198; omega) ?_
      refine XV.cast (blkL_1 _ _ _) ?_
      refine XV.run C okH_init 1 (q := (40, ([some (.ref (m + 4)), some (.int (nI j))], [.ref (m + 2 + 28 * j + 4), .ref (m + 2 + 28 * j + 4), .int (nI j), .ref (m + 4 + 1)]))) rfl ?_
      refine XV.callI C (As := []) (rest := [.ref (m + 2 + 28 * j + 4), .int (nI j), .ref (m + 4 + 1)]) (ct_E_init hfl (m := m + 2 + 28 * j) (h := blk h (m + 4) (2 + 28 * j) (hIn (m + 4) j))) (xlk_ok okH_init rfl) rfl wM_H_24 wI_E_init wN_E wB_E_init rfl hy_E_init (fun _ => by omega) ⟨Nat.le_of_ble_eq_true rfl, Nat.le_of_ble_eq_true rfl⟩ ⟨by show 1 + 28 * j + 1 + 27 ≤ 169; omega, by show 6 + 532 * j + 7 + 525 ≤ 3198; omega⟩ (Nat.le_of_ble_eq_true rfl) (fun r n h hp => ?_) (fun _ _ _ q => q.elim)
      obtain ⟨rfl, rfl, rfl⟩ := hp
      refine XV.aast C (N := 6) (t := 2) (a := j) (o := m + 2 + 28 * j + 4) (ci := 0) (f := (fun i => if i < j then some (m + 4 + 2 + 28 * i) else none)) (xlk_ok okH_init rfl) (by omega) (by omega) ((blk_o2 (by omega)).trans (blk_i2 (j := 1) rfl (by omega))) rfl (by omega) (by omega) rfl (blk_i2 (j := 0) rfl (by decide)) rfl (by omega) (by decide) ?_
      rw [show m + 2 + 28 * j + 4 = m + 4 + 2 + 28 * j by omega]
      refine XV.cast hIn_s ?_
      refine XV.run C okH_init 2 (q := (25, ([some (.ref (m + 4)), some (.int ((nI j) + 1))], []))) rfl ?_
      rw [nI_1]
      exact XV.num rfl (by omega) (by omega) (by show 6 + 532 * j + 7 + 525 = 6 + 532 * (j + 1); omega) (ih (j + 1) (by omega))
  exact XV.num hIn_0 rfl rfl rfl (loop 6 0 (by omega))
theorem cIn {h : XH} {o0 o1 o2 o3 : XC} {a b c d : Nat} (ha : a = 5) (hb : b = 33) (hc : c = 203) (hd : d = 208) : xup (setRope (xup (setText (xup (setHist (xup (setElev (blkL h 4 [o0]) a f0K) 4 o1) b 0 0 (fun _ => f0K)) 4 o2) c (fun _ => 0) 0 (fun _ => 0, (fun _ => 0, (fun _ => 0, 0)))) 4 o3) d rI) 4 (.inr (4, [.ref 5, .ref 33, .ref 203, .ref 208])) = setCW h f0K 0 0 (fun _ => f0K) (fun _ => 0) 0 (fun _ => 0, (fun _ => 0, (fun _ => 0, 0))) rI := by
  subst ha hb hc hd
  funext q
  unfold setCW blkL setElev setHist setText setRope xup blk
  by_cases h4 : q = 4
  · subst h4
    rfl
  simp only [if_neg h4]
  by_cases hR : 208 ≤ q ∧ q < 213
  · rw [if_pos (show 208 ≤ q ∧ q < 208 + 5 by omega), if_pos (show 4 ≤ q ∧ q < 4 + 209 by omega)]
    unfold cwC
    rw [if_neg (by omega), if_neg (by omega), if_neg (by omega), if_neg (by omega), show q - 208 = q - 4 - 204 by omega]
  rw [if_neg (show ¬ (208 ≤ q ∧ q < 208 + 5) by omega)]
  by_cases hT : 203 ≤ q ∧ q < 208
  · rw [if_pos (show 203 ≤ q ∧ q < 203 + 5 by omega), if_pos (show 4 ≤ q ∧ q < 4 + 209 by omega)]
    unfold cwC
    rw [if_neg (by omega), if_neg (by omega), if_neg (by omega), if_pos (by omega), show q - 203 = q - 4 - 199 by omega]
  rw [if_neg (show ¬ (203 ≤ q ∧ q < 203 + 5) by omega)]
  by_cases hH : 33 ≤ q ∧ q < 203
  · rw [if_pos (show 33 ≤ q ∧ q < 33 + 170 by omega), if_pos (show 4 ≤ q ∧ q < 4 + 209 by omega)]
    unfold cwC
    rw [if_neg (by omega), if_neg (by omega), if_pos (by omega), show q - 33 = q - 4 - 29 by omega]
  rw [if_neg (show ¬ (33 ≤ q ∧ q < 33 + 170) by omega)]
  by_cases hE : 5 ≤ q ∧ q < 33
  · rw [if_pos (show 5 ≤ q ∧ q < 5 + 28 by omega), if_pos (show 4 ≤ q ∧ q < 4 + 209 by omega)]
    unfold cwC
    rw [if_neg (by omega), if_pos (by omega), show q - 5 = q - 4 - 1 by omega]
  rw [if_neg (show ¬ (5 ≤ q ∧ q < 5 + 28) by omega), if_neg (show ¬ (4 ≤ q ∧ q < 4 + 209) by omega), if_neg (show ¬ (4 ≤ q ∧ q < 4 + [o0].length) by simp; omega)]
set_option maxHeartbeats 4000000 in
set_option maxRecDepth 100000 in
theorem ct_C_init {l : Launch} (hfl : l.stackTraces = false) {G : XG} {h : XH} : XCt l G True (Cond.code yC_init bC_init 1 none) yC_init 4 82 208 3947 [.ref (4)] 1 (blkL h 4 [.inr (4, [.null, .null, .null, .null])]) (fun r' n' h' => r' = none ∧ n' = 209 ∧ h' = setCW h f0K 0 0 (fun _ => f0K) (fun _ => 0) 0 (fun _ => 0, (fun _ => 0, (fun _ => 0, 0))) rI) (fun _ _ _ => False) := by
  refine XCt.of hfl (by decide +kernel) (Nat.le_of_ble_eq_true rfl) ?_
  intro p' e' s' m' g' b' t' c' C hret hname hnt hmd
  have hex := hmd trivial
  have hAO := (show xEnv G s' from (id C).2.2.2.2.2.2.1).2.2.2.2.2.2.2.2
  refine XV.run C okC_init 1 (q := (1, ([some (.ref (4))], [.ref (4)]))) rfl ?_
  refine XV.objInit C (xlk_ok okC_init rfl) wM_C_1 (Nat.le_of_ble_eq_true rfl) (Nat.le_of_ble_eq_true rfl) ?_
  refine XV.run C okC_init 1 (q := (5, ([some (.ref (4))], [.ref (4)]))) rfl ?_
  refine XV.new C (ci := 0) (fs := [.null, .null, .int 0, .int 0, .int 0, .int 0, .int 0]) (xlk_ok okC_init rfl) rfl wC_C_7 wA_E wN_E (by intro j ty hj hp; rcases (show j = 0 ∨ j = 1 ∨ j = 2 ∨ j = 3 ∨ j = 4 ∨ j = 5 ∨ j = 6 by have : j < 7 := hj; omega) with rfl | rfl | rfl | rfl | rfl | rfl | rfl <;> (cases hp; rfl)) (by omega) (Nat.le_of_ble_eq_true rfl) (Nat.le_of_ble_eq_true rfl) ?_
  refine XV.cast (blkL_1 _ _ _) ?_
  show XV G 1 p' l e' ({ frames := 4, cells := 208, slots := 3947, locals := 82 } : Room) s' m' g' b' t' c' (XEnd G b' (fun r' n' h' => r' = none ∧ n' = 209 ∧ h' = setCW h f0K 0 0 (fun _ => f0K) (fun _ => 0) 0 (fun _ => 0, (fun _ => 0, (fun _ => 0, 0))) rI) (fun _ _ _ => False) g' s' 208 3947) 8 [some (.ref (4))] [.ref (5), .ref (4)] 2 (blkL (blkL h 4 [.inr (4, [.null, .null, .null, .null])]) (5) [.inr (0, [.null, .null, .int 0, .int 0, .int 0, .int 0, .int 0])]) 1 7
  refine XV.run C okC_init 1 (q := (9, ([some (.ref (4))], [.ref (5), .ref (5), .ref (4)]))) rfl ?_
  refine XV.callI C (As := []) (rest := [.ref (5), .ref (4)]) (ct_E_init hfl (m := 1) (h := blkL h 4 [.inr (4, [.null, .null, .null, .null])])) (xlk_ok okC_init rfl) rfl wM_C_9 wI_E_init wN_E wB_E_init rfl hy_E_init (fun _ => by omega) ⟨Nat.le_of_ble_eq_true rfl, Nat.le_of_ble_eq_true rfl⟩ ⟨Nat.le_of_ble_eq_true rfl, Nat.le_of_ble_eq_true rfl⟩ (Nat.le_of_ble_eq_true rfl) (fun r n h hp => ?_) (fun _ _ _ q => q.elim)
  obtain ⟨rfl, rfl, rfl⟩ := hp
  show XV G 1 p' l e' ({ frames := 4, cells := 208, slots := 3947, locals := 82 } : Room) s' m' g' b' t' c' (XEnd G b' (fun r' n' h' => r' = none ∧ n' = 209 ∧ h' = setCW h f0K 0 0 (fun _ => f0K) (fun _ => 0) 0 (fun _ => 0, (fun _ => 0, (fun _ => 0, 0))) rI) (fun _ _ _ => False) g' s' 208 3947) 12 [some (.ref (4))] [.ref (5), .ref (4)] 29 (setElev (blkL h 4 [.inr (4, [.null, .null, .null, .null])]) (5) f0K) 28 532
  refine XV.putF C (ci := 4) (kf := 0) hname (xlk_ok okC_init rfl) rfl (by decide) wF_C_10 (by decide) (by decide) (show (setElev (blkL h 4 [.inr (4, [.null, .null, .null, .null])]) (5) f0K) 4 = .inr (4, [.null, .null, .null, .null]) from by first | rfl | (rw [blk_o2 (by decide)]; rfl)) rfl rfl rfl rfl rfl (Nat.le_of_ble_eq_true rfl) ?_
  refine XV.run C okC_init 1 (q := (16, ([some (.ref (4))], [.ref (4)]))) rfl ?_
  refine XV.new C (ci := 1) (fs := [.null, .int 0, .int 0]) (xlk_ok okC_init rfl) rfl wC_C_16 wA_H wN_H (by intro j ty hj hp; rcases (show j = 0 ∨ j = 1 ∨ j = 2 by have : j < 3 := hj; omega) with rfl | rfl | rfl <;> (cases hp; rfl)) (by omega) (Nat.le_of_ble_eq_true rfl) (Nat.le_of_ble_eq_true rfl) ?_
  refine XV.cast (blkL_1 _ _ _) ?_
  show XV G 1 p' l e' ({ frames := 4, cells := 208, slots := 3947, locals := 82 } : Room) s' m' g' b' t' c' (XEnd G b' (fun r' n' h' => r' = none ∧ n' = 209 ∧ h' = setCW h f0K 0 0 (fun _ => f0K) (fun _ => 0) 0 (fun _ => 0, (fun _ => 0, (fun _ => 0, 0))) rI) (fun _ _ _ => False) g' s' 208 3947) 19 [some (.ref (4))] [.ref (33), .ref (4)] 30 (blkL (xup (setElev (blkL h 4 [.inr (4, [.null, .null, .null, .null])]) (5) f0K) 4 (.inr (4, [.ref (5), .null, .null, .null]))) (33) [.inr (1, [.null, .int 0, .int 0])]) 29 535
  refine XV.run C okC_init 1 (q := (20, ([some (.ref (4))], [.ref (33), .ref (33), .ref (4)]))) rfl ?_
  refine XV.callI C (As := []) (rest := [.ref (33), .ref (4)]) (ct_H_init hfl (m := 29) (h := xup (setElev (blkL h 4 [.inr (4, [.null, .null, .null, .null])]) (5) f0K) 4 (.inr (4, [.ref (5), .null, .null, .null])))) (xlk_ok okC_init rfl) rfl wM_C_18 wI_H_init wN_H wB_H_init rfl hy_H_init (fun _ => by omega) ⟨Nat.le_of_ble_eq_true rfl, Nat.le_of_ble_eq_true rfl⟩ ⟨Nat.le_of_ble_eq_true rfl, Nat.le_of_ble_eq_true rfl⟩ (Nat.le_of_ble_eq_true rfl) (fun r n h hp => ?_) (fun _ _ _ q => q.elim)
  obtain ⟨rfl, rfl, rfl⟩ := hp
  show XV G 1 p' l e' ({ frames := 4, cells := 208, slots := 3947, locals := 82 } : Room) s' m' g' b' t' c' (XEnd G b' (fun r' n' h' => r' = none ∧ n' = 209 ∧ h' = setCW h f0K 0 0 (fun _ => f0K) (fun _ => 0) 0 (fun _ => 0, (fun _ => 0, (fun _ => 0, 0))) rI) (fun _ _ _ => False) g' s' 208 3947) 23 [some (.ref (4))] [.ref (33), .ref (4)] 199 (setHist (xup (setElev (blkL h 4 [.inr (4, [.null, .null, .null, .null])]) (5) f0K) 4 (.inr (4, [.ref (5), .null, .null, .null]))) (33) 0 0 (fun _ => f0K)) 198 3733
  refine XV.putF C (ci := 4) (kf := 1) hname (xlk_ok okC_init rfl) rfl (by decide) wF_C_19 (by decide) (by decide) (show (setHist (xup (setElev (blkL h 4 [.inr (4, [.null, .null, .null, .null])]) (5) f0K) 4 (.inr (4, [.ref (5), .null, .null, .null]))) (33) 0 0 (fun _ => f0K)) 4 = .inr (4, [.ref (5), .null, .null, .null]) from by first | rfl | (rw [blk_o2 (by decide)]; rfl)) rfl rfl rfl rfl rfl (Nat.le_of_ble_eq_true rfl) ?_
  refine XV.run C okC_init 1 (q := (27, ([some (.ref (4))], [.ref (4)]))) rfl ?_
  refine XV.new C (ci := 3) (fs := [.null, .null, .null, .null, .int 0, .int 0]) (xlk_ok okC_init rfl) rfl wC_C_23 wA_T wN_T (by intro j ty hj hp; rcases (show j = 0 ∨ j = 1 ∨ j = 2 ∨ j = 3 ∨ j = 4 ∨ j = 5 by have : j < 6 := hj; omega) with rfl | rfl | rfl | rfl | rfl | rfl <;> (cases hp; rfl)) (by omega) (Nat.le_of_ble_eq_true rfl) (Nat.le_of_ble_eq_true rfl) ?_
  refine XV.cast (blkL_1 _ _ _) ?_
  show XV G 1 p' l e' ({ frames := 4, cells := 208, slots := 3947, locals := 82 } : Room) s' m' g' b' t' c' (XEnd G b' (fun r' n' h' => r' = none ∧ n' = 209 ∧ h' = setCW h f0K 0 0 (fun _ => f0K) (fun _ => 0) 0 (fun _ => 0, (fun _ => 0, (fun _ => 0, 0))) rI) (fun _ _ _ => False) g' s' 208 3947) 30 [some (.ref (4))] [.ref (203), .ref (4)] 200 (blkL (xup (setHist (xup (setElev (blkL h 4 [.inr (4, [.null, .null, .null, .null])]) (5) f0K) 4 (.inr (4, [.ref (5), .null, .null, .null]))) (33) 0 0 (fun _ => f0K)) 4 (.inr (4, [.ref (5), .ref (33), .null, .null]))) (203) [.inr (3, [.null, .null, .null, .null, .int 0, .int 0])]) 199 3739
  refine XV.run C okC_init 1 (q := (31, ([some (.ref (4))], [.ref (203), .ref (203), .ref (4)]))) rfl ?_
  refine XV.callIN C (As := []) (rest := [.ref (203), .ref (4)]) (ct_T_init hfl (m := 199) (h := xup (setHist (xup (setElev (blkL h 4 [.inr (4, [.null, .null, .null, .null])]) (5) f0K) 4 (.inr (4, [.ref (5), .null, .null, .null]))) (33) 0 0 (fun _ => f0K)) 4 (.inr (4, [.ref (5), .ref (33), .null, .null])))) (xlk_ok okC_init rfl) rfl (List.mem_of_getElem? (i := 21) rfl) wI_T_init wN_T wB_T_init rfl hy_T_init (fun _ => by omega) ⟨Nat.le_of_ble_eq_true rfl, Nat.le_of_ble_eq_true rfl⟩ ⟨Nat.le_of_ble_eq_true rfl, Nat.le_of_ble_eq_true rfl⟩ (Nat.le_of_ble_eq_true rfl) (fun r n h hp => ?_) (fun _ _ _ q => q.elim)
  obtain ⟨rfl, rfl, rfl⟩ := hp
  show XV G 1 p' l e' ({ frames := 4, cells := 208, slots := 3947, locals := 82 } : Room) s' m' g' b' t' c' (XEnd G b' (fun r' n' h' => r' = none ∧ n' = 209 ∧ h' = setCW h f0K 0 0 (fun _ => f0K) (fun _ => 0) 0 (fun _ => 0, (fun _ => 0, (fun _ => 0, 0))) rI) (fun _ _ _ => False) g' s' 208 3947) 34 [some (.ref (4))] [.ref (203), .ref (4)] 204 (setText (xup (setHist (xup (setElev (blkL h 4 [.inr (4, [.null, .null, .null, .null])]) (5) f0K) 4 (.inr (4, [.ref (5), .null, .null, .null]))) (33) 0 0 (fun _ => f0K)) 4 (.inr (4, [.ref (5), .ref (33), .null, .null]))) (203) (fun _ => 0) 0 (fun _ => 0, (fun _ => 0, (fun _ => 0, 0)))) 203 3844
  refine XV.putF C (ci := 4) (kf := 2) hname (xlk_ok okC_init rfl) rfl (by decide) wF_C_26 (by decide) (by decide) (show (setText (xup (setHist (xup (setElev (blkL h 4 [.inr (4, [.null, .null, .null, .null])]) (5) f0K) 4 (.inr (4, [.ref (5), .null, .null, .null]))) (33) 0 0 (fun _ => f0K)) 4 (.inr (4, [.ref (5), .ref (33), .null, .null]))) (203) (fun _ => 0) 0 (fun _ => 0, (fun _ => 0, (fun _ => 0, 0)))) 4 = .inr (4, [.ref (5), .ref (33), .null, .null]) from by first | rfl | (rw [blk_o2 (by decide)]; rfl)) rfl rfl rfl rfl rfl (Nat.le_of_ble_eq_true rfl) ?_
  refine XV.run C okC_init 1 (q := (38, ([some (.ref (4))], [.ref (4)]))) rfl ?_
  refine XV.new C (ci := 2) (fs := [.null, .null, .null, .null, .int 0, .int 0, .int 0]) (xlk_ok okC_init rfl) rfl wC_C_30 wA_R wN_R (by intro j ty hj hp; rcases (show j = 0 ∨ j = 1 ∨ j = 2 ∨ j = 3 ∨ j = 4 ∨ j = 5 ∨ j = 6 by have : j < 7 := hj; omega) with rfl | rfl | rfl | rfl | rfl | rfl | rfl <;> (cases hp; rfl)) (by omega) (Nat.le_of_ble_eq_true rfl) (Nat.le_of_ble_eq_true rfl) ?_
  refine XV.cast (blkL_1 _ _ _) ?_
  show XV G 1 p' l e' ({ frames := 4, cells := 208, slots := 3947, locals := 82 } : Room) s' m' g' b' t' c' (XEnd G b' (fun r' n' h' => r' = none ∧ n' = 209 ∧ h' = setCW h f0K 0 0 (fun _ => f0K) (fun _ => 0) 0 (fun _ => 0, (fun _ => 0, (fun _ => 0, 0))) rI) (fun _ _ _ => False) g' s' 208 3947) 41 [some (.ref (4))] [.ref (208), .ref (4)] 205 (blkL (xup (setText (xup (setHist (xup (setElev (blkL h 4 [.inr (4, [.null, .null, .null, .null])]) (5) f0K) 4 (.inr (4, [.ref (5), .null, .null, .null]))) (33) 0 0 (fun _ => f0K)) 4 (.inr (4, [.ref (5), .ref (33), .null, .null]))) (203) (fun _ => 0) 0 (fun _ => 0, (fun _ => 0, (fun _ => 0, 0)))) 4 (.inr (4, [.ref (5), .ref (33), .ref (203), .null]))) (208) [.inr (2, [.null, .null, .null, .null, .int 0, .int 0, .int 0])]) 204 3851
  refine XV.run C okC_init 1 (q := (42, ([some (.ref (4))], [.ref (208), .ref (208), .ref (4)]))) rfl ?_
  refine XV.callIN C (As := []) (rest := [.ref (208), .ref (4)]) (ct_R_init hfl (m := 204) (h := xup (setText (xup (setHist (xup (setElev (blkL h 4 [.inr (4, [.null, .null, .null, .null])]) (5) f0K) 4 (.inr (4, [.ref (5), .null, .null, .null]))) (33) 0 0 (fun _ => f0K)) 4 (.inr (4, [.ref (5), .ref (33), .null, .null]))) (203) (fun _ => 0) 0 (fun _ => 0, (fun _ => 0, (fun _ => 0, 0)))) 4 (.inr (4, [.ref (5), .ref (33), .ref (203), .null])))) (xlk_ok okC_init rfl) rfl (List.mem_of_getElem? (i := 22) rfl) wI_R_init wN_R wB_R_init rfl hy_R_init (fun _ => by omega) ⟨Nat.le_of_ble_eq_true rfl, Nat.le_of_ble_eq_true rfl⟩ ⟨Nat.le_of_ble_eq_true rfl, Nat.le_of_ble_eq_true rfl⟩ (Nat.le_of_ble_eq_true rfl) (fun r n h hp => ?_) (fun _ _ _ q => q.elim)
  obtain ⟨rfl, rfl, rfl⟩ := hp
  show XV G 1 p' l e' ({ frames := 4, cells := 208, slots := 3947, locals := 82 } : Room) s' m' g' b' t' c' (XEnd G b' (fun r' n' h' => r' = none ∧ n' = 209 ∧ h' = setCW h f0K 0 0 (fun _ => f0K) (fun _ => 0) 0 (fun _ => 0, (fun _ => 0, (fun _ => 0, 0))) rI) (fun _ _ _ => False) g' s' 208 3947) 45 [some (.ref (4))] [.ref (208), .ref (4)] 209 (setRope (xup (setText (xup (setHist (xup (setElev (blkL h 4 [.inr (4, [.null, .null, .null, .null])]) (5) f0K) 4 (.inr (4, [.ref (5), .null, .null, .null]))) (33) 0 0 (fun _ => f0K)) 4 (.inr (4, [.ref (5), .ref (33), .null, .null]))) (203) (fun _ => 0) 0 (fun _ => 0, (fun _ => 0, (fun _ => 0, 0)))) 4 (.inr (4, [.ref (5), .ref (33), .ref (203), .null]))) (208) rI) 208 3947
  refine XV.putF C (ci := 4) (kf := 3) hname (xlk_ok okC_init rfl) rfl (by decide) wF_C_33 (by decide) (by decide) (show (setRope (xup (setText (xup (setHist (xup (setElev (blkL h 4 [.inr (4, [.null, .null, .null, .null])]) (5) f0K) 4 (.inr (4, [.ref (5), .null, .null, .null]))) (33) 0 0 (fun _ => f0K)) 4 (.inr (4, [.ref (5), .ref (33), .null, .null]))) (203) (fun _ => 0) 0 (fun _ => 0, (fun _ => 0, (fun _ => 0, 0)))) 4 (.inr (4, [.ref (5), .ref (33), .ref (203), .null]))) (208) rI) 4 = .inr (4, [.ref (5), .ref (33), .ref (203), .null]) from by first | rfl | (rw [blk_o2 (by decide)]; rfl)) rfl rfl rfl rfl rfl (Nat.le_of_ble_eq_true rfl) ?_
  exact XV.vret C (xlk_ok okC_init rfl) hret (Nat.le_of_ble_eq_true rfl) (Nat.le_of_ble_eq_true rfl) (⟨rfl, rfl, cIn rfl rfl rfl rfl⟩)
end
section
/-! numbers; the state in order; forecasts -/
theorem tI_add {a b : Int32} (h1 : -2147483648 ≤ a.toInt + b.toInt) (h2 : a.toInt + b.toInt < 2147483648) : (a + b).toInt = a.toInt + b.toInt := by
  rw [Int32.toInt_add]
  exact Int.bmod_eq_of_le (by omega) (by omega)
theorem tI_sub {a b : Int32} (h1 : -2147483648 ≤ a.toInt - b.toInt) (h2 : a.toInt - b.toInt < 2147483648) : (a - b).toInt = a.toInt - b.toInt := by
  rw [Int32.toInt_sub]
  exact Int.bmod_eq_of_le (by omega) (by omega)
theorem tI_inj {a b : Int32} (h : a.toInt = b.toInt) : a = b := Int32.toInt_inj.mp h
theorem tI_0 : (0 : Int32).toInt = 0 := by decide
theorem tI_1 : (1 : Int32).toInt = 1 := by decide
theorem le_tI {a b : Int32} : a ≤ b ↔ a.toInt ≤ b.toInt := Int32.le_iff_toInt_le
theorem lt_tI {a b : Int32} : a < b ↔ a.toInt < b.toInt := Int32.lt_iff_toInt_lt
theorem gmx_ge (S : Nat → Int32) : ∀ n, 0 ≤ (gmx S n).toInt ∧ (∀ s, s < n → (S s).toInt ≤ (gmx S n).toInt) ∧ ((gmx S n).toInt = 0 ∨ ∃ s, s < n ∧ (gmx S n).toInt = (S s).toInt)
  | 0 => ⟨by show 0 ≤ (0 : Int32).toInt; rw [tI_0]; exact Int.le_refl 0, fun s h => absurd h (Nat.not_lt_zero s), Or.inl tI_0⟩
  | n + 1 => by
    obtain ⟨h1, h2, h3⟩ := gmx_ge S n
    unfold gmx
    by_cases h : gmx S n < S n
    · rw [if_pos h]
      rw [lt_tI] at h
      refine ⟨by omega, fun s hs => ?_, Or.inr ⟨n, by omega, rfl⟩⟩
      by_cases hn : s = n
      · subst hn; exact Int.le_refl _
      · have := h2 s (by omega); omega
    · rw [if_neg h]
      rw [lt_tI] at h
      refine ⟨h1, fun s hs => ?_, ?_⟩
      · by_cases hn : s = n
        · subst hn; omega
        · exact h2 s (by omega)
      · rcases h3 with h3 | ⟨s, a, b⟩
        · exact Or.inl h3
        · exact Or.inr ⟨s, by omega, b⟩
theorem gmx_any {S : Nat → Int32} {v : Int32} (hv : 0 < v.toInt) (n : Nat) : v ≤ gmx S n ↔ ∃ s, s < n ∧ v ≤ S s := by
  obtain ⟨h1, h2, h3⟩ := gmx_ge S n
  rw [le_tI]
  constructor
  · intro h
    rcases h3 with h3 | ⟨s, a, b⟩
    · omega
    · exact ⟨s, a, by rw [le_tI]; omega⟩
  · rintro ⟨s, a, b⟩
    rw [le_tI] at b
    have := h2 s a
    omega
theorem gmx_congr {S S' : Nat → Int32} : ∀ n, (∀ s, s < n → S s = S' s) → gmx S n = gmx S' n
  | 0, _ => rfl
  | n + 1, h => by
    unfold gmx
    rw [gmx_congr n (fun s hs => h s (by omega)), h n (by omega)]
theorem omn_congr {S S' : Nat → Int32} : ∀ n, (∀ s, s < n → S s = S' s) → omn S n = omn S' n
  | 0, _ => rfl
  | n + 1, h => by
    unfold omn
    rw [omn_congr n (fun s hs => h s (by omega)), h n (by omega)]
/-- a rope in order: its bends are at most its trips, counts at most threads, counts ahead at most counts -/
def OKrow (r : Nat → Int32) (m tt : Nat) : Prop :=
  ∃ q u t, r 0 = nI q ∧ 1 ≤ q ∧ q ≤ 99 ∧ r 1 = nI u ∧ u ≤ m ∧ r 2 = nI t ∧ t ≤ tt ∧ ∀ s, s < 24 → ∃ b c a d, r (3 + s) = nI b ∧ b ≤ t ∧ r (27 + s) = nI c ∧ c ≤ b / q ∧ r (51 + s) = nI a ∧ a ≤ c ∧ r (75 + s) = nI d ∧ u ≤ d ∧ d ≤ m
def OKset (f : Nat → Int32) : Prop := (∃ z, f 2 = nI z ∧ 1 ≤ z ∧ z ≤ 12) ∧ (∃ v, f 3 = nI v ∧ 1 ≤ v ∧ v ≤ 99) ∧ (∃ v, f 4 = nI v ∧ 1 ≤ v ∧ v ≤ 999) ∧ (∃ v, f 5 = nI v ∧ 1 ≤ v ∧ v ≤ 99) ∧ (∃ v, f 6 = nI v ∧ 1 ≤ v ∧ v ≤ 60)
def OKf (f : Nat → Int32) (k m tt : Nat) : Prop := f 1 = nI k ∧ k ≤ 5 ∧ f 0 = nI m ∧ m ≤ 2000 ∧ f 7 = nI tt ∧ tt ≤ 99999 ∧ OKset f ∧ ∀ i, i < k → OKrow (rowOf f i) m tt
theorem nI_tI {n : Nat} (h : n < 2147483648) : (nI n).toInt = (n : Int) := nI_toInt (by omega)
theorem sumN_nat {S : Nat → Int32} {B a : Nat} : ∀ n, (∀ s, a ≤ s → s < a + n → ∃ v, S s = nI v ∧ v ≤ B) → ∃ v, sumN S a n = nI v ∧ v ≤ n * B
  | 0, _ => ⟨0, by show (0 : Int32) = nI 0; rw [nI_0], by omega⟩
  | n + 1, h => by
    obtain ⟨v, e1, e2⟩ := sumN_nat n (fun s h1 h2 => h s h1 (by omega))
    obtain ⟨w, f1, f2⟩ := h (a + n) (by omega) (by omega)
    refine ⟨v + w, ?_, ?_⟩
    · unfold sumN
      rw [e1, f1, nI_add]
    · rw [Nat.succ_mul]
      omega
theorem rBend_at {r : Nat → Int32} {lo n s : Nat} {t : Int32} (h1 : lo ≤ s) (h2 : s < lo + n) : rBend r lo n t (3 + s) = r (3 + s) + t := if_pos (by omega)
theorem rBend_ne {r : Nat → Int32} {lo n k : Nat} {t : Int32} (h : ¬ (3 + lo ≤ k ∧ k < 3 + lo + n)) : rBend r lo n t k = r k := if_neg h
theorem sumN_two {S S' : Nat → Int32} {B a : Nat} : ∀ n, (∀ s, a ≤ s → s < a + n → ∃ v w, S s = nI v ∧ S' s = nI w ∧ v ≤ w ∧ w ≤ B) → ∃ v w, sumN S a n = nI v ∧ sumN S' a n = nI w ∧ v ≤ w ∧ w ≤ n * B
  | 0, _ => ⟨0, 0, by show (0 : Int32) = nI 0; rw [nI_0], by show (0 : Int32) = nI 0; rw [nI_0], Nat.le_refl 0, by omega⟩
  | n + 1, h => by
    obtain ⟨v, v', e1, e1', e2, e3⟩ := sumN_two n (fun s h1 h2 => h s h1 (by omega))
    obtain ⟨w, w', f1, f1', f2, f3⟩ := h (a + n) (by omega) (by omega)
    refine ⟨v + w, v' + w', ?_, ?_, by omega, ?_⟩
    · unfold sumN
      rw [e1, f1, nI_add]
    · unfold sumN
      rw [e1', f1', nI_add]
    · rw [Nat.succ_mul]
      omega
theorem sumN_low {S : Nat → Int32} {L B a : Nat} : ∀ n, (∀ s, a ≤ s → s < a + n → ∃ v, S s = nI v ∧ L ≤ v ∧ v ≤ B) → ∃ v, sumN S a n = nI v ∧ n * L ≤ v ∧ v ≤ n * B
  | 0, _ => ⟨0, by show (0 : Int32) = nI 0; rw [nI_0], by omega, by omega⟩
  | n + 1, h => by
    obtain ⟨v, e1, e2, e3⟩ := sumN_low n (fun s h1 h2 => h s h1 (by omega))
    obtain ⟨w, f1, f2, f3⟩ := h (a + n) (by omega) (by omega)
    refine ⟨v + w, ?_, ?_, ?_⟩
    · unfold sumN
      rw [e1, f1, nI_add]
    · rw [Nat.succ_mul]
      omega
    · rw [Nat.succ_mul]
      omega
theorem brk_bend {r : Nat → Int32} {q b s T : Nat} (h0 : r 0 = nI q) (h1 : 1 ≤ q) (h2 : q ≤ 99) (e1 : r (3 + s) = nI b) (hb : b + T ≤ 199999) (hs : s < 24) : brk (rBend r 0 24 (nI T)) s = nI ((b + T) / q) := by
  unfold brk
  rw [rBend_at (by omega) (by omega), rBend_ne (k := 0) (by omega), e1, h0, nI_add]
  exact pk_div (by omega) (by omega) (by omega)
theorem winS_T (r : Nat → Int32) (t : Int32) (z : Nat) : winS (rBendT r 0 24 t) true z = winS (rBend r 0 24 t) true z := by
  funext k
  unfold winS
  refine sumN_congr (fun s _ _ => ?_)
  show brk (rBendT r 0 24 t) s = brk (rBend r 0 24 t) s
  unfold brk rBendT
  rw [upd_ne (by omega), upd_ne (by omega)]
def wornP (f r : Nat → Int32) (z T : Nat) : Prop := ∃ k, k < 25 - z ∧ f 3 ≤ winS (rBend r 0 24 (nI T)) true z k
theorem rch_worn {f r : Nat → Int32} {z T : Nat} (h3 : 0 < (f 3).toInt) : rchK f r z (nI T) = true ↔ wornP f r z T := by
  unfold rchK wornP
  rw [decide_eq_true_iff, winS_T, gmx_any h3]
theorem half_nI {lo hi : Nat} (h : lo + hi < 2 ^ 31) : (nI lo + nI hi) / 2 = nI ((lo + hi) / 2) := by
  rw [nI_add, show (2 : Int32) = nI 2 from rfl, pk_div h (by decide) (by decide)]
theorem tl_bs {f r : Nat → Int32} {z L : Nat} (hP : ∀ t, t ≤ 9801 → rchK f r z (nI t) = decide (L ≤ t)) : ∀ d lo hi, lo ≤ L → L ≤ hi → hi < lo + 2 ^ d → hi ≤ 9801 → tlK f r z d (nI lo) (nI hi) = nI L
  | 0, lo, hi, h1, h2, h3, _ => by
    show nI lo = nI L
    have : (2 : Nat) ^ 0 = 1 := rfl
    exact congrArg nI (by omega)
  | d + 1, lo, hi, h1, h2, h3, h4 => by
    unfold tlK
    rw [Nat.pow_succ] at h3
    by_cases hl : lo < hi
    · rw [if_pos (nI_lt hl (by omega)), half_nI (by omega), hP _ (by omega)]
      by_cases hm : L ≤ (lo + hi) / 2
      · rw [decide_eq_true hm, if_pos rfl]
        exact tl_bs hP d _ _ h1 hm (by omega) (by omega)
      · rw [decide_eq_false hm, if_neg Bool.false_ne_true, nI_1]
        exact tl_bs hP d _ _ (by omega) h2 (by omega) h4
    · rw [if_neg (nI_nlt (by omega) (by omega))]
      exact congrArg nI (by omega)
theorem bool_dec {b : Bool} {a c : Nat} (h : b = true ↔ a ≤ c) : b = decide (a ≤ c) := by
  by_cases hp : a ≤ c
  · rw [decide_eq_true hp]; exact h.mpr hp
  · rw [decide_eq_false hp]
    cases b
    · rfl
    · exact absurd (h.mp rfl) hp
theorem OKrow.bk {r : Nat → Int32} {m tt : Nat} (h : OKrow r m tt) (ht : tt ≤ 99999) {s : Nat} (hs : s < 24) : ∃ c v, colR r false s = nI c ∧ colR r true s = nI v ∧ c ≤ v ∧ v ≤ 99999 := by
  obtain ⟨q, u, t, h0, h1, h2, -, -, -, ht2, h3⟩ := h
  obtain ⟨b, c, a, d, e1, e2, e3, e4, -⟩ := h3 s hs
  have hb := Nat.div_le_self b q
  refine ⟨c, b / q, e3, ?_, e4, by omega⟩
  show brk r s = _
  unfold brk
  rw [e1, h0]
  exact pk_div (by omega) (by omega) (by omega)
theorem OKrow.win {r : Nat → Int32} {m tt z : Nat} (h : OKrow r m tt) (ht : tt ≤ 99999) {k n : Nat} (hk : k + n ≤ 24) : ∃ c v, sumN (colR r false) k n = nI c ∧ sumN (colR r true) k n = nI v ∧ c ≤ v ∧ v ≤ 2399976 := by
  obtain ⟨c, v, e1, e2, e3, e4⟩ := sumN_two (S := colR r false) (S' := colR r true) (B := 99999) (a := k) n (fun s h1 h2 => h.bk ht (by omega))
  have : n * 99999 ≤ 24 * 99999 := Nat.mul_le_mul_right _ (by omega)
  exact ⟨c, v, e1, e2, e3, by omega⟩
theorem OKrow.gmx_le {r : Nat → Int32} {m tt z : Nat} (h : OKrow r m tt) (ht : tt ≤ 99999) (z2 : z ≤ 12) : gmx (winS r false z) (25 - z) ≤ gmx (winS r true z) (25 - z) := by
  obtain ⟨a1, a2, a3⟩ := gmx_ge (winS r false z) (25 - z)
  obtain ⟨b1, b2, b3⟩ := gmx_ge (winS r true z) (25 - z)
  rw [le_tI]
  rcases a3 with a3 | ⟨s, s1, s2⟩
  · omega
  · obtain ⟨c, v, e1, e2, e3, e4⟩ := h.win (z := z) ht (k := s) (n := z) (by omega)
    have h2 := b2 s s1
    have g1 : winS r false z s = nI c := e1
    have g2 : winS r true z s = nI v := e2
    rw [g1, nI_tI (by omega)] at s2
    rw [g2, nI_tI (by omega)] at h2
    omega
theorem fstN_in {S : Nat → Int32} {v : Int32} : ∀ d k, (∃ s, k ≤ s ∧ s < k + d ∧ S s = v) → k ≤ fstN S v d k ∧ fstN S v d k < k + d ∧ S (fstN S v d k) = v
  | 0, k, h => by obtain ⟨s, h1, h2, -⟩ := h; omega
  | d + 1, k, h => by
    unfold fstN
    by_cases hk : S k = v
    · rw [if_pos hk]
      exact ⟨Nat.le_refl k, by omega, hk⟩
    · rw [if_neg hk]
      obtain ⟨s, h1, h2, h3⟩ := h
      have hne : s ≠ k := fun q => hk (by rw [← q]; exact h3)
      obtain ⟨g1, g2, g3⟩ := fstN_in d (k + 1) ⟨s, by omega, by omega, h3⟩
      exact ⟨by omega, by omega, g3⟩
theorem OKrow.gwin {r : Nat → Int32} {m tt z : Nat} (h : OKrow r m tt) (ht : tt ≤ 99999) (z2 : z ≤ 12) : gwinK r z < 25 - z ∧ winS r false z (gwinK r z) = gmx (winS r false z) (25 - z) := by
  obtain ⟨a1, a2, a3⟩ := gmx_ge (winS r false z) (25 - z)
  have hex : ∃ s, 0 ≤ s ∧ s < 0 + (25 - z) ∧ winS r false z s = gmx (winS r false z) (25 - z) := by
    rcases a3 with a3 | ⟨s, s1, s2⟩
    · refine ⟨0, Nat.le_refl 0, by omega, tI_inj ?_⟩
      obtain ⟨c, v, e1, -, e3, e4⟩ := h.win (z := z) ht (k := 0) (n := z) (by omega)
      have h2 := a2 0 (by omega)
      have g1 : winS r false z 0 = nI c := e1
      rw [g1, nI_tI (by omega)] at h2 ⊢
      omega
    · exact ⟨s, Nat.zero_le s, by omega, tI_inj s2.symm⟩
  obtain ⟨g1, g2, g3⟩ := fstN_in (25 - z) 0 hex
  exact ⟨by unfold gwinK; omega, g3⟩
theorem worn_mono {f r : Nat → Int32} {z T T' m tt : Nat} (h : OKrow r m tt) (ht : tt ≤ 99999) (hT : T ≤ T') (hT' : T' ≤ 9801) (z2 : z ≤ 12) (hw : wornP f r z T) : wornP f r z T' := by
  obtain ⟨k, hk, hw⟩ := hw
  refine ⟨k, hk, ?_⟩
  obtain ⟨q, u, t, h0, h1, h2, -, -, -, ht2, h3⟩ := h
  obtain ⟨v, w, e1, e2, e3, e4⟩ := sumN_two (S := colR (rBend r 0 24 (nI T)) true) (S' := colR (rBend r 0 24 (nI T')) true) (B := 199999) (a := k) z (fun s s1 s2 => by
    obtain ⟨b, c, a, d, e1, e2, -⟩ := h3 s (by omega)
    refine ⟨(b + T) / q, (b + T') / q, brk_bend h0 h1 h2 e1 (by omega) (by omega), brk_bend h0 h1 h2 e1 (by omega) (by omega), Nat.div_le_div_right (by omega), ?_⟩
    exact Nat.le_trans (Nat.div_le_self _ q) (by omega))
  have h5 : z * 199999 ≤ 12 * 199999 := Nat.mul_le_mul_right _ z2
  have hw2 : f 3 ≤ sumN (colR (rBend r 0 24 (nI T)) true) k z := hw
  show f 3 ≤ sumN (colR (rBend r 0 24 (nI T')) true) k z
  rw [e1] at hw2
  rw [e2]
  exact Int32.le_trans hw2 (nI_le e3 (by omega))
theorem worn_at {f r : Nat → Int32} {z c q m tt : Nat} (h : OKrow r m tt) (ht : tt ≤ 99999) (z1 : 1 ≤ z) (z2 : z ≤ 12) (h3 : f 3 = nI c) (c2 : c ≤ 99) (h0 : r 0 = nI q) (q1 : 1 ≤ q) (q2 : q ≤ 99) : wornP f r z (c * q) := by
  have hcq : c * q ≤ 9801 := Nat.mul_le_mul c2 q2
  refine ⟨0, by omega, ?_⟩
  obtain ⟨q', u, t, h0', -, -, -, -, -, ht2, h3'⟩ := h
  obtain ⟨v, e1, e2, e3⟩ := sumN_low (S := colR (rBend r 0 24 (nI (c * q))) true) (L := c) (B := 199999) (a := 0) z (fun s s1 s2 => by
    obtain ⟨b, c', a, d, e1, e2, -⟩ := h3' s (by omega)
    refine ⟨(b + c * q) / q, brk_bend h0 q1 q2 e1 (by omega) (by omega), ?_, Nat.le_trans (Nat.div_le_self _ q) (by omega)⟩
    rw [Nat.le_div_iff_mul_le (by omega)]
    omega)
  have h5 : z * 199999 ≤ 12 * 199999 := Nat.mul_le_mul_right _ z2
  have h6 : 1 * c ≤ z * c := Nat.mul_le_mul_right _ z1
  show f 3 ≤ sumN (colR (rBend r 0 24 (nI (c * q))) true) 0 z
  rw [e1, h3]
  exact nI_le (by omega) (by omega)
theorem rBend_z (r : Nat → Int32) (lo n : Nat) : rBend r lo n (nI 0) = r := by
  funext k
  by_cases h : 3 + lo ≤ k ∧ k < 3 + lo + n
  · unfold rBend
    rw [if_pos h, nI_0, Int32.add_zero]
  · exact rBend_ne h
/-- nothing is left for trips just where a window is worn -/
theorem tl_zero {f r : Nat → Int32} {z m tt : Nat} (hs : OKset f) (hz : f 2 = nI z) (z1 : 1 ≤ z) (z2 : z ≤ 12) (h : OKrow r m tt) (ht : tt ≤ 99999) : tlK f r z 32 0 (f 3 * r 0) = 0 ↔ f 3 ≤ gmx (winS r true z) (25 - z) := by
  obtain ⟨-, ⟨c, h3, c1, c2⟩, -⟩ := hs
  have hr := h
  obtain ⟨q, u, t, h0, q1, q2, -⟩ := hr
  have hcq : c * q ≤ 9801 := Nat.mul_le_mul c2 q2
  have h3p : 0 < (f 3).toInt := by rw [h3, nI_tI (by omega)]; omega
  have hex : wornP f r z (c * q) := worn_at h ht z1 z2 h3 c2 h0 q1 q2
  obtain ⟨L, l1, l2⟩ := pk_least (fun t => wornP f r z t) ⟨_, hex⟩
  have hLc : L ≤ c * q := Nat.le_of_not_lt fun q' => l2 _ q' hex
  have hiff : ∀ t, t ≤ 9801 → (wornP f r z t ↔ L ≤ t) := fun t h9 => ⟨fun w => Nat.le_of_not_lt fun q' => l2 _ q' w, fun w => worn_mono h ht w h9 z2 l1⟩
  have hv : tlK f r z 32 0 (f 3 * r 0) = nI L := by
    rw [h3, h0, pk_mul, ← nI_0]
    exact tl_bs (L := L) (fun t h9 => bool_dec ((rch_worn h3p).trans (hiff t h9))) 32 0 (c * q) (Nat.zero_le _) hLc (by have : (2 : Nat) ^ 32 = 4294967296 := rfl; omega) (by omega)
  have h00 : wornP f r z 0 ↔ f 3 ≤ gmx (winS r true z) (25 - z) := by
    rw [gmx_any h3p]
    unfold wornP
    rw [rBend_z]
  rw [hv, ← h00, hiff 0 (by omega), ← nI_0, nI_eq (by omega) (by omega)]
  omega
end
section
/-! the order is kept by the calls -/
theorem OKrow_bendT {r : Nat → Int32} {m tt lo n T : Nat} (h : OKrow r m tt) (hn : lo + n ≤ 24) : OKrow (rBendT r lo n (nI T)) m (tt + T) := by
  obtain ⟨q, u, t, h0, h1, h2, g1, g2, g3, g4, h3⟩ := h
  have e : ∀ k, k ≠ 2 → rBendT r lo n (nI T) k = rBend r lo n (nI T) k := fun k hk => upd_ne hk
  refine ⟨q, u, t + T, by rw [e 0 (by omega), rBend_ne (by omega)]; exact h0, h1, h2, by rw [e 1 (by omega), rBend_ne (by omega)]; exact g1, g2, ?_, by omega, fun s hs => ?_⟩
  · unfold rBendT
    rw [upd_eq, g3, nI_add]
  obtain ⟨b, c, a, d, e1, e2, e3, e4, e5, e6, e7, e8, e9⟩ := h3 s hs
  rw [e (3 + s) (by omega), e (27 + s) (by omega), e (51 + s) (by omega), e (75 + s) (by omega)]
  by_cases hin : lo ≤ s ∧ s < lo + n
  · refine ⟨b + T, c, a, d, by rw [rBend_at hin.1 hin.2, e1, nI_add], by omega, by rw [rBend_ne (by omega)]; exact e3, Nat.le_trans e4 (Nat.div_le_div_right (by omega)), by rw [rBend_ne (by omega)]; exact e5, e6, by rw [rBend_ne (by omega)]; exact e7, e8, e9⟩
  · exact ⟨b, c, a, d, by rw [rBend_ne (by omega)]; exact e1, by omega, by rw [rBend_ne (by omega)]; exact e3, e4, by rw [rBend_ne (by omega)]; exact e5, e6, by rw [rBend_ne (by omega)]; exact e7, e8, e9⟩
theorem OKrow_le {r : Nat → Int32} {m tt m' tt' : Nat} (h : OKrow r m tt) (hm : m ≤ m') (ht : tt ≤ tt') : OKrow r m' tt' := by
  obtain ⟨q, u, t, h0, h1, h2, g1, g2, g3, g4, h3⟩ := h
  refine ⟨q, u, t, h0, h1, h2, g1, by omega, g3, by omega, fun s hs => ?_⟩
  obtain ⟨b, c, a, d, e1, e2, e3, e4, e5, e6, e7, e8, e9⟩ := h3 s hs
  exact ⟨b, c, a, d, e1, e2, e3, e4, e5, e6, e7, e8, by omega⟩
theorem OKrow_congr {r r' : Nat → Int32} {m tt : Nat} (e : ∀ k, k < 99 → r' k = r k) (h : OKrow r m tt) : OKrow r' m tt := by
  obtain ⟨q, u, t, h0, h1, h2, g1, g2, g3, g4, h3⟩ := h
  refine ⟨q, u, t, by rw [e 0 (by omega)]; exact h0, h1, h2, by rw [e 1 (by omega)]; exact g1, g2, by rw [e 2 (by omega)]; exact g3, g4, fun s hs => ?_⟩
  rw [e (3 + s) (by omega), e (27 + s) (by omega), e (51 + s) (by omega), e (75 + s) (by omega)]
  exact h3 s hs
theorem look_at {r : Nat → Int32} {lo n : Nat} {t : Int32} {s : Nat} (h : lo ≤ s ∧ s < lo + n) (hn : lo + n ≤ 24) : rLook r lo n t (27 + s) = brk r s ∧ rLook r lo n t (51 + s) = r (27 + s) ∧ rLook r lo n t (75 + s) = t := by
  refine ⟨?_, ?_, ?_⟩
  · unfold rLook
    rw [if_neg (by omega), if_pos (by omega), show 27 + s - 27 = s by omega]
  · unfold rLook
    rw [if_pos (by omega), show 51 + s - 24 = 27 + s by omega]
  · unfold rLook
    rw [if_neg (by omega), if_neg (by omega), if_pos (by omega)]
theorem look_ne {r : Nat → Int32} {lo n k : Nat} {t : Int32} (h1 : ¬ (51 + lo ≤ k ∧ k < 51 + lo + n)) (h2 : ¬ (27 + lo ≤ k ∧ k < 27 + lo + n)) (h3 : ¬ (75 + lo ≤ k ∧ k < 75 + lo + n)) : rLook r lo n t k = r k := by
  unfold rLook
  rw [if_neg h1, if_neg h2, if_neg h3]
theorem OKrow_look {r : Nat → Int32} {m tt lo n : Nat} (h : OKrow r m tt) (ht : tt ≤ 99999) (hn : lo + n ≤ 24) : OKrow (rLook r lo n (nI m)) m tt := by
  obtain ⟨q, u, t, h0, h1, h2, g1, g2, g3, g4, h3⟩ := h
  refine ⟨q, u, t, by rw [look_ne (by omega) (by omega) (by omega)]; exact h0, h1, h2, by rw [look_ne (by omega) (by omega) (by omega)]; exact g1, g2, by rw [look_ne (by omega) (by omega) (by omega)]; exact g3, g4, fun s hs => ?_⟩
  obtain ⟨b, c, a, d, e1, e2, e3, e4, e5, e6, e7, e8, e9⟩ := h3 s hs
  have x1 : rLook r lo n (nI m) (3 + s) = nI b := by rw [look_ne (by omega) (by omega) (by omega)]; exact e1
  by_cases hin : lo ≤ s ∧ s < lo + n
  · obtain ⟨y2, y3, y4⟩ := look_at (r := r) (t := nI m) hin hn
    have x2 : rLook r lo n (nI m) (27 + s) = nI (b / q) := by
      rw [y2]
      unfold brk
      rw [e1, h0]
      exact pk_div (by omega) (by omega) (by omega)
    exact ⟨b, b / q, c, m, x1, e2, x2, Nat.le_refl _, y3.trans e3, e4, y4, g2, Nat.le_refl _⟩
  · have x2 : rLook r lo n (nI m) (27 + s) = nI c := by rw [look_ne (by omega) (by omega) (by omega)]; exact e3
    have x3 : rLook r lo n (nI m) (51 + s) = nI a := by rw [look_ne (by omega) (by omega) (by omega)]; exact e5
    have x4 : rLook r lo n (nI m) (75 + s) = nI d := by rw [look_ne (by omega) (by omega) (by omega)]; exact e7
    exact ⟨b, c, a, d, x1, e2, x2, e4, x3, e6, x4, e8, e9⟩
/-- an inspection counts no less than what was noted -/
theorem look_more {r : Nat → Int32} {m tt lo n : Nat} {t : Int32} (h : OKrow r m tt) (ht : tt ≤ 99999) (hn : lo + n ≤ 24) : ∃ v w, sumN (colR r false) 0 24 = nI v ∧ sumN (colR (rLook r lo n t) false) 0 24 = nI w ∧ v ≤ w ∧ w ≤ 2399976 := by
  obtain ⟨v, w, e1, e2, e3, e4⟩ := sumN_two (S := colR r false) (S' := colR (rLook r lo n t) false) (B := 99999) (a := 0) 24 (fun s h1 h2 => by
    obtain ⟨c, v, f1, f2, f3, f4⟩ := h.bk ht (s := s) (by omega)
    by_cases hin : lo ≤ s ∧ s < lo + n
    · exact ⟨c, v, f1, (look_at (r := r) (t := t) hin hn).1.trans f2, f3, f4⟩
    · exact ⟨c, c, f1, (look_ne (by omega) (by omega) (by omega)).trans f1, Nat.le_refl c, by omega⟩)
  exact ⟨v, w, e1, e2, e3, by omega⟩
theorem OKrow_new {x : Int32} {q m tt : Nat} (hx : x = nI q) (q1 : 1 ≤ q) (q2 : q ≤ 99) : OKrow (rNew x (nI m)) m tt := by
  refine ⟨q, m, 0, by rw [← hx]; rfl, q1, q2, rfl, Nat.le_refl m, by rw [nI_0]; rfl, Nat.zero_le tt, fun s hs => ⟨0, 0, 0, m, ?_, Nat.zero_le _, ?_, Nat.zero_le _, ?_, Nat.zero_le _, ?_, Nat.le_refl m, Nat.le_refl m⟩⟩
  · unfold rNew
    rw [if_neg (by omega), if_neg (by omega), if_neg (by omega), nI_0]
  · unfold rNew
    rw [if_neg (by omega), if_neg (by omega), if_neg (by omega), nI_0]
  · unfold rNew
    rw [if_neg (by omega), if_neg (by omega), if_neg (by omega), nI_0]
  · unfold rNew
    rw [if_neg (by omega), if_neg (by omega), if_pos (by omega)]
theorem putRow_lo {g r : Nat → Int32} {i k : Nat} (hk : k < 10) : putRow g i r k = g k := if_neg (by omega)
theorem travK_lo {f : Nat → Int32} {lo hi k : Nat} {t : Int32} {j : Nat} (hj : j < 10) (h7 : j ≠ 7) : travK f lo hi k t j = f j := by
  unfold travK
  rw [upd_ne h7, mapRows_lo _ _ _ _ hj]
theorem OKf.row {f : Nat → Int32} {k m tt i : Nat} (h : OKf f k m tt) (hi : i < k) : OKrow (rowOf f i) m tt := h.2.2.2.2.2.2.2 i hi
theorem OKf.live {f : Nat → Int32} {k m tt : Nat} (h : OKf f k m tt) : ∀ i, i < k → 0 < rowOf f i 0 := by
  intro i hi
  obtain ⟨q, u, t, h0, h1, h2, -⟩ := h.row hi
  rw [h0, ← nI_0]
  exact nI_lt (by omega) (by omega)
theorem kO_lt {o kp : Nat} (ho : o < 6) : kO o kp < 6 := by
  unfold kO
  split <;> omega
theorem kK_le {kp : Nat} (hk : kp ≤ 6) : kK kp ≤ 6 := by
  unfold kK
  split <;> omega

theorem OKset_lo {f f' : Nat → Int32} (e : ∀ k, 2 ≤ k → k < 7 → f' k = f k) (h : OKset f) : OKset f' := by
  unfold OKset
  rw [e 2 (by omega) (by omega), e 3 (by omega) (by omega), e 4 (by omega) (by omega), e 5 (by omega) (by omega), e 6 (by omega) (by omega)]
  exact h
theorem rg99 {x : Int32} (h : ¬ x < 1 ∧ x ≤ 99) : ∃ q, x = nI q ∧ 1 ≤ q ∧ q ≤ 99 := by
  obtain ⟨j, a, b, c⟩ := rg1_nat (d := 99) h rfl (by omega)
  exact ⟨j, a, b, c⟩
theorem OKf_hang {f : Nat → Int32} {k m tt : Nat} {x : Int32} (h : OKf f k m tt) (hx : ¬ x < 1 ∧ x ≤ 99) (hk : k < 5) : OKf (putRow (upd f 1 (f 1 + 1)) k (rNew x (f 0))) (k + 1) m tt := by
  obtain ⟨q, e, q1, q2⟩ := rg99 hx
  obtain ⟨a1, a2, a3, a4, a5, a6, a7, a8⟩ := h
  have lo : ∀ j, j < 10 → putRow (upd f 1 (f 1 + 1)) k (rNew x (f 0)) j = upd f 1 (f 1 + 1) j := fun j hj => putRow_lo hj
  refine ⟨?_, by omega, ?_, a4, ?_, a6, ?_, fun i hi => ?_⟩
  · rw [lo 1 (by omega), upd_eq, a1, nI_1]
  · rw [lo 0 (by omega), upd_ne (by omega)]; exact a3
  · rw [lo 7 (by omega), upd_ne (by omega)]; exact a5
  · exact OKset_lo (fun j h1 h2 => by rw [lo j (by omega), upd_ne (by omega)]) a7
  · by_cases hik : i = k
    · subst hik
      refine OKrow_congr (r := rNew x (f 0)) (fun j hj => putRow_row hj) ?_
      rw [a3]
      exact OKrow_new e q1 q2
    · exact OKrow_congr (r := rowOf f i) (fun j hj => by rw [putRow_ne hj hik]; exact upd_ne (by omega)) (a8 i (by omega))
theorem OKf_cut {f : Nat → Int32} {k m tt i : Nat} (h : OKf f k m tt) (hi : i < k) : OKf (upd (shiftK f i (k - 1 - i)) 1 (f 1 - 1)) (k - 1) m tt := by
  obtain ⟨a1, a2, a3, a4, a5, a6, a7, a8⟩ := h
  refine ⟨?_, by omega, ?_, a4, ?_, a6, ?_, fun j hj => ?_⟩
  · rw [upd_eq, a1]; exact nI_m1 (by omega)
  · rw [upd_ne (by omega), shiftK_lo _ _ _ _ (by omega)]; exact a3
  · rw [upd_ne (by omega), shiftK_lo _ _ _ _ (by omega)]; exact a5
  · exact OKset_lo (fun j h1 h2 => by rw [upd_ne (by omega), shiftK_lo _ _ _ _ (by omega)]) a7
  · by_cases hji : j < i
    · refine OKrow_congr (r := rowOf f j) (fun z hz => ?_) (a8 j (by omega))
      show upd _ _ _ (10 + 99 * j + z) = f (10 + 99 * j + z)
      rw [upd_ne (by omega)]
      unfold shiftK
      rw [if_neg (by omega)]
    · refine OKrow_congr (r := rowOf f (j + 1)) (fun z hz => ?_) (a8 (j + 1) (by omega))
      show upd _ _ _ (10 + 99 * j + z) = f (10 + 99 * (j + 1) + z)
      rw [upd_ne (by omega)]
      unfold shiftK
      rw [if_pos (by omega)]
      exact congrArg f (by omega)
theorem OKf_put {f r : Nat → Int32} {k m tt i j : Nat} {v : Int32} (h : OKf f k m tt) (hi : i < k) (hr : OKrow r m tt) (hj : 8 ≤ j) (hj2 : j < 10) : OKf (upd (putRow f i r) j v) k m tt := by
  obtain ⟨a1, a2, a3, a4, a5, a6, a7, a8⟩ := h
  have lo : ∀ w, w < 8 → upd (putRow f i r) j v w = f w := fun w hw => by rw [upd_ne (by omega), putRow_lo (by omega)]
  refine ⟨(lo 1 (by omega)).trans a1, a2, (lo 0 (by omega)).trans a3, a4, (lo 7 (by omega)).trans a5, a6, OKset_lo (fun w h1 h2 => lo w (by omega)) a7, fun x hx => ?_⟩
  by_cases hxi : x = i
  · subst hxi
    refine OKrow_congr (r := r) (fun z hz => ?_) hr
    show upd _ _ _ (10 + 99 * x + z) = _
    rw [upd_ne (by omega)]
    exact putRow_row hz
  · refine OKrow_congr (r := rowOf f x) (fun z hz => ?_) (a8 x hx)
    show upd _ _ _ (10 + 99 * x + z) = _
    rw [upd_ne (by omega)]
    exact putRow_ne hz hxi
theorem OKf_swap {f : Nat → Int32} {k m tt i : Nat} {y v : Int32} (h : OKf f k m tt) (hi : i < k) (hy : ¬ y < 1 ∧ y ≤ 99) : OKf (upd (putRow f i (rNew y (f 0))) 9 v) k m tt := by
  obtain ⟨q, e, q1, q2⟩ := rg99 hy
  refine OKf_put h hi ?_ (by omega) (by omega)
  rw [h.2.2.1]
  exact OKrow_new e q1 q2
theorem OKf_inspect {f : Nat → Int32} {k m tt i a n : Nat} {v : Int32} (h : OKf f k m tt) (hi : i < k) (hn : a + n ≤ 24) : OKf (upd (putRow f i (rLook (rowOf f i) a n (f 0))) 8 v) k m tt := by
  refine OKf_put h hi ?_ (by omega) (by omega)
  rw [h.2.2.1]
  exact OKrow_look (h.row hi) h.2.2.2.2.2.1 hn
theorem OKf_set {f : Nat → Int32} {k m tt i : Nat} {y : Int32} (h : OKf f k m tt) (hi : i < 5) (hy : ¬ y < 1 ∧ y ≤ (XSA 2).2 i) : OKf (upd f (2 + i) y) k m tt := by
  obtain ⟨a1, a2, a3, a4, a5, a6, a7, a8⟩ := h
  refine ⟨by rw [upd_ne (by omega)]; exact a1, a2, by rw [upd_ne (by omega)]; exact a3, a4, by rw [upd_ne (by omega)]; exact a5, a6, ?_, fun x hx => OKrow_congr (fun z hz => upd_ne (by omega)) (a8 x hx)⟩
  obtain ⟨b2, b3, b4, b5, b6⟩ := a7
  have get : ∀ d, (XSA 2).2 i = nI d → d < 1000 → ∃ q, y = nI q ∧ 1 ≤ q ∧ q ≤ d := by
    intro d hd hd2
    rw [hd] at hy
    obtain ⟨j, e1, e2, e3⟩ := rg1_nat (d := d) hy rfl (by omega)
    exact ⟨j, e1, e2, e3⟩
  rcases (show i = 0 ∨ i = 1 ∨ i = 2 ∨ i = 3 ∨ i = 4 by omega) with rfl | rfl | rfl | rfl | rfl
  · exact ⟨by rw [upd_eq]; exact get 12 rfl (by omega), by rw [upd_ne (by omega)]; exact b3, by rw [upd_ne (by omega)]; exact b4, by rw [upd_ne (by omega)]; exact b5, by rw [upd_ne (by omega)]; exact b6⟩
  · exact ⟨by rw [upd_ne (by omega)]; exact b2, by rw [upd_eq]; exact get 99 rfl (by omega), by rw [upd_ne (by omega)]; exact b4, by rw [upd_ne (by omega)]; exact b5, by rw [upd_ne (by omega)]; exact b6⟩
  · exact ⟨by rw [upd_ne (by omega)]; exact b2, by rw [upd_ne (by omega)]; exact b3, by rw [upd_eq]; exact get 999 rfl (by omega), by rw [upd_ne (by omega)]; exact b5, by rw [upd_ne (by omega)]; exact b6⟩
  · exact ⟨by rw [upd_ne (by omega)]; exact b2, by rw [upd_ne (by omega)]; exact b3, by rw [upd_ne (by omega)]; exact b4, by rw [upd_eq]; exact get 99 rfl (by omega), by rw [upd_ne (by omega)]; exact b6⟩
  · exact ⟨by rw [upd_ne (by omega)]; exact b2, by rw [upd_ne (by omega)]; exact b3, by rw [upd_ne (by omega)]; exact b4, by rw [upd_ne (by omega)]; exact b5, by rw [upd_eq]; exact get 60 rfl (by omega)⟩
theorem OKf_trav {f : Nat → Int32} {k m tt lo hi T : Nat} (h : OKf f k m tt) (h1 : lo ≤ hi) (h2 : hi < 8) (hT : tt + T ≤ 99999) : OKf (travK f lo hi k (nI T)) k m (tt + T) := by
  obtain ⟨a1, a2, a3, a4, a5, a6, a7, a8⟩ := h
  have lo8 : ∀ w, w < 10 → w ≠ 7 → travK f lo hi k (nI T) w = f w := fun w hw hw7 => travK_lo hw hw7
  refine ⟨(lo8 1 (by omega) (by omega)).trans a1, a2, (lo8 0 (by omega) (by omega)).trans a3, a4, ?_, hT, OKset_lo (fun w h1 h2 => lo8 w (by omega) (by omega)) a7, fun x hx => ?_⟩
  · unfold travK
    rw [upd_eq, a5, nI_add]
  · refine OKrow_congr (r := rBendT (rowOf f x) (3 * lo) (3 * hi + 3 - 3 * lo) (nI T)) (fun z hz => ?_) (OKrow_bendT (a8 x hx) (by omega))
    show travK f lo hi k (nI T) (10 + 99 * x + z) = _
    unfold travK
    rw [upd_ne (by omega)]
    exact mapRows_row _ _ _ _ _ hx hz
theorem OKf_pass {f : Nat → Int32} {k m tt : Nat} {x : Int32} (h : OKf f k m tt) (hx : ¬ x < 1 ∧ x ≤ 24) (h2 : f 0 + x ≤ 2000) : ∃ m', OKf (upd f 0 (f 0 + x)) k m' tt := by
  obtain ⟨q, e, q1, q2⟩ := rg1_nat (d := 24) hx rfl (by omega)
  obtain ⟨a1, a2, a3, a4, a5, a6, a7, a8⟩ := h
  rw [a3, e, nI_add] at h2
  have h3 : m + q ≤ 2000 := (nI_leI (b := 2000) (by omega) (by omega)).mp h2
  refine ⟨m + q, by rw [upd_ne (by omega)]; exact a1, a2, by rw [upd_eq, a3, e, nI_add], h3, by rw [upd_ne (by omega)]; exact a5, a6, OKset_lo (fun w h1 h2 => upd_ne (by omega)) a7, fun i hi => ?_⟩
  exact OKrow_le (OKrow_congr (fun z hz => upd_ne (by omega)) (a8 i hi)) (by omega) (Nat.le_refl tt)
end
section
/-! what the law asks of the figures -/
/-- an elevator in order after T turns -/
def OKT (f : Nat → Int32) (T : Nat) : Prop := ∃ k m tt, OKf f k m tt ∧ m ≤ 4 * T ∧ tt ≤ 99 * T
theorem OKT.up {f : Nat → Int32} {T : Nat} (h : OKT f T) : OKT f (T + 1) := by
  obtain ⟨k, m, tt, h1, h2, h3⟩ := h
  exact ⟨k, m, tt, h1, by omega, by omega⟩
def OKP (o kp : Nat) (P : Nat → Nat → Int32) (T : Nat) : Prop := ∀ j, j < kp → OKT (P ((o + j) % 6)) T
theorem OKP.up {o kp : Nat} {P : Nat → Nat → Int32} {T : Nat} (h : OKP o kp P T) : OKP o kp P (T + 1) := fun j hj => (h j hj).up
theorem OKP_save {o kp T : Nat} {P : Nat → Nat → Int32} {f : Nat → Int32} (ho : o < 6) (hk : kp ≤ 6) (h : OKP o kp P T) (hf : OKT f T) : OKP (kO o kp) (kK kp) (kP o kp P f) T := by
  by_cases h6 : kp = 6
  · subst h6
    have e1 : kO o 6 = (o + 1) % 6 := if_pos rfl
    have e2 : kK 6 = 6 := if_pos rfl
    have e3 : kP o 6 P f = upP P (((o + 1) % 6 + 5) % 6) f := rfl
    rw [e1, e2, e3]
    intro j hj
    by_cases hj5 : j = 5
    · subst hj5
      have x : upP P (((o + 1) % 6 + 5) % 6) f (((o + 1) % 6 + 5) % 6) = f := if_pos rfl
      rw [x]
      exact hf
    · have x : upP P (((o + 1) % 6 + 5) % 6) f (((o + 1) % 6 + j) % 6) = P ((o + (j + 1)) % 6) := by
        unfold upP
        rw [if_neg (by omega)]
        exact congrArg P (by omega)
      rw [x]
      exact h (j + 1) (by omega)
  · have e1 : kO o kp = o := if_neg h6
    have e2 : kK kp = kp + 1 := if_neg h6
    have e3 : kP o kp P f = upP P ((o + kp) % 6) f := by unfold kP; rw [if_neg h6]
    rw [e1, e2, e3]
    intro j hj
    by_cases hjk : j = kp
    · subst hjk
      have x : upP P ((o + j) % 6) f ((o + j) % 6) = f := if_pos rfl
      rw [x]
      exact hf
    · have x : upP P ((o + kp) % 6) f ((o + j) % 6) = P ((o + j) % 6) := by
        unfold upP
        rw [if_neg (by omega)]
      rw [x]
      exact h j (by omega)
theorem mleft_congr {f f' r r' : Nat → Int32} (h0 : f' 0 = f 0) (h6 : f' 6 = f 6) (hr : ∀ k, 27 ≤ k → k < 99 → r' k = r k) : mleftK f' r' = mleftK f r := by
  unfold mleftK
  rw [omn_congr (S := fun s => r' (75 + s)) (S' := fun s => r (75 + s)) 24 (fun s hs => hr (75 + s) (by omega) (by omega)), h0, h6]
theorem reason_congr {f f' r r' : Nat → Int32} {z : Nat} (hf : ∀ k, k < 7 → k ≠ 1 → f' k = f k) (hr : ∀ k, 27 ≤ k → k < 99 → r' k = r k) : reasonK f' r' z = reasonK f r z := by
  have hm := mleft_congr (hf 0 (by omega) (by omega)) (hf 6 (by omega) (by omega)) hr
  have hw : gmx (winS r' false z) (25 - z) = gmx (winS r false z) (25 - z) := gmx_congr _ (fun k hk => sumN_congr (fun s h1 h2 => hr (27 + s) (by omega) (by omega)))
  have hs : sumN (colR r' false) 0 24 = sumN (colR r false) 0 24 := sumN_congr (fun s h1 h2 => hr (27 + s) (by omega) (by omega))
  have hg : gmx (grw r') 24 = gmx (grw r) 24 := gmx_congr _ (fun s hs => by
    unfold grw
    rw [hr (27 + s) (by omega) (by omega), hr (51 + s) (by omega) (by omega)])
  unfold reasonK
  rw [hm, hw, hs, hg, hf 3 (by omega) (by omega), hf 4 (by omega) (by omega), hf 5 (by omega) (by omega)]
/-- trips change no reason -/
theorem ret_trav {f : Nat → Int32} {lo hi k z : Nat} {t : Int32} (hlo : lo ≤ hi) (hhi : hi < 8) : ∀ j, j ≤ k → retK (travK f lo hi k t) z j = retK f z j
  | 0, _ => rfl
  | j + 1, hj => by
    have e : reasonK (travK f lo hi k t) (rowOf (travK f lo hi k t) j) z = reasonK f (rowOf f j) z := by
      refine reason_congr (fun w h1 h2 => travK_lo (by omega) (by omega)) (fun w h1 h2 => ?_)
      show travK f lo hi k t (10 + 99 * j + w) = _
      unfold travK
      rw [upd_ne (by omega)]
      show rowOf (mapRows f (fun r => rBendT r (3 * lo) (3 * hi + 3 - 3 * lo) t) k) j w = _
      rw [mapRows_row _ _ _ _ _ (by omega) h2]
      show upd _ _ _ w = _
      rw [upd_ne (by omega)]
      by_cases hb : 3 + 3 * lo ≤ w ∧ w < 3 + 3 * lo + (3 * hi + 3 - 3 * lo)
      · exfalso
        omega
      · exact rBend_ne hb
    unfold retK
    rw [e, ret_trav hlo hhi j (by omega)]
end
section
/-! the share as a double: between 0 and 1 -/
def mk64 (E T : Nat) : UInt64 := UInt64.ofNat (E * 4503599627370496 + T)
theorem mk_toNat {E T : Nat} (hE : E < 2048) (hT : T < 4503599627370496) : (mk64 E T).toNat = E * 4503599627370496 + T := UInt64.toNat_ofNat_of_lt' (by show _ < 18446744073709551616; omega)
theorem vf_of {r : UInt64} (h : FP.Core.val64 r ≠ .nan) : vf_n64 r := by
  unfold vf_n64
  rw [UInt64.le_iff_toNat_le, FP.Core.mask_toNat]
  exact (FP.Core.ne_nan r).mp h
theorem mk_ne {E T : Nat} (h2 : E ≤ 2046) (hT : T < 4503599627370496) : FP.Core.val64 (mk64 E T) ≠ .nan := by
  rw [FP.Core.ne_nan, mk_toNat (by omega) hT]
  omega
theorem mk_cmp {E T E' T' : Nat} (h2 : E ≤ 2046) (hT : T < 4503599627370496) (h2' : E' ≤ 2046) (hT' : T' < 4503599627370496) : FP.dcmp (mk64 E T) (mk64 E' T') = some (compare ((E * 4503599627370496 + T : Nat) : Int) ((E' * 4503599627370496 + T' : Nat) : Int)) := by
  show FP.Core.dcmp _ _ = _
  rw [FP.Core.dcmp_key (mk_ne h2 hT) (mk_ne h2' hT')]
  unfold FP.Core.dkey
  rw [mk_toNat (by omega) hT, mk_toNat (by omega) hT', if_neg (by omega), if_neg (by omega)]
theorem one_mk : FP.dconst1 = mk64 1023 0 := by decide +kernel
theorem zero_mk : FP.dconst0 = mk64 0 0 := by decide +kernel
theorem i2d_val {A : Nat} (hA : A < 2147483648) : ∃ c q, FP.Core.val64 (FP.i2d (nI A)) = .fin false c q ∧ A * 2 ^ (0 - q).toNat = c * 1 * 2 ^ (q - 0).toNat := by
  obtain ⟨c, q, h1, h2⟩ := FP.Core.natFit FP.Core.good_b64 FP.Core.wide_b64 false (n := A) (by show A ≤ 2 ^ 53; omega)
  refine ⟨c, q, ?_, h2⟩
  show FP.Core.val64 (FP.Core.i2d _) = _
  rw [FP.Core.val64_i2d, nI_tI hA]
  show FP.Core.roundRatio FP.Core.b64 (decide ((A : Int) < 0)) (A : Int).natAbs 1 0 = _
  rw [decide_eq_false (by omega), Int.natAbs_natCast]
  exact FP.Core.roundRatio_exact FP.Core.good_b64 (by decide) h1 h2
theorem quo_val {A B : Nat} (hA : A < 2147483648) (hB : B < 2147483648) (hB0 : 0 < B) : FP.Core.val64 (FP.ddiv (FP.i2d (nI A)) (FP.i2d (nI B))) = FP.Core.roundRatio FP.Core.b64 false A B 0 := by
  obtain ⟨c, q, h1, h2⟩ := i2d_val hA
  obtain ⟨d, r, g1, g2⟩ := i2d_val hB
  have hd : 0 < d := by
    rcases Nat.eq_zero_or_pos d with z | z
    · subst z
      have := Nat.two_pow_pos (0 - r).toNat
      rw [Nat.mul_one, Nat.zero_mul] at g2
      rcases Nat.mul_eq_zero.mp g2 with w | w <;> omega
    · exact z
  show FP.Core.val64 (FP.Core.ddiv _ _) = _
  rw [FP.Core.val64_ddiv, h1, g1]
  show (if d = 0 then _ else FP.Core.roundRatio FP.Core.b64 (false != false) c d (q - r)) = _
  rw [if_neg (by omega)]
  refine FP.Core.roundRatio_congr hd hB0 ?_
  rw [Nat.mul_one] at h2 g2
  have e1 : (q - r - 0).toNat + ((0 - q).toNat + (r - 0).toNat) = (0 - (q - r)).toNat + ((q - 0).toNat + (0 - r).toNat) := by omega
  have hp : 0 < 2 ^ ((0 - q).toNat + (r - 0).toNat) := Nat.two_pow_pos _
  refine Nat.eq_of_mul_eq_mul_right hp ?_
  calc c * B * 2 ^ (q - r - 0).toNat * 2 ^ ((0 - q).toNat + (r - 0).toNat) = c * B * 2 ^ ((q - r - 0).toNat + ((0 - q).toNat + (r - 0).toNat)) := by rw [Nat.mul_assoc, ← Nat.pow_add]
    _ = c * B * 2 ^ ((0 - (q - r)).toNat + ((q - 0).toNat + (0 - r).toNat)) := by rw [e1]
    _ = (c * 2 ^ (q - 0).toNat) * (B * 2 ^ (0 - r).toNat) * 2 ^ (0 - (q - r)).toNat := by rw [Nat.pow_add, Nat.pow_add]; ac_rfl
    _ = (A * 2 ^ (0 - q).toNat) * (d * 2 ^ (r - 0).toNat) * 2 ^ (0 - (q - r)).toNat := by rw [h2, g2]
    _ = A * d * 2 ^ (0 - (q - r)).toNat * 2 ^ ((0 - q).toNat + (r - 0).toNat) := by rw [Nat.pow_add]; ac_rfl
theorem quo_mk {A B : Nat} (hA : 1 ≤ A) (hAB : A ≤ B) (hB : B < 2147483648) : ∃ E T, E * 4503599627370496 + T ≤ 1023 * 4503599627370496 ∧ T < 4503599627370496 ∧ FP.ddiv (FP.i2d (nI A)) (FP.i2d (nI B)) = mk64 E T := by
  have hv := quo_val (A := A) (B := B) (by omega) hB (by omega)
  obtain ⟨x, hx⟩ : ∃ x, x = FP.ddiv (FP.i2d (nI A)) (FP.i2d (nI B)) := ⟨_, rfl⟩
  rw [← hx] at hv ⊢
  have hne : FP.Core.val64 x ≠ .nan := by rw [hv]; exact FP.Core.roundRatio_ne_nan _ _ _ _ _
  have ht : FP.Core.b64.tails = 4503599627370496 := by decide
  have hs : x.toNat < 9223372036854775808 := by
    have h1 := FP.Core.sgn_bits hne
    rw [hv, FP.Core.sgn_roundRatio] at h1
    have := of_decide_eq_false h1.symm
    omega
  have hle : x.toNat ≤ 1023 * 4503599627370496 := by
    have h1 := FP.Core.mag_le FP.Core.good_b64 (n := x.toNat) (m := 1023 * FP.Core.b64.tails) (e0 := FP.Core.b64.qmin) hv (by omega) (by omega) (by rw [FP.Core.qmin_b64]; omega) (by
      rw [FP.Core.unitsOf_start (by omega), Int.sub_self, Int.toNat_zero, Nat.pow_zero, Nat.mul_one, ht, FP.Core.qmin_b64]
      unfold FP.Core.inUnits
      rw [show ((0 : Int) - -1074).toNat = 52 + (1023 - 1) from rfl, show (4503599627370496 : Nat) = 2 ^ 52 from rfl, ← Nat.pow_add, Nat.mul_comm]
      exact Nat.mul_le_mul_left _ hAB)
    rw [FP.Core.mag_toNat64, ht] at h1
    omega
  have hge : 1 * 4503599627370496 ≤ x.toNat := by
    have h1 := FP.Core.mag_ge FP.Core.good_b64 (n := x.toNat) (m := 1 * FP.Core.b64.tails) (e0 := FP.Core.b64.qmin) hv (by omega) (by omega) (by rw [FP.Core.qmin_b64]; omega) (by decide) (by
      rw [FP.Core.unitsOf_start (by omega), Int.sub_self, Int.toNat_zero, Nat.pow_zero, Nat.mul_one, ht, FP.Core.qmin_b64]
      unfold FP.Core.inUnits
      rw [show ((0 : Int) - -1074).toNat = 83 + 991 from rfl]
      calc 4503599627370496 * 2 ^ (1 - 1) * B ≤ 4503599627370496 * 2 ^ (1 - 1) * 2147483648 := Nat.mul_le_mul_left _ (by omega)
        _ = 2 ^ 83 := by decide
        _ ≤ 2 ^ (83 + 991) := Nat.pow_le_pow_right (by decide) (Nat.le_add_right 83 991)
        _ = 1 * 2 ^ (83 + 991) := (Nat.one_mul _).symm
        _ ≤ A * 2 ^ (83 + 991) := Nat.mul_le_mul_right _ hA)
    rw [FP.Core.mag_toNat64, ht] at h1
    omega
  refine ⟨x.toNat / 4503599627370496, x.toNat % 4503599627370496, by omega, Nat.mod_lt _ (by omega), ?_⟩
  unfold mk64
  rw [show x.toNat / 4503599627370496 * 4503599627370496 + x.toNat % 4503599627370496 = x.toNat by omega, UInt64.ofNat_toNat]
theorem quo_0 {B : Nat} (hB : B < 2147483648) (hB0 : 0 < B) : FP.ddiv (FP.i2d (nI 0)) (FP.i2d (nI B)) = FP.dconst0 := by
  have hv := quo_val (A := 0) (B := B) (by omega) hB hB0
  refine FP.Core.val64_inj (by rw [hv]; exact FP.Core.roundRatio_ne_nan _ _ _ _ _) ?_
  rw [hv]
  show FP.Core.roundRatio FP.Core.b64 false 0 B 0 = FP.Core.val64 FP.Core.dconst0
  rw [FP.Core.val64_dconst0]
  rfl

/-- what is asked of a share -/
def shOK (x : UInt64) : Prop := ∃ E T, E * 4503599627370496 + T ≤ 1023 * 4503599627370496 ∧ T < 4503599627370496 ∧ x = mk64 E T
theorem sh_one : shOK FP.dconst1 := ⟨1023, 0, by omega, by omega, one_mk⟩
theorem sh_zero : shOK FP.dconst0 := ⟨0, 0, by omega, by omega, zero_mk⟩
theorem sh_ge0 {x : UInt64} (h : shOK x) : ¬ Op.cmpValue (FP.dcmp x FP.dconst0) .l < 0 := by
  obtain ⟨E, T, h1, h2, rfl⟩ := h
  rw [zero_mk, mk_cmp (by omega) h2 (by omega) (by omega)]
  by_cases h0 : E * 4503599627370496 + T = 0
  · rw [(FP.Core.compare_eq_iff _ _).mpr (by omega)]
    decide
  · rw [(FP.Core.compare_gt_iff _ _).mpr (by omega)]
    decide
theorem sh_le1 {x : UInt64} (h : shOK x) : ¬ 0 < Op.cmpValue (FP.dcmp x FP.dconst1) .g := by
  obtain ⟨E, T, h1, h2, rfl⟩ := h
  rw [one_mk, mk_cmp (by omega) h2 (by omega) (by omega)]
  by_cases h0 : E * 4503599627370496 + T = 1023 * 4503599627370496
  · rw [(FP.Core.compare_eq_iff _ _).mpr (by omega)]
    decide
  · rw [(FP.Core.compare_lt_iff _ _).mpr (by omega)]
    decide
theorem sh_is1 : Op.cmpValue (FP.dcmp FP.dconst1 FP.dconst1) .l = 0 := by
  rw [one_mk, mk_cmp (by omega) (by omega) (by omega) (by omega), (FP.Core.compare_eq_iff _ _).mpr rfl]
  rfl
theorem sum_two {f : Nat → Int32} {k m tt : Nat} (h : OKf f k m tt) : ∃ c v, sumRK f false k = nI c ∧ sumRK f true k = nI v ∧ c ≤ v ∧ v ≤ 11999880 := by
  obtain ⟨c, v, e1, e2, e3, e4⟩ := sumN_two (S := fun i => sumN (colR (rowOf f i) false) 0 24) (S' := fun i => sumN (colR (rowOf f i) true) 0 24) (B := 2399976) (a := 0) k (fun i h1 h2 => (h.row (by omega)).win (z := 1) h.2.2.2.2.2.1 (k := 0) (n := 24) (by omega))
  have h5 := h.2.1
  have : k * 2399976 ≤ 5 * 2399976 := Nat.mul_le_mul_right _ h5
  exact ⟨c, v, e1, e2, e3, by omega⟩
theorem share_ok {f : Nat → Int32} {k m tt : Nat} (h : OKf f k m tt) : shOK (shrK f k) ∧ (¬ sumRK f true k = 0 → vf_n64 (FP.ddiv (FP.i2d (sumRK f false k)) (FP.i2d (sumRK f true k)))) ∧ (¬ 0 < sumRK f true k → shrK f k = FP.dconst1) := by
  obtain ⟨c, v, e1, e2, e3, e4⟩ := sum_two h
  have hq : 0 < v → shOK (FP.ddiv (FP.i2d (nI c)) (FP.i2d (nI v))) := by
    intro hv
    rcases Nat.eq_zero_or_pos c with z | z
    · subst z
      rw [quo_0 (by omega) hv]
      exact sh_zero
    · obtain ⟨E, T, g1, g2, g3⟩ := quo_mk (A := c) (B := v) z e3 (by omega)
      exact ⟨E, T, g1, g2, g3⟩
  have h0 : sumRK f true k = 0 ↔ v = 0 := by
    rw [e2, ← nI_0, nI_eq (by omega) (by omega)]
  refine ⟨?_, fun hne => ?_, fun hn => ?_⟩
  · unfold shrK
    by_cases hz : sumRK f true k = 0
    · rw [if_pos hz]
      exact sh_one
    · rw [if_neg hz, e1, e2]
      exact hq (by rw [h0] at hz; omega)
  · rw [h0] at hne
    obtain ⟨E, T, g1, g2, g3⟩ := hq (by omega)
    rw [e1, e2, g3]
    exact vf_of (mk_ne (by omega) g2)
  · have hz : sumRK f true k = 0 := by
      rw [h0]
      rw [e2, ← nI_0] at hn
      exact Nat.eq_zero_of_not_pos (fun q => hn (nI_lt q (by omega)))
    unfold shrK
    rw [if_pos hz]
end
section
/-! the class's calls where their arguments are in range -/
theorem XCt.mono {l : Launch} {G : XG} {md : Prop} {w : Cond} {y : MethodName} {fr lo mc ms : Nat} {av : List Value} {n : Nat} {h : XH} {post post' : Option Value → Nat → XH → Prop} {px px' : String → Nat → XH → Prop} (H : XCt l G md w y fr lo mc ms av n h post px) (h1 : ∀ r n h, post r n h → post' r n h) (h2 : ∀ E n h, px E n h → px' E n h) : XCt l G md w y fr lo mc ms av n h post' px' := by
  refine MetFree.mono H (fun _ _ q => q) (fun _ _ _ _ _ q => q) (fun a s o s' _ q => ?_)
  rcases q with ⟨⟨r, n', h', q1, q2, q3⟩, q4⟩ | ⟨q, hq, q1⟩
  · exact Or.inl ⟨⟨r, n', h', q1, h1 _ _ _ q2, q3⟩, q4⟩
  · refine Or.inr ⟨q, hq, ?_⟩
    obtain ⟨E, ce, L, ⟨n', h', q5, q6⟩, q7⟩ := q1
    exact ⟨E, ce, L, ⟨n', h', h2 _ _ _ q5, q6⟩, q7⟩
theorem nI_teq {x : Int32} {i : Nat} (h : x = nI i) (hi : i < 2147483648) : x.toInt = (i : Int) := by rw [h]; exact nI_tI hi
theorem tc_4 : (4 : Int32).toInt = 4 := by decide
theorem tc_5 : (5 : Int32).toInt = 5 := by decide
theorem tc_8 : (8 : Int32).toInt = 8 := by decide
theorem tc_9 : (9 : Int32).toInt = 9 := by decide
theorem tc_12 : (12 : Int32).toInt = 12 := by decide
theorem tc_23 : (23 : Int32).toInt = 23 := by decide
theorem tc_24 : (24 : Int32).toInt = 24 := by decide
theorem tc_60 : (60 : Int32).toInt = 60 := by decide
theorem tc_99 : (99 : Int32).toInt = 99 := by decide
theorem tc_999 : (999 : Int32).toInt = 999 := by decide
theorem tc_2000 : (2000 : Int32).toInt = 2000 := by decide
theorem tc_99999 : (99999 : Int32).toInt = 99999 := by decide
theorem ct_D_rope {l : Launch} (hfl : l.stackTraces = false) {G : XG} {n : Nat} {h : XH} {f : Nat → Int32} {o kp : Nat} {P : Nat → Nat → Int32} {tx : Nat → Int32} {len : Nat} {p : PT} {ρ : Nat → Int32} {k m tt z : Nat} (hn : 209 ≤ n) (hO : OKf f k m tt) (hz : f 2 = nI z) (z1 : 1 ≤ z) (z2 : z ≤ 12) (ho : o < 6) (hkp : kp ≤ 6) {i : Nat} {w : Nat} (hi : i < k) (hw : w ≤ 9) : XCt l G False (Cond.code yC_rope bC_rope 4 (some .int)) yC_rope 7 112 2 12 [.ref (4), .int (nI i), .int (nI w)] n (setCW h f o kp P tx len p ρ) (fun r' n' h' => r' = some (.int (ropeFigK f (rowOf f i) z w)) ∧ n' = n ∧ h' = setCW h f o kp P tx len p ρ) (fun _ _ _ => False) := by
  have hk := hO.2.1
  have kI : (nI k).toInt = (k : Int) := nI_tI (by omega)
  have ti : (nI i).toInt = (i : Int) := nI_tI (by omega)
  have tw : (nI w).toInt = (w : Int) := nI_tI (by omega)
  refine XCt.mono (ct_C_rope hfl hn hO.1 hO.2.1 hO.live hz z1 z2 (nI i) (nI w)) (fun r1 n1 h1 hp => ?_) (fun E n1 h1 hx => ?_)
  · obtain ⟨i1, w1, ⟨e1, g1, e2, g2⟩, rfl, rfl, rfl⟩ := hp
    obtain rfl : i = i1 := (nI_eq (by omega) (by omega)).mp e1
    obtain rfl : w = w1 := (nI_eq (by omega) (by omega)).mp e2
    exact ⟨rfl, rfl, rfl⟩
  · obtain ⟨hx, -, -⟩ := hx
    rcases hx with ⟨-, hb⟩ | ⟨-, hb⟩
    all_goals first | (simp only [le_tI, lt_tI, tI_0, tI_1, tc_4, tc_5, tc_8, tc_9, tc_12, tc_23, tc_24, tc_60, tc_99, tc_999, tc_2000, tc_99999, kI, ti, tw] at hb; omega) | omega
theorem ct_D_section {l : Launch} (hfl : l.stackTraces = false) {G : XG} {n : Nat} {h : XH} {f : Nat → Int32} {o kp : Nat} {P : Nat → Nat → Int32} {tx : Nat → Int32} {len : Nat} {p : PT} {ρ : Nat → Int32} {k m tt z : Nat} (hn : 209 ≤ n) (hO : OKf f k m tt) (hz : f 2 = nI z) (z1 : 1 ≤ z) (z2 : z ≤ 12) (ho : o < 6) (hkp : kp ≤ 6) {i : Nat} {s : Nat} {w : Nat} (hi : i < k) (hs : s < 24) (hw : w ≤ 4) : XCt l G False (Cond.code yC_section bC_section 5 (some .int)) yC_section 7 112 3 18 [.ref (4), .int (nI i), .int (nI s), .int (nI w)] n (setCW h f o kp P tx len p ρ) (fun r' n' h' => r' = some (.int (secF (rowOf f i) s w)) ∧ n' = n ∧ h' = setCW h f o kp P tx len p ρ) (fun _ _ _ => False) := by
  have hk := hO.2.1
  have kI : (nI k).toInt = (k : Int) := nI_tI (by omega)
  have ti : (nI i).toInt = (i : Int) := nI_tI (by omega)
  have ts : (nI s).toInt = (s : Int) := nI_tI (by omega)
  have tw : (nI w).toInt = (w : Int) := nI_tI (by omega)
  refine XCt.mono (ct_C_section hfl hn hO.1 hO.2.1 hO.live (nI i) (nI s) (nI w)) (fun r1 n1 h1 hp => ?_) (fun E n1 h1 hx => ?_)
  · obtain ⟨i1, s1, w1, ⟨e1, g1, e2, g2, e3, g3⟩, rfl, rfl, rfl⟩ := hp
    obtain rfl : i = i1 := (nI_eq (by omega) (by omega)).mp e1
    obtain rfl : s = s1 := (nI_eq (by omega) (by omega)).mp e2
    obtain rfl : w = w1 := (nI_eq (by omega) (by omega)).mp e3
    exact ⟨rfl, rfl, rfl⟩
  · obtain ⟨hx, -, -⟩ := hx
    rcases hx with ⟨-, hb⟩ | ⟨-, hb⟩ | ⟨-, hb⟩
    all_goals first | (simp only [le_tI, lt_tI, tI_0, tI_1, tc_4, tc_5, tc_8, tc_9, tc_12, tc_23, tc_24, tc_60, tc_99, tc_999, tc_2000, tc_99999, kI, ti, ts, tw] at hb; omega) | omega
theorem ct_D_window {l : Launch} (hfl : l.stackTraces = false) {G : XG} {n : Nat} {h : XH} {f : Nat → Int32} {o kp : Nat} {P : Nat → Nat → Int32} {tx : Nat → Int32} {len : Nat} {p : PT} {ρ : Nat → Int32} {k m tt z : Nat} (hn : 209 ≤ n) (hO : OKf f k m tt) (hz : f 2 = nI z) (z1 : 1 ≤ z) (z2 : z ≤ 12) (ho : o < 6) (hkp : kp ≤ 6) {i : Nat} {j : Nat} {w : Nat} (hi : i < k) (hj : j < 25 - z) (hw : w ≤ 1) : XCt l G False (Cond.code yC_window bC_window 5 (some .int)) yC_window 7 112 3 18 [.ref (4), .int (nI i), .int (nI j), .int (nI w)] n (setCW h f o kp P tx len p ρ) (fun r' n' h' => r' = some (.int (winS (rowOf f i) (decide (w = 1)) z j)) ∧ n' = n ∧ h' = setCW h f o kp P tx len p ρ) (fun _ _ _ => False) := by
  have hk := hO.2.1
  have kI : (nI k).toInt = (k : Int) := nI_tI (by omega)
  have ti : (nI i).toInt = (i : Int) := nI_tI (by omega)
  have tj : (nI j).toInt = (j : Int) := nI_tI (by omega)
  have tw : (nI w).toInt = (w : Int) := nI_tI (by omega)
  have t25 : (nI (25 - z)).toInt = ((25 - z : Nat) : Int) := nI_tI (by omega)
  refine XCt.mono (ct_C_window hfl hn hO.1 hO.2.1 hO.live hz z1 z2 (nI i) (nI j) (nI w)) (fun r1 n1 h1 hp => ?_) (fun E n1 h1 hx => ?_)
  · obtain ⟨i1, j1, w1, ⟨e1, g1, e2, g2, e3, g3⟩, rfl, rfl, rfl⟩ := hp
    obtain rfl : i = i1 := (nI_eq (by omega) (by omega)).mp e1
    obtain rfl : j = j1 := (nI_eq (by omega) (by omega)).mp e2
    obtain rfl : w = w1 := (nI_eq (by omega) (by omega)).mp e3
    exact ⟨rfl, rfl, rfl⟩
  · obtain ⟨hx, -, -⟩ := hx
    rcases hx with ⟨-, hb⟩ | ⟨-, hb⟩ | ⟨-, hb⟩
    all_goals first | (simp only [le_tI, lt_tI, tI_0, tI_1, tc_4, tc_5, tc_8, tc_9, tc_12, tc_23, tc_24, tc_60, tc_99, tc_999, tc_2000, tc_99999, kI, t25, ti, tj, tw] at hb; omega) | omega
theorem ct_D_count {l : Launch} (hfl : l.stackTraces = false) {G : XG} {n : Nat} {h : XH} {f : Nat → Int32} {o kp : Nat} {P : Nat → Nat → Int32} {tx : Nat → Int32} {len : Nat} {p : PT} {ρ : Nat → Int32} {k m tt z : Nat} (hn : 209 ≤ n) (hO : OKf f k m tt) (hz : f 2 = nI z) (z1 : 1 ≤ z) (z2 : z ≤ 12) (ho : o < 6) (hkp : kp ≤ 6) {w : Nat} (hw : w ≤ 8) : XCt l G False (Cond.code yC_count bC_count 2 (some .int)) yC_count 7 149 1 6 [.ref (4), .int (nI w)] n (setCW h f o kp P tx len p ρ) (fun r' n' h' => r' = some (.int (countFigK f z k kp w)) ∧ n' = n ∧ h' = setCW h f o kp P tx len p ρ) (fun _ _ _ => False) := by
  have hk := hO.2.1
  have kI : (nI k).toInt = (k : Int) := nI_tI (by omega)
  have tw : (nI w).toInt = (w : Int) := nI_tI (by omega)
  refine XCt.mono (ct_C_count hfl hn hO.1 hO.2.1 hO.live hz z1 z2 ho hkp (nI w)) (fun r1 n1 h1 hp => ?_) (fun E n1 h1 hx => ?_)
  · obtain ⟨w1, ⟨e2, g2⟩, rfl, rfl, rfl⟩ := hp
    obtain rfl : w = w1 := (nI_eq (by omega) (by omega)).mp e2
    exact ⟨rfl, rfl, rfl⟩
  · obtain ⟨hx, -, -⟩ := hx
    obtain ⟨-, hb⟩ := hx
    all_goals first | (simp only [le_tI, lt_tI, tI_0, tI_1, tc_4, tc_5, tc_8, tc_9, tc_12, tc_23, tc_24, tc_60, tc_99, tc_999, tc_2000, tc_99999, kI, tw] at hb; omega) | omega
theorem ct_D_setting {l : Launch} (hfl : l.stackTraces = false) {G : XG} {n : Nat} {h : XH} {f : Nat → Int32} {o kp : Nat} {P : Nat → Nat → Int32} {tx : Nat → Int32} {len : Nat} {p : PT} {ρ : Nat → Int32} {k m tt z : Nat} (hn : 209 ≤ n) (hO : OKf f k m tt) (hz : f 2 = nI z) (z1 : 1 ≤ z) (z2 : z ≤ 12) (ho : o < 6) (hkp : kp ≤ 6) {i : Nat} (hi : i < 5) : XCt l G False (Cond.code yC_setting bC_setting 2 (some .int)) yC_setting 7 111 1 6 [.ref (4), .int (nI i)] n (setCW h f o kp P tx len p ρ) (fun r' n' h' => r' = some (.int (f (2 + i))) ∧ n' = n ∧ h' = setCW h f o kp P tx len p ρ) (fun _ _ _ => False) := by
  have hk := hO.2.1
  have kI : (nI k).toInt = (k : Int) := nI_tI (by omega)
  have ti : (nI i).toInt = (i : Int) := nI_tI (by omega)
  refine XCt.mono (ct_C_setting hfl hn (nI i)) (fun r1 n1 h1 hp => ?_) (fun E n1 h1 hx => ?_)
  · obtain ⟨i1, ⟨e1, g1⟩, rfl, rfl, rfl⟩ := hp
    obtain rfl : i = i1 := (nI_eq (by omega) (by omega)).mp e1
    exact ⟨rfl, rfl, rfl⟩
  · obtain ⟨hx, -, -⟩ := hx
    obtain ⟨-, hb⟩ := hx
    all_goals first | (simp only [le_tI, lt_tI, tI_0, tI_1, tc_4, tc_5, tc_8, tc_9, tc_12, tc_23, tc_24, tc_60, tc_99, tc_999, tc_2000, tc_99999, kI, ti] at hb; omega) | omega
theorem ct_D_ifInspected {l : Launch} (hfl : l.stackTraces = false) {G : XG} {n : Nat} {h : XH} {f : Nat → Int32} {o kp : Nat} {P : Nat → Nat → Int32} {tx : Nat → Int32} {len : Nat} {p : PT} {ρ : Nat → Int32} {k m tt z : Nat} (hn : 209 ≤ n) (hO : OKf f k m tt) (hz : f 2 = nI z) (z1 : 1 ≤ z) (z2 : z ≤ 12) (ho : o < 6) (hkp : kp ≤ 6) {i : Nat} (hi : i < k) : XCt l G False (Cond.code yC_ifInspected bC_ifInspected 5 (some .int)) yC_ifInspected 8 132 4 24 [.ref (4), .int (nI i), .int (0), .int (23)] n (setCW h f o kp P tx len p ρ) (fun r' n' h' => r' = some (.int (reasonK f (lookR f (rowOf f i)) z)) ∧ n' = n ∧ ∃ ρ', h' = setCW h f o kp P tx len p ρ') (fun _ _ _ => False) := by
  have hk := hO.2.1
  have kI : (nI k).toInt = (k : Int) := nI_tI (by omega)
  have ti : (nI i).toInt = (i : Int) := nI_tI (by omega)
  refine XCt.mono (ct_C_ifInspected hfl hn hO.1 hO.2.1 hO.live hz z1 z2 (nI i) 0 23) (fun r1 n1 h1 hp => ?_) (fun E n1 h1 hx => ?_)
  · obtain ⟨i1, a1, b1, ⟨e1, g1, e2, e3, g2, g3⟩, rfl, rfl, ρ1, rfl⟩ := hp
    obtain rfl : i = i1 := (nI_eq (by omega) (by omega)).mp e1
    obtain rfl : 0 = a1 := (nI_eq (by omega) (by omega)).mp ((nI_0).trans e2)
    obtain rfl : 23 = b1 := (nI_eq (by omega) (by omega)).mp ((rfl : nI 23 = 23).trans e3)
    exact ⟨rfl, rfl, _, rfl⟩
  · obtain ⟨hx, -, -⟩ := hx
    rcases hx with ⟨-, hb⟩ | ⟨-, hb⟩ | ⟨-, hb⟩
    all_goals first | (simp only [le_tI, lt_tI, tI_0, tI_1, tc_4, tc_5, tc_8, tc_9, tc_12, tc_23, tc_24, tc_60, tc_99, tc_999, tc_2000, tc_99999, kI, ti] at hb; omega) | omega
theorem ct_D_tripsLeft {l : Launch} (hfl : l.stackTraces = false) {G : XG} {n : Nat} {h : XH} {f : Nat → Int32} {o kp : Nat} {P : Nat → Nat → Int32} {tx : Nat → Int32} {len : Nat} {p : PT} {ρ : Nat → Int32} {k m tt z : Nat} (hn : 209 ≤ n) (hO : OKf f k m tt) (hz : f 2 = nI z) (z1 : 1 ≤ z) (z2 : z ≤ 12) (ho : o < 6) (hkp : kp ≤ 6) {i : Nat} (hi : i < k) : XCt l G False (Cond.code yC_tripsLeft bC_tripsLeft 2 (some .int)) yC_tripsLeft 7 115 1 6 [.ref (4), .int (nI i)] n (setCW h f o kp P tx len p ρ) (fun r' n' h' => r' = some (.int (tlK f (rowOf f i) z 32 0 (f 3 * rowOf f i 0))) ∧ n' = n ∧ ∃ ρ', h' = setCW h f o kp P tx len p ρ') (fun _ _ _ => False) := by
  have hk := hO.2.1
  have kI : (nI k).toInt = (k : Int) := nI_tI (by omega)
  have ti : (nI i).toInt = (i : Int) := nI_tI (by omega)
  refine XCt.mono (ct_C_tripsLeft hfl hn hO.1 hO.2.1 hO.live hz z1 z2 (nI i)) (fun r1 n1 h1 hp => ?_) (fun E n1 h1 hx => ?_)
  · obtain ⟨i1, ⟨e1, g1⟩, rfl, rfl, ρ1, rfl⟩ := hp
    obtain rfl : i = i1 := (nI_eq (by omega) (by omega)).mp e1
    exact ⟨rfl, rfl, ρ1, rfl⟩
  · obtain ⟨hx, -, -⟩ := hx
    obtain ⟨-, hb⟩ := hx
    all_goals first | (simp only [le_tI, lt_tI, tI_0, tI_1, tc_4, tc_5, tc_8, tc_9, tc_12, tc_23, tc_24, tc_60, tc_99, tc_999, tc_2000, tc_99999, kI, ti] at hb; omega) | omega
theorem ct_D_cut {l : Launch} (hfl : l.stackTraces = false) {G : XG} {n : Nat} {h : XH} {f : Nat → Int32} {o kp : Nat} {P : Nat → Nat → Int32} {tx : Nat → Int32} {len : Nat} {p : PT} {ρ : Nat → Int32} {k m tt z : Nat} (hn : 209 ≤ n) (hO : OKf f k m tt) (hz : f 2 = nI z) (z1 : 1 ≤ z) (z2 : z ≤ 12) (ho : o < 6) (hkp : kp ≤ 6) {i : Nat} (hi : i < k) : XCt l G False (Cond.code yC_cut bC_cut 2 (some .int)) yC_cut 7 112 1 6 [.ref (4), .int (nI i)] n (setCW h f o kp P tx len p ρ) (fun r' n' h' => r' = some (.int (nI (k - 1))) ∧ n' = n ∧ h' = setCW h (upd (shiftK f i (k - 1 - i)) 1 (f 1 - 1)) (kO o kp) (kK kp) (kP o kp P f) tx len p ρ) (fun _ _ _ => False) := by
  have hk := hO.2.1
  have kI : (nI k).toInt = (k : Int) := nI_tI (by omega)
  have ti : (nI i).toInt = (i : Int) := nI_tI (by omega)
  refine XCt.mono (ct_C_cut hfl hn hO.1 hO.2.1 hO.live ho hkp (nI i)) (fun r1 n1 h1 hp => ?_) (fun E n1 h1 hx => ?_)
  · obtain ⟨i1, ⟨e1, g1⟩, rfl, rfl, rfl⟩ := hp
    obtain rfl : i = i1 := (nI_eq (by omega) (by omega)).mp e1
    exact ⟨rfl, rfl, rfl⟩
  · obtain ⟨hx, -, -⟩ := hx
    obtain ⟨-, hb⟩ := hx
    all_goals first | (simp only [le_tI, lt_tI, tI_0, tI_1, tc_4, tc_5, tc_8, tc_9, tc_12, tc_23, tc_24, tc_60, tc_99, tc_999, tc_2000, tc_99999, kI, ti] at hb; omega) | omega
theorem ct_D_swap {l : Launch} (hfl : l.stackTraces = false) {G : XG} {n : Nat} {h : XH} {f : Nat → Int32} {o kp : Nat} {P : Nat → Nat → Int32} {tx : Nat → Int32} {len : Nat} {p : PT} {ρ : Nat → Int32} {k m tt z : Nat} (hn : 209 ≤ n) (hO : OKf f k m tt) (hz : f 2 = nI z) (z1 : 1 ≤ z) (z2 : z ≤ 12) (ho : o < 6) (hkp : kp ≤ 6) {i : Nat} {q : Nat} (hi : i < k) (q1 : 1 ≤ q) (q2 : q ≤ 99) : XCt l G False (Cond.code yC_swap bC_swap 5 (some .int)) yC_swap 7 112 2 12 [.ref (4), .int (nI i), .int (nI q)] n (setCW h f o kp P tx len p ρ) (fun r' n' h' => r' = some (.int (sumN (colR (rowOf f i) true) 0 24)) ∧ n' = n ∧ h' = setCW h (upd (putRow f i (rNew (nI q) (f 0))) 9 (putRow f i (rNew (nI q) (f 0)) 9 + 1)) (kO o kp) (kK kp) (kP o kp P f) tx len p ρ) (fun _ _ _ => False) := by
  have hk := hO.2.1
  have kI : (nI k).toInt = (k : Int) := nI_tI (by omega)
  have ti : (nI i).toInt = (i : Int) := nI_tI (by omega)
  have tq : (nI q).toInt = (q : Int) := nI_tI (by omega)
  refine XCt.mono (ct_C_swap hfl hn hO.1 hO.2.1 hO.live ho hkp (nI i) (nI q)) (fun r1 n1 h1 hp => ?_) (fun E n1 h1 hx => ?_)
  · obtain ⟨i1, ⟨e1, g1, -⟩, rfl, rfl, rfl⟩ := hp
    obtain rfl : i = i1 := (nI_eq (by omega) (by omega)).mp e1
    exact ⟨rfl, rfl, rfl⟩
  · obtain ⟨hx, -, -⟩ := hx
    rcases hx with ⟨-, hb⟩ | ⟨-, hb⟩
    all_goals first | (simp only [le_tI, lt_tI, tI_0, tI_1, tc_4, tc_5, tc_8, tc_9, tc_12, tc_23, tc_24, tc_60, tc_99, tc_999, tc_2000, tc_99999, kI, ti, tq] at hb; omega) | omega
theorem ct_D_inspect {l : Launch} (hfl : l.stackTraces = false) {G : XG} {n : Nat} {h : XH} {f : Nat → Int32} {o kp : Nat} {P : Nat → Nat → Int32} {tx : Nat → Int32} {len : Nat} {p : PT} {ρ : Nat → Int32} {k m tt z : Nat} (hn : 209 ≤ n) (hO : OKf f k m tt) (hz : f 2 = nI z) (z1 : 1 ≤ z) (z2 : z ≤ 12) (ho : o < 6) (hkp : kp ≤ 6) {i : Nat} {a : Nat} {b : Nat} (hi : i < k) (hab : a ≤ b) (hb24 : b < 24) : XCt l G False (Cond.code yC_inspect bC_inspect 6 (some .int)) yC_inspect 8 132 4 24 [.ref (4), .int (nI i), .int (nI a), .int (nI b)] n (setCW h f o kp P tx len p ρ) (fun r' n' h' => r' = some (.int (sumN (colR (rLook (rowOf f i) a (b + 1 - a) (f 0)) false) 0 24 - sumN (colR (rowOf f i) false) 0 24)) ∧ n' = n ∧ h' = setCW h (upd (putRow f i (rLook (rowOf f i) a (b + 1 - a) (f 0))) 8 (putRow f i (rLook (rowOf f i) a (b + 1 - a) (f 0)) 8 + (nI b - nI a + 1))) (kO o kp) (kK kp) (kP o kp P f) tx len p ρ) (fun _ _ _ => False) := by
  have hk := hO.2.1
  have kI : (nI k).toInt = (k : Int) := nI_tI (by omega)
  have ti : (nI i).toInt = (i : Int) := nI_tI (by omega)
  have ta : (nI a).toInt = (a : Int) := nI_tI (by omega)
  have tb : (nI b).toInt = (b : Int) := nI_tI (by omega)
  refine XCt.mono (ct_C_inspect hfl hn hO.1 hO.2.1 hO.live ho hkp (nI i) (nI a) (nI b)) (fun r1 n1 h1 hp => ?_) (fun E n1 h1 hx => ?_)
  · obtain ⟨i1, a1, b1, ⟨e1, g1, e2, e3, g2, g3⟩, rfl, rfl, rfl⟩ := hp
    obtain rfl : i = i1 := (nI_eq (by omega) (by omega)).mp e1
    obtain rfl : a = a1 := (nI_eq (by omega) (by omega)).mp e2
    obtain rfl : b = b1 := (nI_eq (by omega) (by omega)).mp e3
    have er : sumN (colR (rowOf (upd (putRow f i (rLook (rowOf f i) a (b + 1 - a) (f 0))) 8 (putRow f i (rLook (rowOf f i) a (b + 1 - a) (f 0)) 8 + (nI b - nI a + 1))) i) false) 0 24 = sumN (colR (rLook (rowOf f i) a (b + 1 - a) (f 0)) false) 0 24 := sumN_congr (fun s h1 h2 => by show rowOf (upd (putRow f i (rLook (rowOf f i) a (b + 1 - a) (f 0))) 8 (putRow f i (rLook (rowOf f i) a (b + 1 - a) (f 0)) 8 + (nI b - nI a + 1))) i (27 + s) = _; rw [rowUpd_lo (by omega), putRow_row (by omega)]; rfl)
    exact ⟨by rw [er], rfl, rfl⟩
  · obtain ⟨hx, -, -⟩ := hx
    rcases hx with ⟨-, hb⟩ | ⟨-, hb⟩ | ⟨-, hb⟩
    all_goals first | (simp only [le_tI, lt_tI, tI_0, tI_1, tc_4, tc_5, tc_8, tc_9, tc_12, tc_23, tc_24, tc_60, tc_99, tc_999, tc_2000, tc_99999, kI, ti, ta, tb] at hb; omega) | omega
theorem ct_D_pass {l : Launch} (hfl : l.stackTraces = false) {G : XG} {n : Nat} {h : XH} {f : Nat → Int32} {o kp : Nat} {P : Nat → Nat → Int32} {tx : Nat → Int32} {len : Nat} {p : PT} {ρ : Nat → Int32} {k m tt z : Nat} (hn : 209 ≤ n) (hO : OKf f k m tt) (hz : f 2 = nI z) (z1 : 1 ≤ z) (z2 : z ≤ 12) (ho : o < 6) (hkp : kp ≤ 6) {q : Nat} (q1 : 1 ≤ q) (q2 : q ≤ 24) (hm2 : m + q ≤ 2000) : XCt l G False (Cond.code yC_pass bC_pass 2 (some .int)) yC_pass 7 112 2 12 [.ref (4), .int (nI q)] n (setCW h f o kp P tx len p ρ) (fun r' n' h' => r' = some (.int (nI (retK (upd f 0 (f 0 + nI q)) z k))) ∧ n' = n ∧ h' = setCW h (upd f 0 (f 0 + nI q)) (kO o kp) (kK kp) (kP o kp P f) tx len p ρ) (fun _ _ _ => False) := by
  have hk := hO.2.1
  have kI : (nI k).toInt = (k : Int) := nI_tI (by omega)
  have tq : (nI q).toInt = (q : Int) := nI_tI (by omega)
  have t0 : (f 0 + nI q).toInt = ((m + q : Nat) : Int) := by rw [hO.2.2.1, nI_add]; exact nI_tI (by omega)
  refine XCt.mono (ct_C_pass hfl hn hO.1 hO.2.1 hO.live hz z1 z2 ho hkp (nI q)) (fun r1 n1 h1 hp => ?_) (fun E n1 h1 hx => ?_)
  · obtain ⟨⟨-, -⟩, rfl, rfl, rfl⟩ := hp
    exact ⟨rfl, rfl, rfl⟩
  · obtain ⟨hx, -, -⟩ := hx
    rcases hx with ⟨-, hb⟩ | ⟨-, hb⟩
    all_goals first | (simp only [le_tI, lt_tI, tI_0, tI_1, tc_4, tc_5, tc_8, tc_9, tc_12, tc_23, tc_24, tc_60, tc_99, tc_999, tc_2000, tc_99999, kI, t0, tq] at hb; omega) | omega
theorem set_most {q : Nat} (hq : q ≤ 12) : ∀ j, j < 5 → nI q ≤ (XSA 2).2 j := by
  intro j hj
  have h : ∀ d : Nat, 12 ≤ d → d < 1000 → nI q ≤ nI d := fun d h1 h2 => nI_le (by omega) (by omega)
  rcases (show j = 0 ∨ j = 1 ∨ j = 2 ∨ j = 3 ∨ j = 4 by omega) with rfl | rfl | rfl | rfl | rfl
  · exact h 12 (by omega) (by omega)
  · exact h 99 (by omega) (by omega)
  · exact h 999 (by omega) (by omega)
  · exact h 99 (by omega) (by omega)
  · exact h 60 (by omega) (by omega)
theorem ct_D_set {l : Launch} (hfl : l.stackTraces = false) {G : XG} {n : Nat} {h : XH} {f : Nat → Int32} {o kp : Nat} {P : Nat → Nat → Int32} {tx : Nat → Int32} {len : Nat} {p : PT} {ρ : Nat → Int32} {k m tt z : Nat} (hn : 209 ≤ n) (hO : OKf f k m tt) (hz : f 2 = nI z) (z1 : 1 ≤ z) (z2 : z ≤ 12) (ho : o < 6) (hkp : kp ≤ 6) {i : Nat} {q : Nat} (hi : i < 5) (q1 : 1 ≤ q) (q2 : q ≤ 12) : XCt l G False (Cond.code yC_set bC_set 4 (some .int)) yC_set 7 112 2 12 [.ref (4), .int (nI i), .int (nI q)] n (setCW h f o kp P tx len p ρ) (fun r' n' h' => r' = some (.int (f (2 + i))) ∧ n' = n ∧ h' = setCW h (upd f (2 + i) (nI q)) (kO o kp) (kK kp) (kP o kp P f) tx len p ρ) (fun _ _ _ => False) := by
  have hk := hO.2.1
  have kI : (nI k).toInt = (k : Int) := nI_tI (by omega)
  have ti : (nI i).toInt = (i : Int) := nI_tI (by omega)
  have tq : (nI q).toInt = (q : Int) := nI_tI (by omega)
  have hmx : ∀ j, j < 5 → nI q ≤ (XSA 2).2 j := set_most q2
  refine XCt.mono (ct_C_set hfl hn ho hkp (nI i) (nI q)) (fun r1 n1 h1 hp => ?_) (fun E n1 h1 hx => ?_)
  · obtain ⟨i1, ⟨e1, g1, -⟩, rfl, rfl, rfl⟩ := hp
    obtain rfl : i = i1 := (nI_eq (by omega) (by omega)).mp e1
    exact ⟨rfl, rfl, rfl⟩
  · obtain ⟨hx, -, -⟩ := hx
    rcases hx with ⟨-, hb⟩ | ⟨-, hb⟩
    rotate_left
    obtain ⟨j, -, g1, hb⟩ := hb
    have g3 := hmx j g1
    simp only [le_tI, lt_tI, tI_1] at hb g3
    try omega
    all_goals first | (simp only [le_tI, lt_tI, tI_0, tI_1, tc_4, tc_5, tc_8, tc_9, tc_12, tc_23, tc_24, tc_60, tc_99, tc_999, tc_2000, tc_99999, kI, ti, tq] at hb; omega) | omega
end
section
/-! RopeThreadsLaw: low, cell; hang, trip, undo with their catches -/
def lowN (x : Int32) (d : Nat) : Nat := x.toBitVec.toNat % 2 ^ 31 % d
theorem lowN_lt (x : Int32) {d : Nat} (h : 0 < d) : lowN x d < d := Nat.mod_lt _ h
set_option maxHeartbeats 4000000 in
set_option maxRecDepth 100000 in
theorem ct_L_low {l : Launch} (hfl : l.stackTraces = false) {G : XG} {n : Nat} {h : XH} (x : Int32) {y : Int32} {d : Nat} (hy : y = nI d) (d0 : 0 < d) (d1 : d < 2 ^ 31) : XCt l G False (Cond.code yL_low bL_low 2 (some .int)) yL_low 0 0 0 0 [.int (x), .int (y)] n h (fun r' n' h' => r' = some (.int (nI (lowN x d))) ∧ n' = n ∧ h' = h) (fun _ _ _ => False) := by
  subst hy
  refine XCt.of hfl (by decide +kernel) (Nat.le_of_ble_eq_true rfl) ?_
  intro p' e' s' m' g' b' t' c' C hret hname hnt hmd
  refine XV.run C okL_low 1 (q := (1, ([some (.int (x)), some (.int (nI d))], [.int (x)]))) rfl ?_
  refine XV.ldc C (xlk_ok okL_low rfl) wK_L_7 ?_
  refine XV.run C okL_low 1 (q := (4, ([some (.int (x)), some (.int (nI d))], [.int (x &&& (2147483647))]))) rfl ?_
  rw [show (x &&& (2147483647) : Int32) = nI (x.toBitVec.toNat % 2 ^ 31) from pk_and x 31 (by decide)]
  refine XV.run C okL_low 1 (q := (5, ([some (.int (x)), some (.int (nI d))], [.int (nI d), .int (nI (x.toBitVec.toNat % 2 ^ 31))]))) rfl ?_
  refine XV.irem C (xlk_ok okL_low rfl) (nI_ne0 d0 d1) ?_
  rw [pk_rem (Nat.mod_lt _ (by decide)) d0 d1]
  exact XV.iret C (xlk_ok okL_low rfl) hret rfl (Nat.le_of_ble_eq_true rfl) (Nat.le_of_ble_eq_true rfl) (⟨rfl, rfl, rfl⟩)
set_option maxHeartbeats 4000000 in
set_option maxRecDepth 100000 in
theorem ct_L_cell {l : Launch} (hfl : l.stackTraces = false) {G : XG} {n : Nat} {h : XH} {y : Int32} {j : Nat} (hy : y = nI j) (hj : j < 1000) (hL : xL G < 2 ^ 31) : XCt l G False (Cond.code yL_cell bL_cell 2 (some .int)) yL_cell 0 0 0 0 [.ref (0), .int (y)] n h (fun r' n' h' => (∃ v, r' = some (.int v)) ∧ n' = n ∧ h' = h) (fun _ _ _ => False) := by
  subst hy
  refine XCt.of hfl (by decide +kernel) (Nat.le_of_ble_eq_true rfl) ?_
  intro p' e' s' m' g' b' t' c' C hret hname hnt hmd
  refine XV.run C okL_cell 2 (q := (2, ([some (.ref (0)), some (.int (nI j))], [.ref (0), .int (nI j)]))) rfl ?_
  refine XV.salen C (xlk_ok okL_cell rfl) ?_
  refine XV.icmp_ge C (tgt := 12) (xlk_ok okL_cell rfl) rfl (fun c1 => ?_) (fun c1 => ?_)
  ·
    refine XV.ldc C (xlk_ok okL_cell rfl) wK_L_8 ?_
    refine XV.run C okL_cell 4 (q := (20, ([some (.ref (0)), some (.int (nI j))], [.int (((40503) * (nI j)) + 977)]))) rfl ?_
    exact XV.iret C (xlk_ok okL_cell rfl) hret rfl (Nat.le_of_ble_eq_true rfl) (Nat.le_of_ble_eq_true rfl) (⟨⟨_, rfl⟩, rfl, rfl⟩)
  ·
    have hlt : j < xL G := Nat.lt_of_not_le fun q => c1 (nI_le q (by omega))
    refine XV.run C okL_cell 2 (q := (8, ([some (.ref (0)), some (.int (nI j))], [.int (nI j), .ref (0)]))) rfl ?_
    refine XV.sald C (a := j) (xlk_ok okL_cell rfl) (rfl) (hlt) hL ?_
    refine XV.run C okL_cell 1 (q := (20, ([some (.ref (0)), some (.int (nI j))], [.int (xxs G j)]))) rfl ?_
    exact XV.iret C (xlk_ok okL_cell rfl) hret rfl (Nat.le_of_ble_eq_true rfl) (Nat.le_of_ble_eq_true rfl) (⟨⟨_, rfl⟩, rfl, rfl⟩)
set_option maxHeartbeats 4000000 in
set_option maxRecDepth 100000 in
theorem ct_L_hang {l : Launch} (hfl : l.stackTraces = false) {G : XG} {n : Nat} {h : XH} {f : Nat → Int32} {o kp : Nat} {P : Nat → Nat → Int32} {tx : Nat → Int32} {len : Nat} {p : PT} {ρ : Nat → Int32} {k m tt z : Nat} (hn : 209 ≤ n) (hO : OKf f k m tt) (hz : f 2 = nI z) (z1 : 1 ≤ z) (z2 : z ≤ 12) (ho : o < 6) (hkp : kp ≤ 6) {q : Nat} (q1 : 1 ≤ q) (q2 : q ≤ 99) : XCt l G False (Cond.codeWith yL_hang bL_hang 3 (some .int) [(0, 5, 6, 15)]) yL_hang 8 133 2 12 [.ref (4), .int (nI q)] n (setCW h f o kp P tx len p ρ) (fun r' n' h' => (k < 5 ∧ r' = some (.int (nI k)) ∧ n' = n ∧ h' = setCW h (putRow (upd f 1 (f 1 + 1)) k (rNew (nI q) (f 0))) (kO o kp) (kK kp) (kP o kp P f) tx len p ρ) ∨ (k = 5 ∧ r' = some (.int (-3)) ∧ n' = n ∧ h' = setCW h f o kp P tx len p ρ)) (fun _ _ _ => False) := by
  have hk := hO.2.1
  have kI : (nI k).toInt = (k : Int) := nI_tI (by omega)
  refine XCt.ofH hfl (by decide +kernel) (Nat.le_of_ble_eq_true rfl) ?_
  intro p' e' s' m' g' b' t' c' C hret htab hmd
  refine XV.run C okL_hang 2 (q := (2, ([some (.ref (4)), some (.int (nI q)), none], [.int (nI q), .ref (4)]))) rfl ?_
  refine XV.callV C (As := [.int (nI q)]) (rest := []) (ci := 4) (ct_C_hang hfl hn hO.1 hO.2.1 hO.live ho hkp (nI q)) (xlk_ok okL_hang rfl) rfl (by omega) (by omega) rfl (cw_o) rfl wM_L_17 wI_C_hang wV_C_hang wN_C wB_C_hang hy_C_hang (fun q => q.elim) ⟨Nat.le_of_ble_eq_true rfl, Nat.le_of_ble_eq_true rfl⟩ ⟨Nat.le_of_ble_eq_true rfl, Nat.le_of_ble_eq_true rfl⟩ (Nat.le_of_ble_eq_true rfl) (fun r n h hp => ?_) (fun E n1 h1 hx => ?_)
  ·
    obtain ⟨⟨-, h5⟩, rfl, rfl, rfl⟩ := hp
    exact XV.iret C (xlk_ok okL_hang rfl) hret rfl (Nat.le_of_ble_eq_true rfl) (Nat.le_of_ble_eq_true rfl) (Or.inl ⟨h5, rfl, rfl, rfl⟩)
  ·
    obtain ⟨hx, rfl, rfl⟩ := hx
    have tq : (nI q).toInt = (q : Int) := nI_tI (by omega)
    obtain ⟨rfl, h5⟩ : E = XISE ∧ ¬ k < 5 := by
      rcases hx with ⟨-, hb⟩ | ⟨rfl, -, h5⟩
      · exfalso
        simp only [le_tI, lt_tI, tI_1, tc_99, tq] at hb
        omega
      · exact ⟨rfl, h5⟩
    refine XT.catch C (pre := []) (z := (0, 5, 6, 15)) (suf := []) (a := 2) htab rfl (fun w hw => absurd hw List.not_mem_nil) ⟨Nat.le_of_ble_eq_true rfl, Nat.le_of_ble_eq_true rfl⟩ (by decide) wC_L_15 (List.mem_of_getElem? (i := 7) rfl) (xlk_ok okL_hang (pc := 6) rfl) (Or.inr ⟨2, rfl, rfl, rfl⟩) (by decide) ?_
    refine XV.run C okL_hang 1 (q := (9, ([some (.ref (4)), some (.int (nI q)), none], [.int ((-3))]))) rfl ?_
    exact XV.iret C (xlk_ok okL_hang rfl) hret rfl (Nat.le_of_ble_eq_true rfl) (Nat.le_of_ble_eq_true rfl) (Or.inr ⟨by omega, rfl, rfl, rfl⟩)
set_option maxHeartbeats 4000000 in
set_option maxRecDepth 100000 in
theorem ct_L_trip {l : Launch} (hfl : l.stackTraces = false) {G : XG} {n : Nat} {h : XH} {f : Nat → Int32} {o kp : Nat} {P : Nat → Nat → Int32} {tx : Nat → Int32} {len : Nat} {p : PT} {ρ : Nat → Int32} {k m tt z : Nat} (hn : 209 ≤ n) (hO : OKf f k m tt) (hz : f 2 = nI z) (z1 : 1 ≤ z) (z2 : z ≤ 12) (ho : o < 6) (hkp : kp ≤ 6) {a b u : Nat} (ha : a < 8) (hb : b < 8) (u1 : 1 ≤ u) (u2 : u ≤ 99) (hT : tt + u ≤ 99999) : XCt l G False (Cond.codeWith yL_trip bL_trip 5 (some .int) [(0, 7, 8, 15)]) yL_trip 8 172 4 24 [.ref (4), .int (nI a), .int (nI b), .int (nI u)] n (setCW h f o kp P tx len p ρ) (fun r' n' h' => (¬ canK f z k = 0 ∧ r' = some (.int (f 7 + nI u)) ∧ n' = n ∧ h' = setCW h (travK f (min a b) (max a b) k (nI u)) (kO o kp) (kK kp) (kP o kp P f) tx len p ρ) ∨ (canK f z k = 0 ∧ r' = some (.int (-3)) ∧ n' = n ∧ h' = setCW h f o kp P tx len p ρ)) (fun _ _ _ => False) := by
  have hk := hO.2.1
  have kI : (nI k).toInt = (k : Int) := nI_tI (by omega)
  refine XCt.ofH hfl (by decide +kernel) (Nat.le_of_ble_eq_true rfl) ?_
  intro p' e' s' m' g' b' t' c' C hret htab hmd
  refine XV.run C okL_trip 4 (q := (4, ([some (.ref (4)), some (.int (nI a)), some (.int (nI b)), some (.int (nI u)), none], [.int (nI u), .int (nI b), .int (nI a), .ref (4)]))) rfl ?_
  refine XV.callV C (As := [.int (nI a), .int (nI b), .int (nI u)]) (rest := []) (ci := 4) (ct_C_trip hfl hn hO.1 hO.2.1 hO.live hz z1 z2 ho hkp (nI a) (nI b) (nI u)) (xlk_ok okL_trip rfl) rfl (by omega) (by omega) rfl (cw_o) rfl wM_L_9 wI_C_trip wV_C_trip wN_C wB_C_trip hy_C_trip (fun q => q.elim) ⟨Nat.le_of_ble_eq_true rfl, Nat.le_of_ble_eq_true rfl⟩ ⟨Nat.le_of_ble_eq_true rfl, Nat.le_of_ble_eq_true rfl⟩ (Nat.le_of_ble_eq_true rfl) (fun r n h hp => ?_) (fun E n1 h1 hx => ?_)
  ·
    obtain ⟨a1, b1, ⟨e1, ga, e2, gb, -, hc, -⟩, rfl, rfl, rfl⟩ := hp
    obtain rfl : a = a1 := (nI_eq (by omega) (by omega)).mp e1
    obtain rfl : b = b1 := (nI_eq (by omega) (by omega)).mp e2
    exact XV.iret C (xlk_ok okL_trip rfl) hret rfl (Nat.le_of_ble_eq_true rfl) (Nat.le_of_ble_eq_true rfl) (Or.inl ⟨hc, rfl, rfl, rfl⟩)
  ·
    obtain ⟨hx, rfl, rfl⟩ := hx
    have ta : (nI a).toInt = (a : Int) := nI_tI (by omega)
    have tb : (nI b).toInt = (b : Int) := nI_tI (by omega)
    have tu : (nI u).toInt = (u : Int) := nI_tI (by omega)
    have t7 : (f 7 + nI u).toInt = ((tt + u : Nat) : Int) := by rw [hO.2.2.2.2.1, nI_add]; exact nI_tI (by omega)
    have hle : f 7 + nI u ≤ 99999 := by rw [le_tI, t7, tc_99999]; omega
    obtain ⟨rfl, hc⟩ : E = XISE ∧ canK f z k = 0 := by
      rcases hx with ⟨-, hq⟩ | ⟨-, hq⟩ | ⟨-, hq⟩ | ⟨rfl, -, -, -, hq⟩
      · exfalso; simp only [le_tI, lt_tI, tI_0, tI_1, tc_8, tc_99, ta, tb, tu] at hq; omega
      · exfalso; simp only [le_tI, lt_tI, tI_0, tI_1, tc_8, tc_99, ta, tb, tu] at hq; omega
      · exfalso; simp only [le_tI, lt_tI, tI_0, tI_1, tc_8, tc_99, ta, tb, tu] at hq; omega
      · exact ⟨rfl, Classical.byContradiction fun q => hq ⟨q, hle⟩⟩
    refine XT.catch C (pre := []) (z := (0, 7, 8, 15)) (suf := []) (a := 4) htab rfl (fun w hw => absurd hw List.not_mem_nil) ⟨Nat.le_of_ble_eq_true rfl, Nat.le_of_ble_eq_true rfl⟩ (by decide) wC_L_15 (List.mem_of_getElem? (i := 7) rfl) (xlk_ok okL_trip (pc := 8) rfl) (Or.inl ⟨rfl, rfl⟩) (by decide) ?_
    refine XV.run C okL_trip 1 (q := (12, ([some (.ref (4)), some (.int (nI a)), some (.int (nI b)), some (.int (nI u)), none], [.int ((-3))]))) rfl ?_
    exact XV.iret C (xlk_ok okL_trip rfl) hret rfl (Nat.le_of_ble_eq_true rfl) (Nat.le_of_ble_eq_true rfl) (Or.inr ⟨hc, rfl, rfl, rfl⟩)
set_option maxHeartbeats 4000000 in
set_option maxRecDepth 100000 in
theorem ct_L_undo {l : Launch} (hfl : l.stackTraces = false) {G : XG} {n : Nat} {h : XH} {f : Nat → Int32} {o kp : Nat} {P : Nat → Nat → Int32} {tx : Nat → Int32} {len : Nat} {p : PT} {ρ : Nat → Int32} {k m tt z : Nat} (hn : 209 ≤ n) (hO : OKf f k m tt) (hz : f 2 = nI z) (z1 : 1 ≤ z) (z2 : z ≤ 12) (ho : o < 6) (hkp : kp ≤ 6) : XCt l G False (Cond.codeWith yL_undo bL_undo 2 (some .int) [(0, 4, 5, 15)]) yL_undo 7 113 1 6 [.ref (4)] n (setCW h f o kp P tx len p ρ) (fun r' n' h' => (∃ j, kp = j + 1 ∧ r' = some (.int (nI j)) ∧ n' = n ∧ h' = setCW h (P ((o + j) % 6)) o j P tx len p ρ) ∨ (kp = 0 ∧ r' = some (.int (-3)) ∧ n' = n ∧ h' = setCW h f o kp P tx len p ρ)) (fun _ _ _ => False) := by
  have hk := hO.2.1
  have kI : (nI k).toInt = (k : Int) := nI_tI (by omega)
  refine XCt.ofH hfl (by decide +kernel) (Nat.le_of_ble_eq_true rfl) ?_
  intro p' e' s' m' g' b' t' c' C hret htab hmd
  refine XV.run C okL_undo 1 (q := (1, ([some (.ref (4)), none], [.ref (4)]))) rfl ?_
  refine XV.callV C (As := []) (rest := []) (ci := 4) (ct_C_undo hfl hn ho hkp) (xlk_ok okL_undo rfl) rfl (by omega) (by omega) rfl (cw_o) rfl wM_L_21 wI_C_undo wV_C_undo wN_C wB_C_undo hy_C_undo (fun q => q.elim) ⟨Nat.le_of_ble_eq_true rfl, Nat.le_of_ble_eq_true rfl⟩ ⟨Nat.le_of_ble_eq_true rfl, Nat.le_of_ble_eq_true rfl⟩ (Nat.le_of_ble_eq_true rfl) (fun r n h hp => ?_) (fun E n1 h1 hx => ?_)
  ·
    obtain ⟨j, rfl, rfl, rfl, rfl⟩ := hp
    exact XV.iret C (xlk_ok okL_undo rfl) hret rfl (Nat.le_of_ble_eq_true rfl) (Nat.le_of_ble_eq_true rfl) (Or.inl ⟨j, rfl, rfl, rfl, rfl⟩)
  ·
    obtain ⟨⟨rfl, hc⟩, rfl, rfl⟩ := hx
    refine XT.catch C (pre := []) (z := (0, 4, 5, 15)) (suf := []) (a := 1) htab rfl (fun w hw => absurd hw List.not_mem_nil) ⟨Nat.le_of_ble_eq_true rfl, Nat.le_of_ble_eq_true rfl⟩ (by decide) wC_L_15 (List.mem_of_getElem? (i := 7) rfl) (xlk_ok okL_undo (pc := 5) rfl) (Or.inr ⟨1, rfl, rfl, rfl⟩) (by decide) ?_
    refine XV.run C okL_undo 1 (q := (8, ([some (.ref (4)), none], [.int ((-3))]))) rfl ?_
    exact XV.iret C (xlk_ok okL_undo rfl) hret rfl (Nat.le_of_ble_eq_true rfl) (Nat.le_of_ble_eq_true rfl) (Or.inr ⟨hc, rfl, rfl, rfl⟩)
end
section
/-! what the law's rope and lift ask -/
theorem OKf.tt {f : Nat → Int32} {k m tt : Nat} (h : OKf f k m tt) : tt ≤ 99999 := h.2.2.2.2.2.1
theorem fg_trips {f : Nat → Int32} {k m tt i z kp : Nat} (h : OKf f k m tt) (hi : i < k) : ¬ countFigK f z k kp 4 < ropeFigK f (rowOf f i) z 9 := by
  show ¬ f 7 < rowOf f i 2
  obtain ⟨q, u, t, h0, h1, h2, g1, g2, g3, g4, h3⟩ := h.row hi
  have := h.tt
  rw [h.2.2.2.2.1, g3]
  exact nI_nlt g4 (by omega)
theorem fg_hung {f : Nat → Int32} {k m tt i z kp : Nat} (h : OKf f k m tt) (hi : i < k) : ¬ countFigK f z k kp 0 < ropeFigK f (rowOf f i) z 1 := by
  show ¬ f 0 < rowOf f i 1
  obtain ⟨q, u, t, h0, h1, h2, g1, g2, g3, g4, h3⟩ := h.row hi
  have := h.2.2.2.1
  rw [h.2.2.1, g1]
  exact nI_nlt g2 (by omega)
theorem sg_q {f : Nat → Int32} {k m tt i z : Nat} (h : OKf f k m tt) (hi : i < k) : ¬ ropeFigK f (rowOf f i) z 0 = 0 := ne_of_gt (h.live i hi)
theorem sg_1 {f : Nat → Int32} {i z s : Nat} : secF (rowOf f i) s 1 = secF (rowOf f i) s 0 / ropeFigK f (rowOf f i) z 0 := rfl
theorem sg_2 {f : Nat → Int32} {k m tt i s : Nat} (h : OKf f k m tt) (hi : i < k) (hs : s < 24) : ¬ secF (rowOf f i) s 1 < secF (rowOf f i) s 2 := by
  obtain ⟨c, v, e1, e2, e3, e4⟩ := (h.row hi).bk h.tt hs
  show ¬ colR (rowOf f i) true s < colR (rowOf f i) false s
  rw [e1, e2]
  exact nI_nlt e3 (by omega)
theorem sg_3 {f : Nat → Int32} {k m tt i s : Nat} (h : OKf f k m tt) (hi : i < k) (hs : s < 24) : ¬ secF (rowOf f i) s 2 < secF (rowOf f i) s 3 := by
  obtain ⟨q, u, t, h0, h1, h2, g1, g2, g3, g4, h3⟩ := h.row hi
  obtain ⟨b, c, a, d, e1, e2, e3, e4, e5, e6, e7, e8, e9⟩ := h3 s hs
  have h5 := Nat.div_le_self b q
  have := h.tt
  show ¬ rowOf f i (27 + s) < rowOf f i (51 + s)
  rw [e3, e5]
  exact nI_nlt e6 (by omega)
theorem sg_4 {f : Nat → Int32} {k m tt i s z : Nat} (h : OKf f k m tt) (hi : i < k) (hs : s < 24) : ¬ ropeFigK f (rowOf f i) z 9 < secF (rowOf f i) s 0 := by
  obtain ⟨q, u, t, h0, h1, h2, g1, g2, g3, g4, h3⟩ := h.row hi
  obtain ⟨b, c, a, d, e1, e2, e3, e4, e5, e6, e7, e8, e9⟩ := h3 s hs
  have := h.tt
  show ¬ rowOf f i 2 < rowOf f i (3 + s)
  rw [g3, e1]
  exact nI_nlt e2 (by omega)
theorem sg_5 {f : Nat → Int32} {k m tt i s z : Nat} (h : OKf f k m tt) (hi : i < k) (hs : s < 24) : ¬ secF (rowOf f i) s 4 < ropeFigK f (rowOf f i) z 1 := by
  obtain ⟨q, u, t, h0, h1, h2, g1, g2, g3, g4, h3⟩ := h.row hi
  obtain ⟨b, c, a, d, e1, e2, e3, e4, e5, e6, e7, e8, e9⟩ := h3 s hs
  have := h.2.2.2.1
  show ¬ rowOf f i (75 + s) < rowOf f i 1
  rw [g1, e7]
  exact nI_nlt e8 (by omega)
theorem sg_6 {f : Nat → Int32} {k m tt i s z kp : Nat} (h : OKf f k m tt) (hi : i < k) (hs : s < 24) : ¬ countFigK f z k kp 0 < secF (rowOf f i) s 4 := by
  obtain ⟨q, u, t, h0, h1, h2, g1, g2, g3, g4, h3⟩ := h.row hi
  obtain ⟨b, c, a, d, e1, e2, e3, e4, e5, e6, e7, e8, e9⟩ := h3 s hs
  have := h.2.2.2.1
  show ¬ f 0 < rowOf f i (75 + s)
  rw [h.2.2.1, e7]
  exact nI_nlt e9 (by omega)
theorem th_s (r : Nat → Int32) (j : Nat) : sumN (colR r true) 0 j + secF r j 1 = sumN (colR r true) 0 (j + 1) := by
  show _ = sumN (colR r true) 0 j + colR r true (0 + j)
  rw [Nat.zero_add]
  rfl
theorem ct_s (r : Nat → Int32) (j : Nat) : sumN (colR r false) 0 j + secF r j 2 = sumN (colR r false) 0 (j + 1) := by
  show _ = sumN (colR r false) 0 j + colR r false (0 + j)
  rw [Nat.zero_add]
  rfl
theorem fg_2 (f r : Nat → Int32) (z : Nat) : ropeFigK f r z 2 = sumN (colR r false) 0 24 := rfl
theorem fg_3 (f r : Nat → Int32) (z : Nat) : ropeFigK f r z 3 = sumN (colR r true) 0 24 := rfl
theorem fg_46 {f : Nat → Int32} {k m tt i z : Nat} (h : OKf f k m tt) (hi : i < k) (z2 : z ≤ 12) : ¬ ropeFigK f (rowOf f i) z 6 < ropeFigK f (rowOf f i) z 4 := i_nlt ((h.row hi).gmx_le h.tt z2)
theorem fg_win {f : Nat → Int32} {k m tt i z : Nat} (h : OKf f k m tt) (hi : i < k) (z2 : z ≤ 12) : winS (rowOf f i) (decide (0 = 1)) z (gwinK (rowOf f i) z) = ropeFigK f (rowOf f i) z 4 := ((h.row hi).gwin h.tt z2).2
theorem fg_87 {f r : Nat → Int32} {z : Nat} (h : ¬ ropeFigK f r z 8 = 0) : ¬ ropeFigK f r z 7 = 4 := by
  have h8 : ¬ mleftK f r = 0 := h
  show ¬ reasonK f r z = 4
  unfold reasonK
  rw [if_neg h8]
  split
  · decide
  · split
    · decide
    · split <;> decide
theorem fg_71 {f r : Nat → Int32} {z : Nat} (h : ropeFigK f r z 7 = 1) : ¬ ropeFigK f r z 4 < f (2 + 1) := by
  have h1 : reasonK f r z = 1 := h
  show ¬ gmx (winS r false z) (25 - z) < f 3
  unfold reasonK at h1
  by_cases q : f 3 ≤ gmx (winS r false z) (25 - z)
  · exact i_nlt q
  · rw [if_neg q] at h1
    exfalso
    revert h1
    split
    · decide
    · split
      · decide
      · split <;> decide
theorem fg_t0 {f : Nat → Int32} {k m tt i z : Nat} (h : OKf f k m tt) (hi : i < k) (hz : f 2 = nI z) (z1 : 1 ≤ z) (z2 : z ≤ 12) (ht : tlK f (rowOf f i) z 32 0 (f 3 * rowOf f i 0) = 0) : ¬ ropeFigK f (rowOf f i) z 6 < f (2 + 1) := i_nlt ((tl_zero h.2.2.2.2.2.2.1 hz z1 z2 (h.row hi) h.tt).mp ht)
theorem fg_t1 {f : Nat → Int32} {k m tt i z : Nat} (h : OKf f k m tt) (hi : i < k) (hz : f 2 = nI z) (z1 : 1 ≤ z) (z2 : z ≤ 12) (ht : ¬ tlK f (rowOf f i) z 32 0 (f 3 * rowOf f i 0) = 0) : ropeFigK f (rowOf f i) z 6 < f (2 + 1) := i_lt (fun q => ht ((tl_zero h.2.2.2.2.2.2.1 hz z1 z2 (h.row hi) h.tt).mpr q))
theorem ret_t {f : Nat → Int32} {z j : Nat} (h : ¬ ropeFigK f (rowOf f j) z 7 = 0) : nI (retK f z j) + 1 = nI (retK f z (j + 1)) := by
  have h1 : ¬ reasonK f (rowOf f j) z = 0 := h
  show _ = nI (if reasonK f (rowOf f j) z = 0 then retK f z j else retK f z j + 1)
  rw [if_neg h1, nI_1]
theorem ret_f {f : Nat → Int32} {z j : Nat} (h : ropeFigK f (rowOf f j) z 7 = 0) : nI (retK f z j) + 0 = nI (retK f z (j + 1)) := by
  have h1 : reasonK f (rowOf f j) z = 0 := h
  show _ = nI (if reasonK f (rowOf f j) z = 0 then retK f z j else retK f z j + 1)
  rw [if_pos h1, Int32.add_zero]
theorem sr_t (f : Nat → Int32) (z j : Nat) : sumRK f true j + ropeFigK f (rowOf f j) z 3 = sumRK f true (j + 1) := by
  show _ = sumRK f true j + sumN (colR (rowOf f (0 + j)) true) 0 24
  rw [Nat.zero_add]
  rfl
theorem sr_f (f : Nat → Int32) (z j : Nat) : sumRK f false j + ropeFigK f (rowOf f j) z 2 = sumRK f false (j + 1) := by
  show _ = sumRK f false j + sumN (colR (rowOf f (0 + j)) false) 0 24
  rw [Nat.zero_add]
  rfl
theorem lu_ok (f : Nat → Int32) (z : Nat) : ∀ d j, luK f z d j = -1 ∨ ∃ i, i < j + d ∧ luK f z d j = nI i ∧ unsK f z i = true
  | 0, j => Or.inl rfl
  | d + 1, j => by
    by_cases hu : unsK f z j = true
    · exact Or.inr ⟨j, by omega, luK_t hu, hu⟩
    · rw [Bool.not_eq_true] at hu
      rw [luK_f hu]
      rcases lu_ok f z d (j + 1) with q | ⟨i, q1, q2, q3⟩
      · exact Or.inl q
      · exact Or.inr ⟨i, by omega, q2, q3⟩
theorem uns_0 {f : Nat → Int32} {z i : Nat} (h : unsK f z i = true) : ropeFigK f (rowOf f i) z 7 = 0 := (of_decide_eq_true h).1
theorem uns_1 {f : Nat → Int32} {z i : Nat} (h : unsK f z i = true) : ¬ reasonK f (lookR f (rowOf f i)) z ≤ 0 := by
  rcases (of_decide_eq_true h).2 with q | q
  · rw [q]; decide
  · rw [q]; decide
theorem ne_m1 {i : Nat} (h : i < 100) : ¬ nI i = -1 := by
  intro q
  have h1 := congrArg Int32.toInt q
  rw [nI_tI (by omega), show (-1 : Int32).toInt = -1 from by decide] at h1
  omega
theorem c3_0 {f : Nat → Int32} {z k kp : Nat} (hk : k ≤ 5) (h : nI k ≤ 1) : countFigK f z k kp 3 = 0 := by
  have h1 : k ≤ 1 := (nI_leI (b := 1) (by omega) (by omega)).mp h
  show (if canK f z k = 0 then (0 : Int32) else 1) = 0
  unfold canK
  rw [if_pos (show k < 2 by omega), if_pos rfl]
theorem c3_1 {f : Nat → Int32} {z k kp : Nat} (hk : k ≤ 5) (h : ¬ nI (retK f z k) = 0) : countFigK f z k kp 3 = 0 := by
  have h1 : ¬ retK f z k = 0 := fun q => h (by rw [q, nI_0])
  show (if canK f z k = 0 then (0 : Int32) else 1) = 0
  unfold canK
  rw [if_neg h1]
  split <;> rfl
theorem c3_2 {f : Nat → Int32} {z k kp : Nat} (hk : k ≤ 5) (h1 : ¬ nI k ≤ 1) (h : nI (retK f z k) = 0) : countFigK f z k kp 3 = 1 := by
  have h2 : ¬ k ≤ 1 := fun q => h1 (nI_le (b := 1) q (by omega))
  have h3 := retK_le f z k
  rw [← nI_0, nI_eq (by omega) (by omega)] at h
  show (if canK f z k = 0 then (0 : Int32) else 1) = 1
  unfold canK
  rw [if_neg (show ¬ k < 2 by omega), if_pos h]
  rfl
end
section
/-! RopeThreadsLaw: rope -/
set_option maxHeartbeats 4000000 in
set_option maxRecDepth 100000 in
theorem ct_L_rope {l : Launch} (hfl : l.stackTraces = false) {G : XG} {n : Nat} {h : XH} {f : Nat → Int32} {o kp : Nat} {P : Nat → Nat → Int32} {tx : Nat → Int32} {len : Nat} {p : PT} {ρ : Nat → Int32} {k m tt z : Nat} (hn : 209 ≤ n) (hO : OKf f k m tt) (hz : f 2 = nI z) (z1 : 1 ≤ z) (z2 : z ≤ 12) (ho : o < 6) (hkp : kp ≤ 6) {i : Nat} (hi : i < k) : XCt l G False (Cond.code yL_rope bL_rope 6 (some .boolean)) yL_rope 8 170 1000 6000 [.ref (4), .int (nI i)] n (setCW h f o kp P tx len p ρ) (fun r' n' h' => r' = some (.int 1) ∧ n' = n ∧ ∃ ρ', h' = setCW h f o kp P tx len p ρ') (fun _ _ _ => False) := by
  have hk := hO.2.1
  
  refine XCt.of hfl (by decide +kernel) (Nat.le_of_ble_eq_true rfl) ?_
  intro p' e' s' m' g' b' t' c' C hret hname hnt hmd
  refine XV.run C okL_rope 7 (q := (8, ([some (.ref (4)), some (.int (nI i)), some (.int (0)), some (.int (0)), none, none], [.int (9), .int (nI i), .ref (4)]))) rfl ?_
  refine XV.callV C (As := [.int (nI i), .int (9)]) (rest := []) (ci := 4) (ct_D_rope hfl hn hO hz z1 z2 ho hkp (i := i) (w := 9) (by first | assumption | omega) (by decide)) (xlk_ok okL_rope rfl) rfl (by omega) (by omega) rfl (cw_o) rfl wM_L_25 wI_C_rope wV_C_rope wN_C wB_C_rope hy_C_rope (fun q => q.elim) ⟨Nat.le_of_ble_eq_true rfl, Nat.le_of_ble_eq_true rfl⟩ ⟨by show _ ≤ 1000; omega, by show _ ≤ 6000; omega⟩ (Nat.le_of_ble_eq_true rfl) (fun r n h hp => ?_) (fun _ _ _ q => q.elim)
  obtain ⟨rfl, rfl, rfl⟩ := hp
  refine XV.run C okL_rope 2 (q := (13, ([some (.ref (4)), some (.int (nI i)), some (.int (0)), some (.int (0)), none, none], [.int (4), .ref (4), .int (ropeFigK f (rowOf f i) z 9)]))) rfl ?_
  refine XV.callV C (As := [.int (4)]) (rest := [.int (ropeFigK f (rowOf f i) z 9)]) (ci := 4) (ct_D_count hfl hn hO hz z1 z2 ho hkp (w := 4) (by decide)) (xlk_ok okL_rope rfl) rfl (by omega) (by omega) rfl (cw_o) rfl wM_L_29 wI_C_count wV_C_count wN_C wB_C_count hy_C_count (fun q => q.elim) ⟨Nat.le_of_ble_eq_true rfl, Nat.le_of_ble_eq_true rfl⟩ ⟨by show _ ≤ 1000; omega, by show _ ≤ 6000; omega⟩ (Nat.le_of_ble_eq_true rfl) (fun r n h hp => ?_) (fun _ _ _ q => q.elim)
  obtain ⟨rfl, rfl, rfl⟩ := hp
  refine XV.icmp_gt C (tgt := 37) (xlk_ok okL_rope rfl) rfl (fun hc => absurd hc (fg_trips hO hi)) (fun _ => ?_)
  refine XV.run C okL_rope 3 (q := (22, ([some (.ref (4)), some (.int (nI i)), some (.int (0)), some (.int (0)), none, none], [.int (1), .int (nI i), .ref (4)]))) rfl ?_
  refine XV.callV C (As := [.int (nI i), .int (1)]) (rest := []) (ci := 4) (ct_D_rope hfl hn hO hz z1 z2 ho hkp (i := i) (w := 1) (by first | assumption | omega) (by decide)) (xlk_ok okL_rope rfl) rfl (by omega) (by omega) rfl (cw_o) rfl wM_L_25 wI_C_rope wV_C_rope wN_C wB_C_rope hy_C_rope (fun q => q.elim) ⟨Nat.le_of_ble_eq_true rfl, Nat.le_of_ble_eq_true rfl⟩ ⟨by show _ ≤ 1000; omega, by show _ ≤ 6000; omega⟩ (Nat.le_of_ble_eq_true rfl) (fun r n h hp => ?_) (fun _ _ _ q => q.elim)
  obtain ⟨rfl, rfl, rfl⟩ := hp
  refine XV.run C okL_rope 2 (q := (27, ([some (.ref (4)), some (.int (nI i)), some (.int (0)), some (.int (0)), none, none], [.int (0), .ref (4), .int (ropeFigK f (rowOf f i) z 1)]))) rfl ?_
  refine XV.callV C (As := [.int (0)]) (rest := [.int (ropeFigK f (rowOf f i) z 1)]) (ci := 4) (ct_D_count hfl hn hO hz z1 z2 ho hkp (w := 0) (by decide)) (xlk_ok okL_rope rfl) rfl (by omega) (by omega) rfl (cw_o) rfl wM_L_29 wI_C_count wV_C_count wN_C wB_C_count hy_C_count (fun q => q.elim) ⟨Nat.le_of_ble_eq_true rfl, Nat.le_of_ble_eq_true rfl⟩ ⟨by show _ ≤ 1000; omega, by show _ ≤ 6000; omega⟩ (Nat.le_of_ble_eq_true rfl) (fun r n h hp => ?_) (fun _ _ _ q => q.elim)
  obtain ⟨rfl, rfl, rfl⟩ := hp
  refine XV.icmp_gt C (tgt := 37) (xlk_ok okL_rope rfl) rfl (fun hc => absurd hc (fg_hung hO hi)) (fun _ => ?_)
  refine XV.run C okL_rope 5 (q := (43, ([some (.ref (4)), some (.int (nI i)), some (.int (0)), some (.int (0)), some (.int (1)), some (.int (0))], []))) rfl ?_
  have loop : ∀ (d j : Nat), j + d = 24 → XV G 6 p' l e' ({ frames := 8, cells := 1000, slots := 6000, locals := 170 } : Room) s' m' g' b' t' c' (XEnd G b' (fun r' n' h' => r' = some (.int 1) ∧ n' = n ∧ ∃ ρ', h' = setCW h f o kp P tx len p ρ') (fun _ _ _ => False) g' s' 1000 6000) 43 [some (.ref (4)), some (.int (nI i)), some (.int (sumN (colR (rowOf f i) true) 0 j)), some (.int (sumN (colR (rowOf f i) false) 0 j)), some (.int (1)), some (.int (nI j))] [] n (setCW h f o kp P tx len p ρ) (6 + 40 * j) (36 + 240 * j) := by
    intro d
    induction d with
    | zero =>
      intro j hj
      refine XV.run C okL_rope 2 (q := (47, ([some (.ref (4)), some (.int (nI i)), some (.int (sumN (colR (rowOf f i) true) 0 j)), some (.int (sumN (colR (rowOf f i) false) 0 j)), some (.int (1)), some (.int (nI j))], [.int (24), .int (nI j)]))) rfl ?_
      refine XV.icmp_ge C (tgt := 217) (xlk_ok okL_rope rfl) rfl (fun _ => ?_) (fun hc => absurd (nI_le (a := 24) (by omega) (by omega)) hc)
      obtain rfl : 24 = j := by omega
      refine XV.run C okL_rope 1 (q := (219, ([some (.ref (4)), some (.int (nI i)), some (.int (sumN (colR (rowOf f i) true) 0 24)), some (.int (sumN (colR (rowOf f i) false) 0 24)), some (.int (1)), some (.int (nI 24))], [.int (1)]))) rfl ?_
      refine XV.if_eq C (tgt := 283) (xlk_ok okL_rope rfl) rfl (fun hc => absurd hc (by decide)) (fun _ => ?_)
      refine XV.run C okL_rope 3 (q := (225, ([some (.ref (4)), some (.int (nI i)), some (.int (sumN (colR (rowOf f i) true) 0 24)), some (.int (sumN (colR (rowOf f i) false) 0 24)), some (.int (1)), some (.int (nI 24))], [.int (2), .int (nI i), .ref (4)]))) rfl ?_
      refine XV.callV C (As := [.int (nI i), .int (2)]) (rest := []) (ci := 4) (ct_D_rope hfl hn hO hz z1 z2 ho hkp (i := i) (w := 2) (by first | assumption | omega) (by decide)) (xlk_ok okL_rope rfl) rfl (by omega) (by omega) rfl (cw_o) rfl wM_L_25 wI_C_rope wV_C_rope wN_C wB_C_rope hy_C_rope (fun q => q.elim) ⟨Nat.le_of_ble_eq_true rfl, Nat.le_of_ble_eq_true rfl⟩ ⟨by show _ ≤ 1000; omega, by show _ ≤ 6000; omega⟩ (Nat.le_of_ble_eq_true rfl) (fun r n h hp => ?_) (fun _ _ _ q => q.elim)
      obtain ⟨rfl, rfl, rfl⟩ := hp
      refine XV.run C okL_rope 1 (q := (229, ([some (.ref (4)), some (.int (nI i)), some (.int (sumN (colR (rowOf f i) true) 0 24)), some (.int (sumN (colR (rowOf f i) false) 0 24)), some (.int (1)), some (.int (nI 24))], [.int (sumN (colR (rowOf f i) false) 0 24), .int (ropeFigK f (rowOf f i) z 2)]))) rfl ?_
      refine XV.icmp_ne C (tgt := 283) (xlk_ok okL_rope rfl) rfl (fun hc => absurd (fg_2 _ _ _) hc) (fun _ => ?_)
      refine XV.run C okL_rope 3 (q := (235, ([some (.ref (4)), some (.int (nI i)), some (.int (sumN (colR (rowOf f i) true) 0 24)), some (.int (sumN (colR (rowOf f i) false) 0 24)), some (.int (1)), some (.int (nI 24))], [.int (3), .int (nI i), .ref (4)]))) rfl ?_
      refine XV.callV C (As := [.int (nI i), .int (3)]) (rest := []) (ci := 4) (ct_D_rope hfl hn hO hz z1 z2 ho hkp (i := i) (w := 3) (by first | assumption | omega) (by decide)) (xlk_ok okL_rope rfl) rfl (by omega) (by omega) rfl (cw_o) rfl wM_L_25 wI_C_rope wV_C_rope wN_C wB_C_rope hy_C_rope (fun q => q.elim) ⟨Nat.le_of_ble_eq_true rfl, Nat.le_of_ble_eq_true rfl⟩ ⟨by show _ ≤ 1000; omega, by show _ ≤ 6000; omega⟩ (Nat.le_of_ble_eq_true rfl) (fun r n h hp => ?_) (fun _ _ _ q => q.elim)
      obtain ⟨rfl, rfl, rfl⟩ := hp
      refine XV.run C okL_rope 1 (q := (239, ([some (.ref (4)), some (.int (nI i)), some (.int (sumN (colR (rowOf f i) true) 0 24)), some (.int (sumN (colR (rowOf f i) false) 0 24)), some (.int (1)), some (.int (nI 24))], [.int (sumN (colR (rowOf f i) true) 0 24), .int (ropeFigK f (rowOf f i) z 3)]))) rfl ?_
      refine XV.icmp_ne C (tgt := 283) (xlk_ok okL_rope rfl) rfl (fun hc => absurd (fg_3 _ _ _) hc) (fun _ => ?_)
      refine XV.run C okL_rope 3 (q := (245, ([some (.ref (4)), some (.int (nI i)), some (.int (sumN (colR (rowOf f i) true) 0 24)), some (.int (sumN (colR (rowOf f i) false) 0 24)), some (.int (1)), some (.int (nI 24))], [.int (4), .int (nI i), .ref (4)]))) rfl ?_
      refine XV.callV C (As := [.int (nI i), .int (4)]) (rest := []) (ci := 4) (ct_D_rope hfl hn hO hz z1 z2 ho hkp (i := i) (w := 4) (by first | assumption | omega) (by decide)) (xlk_ok okL_rope rfl) rfl (by omega) (by omega) rfl (cw_o) rfl wM_L_25 wI_C_rope wV_C_rope wN_C wB_C_rope hy_C_rope (fun q => q.elim) ⟨Nat.le_of_ble_eq_true rfl, Nat.le_of_ble_eq_true rfl⟩ ⟨by show _ ≤ 1000; omega, by show _ ≤ 6000; omega⟩ (Nat.le_of_ble_eq_true rfl) (fun r n h hp => ?_) (fun _ _ _ q => q.elim)
      obtain ⟨rfl, rfl, rfl⟩ := hp
      refine XV.run C okL_rope 3 (q := (252, ([some (.ref (4)), some (.int (nI i)), some (.int (sumN (colR (rowOf f i) true) 0 24)), some (.int (sumN (colR (rowOf f i) false) 0 24)), some (.int (1)), some (.int (nI 24))], [.int (6), .int (nI i), .ref (4), .int (ropeFigK f (rowOf f i) z 4)]))) rfl ?_
      refine XV.callV C (As := [.int (nI i), .int (6)]) (rest := [.int (ropeFigK f (rowOf f i) z 4)]) (ci := 4) (ct_D_rope hfl hn hO hz z1 z2 ho hkp (i := i) (w := 6) (by first | assumption | omega) (by decide)) (xlk_ok okL_rope rfl) rfl (by omega) (by omega) rfl (cw_o) rfl wM_L_25 wI_C_rope wV_C_rope wN_C wB_C_rope hy_C_rope (fun q => q.elim) ⟨Nat.le_of_ble_eq_true rfl, Nat.le_of_ble_eq_true rfl⟩ ⟨by show _ ≤ 1000; omega, by show _ ≤ 6000; omega⟩ (Nat.le_of_ble_eq_true rfl) (fun r n h hp => ?_) (fun _ _ _ q => q.elim)
      obtain ⟨rfl, rfl, rfl⟩ := hp
      refine XV.icmp_gt C (tgt := 283) (xlk_ok okL_rope rfl) rfl (fun hc => absurd hc (fg_46 hO hi z2)) (fun _ => ?_)
      refine XV.run C okL_rope 5 (q := (263, ([some (.ref (4)), some (.int (nI i)), some (.int (sumN (colR (rowOf f i) true) 0 24)), some (.int (sumN (colR (rowOf f i) false) 0 24)), some (.int (1)), some (.int (nI 24))], [.int (5), .int (nI i), .ref (4), .int (nI i), .ref (4)]))) rfl ?_
      refine XV.callV C (As := [.int (nI i), .int (5)]) (rest := [.int (nI i), .ref (4)]) (ci := 4) (ct_D_rope hfl hn hO hz z1 z2 ho hkp (i := i) (w := 5) (by first | assumption | omega) (by decide)) (xlk_ok okL_rope rfl) rfl (by omega) (by omega) rfl (cw_o) rfl wM_L_25 wI_C_rope wV_C_rope wN_C wB_C_rope hy_C_rope (fun q => q.elim) ⟨Nat.le_of_ble_eq_true rfl, Nat.le_of_ble_eq_true rfl⟩ ⟨by show _ ≤ 1000; omega, by show _ ≤ 6000; omega⟩ (Nat.le_of_ble_eq_true rfl) (fun r n h hp => ?_) (fun _ _ _ q => q.elim)
      obtain ⟨rfl, rfl, rfl⟩ := hp
      refine XV.run C okL_rope 1 (q := (267, ([some (.ref (4)), some (.int (nI i)), some (.int (sumN (colR (rowOf f i) true) 0 24)), some (.int (sumN (colR (rowOf f i) false) 0 24)), some (.int (1)), some (.int (nI 24))], [.int (0), .int (nI (gwinK (rowOf f i) z)), .int (nI i), .ref (4)]))) rfl ?_
      refine XV.callV C (As := [.int (nI i), .int (nI (gwinK (rowOf f i) z)), .int (0)]) (rest := []) (ci := 4) (ct_D_window hfl hn hO hz z1 z2 ho hkp (i := i) (j := (gwinK (rowOf f i) z)) (w := 0) (by first | assumption | omega) ((hO.row (by first | assumption | omega)).gwin hO.tt z2).1 (by decide)) (xlk_ok okL_rope rfl) rfl (by omega) (by omega) rfl (cw_o) rfl wM_L_35 wI_C_window wV_C_window wN_C wB_C_window hy_C_window (fun q => q.elim) ⟨Nat.le_of_ble_eq_true rfl, Nat.le_of_ble_eq_true rfl⟩ ⟨by show _ ≤ 1000; omega, by show _ ≤ 6000; omega⟩ (Nat.le_of_ble_eq_true rfl) (fun r n h hp => ?_) (fun _ _ _ q => q.elim)
      obtain ⟨rfl, rfl, rfl⟩ := hp
      refine XV.run C okL_rope 3 (q := (273, ([some (.ref (4)), some (.int (nI i)), some (.int (sumN (colR (rowOf f i) true) 0 24)), some (.int (sumN (colR (rowOf f i) false) 0 24)), some (.int (1)), some (.int (nI 24))], [.int (4), .int (nI i), .ref (4), .int (winS (rowOf f i) (decide (0 = 1)) z (gwinK (rowOf f i) z))]))) rfl ?_
      refine XV.callV C (As := [.int (nI i), .int (4)]) (rest := [.int (winS (rowOf f i) (decide (0 = 1)) z (gwinK (rowOf f i) z))]) (ci := 4) (ct_D_rope hfl hn hO hz z1 z2 ho hkp (i := i) (w := 4) (by first | assumption | omega) (by decide)) (xlk_ok okL_rope rfl) rfl (by omega) (by omega) rfl (cw_o) rfl wM_L_25 wI_C_rope wV_C_rope wN_C wB_C_rope hy_C_rope (fun q => q.elim) ⟨Nat.le_of_ble_eq_true rfl, Nat.le_of_ble_eq_true rfl⟩ ⟨by show _ ≤ 1000; omega, by show _ ≤ 6000; omega⟩ (Nat.le_of_ble_eq_true rfl) (fun r n h hp => ?_) (fun _ _ _ q => q.elim)
      obtain ⟨rfl, rfl, rfl⟩ := hp
      refine XV.icmp_ne C (tgt := 283) (xlk_ok okL_rope rfl) rfl (fun hc => absurd (fg_win hO hi z2) hc) (fun _ => ?_)
      refine XV.run C okL_rope 4 (q := (288, ([some (.ref (4)), some (.int (nI i)), some (.int (sumN (colR (rowOf f i) true) 0 24)), some (.int (sumN (colR (rowOf f i) false) 0 24)), some (.int (1)), some (.int (nI 24))], [.int (1)]))) rfl ?_
      refine XV.if_eq C (tgt := 352) (xlk_ok okL_rope rfl) rfl (fun hc => absurd hc (by decide)) (fun _ => ?_)
      refine XV.run C okL_rope 3 (q := (295, ([some (.ref (4)), some (.int (nI i)), some (.int (sumN (colR (rowOf f i) true) 0 24)), some (.int (sumN (colR (rowOf f i) false) 0 24)), some (.int (1)), some (.int (nI 24))], [.int (8), .int (nI i), .ref (4)]))) rfl ?_
      refine XV.callV C (As := [.int (nI i), .int (8)]) (rest := []) (ci := 4) (ct_D_rope hfl hn hO hz z1 z2 ho hkp (i := i) (w := 8) (by first | assumption | omega) (by decide)) (xlk_ok okL_rope rfl) rfl (by omega) (by omega) rfl (cw_o) rfl wM_L_25 wI_C_rope wV_C_rope wN_C wB_C_rope hy_C_rope (fun q => q.elim) ⟨Nat.le_of_ble_eq_true rfl, Nat.le_of_ble_eq_true rfl⟩ ⟨by show _ ≤ 1000; omega, by show _ ≤ 6000; omega⟩ (Nat.le_of_ble_eq_true rfl) (fun r n h hp => ?_) (fun _ _ _ q => q.elim)
      obtain ⟨rfl, rfl, rfl⟩ := hp
      refine XV.if_eq C (tgt := 312) (xlk_ok okL_rope rfl) rfl (fun c8 => ?_) (fun c8 => ?_)
      ·
        refine XV.run C okL_rope 2 (q := (314, ([some (.ref (4)), some (.int (nI i)), some (.int (sumN (colR (rowOf f i) true) 0 24)), some (.int (sumN (colR (rowOf f i) false) 0 24)), some (.int (1)), some (.int (nI 24))], [.int (nI i), .ref (4)]))) rfl ?_
        refine XV.callV C (As := [.int (nI i)]) (rest := []) (ci := 4) (ct_D_tripsLeft hfl hn hO hz z1 z2 ho hkp (i := i) (by first | assumption | omega)) (xlk_ok okL_rope rfl) rfl (by omega) (by omega) rfl (cw_o) rfl wM_L_38 wI_C_tripsLeft wV_C_tripsLeft wN_C wB_C_tripsLeft hy_C_tripsLeft (fun q => q.elim) ⟨Nat.le_of_ble_eq_true rfl, Nat.le_of_ble_eq_true rfl⟩ ⟨by show _ ≤ 1000; omega, by show _ ≤ 6000; omega⟩ (Nat.le_of_ble_eq_true rfl) (fun r n h hp => ?_) (fun _ _ _ q => q.elim)
        obtain ⟨rfl, rfl, ρ1, rfl⟩ := hp
        refine XV.if_ne C (tgt := 324) (xlk_ok okL_rope rfl) rfl (fun ct => ?_) (fun ct => ?_)
        ·
          refine XV.run C okL_rope 4 (q := (329, ([some (.ref (4)), some (.int (nI i)), some (.int (sumN (colR (rowOf f i) true) 0 24)), some (.int (sumN (colR (rowOf f i) false) 0 24)), some (.int (1)), some (.int (nI 24))], [.int (6), .int (nI i), .ref (4), .int (0)]))) rfl ?_
          refine XV.callV C (As := [.int (nI i), .int (6)]) (rest := [.int (0)]) (ci := 4) (ct_D_rope hfl hn hO hz z1 z2 ho hkp (i := i) (w := 6) (by first | assumption | omega) (by decide)) (xlk_ok okL_rope rfl) rfl (by omega) (by omega) rfl (cw_o) rfl wM_L_25 wI_C_rope wV_C_rope wN_C wB_C_rope hy_C_rope (fun q => q.elim) ⟨Nat.le_of_ble_eq_true rfl, Nat.le_of_ble_eq_true rfl⟩ ⟨by show _ ≤ 1000; omega, by show _ ≤ 6000; omega⟩ (Nat.le_of_ble_eq_true rfl) (fun r n h hp => ?_) (fun _ _ _ q => q.elim)
          obtain ⟨rfl, rfl, rfl⟩ := hp
          refine XV.run C okL_rope 2 (q := (334, ([some (.ref (4)), some (.int (nI i)), some (.int (sumN (colR (rowOf f i) true) 0 24)), some (.int (sumN (colR (rowOf f i) false) 0 24)), some (.int (1)), some (.int (nI 24))], [.int (1), .ref (4), .int (ropeFigK f (rowOf f i) z 6), .int (0)]))) rfl ?_
          refine XV.callV C (As := [.int (1)]) (rest := [.int (ropeFigK f (rowOf f i) z 6), .int (0)]) (ci := 4) (ct_D_setting hfl hn hO hz z1 z2 ho hkp (i := 1) (by decide)) (xlk_ok okL_rope rfl) rfl (by omega) (by omega) rfl (cw_o) rfl wM_L_41 wI_C_setting wV_C_setting wN_C wB_C_setting hy_C_setting (fun q => q.elim) ⟨Nat.le_of_ble_eq_true rfl, Nat.le_of_ble_eq_true rfl⟩ ⟨by show _ ≤ 1000; omega, by show _ ≤ 6000; omega⟩ (Nat.le_of_ble_eq_true rfl) (fun r n h hp => ?_) (fun _ _ _ q => q.elim)
          obtain ⟨rfl, rfl, rfl⟩ := hp
          refine XV.icmp_lt C (tgt := 344) (xlk_ok okL_rope rfl) rfl (fun _ => ?_) (fun hc => absurd (fg_t1 hO hi hz z1 z2 ct) hc)
          refine XV.run C okL_rope 1 (q := (345, ([some (.ref (4)), some (.int (nI i)), some (.int (sumN (colR (rowOf f i) true) 0 24)), some (.int (sumN (colR (rowOf f i) false) 0 24)), some (.int (1)), some (.int (nI 24))], [.int (0), .int (0)]))) rfl ?_
          refine XV.icmp_ne C (tgt := 352) (xlk_ok okL_rope rfl) rfl (fun hc => absurd (rfl) hc) (fun _ => ?_)
          refine XV.run C okL_rope 4 (q := (357, ([some (.ref (4)), some (.int (nI i)), some (.int (sumN (colR (rowOf f i) true) 0 24)), some (.int (sumN (colR (rowOf f i) false) 0 24)), some (.int (1)), some (.int (nI 24))], [.int (1)]))) rfl ?_
          refine XV.if_eq C (tgt := 389) (xlk_ok okL_rope rfl) rfl (fun hc => absurd hc (by decide)) (fun _ => ?_)
          refine XV.run C okL_rope 3 (q := (364, ([some (.ref (4)), some (.int (nI i)), some (.int (sumN (colR (rowOf f i) true) 0 24)), some (.int (sumN (colR (rowOf f i) false) 0 24)), some (.int (1)), some (.int (nI 24))], [.int (7), .int (nI i), .ref (4)]))) rfl ?_
          refine XV.callV C (As := [.int (nI i), .int (7)]) (rest := []) (ci := 4) (ct_D_rope hfl hn hO hz z1 z2 ho hkp (i := i) (w := 7) (by first | assumption | omega) (by decide)) (xlk_ok okL_rope rfl) rfl (by omega) (by omega) rfl (cw_o) rfl wM_L_25 wI_C_rope wV_C_rope wN_C wB_C_rope hy_C_rope (fun q => q.elim) ⟨Nat.le_of_ble_eq_true rfl, Nat.le_of_ble_eq_true rfl⟩ ⟨by show _ ≤ 1000; omega, by show _ ≤ 6000; omega⟩ (Nat.le_of_ble_eq_true rfl) (fun r n h hp => ?_) (fun _ _ _ q => q.elim)
          obtain ⟨rfl, rfl, rfl⟩ := hp
          refine XV.run C okL_rope 1 (q := (368, ([some (.ref (4)), some (.int (nI i)), some (.int (sumN (colR (rowOf f i) true) 0 24)), some (.int (sumN (colR (rowOf f i) false) 0 24)), some (.int (1)), some (.int (nI 24))], [.int (1), .int (ropeFigK f (rowOf f i) z 7)]))) rfl ?_
          refine XV.icmp_ne C (tgt := 385) (xlk_ok okL_rope rfl) rfl (fun c1 => ?_) (fun c1 => ?_)
          ·
            refine XV.run C okL_rope 2 (q := (390, ([some (.ref (4)), some (.int (nI i)), some (.int (sumN (colR (rowOf f i) true) 0 24)), some (.int (sumN (colR (rowOf f i) false) 0 24)), some (.int (1)), some (.int (nI 24))], [.int (1)]))) rfl ?_
            exact XV.iret C (xlk_ok okL_rope rfl) hret (rfl) (by show _ ≤ 1000; omega) (by show _ ≤ 6000; omega) (⟨rfl, rfl, _, rfl⟩)
          ·
            refine XV.run C okL_rope 3 (q := (374, ([some (.ref (4)), some (.int (nI i)), some (.int (sumN (colR (rowOf f i) true) 0 24)), some (.int (sumN (colR (rowOf f i) false) 0 24)), some (.int (1)), some (.int (nI 24))], [.int (4), .int (nI i), .ref (4)]))) rfl ?_
            refine XV.callV C (As := [.int (nI i), .int (4)]) (rest := []) (ci := 4) (ct_D_rope hfl hn hO hz z1 z2 ho hkp (i := i) (w := 4) (by first | assumption | omega) (by decide)) (xlk_ok okL_rope rfl) rfl (by omega) (by omega) rfl (cw_o) rfl wM_L_25 wI_C_rope wV_C_rope wN_C wB_C_rope hy_C_rope (fun q => q.elim) ⟨Nat.le_of_ble_eq_true rfl, Nat.le_of_ble_eq_true rfl⟩ ⟨by show _ ≤ 1000; omega, by show _ ≤ 6000; omega⟩ (Nat.le_of_ble_eq_true rfl) (fun r n h hp => ?_) (fun _ _ _ q => q.elim)
            obtain ⟨rfl, rfl, rfl⟩ := hp
            refine XV.run C okL_rope 2 (q := (379, ([some (.ref (4)), some (.int (nI i)), some (.int (sumN (colR (rowOf f i) true) 0 24)), some (.int (sumN (colR (rowOf f i) false) 0 24)), some (.int (1)), some (.int (nI 24))], [.int (1), .ref (4), .int (ropeFigK f (rowOf f i) z 4)]))) rfl ?_
            refine XV.callV C (As := [.int (1)]) (rest := [.int (ropeFigK f (rowOf f i) z 4)]) (ci := 4) (ct_D_setting hfl hn hO hz z1 z2 ho hkp (i := 1) (by decide)) (xlk_ok okL_rope rfl) rfl (by omega) (by omega) rfl (cw_o) rfl wM_L_41 wI_C_setting wV_C_setting wN_C wB_C_setting hy_C_setting (fun q => q.elim) ⟨Nat.le_of_ble_eq_true rfl, Nat.le_of_ble_eq_true rfl⟩ ⟨by show _ ≤ 1000; omega, by show _ ≤ 6000; omega⟩ (Nat.le_of_ble_eq_true rfl) (fun r n h hp => ?_) (fun _ _ _ q => q.elim)
            obtain ⟨rfl, rfl, rfl⟩ := hp
            refine XV.icmp_lt C (tgt := 389) (xlk_ok okL_rope rfl) rfl (fun hc => absurd hc (fg_71 c1)) (fun _ => ?_)
            refine XV.run C okL_rope 2 (q := (390, ([some (.ref (4)), some (.int (nI i)), some (.int (sumN (colR (rowOf f i) true) 0 24)), some (.int (sumN (colR (rowOf f i) false) 0 24)), some (.int (1)), some (.int (nI 24))], [.int (1)]))) rfl ?_
            exact XV.iret C (xlk_ok okL_rope rfl) hret (rfl) (by show _ ≤ 1000; omega) (by show _ ≤ 6000; omega) (⟨rfl, rfl, _, rfl⟩)
        ·
          refine XV.run C okL_rope 5 (q := (329, ([some (.ref (4)), some (.int (nI i)), some (.int (sumN (colR (rowOf f i) true) 0 24)), some (.int (sumN (colR (rowOf f i) false) 0 24)), some (.int (1)), some (.int (nI 24))], [.int (6), .int (nI i), .ref (4), .int (1)]))) rfl ?_
          refine XV.callV C (As := [.int (nI i), .int (6)]) (rest := [.int (1)]) (ci := 4) (ct_D_rope hfl hn hO hz z1 z2 ho hkp (i := i) (w := 6) (by first | assumption | omega) (by decide)) (xlk_ok okL_rope rfl) rfl (by omega) (by omega) rfl (cw_o) rfl wM_L_25 wI_C_rope wV_C_rope wN_C wB_C_rope hy_C_rope (fun q => q.elim) ⟨Nat.le_of_ble_eq_true rfl, Nat.le_of_ble_eq_true rfl⟩ ⟨by show _ ≤ 1000; omega, by show _ ≤ 6000; omega⟩ (Nat.le_of_ble_eq_true rfl) (fun r n h hp => ?_) (fun _ _ _ q => q.elim)
          obtain ⟨rfl, rfl, rfl⟩ := hp
          refine XV.run C okL_rope 2 (q := (334, ([some (.ref (4)), some (.int (nI i)), some (.int (sumN (colR (rowOf f i) true) 0 24)), some (.int (sumN (colR (rowOf f i) false) 0 24)), some (.int (1)), some (.int (nI 24))], [.int (1), .ref (4), .int (ropeFigK f (rowOf f i) z 6), .int (1)]))) rfl ?_
          refine XV.callV C (As := [.int (1)]) (rest := [.int (ropeFigK f (rowOf f i) z 6), .int (1)]) (ci := 4) (ct_D_setting hfl hn hO hz z1 z2 ho hkp (i := 1) (by decide)) (xlk_ok okL_rope rfl) rfl (by omega) (by omega) rfl (cw_o) rfl wM_L_41 wI_C_setting wV_C_setting wN_C wB_C_setting hy_C_setting (fun q => q.elim) ⟨Nat.le_of_ble_eq_true rfl, Nat.le_of_ble_eq_true rfl⟩ ⟨by show _ ≤ 1000; omega, by show _ ≤ 6000; omega⟩ (Nat.le_of_ble_eq_true rfl) (fun r n h hp => ?_) (fun _ _ _ q => q.elim)
          obtain ⟨rfl, rfl, rfl⟩ := hp
          refine XV.icmp_lt C (tgt := 344) (xlk_ok okL_rope rfl) rfl (fun hc => absurd hc (fg_t0 hO hi hz z1 z2 ct)) (fun _ => ?_)
          refine XV.run C okL_rope 2 (q := (345, ([some (.ref (4)), some (.int (nI i)), some (.int (sumN (colR (rowOf f i) true) 0 24)), some (.int (sumN (colR (rowOf f i) false) 0 24)), some (.int (1)), some (.int (nI 24))], [.int (1), .int (1)]))) rfl ?_
          refine XV.icmp_ne C (tgt := 352) (xlk_ok okL_rope rfl) rfl (fun hc => absurd (rfl) hc) (fun _ => ?_)
          refine XV.run C okL_rope 4 (q := (357, ([some (.ref (4)), some (.int (nI i)), some (.int (sumN (colR (rowOf f i) true) 0 24)), some (.int (sumN (colR (rowOf f i) false) 0 24)), some (.int (1)), some (.int (nI 24))], [.int (1)]))) rfl ?_
          refine XV.if_eq C (tgt := 389) (xlk_ok okL_rope rfl) rfl (fun hc => absurd hc (by decide)) (fun _ => ?_)
          refine XV.run C okL_rope 3 (q := (364, ([some (.ref (4)), some (.int (nI i)), some (.int (sumN (colR (rowOf f i) true) 0 24)), some (.int (sumN (colR (rowOf f i) false) 0 24)), some (.int (1)), some (.int (nI 24))], [.int (7), .int (nI i), .ref (4)]))) rfl ?_
          refine XV.callV C (As := [.int (nI i), .int (7)]) (rest := []) (ci := 4) (ct_D_rope hfl hn hO hz z1 z2 ho hkp (i := i) (w := 7) (by first | assumption | omega) (by decide)) (xlk_ok okL_rope rfl) rfl (by omega) (by omega) rfl (cw_o) rfl wM_L_25 wI_C_rope wV_C_rope wN_C wB_C_rope hy_C_rope (fun q => q.elim) ⟨Nat.le_of_ble_eq_true rfl, Nat.le_of_ble_eq_true rfl⟩ ⟨by show _ ≤ 1000; omega, by show _ ≤ 6000; omega⟩ (Nat.le_of_ble_eq_true rfl) (fun r n h hp => ?_) (fun _ _ _ q => q.elim)
          obtain ⟨rfl, rfl, rfl⟩ := hp
          refine XV.run C okL_rope 1 (q := (368, ([some (.ref (4)), some (.int (nI i)), some (.int (sumN (colR (rowOf f i) true) 0 24)), some (.int (sumN (colR (rowOf f i) false) 0 24)), some (.int (1)), some (.int (nI 24))], [.int (1), .int (ropeFigK f (rowOf f i) z 7)]))) rfl ?_
          refine XV.icmp_ne C (tgt := 385) (xlk_ok okL_rope rfl) rfl (fun c1 => ?_) (fun c1 => ?_)
          ·
            refine XV.run C okL_rope 2 (q := (390, ([some (.ref (4)), some (.int (nI i)), some (.int (sumN (colR (rowOf f i) true) 0 24)), some (.int (sumN (colR (rowOf f i) false) 0 24)), some (.int (1)), some (.int (nI 24))], [.int (1)]))) rfl ?_
            exact XV.iret C (xlk_ok okL_rope rfl) hret (rfl) (by show _ ≤ 1000; omega) (by show _ ≤ 6000; omega) (⟨rfl, rfl, _, rfl⟩)
          ·
            refine XV.run C okL_rope 3 (q := (374, ([some (.ref (4)), some (.int (nI i)), some (.int (sumN (colR (rowOf f i) true) 0 24)), some (.int (sumN (colR (rowOf f i) false) 0 24)), some (.int (1)), some (.int (nI 24))], [.int (4), .int (nI i), .ref (4)]))) rfl ?_
            refine XV.callV C (As := [.int (nI i), .int (4)]) (rest := []) (ci := 4) (ct_D_rope hfl hn hO hz z1 z2 ho hkp (i := i) (w := 4) (by first | assumption | omega) (by decide)) (xlk_ok okL_rope rfl) rfl (by omega) (by omega) rfl (cw_o) rfl wM_L_25 wI_C_rope wV_C_rope wN_C wB_C_rope hy_C_rope (fun q => q.elim) ⟨Nat.le_of_ble_eq_true rfl, Nat.le_of_ble_eq_true rfl⟩ ⟨by show _ ≤ 1000; omega, by show _ ≤ 6000; omega⟩ (Nat.le_of_ble_eq_true rfl) (fun r n h hp => ?_) (fun _ _ _ q => q.elim)
            obtain ⟨rfl, rfl, rfl⟩ := hp
            refine XV.run C okL_rope 2 (q := (379, ([some (.ref (4)), some (.int (nI i)), some (.int (sumN (colR (rowOf f i) true) 0 24)), some (.int (sumN (colR (rowOf f i) false) 0 24)), some (.int (1)), some (.int (nI 24))], [.int (1), .ref (4), .int (ropeFigK f (rowOf f i) z 4)]))) rfl ?_
            refine XV.callV C (As := [.int (1)]) (rest := [.int (ropeFigK f (rowOf f i) z 4)]) (ci := 4) (ct_D_setting hfl hn hO hz z1 z2 ho hkp (i := 1) (by decide)) (xlk_ok okL_rope rfl) rfl (by omega) (by omega) rfl (cw_o) rfl wM_L_41 wI_C_setting wV_C_setting wN_C wB_C_setting hy_C_setting (fun q => q.elim) ⟨Nat.le_of_ble_eq_true rfl, Nat.le_of_ble_eq_true rfl⟩ ⟨by show _ ≤ 1000; omega, by show _ ≤ 6000; omega⟩ (Nat.le_of_ble_eq_true rfl) (fun r n h hp => ?_) (fun _ _ _ q => q.elim)
            obtain ⟨rfl, rfl, rfl⟩ := hp
            refine XV.icmp_lt C (tgt := 389) (xlk_ok okL_rope rfl) rfl (fun hc => absurd hc (fg_71 c1)) (fun _ => ?_)
            refine XV.run C okL_rope 2 (q := (390, ([some (.ref (4)), some (.int (nI i)), some (.int (sumN (colR (rowOf f i) true) 0 24)), some (.int (sumN (colR (rowOf f i) false) 0 24)), some (.int (1)), some (.int (nI 24))], [.int (1)]))) rfl ?_
            exact XV.iret C (xlk_ok okL_rope rfl) hret (rfl) (by show _ ≤ 1000; omega) (by show _ ≤ 6000; omega) (⟨rfl, rfl, _, rfl⟩)
      ·
        refine XV.run C okL_rope 3 (q := (305, ([some (.ref (4)), some (.int (nI i)), some (.int (sumN (colR (rowOf f i) true) 0 24)), some (.int (sumN (colR (rowOf f i) false) 0 24)), some (.int (1)), some (.int (nI 24))], [.int (7), .int (nI i), .ref (4)]))) rfl ?_
        refine XV.callV C (As := [.int (nI i), .int (7)]) (rest := []) (ci := 4) (ct_D_rope hfl hn hO hz z1 z2 ho hkp (i := i) (w := 7) (by first | assumption | omega) (by decide)) (xlk_ok okL_rope rfl) rfl (by omega) (by omega) rfl (cw_o) rfl wM_L_25 wI_C_rope wV_C_rope wN_C wB_C_rope hy_C_rope (fun q => q.elim) ⟨Nat.le_of_ble_eq_true rfl, Nat.le_of_ble_eq_true rfl⟩ ⟨by show _ ≤ 1000; omega, by show _ ≤ 6000; omega⟩ (Nat.le_of_ble_eq_true rfl) (fun r n h hp => ?_) (fun _ _ _ q => q.elim)
        obtain ⟨rfl, rfl, rfl⟩ := hp
        refine XV.run C okL_rope 1 (q := (309, ([some (.ref (4)), some (.int (nI i)), some (.int (sumN (colR (rowOf f i) true) 0 24)), some (.int (sumN (colR (rowOf f i) false) 0 24)), some (.int (1)), some (.int (nI 24))], [.int (4), .int (ropeFigK f (rowOf f i) z 7)]))) rfl ?_
        refine XV.icmp_eq C (tgt := 352) (xlk_ok okL_rope rfl) rfl (fun hc => absurd hc (fg_87 c8)) (fun _ => ?_)
        refine XV.run C okL_rope 2 (q := (314, ([some (.ref (4)), some (.int (nI i)), some (.int (sumN (colR (rowOf f i) true) 0 24)), some (.int (sumN (colR (rowOf f i) false) 0 24)), some (.int (1)), some (.int (nI 24))], [.int (nI i), .ref (4)]))) rfl ?_
        refine XV.callV C (As := [.int (nI i)]) (rest := []) (ci := 4) (ct_D_tripsLeft hfl hn hO hz z1 z2 ho hkp (i := i) (by first | assumption | omega)) (xlk_ok okL_rope rfl) rfl (by omega) (by omega) rfl (cw_o) rfl wM_L_38 wI_C_tripsLeft wV_C_tripsLeft wN_C wB_C_tripsLeft hy_C_tripsLeft (fun q => q.elim) ⟨Nat.le_of_ble_eq_true rfl, Nat.le_of_ble_eq_true rfl⟩ ⟨by show _ ≤ 1000; omega, by show _ ≤ 6000; omega⟩ (Nat.le_of_ble_eq_true rfl) (fun r n h hp => ?_) (fun _ _ _ q => q.elim)
        obtain ⟨rfl, rfl, ρ2, rfl⟩ := hp
        refine XV.if_ne C (tgt := 324) (xlk_ok okL_rope rfl) rfl (fun ct => ?_) (fun ct => ?_)
        ·
          refine XV.run C okL_rope 4 (q := (329, ([some (.ref (4)), some (.int (nI i)), some (.int (sumN (colR (rowOf f i) true) 0 24)), some (.int (sumN (colR (rowOf f i) false) 0 24)), some (.int (1)), some (.int (nI 24))], [.int (6), .int (nI i), .ref (4), .int (0)]))) rfl ?_
          refine XV.callV C (As := [.int (nI i), .int (6)]) (rest := [.int (0)]) (ci := 4) (ct_D_rope hfl hn hO hz z1 z2 ho hkp (i := i) (w := 6) (by first | assumption | omega) (by decide)) (xlk_ok okL_rope rfl) rfl (by omega) (by omega) rfl (cw_o) rfl wM_L_25 wI_C_rope wV_C_rope wN_C wB_C_rope hy_C_rope (fun q => q.elim) ⟨Nat.le_of_ble_eq_true rfl, Nat.le_of_ble_eq_true rfl⟩ ⟨by show _ ≤ 1000; omega, by show _ ≤ 6000; omega⟩ (Nat.le_of_ble_eq_true rfl) (fun r n h hp => ?_) (fun _ _ _ q => q.elim)
          obtain ⟨rfl, rfl, rfl⟩ := hp
          refine XV.run C okL_rope 2 (q := (334, ([some (.ref (4)), some (.int (nI i)), some (.int (sumN (colR (rowOf f i) true) 0 24)), some (.int (sumN (colR (rowOf f i) false) 0 24)), some (.int (1)), some (.int (nI 24))], [.int (1), .ref (4), .int (ropeFigK f (rowOf f i) z 6), .int (0)]))) rfl ?_
          refine XV.callV C (As := [.int (1)]) (rest := [.int (ropeFigK f (rowOf f i) z 6), .int (0)]) (ci := 4) (ct_D_setting hfl hn hO hz z1 z2 ho hkp (i := 1) (by decide)) (xlk_ok okL_rope rfl) rfl (by omega) (by omega) rfl (cw_o) rfl wM_L_41 wI_C_setting wV_C_setting wN_C wB_C_setting hy_C_setting (fun q => q.elim) ⟨Nat.le_of_ble_eq_true rfl, Nat.le_of_ble_eq_true rfl⟩ ⟨by show _ ≤ 1000; omega, by show _ ≤ 6000; omega⟩ (Nat.le_of_ble_eq_true rfl) (fun r n h hp => ?_) (fun _ _ _ q => q.elim)
          obtain ⟨rfl, rfl, rfl⟩ := hp
          refine XV.icmp_lt C (tgt := 344) (xlk_ok okL_rope rfl) rfl (fun _ => ?_) (fun hc => absurd (fg_t1 hO hi hz z1 z2 ct) hc)
          refine XV.run C okL_rope 1 (q := (345, ([some (.ref (4)), some (.int (nI i)), some (.int (sumN (colR (rowOf f i) true) 0 24)), some (.int (sumN (colR (rowOf f i) false) 0 24)), some (.int (1)), some (.int (nI 24))], [.int (0), .int (0)]))) rfl ?_
          refine XV.icmp_ne C (tgt := 352) (xlk_ok okL_rope rfl) rfl (fun hc => absurd (rfl) hc) (fun _ => ?_)
          refine XV.run C okL_rope 4 (q := (357, ([some (.ref (4)), some (.int (nI i)), some (.int (sumN (colR (rowOf f i) true) 0 24)), some (.int (sumN (colR (rowOf f i) false) 0 24)), some (.int (1)), some (.int (nI 24))], [.int (1)]))) rfl ?_
          refine XV.if_eq C (tgt := 389) (xlk_ok okL_rope rfl) rfl (fun hc => absurd hc (by decide)) (fun _ => ?_)
          refine XV.run C okL_rope 3 (q := (364, ([some (.ref (4)), some (.int (nI i)), some (.int (sumN (colR (rowOf f i) true) 0 24)), some (.int (sumN (colR (rowOf f i) false) 0 24)), some (.int (1)), some (.int (nI 24))], [.int (7), .int (nI i), .ref (4)]))) rfl ?_
          refine XV.callV C (As := [.int (nI i), .int (7)]) (rest := []) (ci := 4) (ct_D_rope hfl hn hO hz z1 z2 ho hkp (i := i) (w := 7) (by first | assumption | omega) (by decide)) (xlk_ok okL_rope rfl) rfl (by omega) (by omega) rfl (cw_o) rfl wM_L_25 wI_C_rope wV_C_rope wN_C wB_C_rope hy_C_rope (fun q => q.elim) ⟨Nat.le_of_ble_eq_true rfl, Nat.le_of_ble_eq_true rfl⟩ ⟨by show _ ≤ 1000; omega, by show _ ≤ 6000; omega⟩ (Nat.le_of_ble_eq_true rfl) (fun r n h hp => ?_) (fun _ _ _ q => q.elim)
          obtain ⟨rfl, rfl, rfl⟩ := hp
          refine XV.run C okL_rope 1 (q := (368, ([some (.ref (4)), some (.int (nI i)), some (.int (sumN (colR (rowOf f i) true) 0 24)), some (.int (sumN (colR (rowOf f i) false) 0 24)), some (.int (1)), some (.int (nI 24))], [.int (1), .int (ropeFigK f (rowOf f i) z 7)]))) rfl ?_
          refine XV.icmp_ne C (tgt := 385) (xlk_ok okL_rope rfl) rfl (fun c1 => ?_) (fun c1 => ?_)
          ·
            refine XV.run C okL_rope 2 (q := (390, ([some (.ref (4)), some (.int (nI i)), some (.int (sumN (colR (rowOf f i) true) 0 24)), some (.int (sumN (colR (rowOf f i) false) 0 24)), some (.int (1)), some (.int (nI 24))], [.int (1)]))) rfl ?_
            exact XV.iret C (xlk_ok okL_rope rfl) hret (rfl) (by show _ ≤ 1000; omega) (by show _ ≤ 6000; omega) (⟨rfl, rfl, _, rfl⟩)
          ·
            refine XV.run C okL_rope 3 (q := (374, ([some (.ref (4)), some (.int (nI i)), some (.int (sumN (colR (rowOf f i) true) 0 24)), some (.int (sumN (colR (rowOf f i) false) 0 24)), some (.int (1)), some (.int (nI 24))], [.int (4), .int (nI i), .ref (4)]))) rfl ?_
            refine XV.callV C (As := [.int (nI i), .int (4)]) (rest := []) (ci := 4) (ct_D_rope hfl hn hO hz z1 z2 ho hkp (i := i) (w := 4) (by first | assumption | omega) (by decide)) (xlk_ok okL_rope rfl) rfl (by omega) (by omega) rfl (cw_o) rfl wM_L_25 wI_C_rope wV_C_rope wN_C wB_C_rope hy_C_rope (fun q => q.elim) ⟨Nat.le_of_ble_eq_true rfl, Nat.le_of_ble_eq_true rfl⟩ ⟨by show _ ≤ 1000; omega, by show _ ≤ 6000; omega⟩ (Nat.le_of_ble_eq_true rfl) (fun r n h hp => ?_) (fun _ _ _ q => q.elim)
            obtain ⟨rfl, rfl, rfl⟩ := hp
            refine XV.run C okL_rope 2 (q := (379, ([some (.ref (4)), some (.int (nI i)), some (.int (sumN (colR (rowOf f i) true) 0 24)), some (.int (sumN (colR (rowOf f i) false) 0 24)), some (.int (1)), some (.int (nI 24))], [.int (1), .ref (4), .int (ropeFigK f (rowOf f i) z 4)]))) rfl ?_
            refine XV.callV C (As := [.int (1)]) (rest := [.int (ropeFigK f (rowOf f i) z 4)]) (ci := 4) (ct_D_setting hfl hn hO hz z1 z2 ho hkp (i := 1) (by decide)) (xlk_ok okL_rope rfl) rfl (by omega) (by omega) rfl (cw_o) rfl wM_L_41 wI_C_setting wV_C_setting wN_C wB_C_setting hy_C_setting (fun q => q.elim) ⟨Nat.le_of_ble_eq_true rfl, Nat.le_of_ble_eq_true rfl⟩ ⟨by show _ ≤ 1000; omega, by show _ ≤ 6000; omega⟩ (Nat.le_of_ble_eq_true rfl) (fun r n h hp => ?_) (fun _ _ _ q => q.elim)
            obtain ⟨rfl, rfl, rfl⟩ := hp
            refine XV.icmp_lt C (tgt := 389) (xlk_ok okL_rope rfl) rfl (fun hc => absurd hc (fg_71 c1)) (fun _ => ?_)
            refine XV.run C okL_rope 2 (q := (390, ([some (.ref (4)), some (.int (nI i)), some (.int (sumN (colR (rowOf f i) true) 0 24)), some (.int (sumN (colR (rowOf f i) false) 0 24)), some (.int (1)), some (.int (nI 24))], [.int (1)]))) rfl ?_
            exact XV.iret C (xlk_ok okL_rope rfl) hret (rfl) (by show _ ≤ 1000; omega) (by show _ ≤ 6000; omega) (⟨rfl, rfl, _, rfl⟩)
        ·
          refine XV.run C okL_rope 5 (q := (329, ([some (.ref (4)), some (.int (nI i)), some (.int (sumN (colR (rowOf f i) true) 0 24)), some (.int (sumN (colR (rowOf f i) false) 0 24)), some (.int (1)), some (.int (nI 24))], [.int (6), .int (nI i), .ref (4), .int (1)]))) rfl ?_
          refine XV.callV C (As := [.int (nI i), .int (6)]) (rest := [.int (1)]) (ci := 4) (ct_D_rope hfl hn hO hz z1 z2 ho hkp (i := i) (w := 6) (by first | assumption | omega) (by decide)) (xlk_ok okL_rope rfl) rfl (by omega) (by omega) rfl (cw_o) rfl wM_L_25 wI_C_rope wV_C_rope wN_C wB_C_rope hy_C_rope (fun q => q.elim) ⟨Nat.le_of_ble_eq_true rfl, Nat.le_of_ble_eq_true rfl⟩ ⟨by show _ ≤ 1000; omega, by show _ ≤ 6000; omega⟩ (Nat.le_of_ble_eq_true rfl) (fun r n h hp => ?_) (fun _ _ _ q => q.elim)
          obtain ⟨rfl, rfl, rfl⟩ := hp
          refine XV.run C okL_rope 2 (q := (334, ([some (.ref (4)), some (.int (nI i)), some (.int (sumN (colR (rowOf f i) true) 0 24)), some (.int (sumN (colR (rowOf f i) false) 0 24)), some (.int (1)), some (.int (nI 24))], [.int (1), .ref (4), .int (ropeFigK f (rowOf f i) z 6), .int (1)]))) rfl ?_
          refine XV.callV C (As := [.int (1)]) (rest := [.int (ropeFigK f (rowOf f i) z 6), .int (1)]) (ci := 4) (ct_D_setting hfl hn hO hz z1 z2 ho hkp (i := 1) (by decide)) (xlk_ok okL_rope rfl) rfl (by omega) (by omega) rfl (cw_o) rfl wM_L_41 wI_C_setting wV_C_setting wN_C wB_C_setting hy_C_setting (fun q => q.elim) ⟨Nat.le_of_ble_eq_true rfl, Nat.le_of_ble_eq_true rfl⟩ ⟨by show _ ≤ 1000; omega, by show _ ≤ 6000; omega⟩ (Nat.le_of_ble_eq_true rfl) (fun r n h hp => ?_) (fun _ _ _ q => q.elim)
          obtain ⟨rfl, rfl, rfl⟩ := hp
          refine XV.icmp_lt C (tgt := 344) (xlk_ok okL_rope rfl) rfl (fun hc => absurd hc (fg_t0 hO hi hz z1 z2 ct)) (fun _ => ?_)
          refine XV.run C okL_rope 2 (q := (345, ([some (.ref (4)), some (.int (nI i)), some (.int (sumN (colR (rowOf f i) true) 0 24)), some (.int (sumN (colR (rowOf f i) false) 0 24)), some (.int (1)), some (.int (nI 24))], [.int (1), .int (1)]))) rfl ?_
          refine XV.icmp_ne C (tgt := 352) (xlk_ok okL_rope rfl) rfl (fun hc => absurd (rfl) hc) (fun _ => ?_)
          refine XV.run C okL_rope 4 (q := (357, ([some (.ref (4)), some (.int (nI i)), some (.int (sumN (colR (rowOf f i) true) 0 24)), some (.int (sumN (colR (rowOf f i) false) 0 24)), some (.int (1)), some (.int (nI 24))], [.int (1)]))) rfl ?_
          refine XV.if_eq C (tgt := 389) (xlk_ok okL_rope rfl) rfl (fun hc => absurd hc (by decide)) (fun _ => ?_)
          refine XV.run C okL_rope 3 (q := (364, ([some (.ref (4)), some (.int (nI i)), some (.int (sumN (colR (rowOf f i) true) 0 24)), some (.int (sumN (colR (rowOf f i) false) 0 24)), some (.int (1)), some (.int (nI 24))], [.int (7), .int (nI i), .ref (4)]))) rfl ?_
          refine XV.callV C (As := [.int (nI i), .int (7)]) (rest := []) (ci := 4) (ct_D_rope hfl hn hO hz z1 z2 ho hkp (i := i) (w := 7) (by first | assumption | omega) (by decide)) (xlk_ok okL_rope rfl) rfl (by omega) (by omega) rfl (cw_o) rfl wM_L_25 wI_C_rope wV_C_rope wN_C wB_C_rope hy_C_rope (fun q => q.elim) ⟨Nat.le_of_ble_eq_true rfl, Nat.le_of_ble_eq_true rfl⟩ ⟨by show _ ≤ 1000; omega, by show _ ≤ 6000; omega⟩ (Nat.le_of_ble_eq_true rfl) (fun r n h hp => ?_) (fun _ _ _ q => q.elim)
          obtain ⟨rfl, rfl, rfl⟩ := hp
          refine XV.run C okL_rope 1 (q := (368, ([some (.ref (4)), some (.int (nI i)), some (.int (sumN (colR (rowOf f i) true) 0 24)), some (.int (sumN (colR (rowOf f i) false) 0 24)), some (.int (1)), some (.int (nI 24))], [.int (1), .int (ropeFigK f (rowOf f i) z 7)]))) rfl ?_
          refine XV.icmp_ne C (tgt := 385) (xlk_ok okL_rope rfl) rfl (fun c1 => ?_) (fun c1 => ?_)
          ·
            refine XV.run C okL_rope 2 (q := (390, ([some (.ref (4)), some (.int (nI i)), some (.int (sumN (colR (rowOf f i) true) 0 24)), some (.int (sumN (colR (rowOf f i) false) 0 24)), some (.int (1)), some (.int (nI 24))], [.int (1)]))) rfl ?_
            exact XV.iret C (xlk_ok okL_rope rfl) hret (rfl) (by show _ ≤ 1000; omega) (by show _ ≤ 6000; omega) (⟨rfl, rfl, _, rfl⟩)
          ·
            refine XV.run C okL_rope 3 (q := (374, ([some (.ref (4)), some (.int (nI i)), some (.int (sumN (colR (rowOf f i) true) 0 24)), some (.int (sumN (colR (rowOf f i) false) 0 24)), some (.int (1)), some (.int (nI 24))], [.int (4), .int (nI i), .ref (4)]))) rfl ?_
            refine XV.callV C (As := [.int (nI i), .int (4)]) (rest := []) (ci := 4) (ct_D_rope hfl hn hO hz z1 z2 ho hkp (i := i) (w := 4) (by first | assumption | omega) (by decide)) (xlk_ok okL_rope rfl) rfl (by omega) (by omega) rfl (cw_o) rfl wM_L_25 wI_C_rope wV_C_rope wN_C wB_C_rope hy_C_rope (fun q => q.elim) ⟨Nat.le_of_ble_eq_true rfl, Nat.le_of_ble_eq_true rfl⟩ ⟨by show _ ≤ 1000; omega, by show _ ≤ 6000; omega⟩ (Nat.le_of_ble_eq_true rfl) (fun r n h hp => ?_) (fun _ _ _ q => q.elim)
            obtain ⟨rfl, rfl, rfl⟩ := hp
            refine XV.run C okL_rope 2 (q := (379, ([some (.ref (4)), some (.int (nI i)), some (.int (sumN (colR (rowOf f i) true) 0 24)), some (.int (sumN (colR (rowOf f i) false) 0 24)), some (.int (1)), some (.int (nI 24))], [.int (1), .ref (4), .int (ropeFigK f (rowOf f i) z 4)]))) rfl ?_
            refine XV.callV C (As := [.int (1)]) (rest := [.int (ropeFigK f (rowOf f i) z 4)]) (ci := 4) (ct_D_setting hfl hn hO hz z1 z2 ho hkp (i := 1) (by decide)) (xlk_ok okL_rope rfl) rfl (by omega) (by omega) rfl (cw_o) rfl wM_L_41 wI_C_setting wV_C_setting wN_C wB_C_setting hy_C_setting (fun q => q.elim) ⟨Nat.le_of_ble_eq_true rfl, Nat.le_of_ble_eq_true rfl⟩ ⟨by show _ ≤ 1000; omega, by show _ ≤ 6000; omega⟩ (Nat.le_of_ble_eq_true rfl) (fun r n h hp => ?_) (fun _ _ _ q => q.elim)
            obtain ⟨rfl, rfl, rfl⟩ := hp
            refine XV.icmp_lt C (tgt := 389) (xlk_ok okL_rope rfl) rfl (fun hc => absurd hc (fg_71 c1)) (fun _ => ?_)
            refine XV.run C okL_rope 2 (q := (390, ([some (.ref (4)), some (.int (nI i)), some (.int (sumN (colR (rowOf f i) true) 0 24)), some (.int (sumN (colR (rowOf f i) false) 0 24)), some (.int (1)), some (.int (nI 24))], [.int (1)]))) rfl ?_
            exact XV.iret C (xlk_ok okL_rope rfl) hret (rfl) (by show _ ≤ 1000; omega) (by show _ ≤ 6000; omega) (⟨rfl, rfl, _, rfl⟩)
    | succ d ih =>
      intro j hj
      refine XV.run C okL_rope 2 (q := (47, ([some (.ref (4)), some (.int (nI i)), some (.int (sumN (colR (rowOf f i) true) 0 j)), some (.int (sumN (colR (rowOf f i) false) 0 j)), some (.int (1)), some (.int (nI j))], [.int (24), .int (nI j)]))) rfl ?_
      refine XV.icmp_ge C (tgt := 217) (xlk_ok okL_rope rfl) rfl (fun hc => absurd hc (nI_ge (b := 24) (by omega) (by omega))) (fun _ => ?_)
      refine XV.run C okL_rope 1 (q := (52, ([some (.ref (4)), some (.int (nI i)), some (.int (sumN (colR (rowOf f i) true) 0 j)), some (.int (sumN (colR (rowOf f i) false) 0 j)), some (.int (1)), some (.int (nI j))], [.int (1)]))) rfl ?_
      refine XV.if_eq C (tgt := 217) (xlk_ok okL_rope rfl) rfl (fun hc => absurd hc (by decide)) (fun _ => ?_)
      refine XV.run C okL_rope 4 (q := (60, ([some (.ref (4)), some (.int (nI i)), some (.int (sumN (colR (rowOf f i) true) 0 j)), some (.int (sumN (colR (rowOf f i) false) 0 j)), some (.int (1)), some (.int (nI j))], [.int (1), .int (nI j), .int (nI i), .ref (4)]))) rfl ?_
      refine XV.callV C (As := [.int (nI i), .int (nI j), .int (1)]) (rest := []) (ci := 4) (ct_D_section hfl hn hO hz z1 z2 ho hkp (i := i) (s := j) (w := 1) (by first | assumption | omega) (by omega) (by decide)) (xlk_ok okL_rope rfl) rfl (by omega) (by omega) rfl (cw_o) rfl wM_L_32 wI_C_section wV_C_section wN_C wB_C_section hy_C_section (fun q => q.elim) ⟨Nat.le_of_ble_eq_true rfl, Nat.le_of_ble_eq_true rfl⟩ ⟨by show _ ≤ 1000; omega, by show _ ≤ 6000; omega⟩ (Nat.le_of_ble_eq_true rfl) (fun r n h hp => ?_) (fun _ _ _ q => q.elim)
      obtain ⟨rfl, rfl, rfl⟩ := hp
      refine XV.run C okL_rope 4 (q := (68, ([some (.ref (4)), some (.int (nI i)), some (.int (sumN (colR (rowOf f i) true) 0 j)), some (.int (sumN (colR (rowOf f i) false) 0 j)), some (.int (1)), some (.int (nI j))], [.int (0), .int (nI j), .int (nI i), .ref (4), .int (secF (rowOf f i) j 1)]))) rfl ?_
      refine XV.callV C (As := [.int (nI i), .int (nI j), .int (0)]) (rest := [.int (secF (rowOf f i) j 1)]) (ci := 4) (ct_D_section hfl hn hO hz z1 z2 ho hkp (i := i) (s := j) (w := 0) (by first | assumption | omega) (by omega) (by decide)) (xlk_ok okL_rope rfl) rfl (by omega) (by omega) rfl (cw_o) rfl wM_L_32 wI_C_section wV_C_section wN_C wB_C_section hy_C_section (fun q => q.elim) ⟨Nat.le_of_ble_eq_true rfl, Nat.le_of_ble_eq_true rfl⟩ ⟨by show _ ≤ 1000; omega, by show _ ≤ 6000; omega⟩ (Nat.le_of_ble_eq_true rfl) (fun r n h hp => ?_) (fun _ _ _ q => q.elim)
      obtain ⟨rfl, rfl, rfl⟩ := hp
      refine XV.run C okL_rope 3 (q := (74, ([some (.ref (4)), some (.int (nI i)), some (.int (sumN (colR (rowOf f i) true) 0 j)), some (.int (sumN (colR (rowOf f i) false) 0 j)), some (.int (1)), some (.int (nI j))], [.int (0), .int (nI i), .ref (4), .int (secF (rowOf f i) j 0), .int (secF (rowOf f i) j 1)]))) rfl ?_
      refine XV.callV C (As := [.int (nI i), .int (0)]) (rest := [.int (secF (rowOf f i) j 0), .int (secF (rowOf f i) j 1)]) (ci := 4) (ct_D_rope hfl hn hO hz z1 z2 ho hkp (i := i) (w := 0) (by first | assumption | omega) (by decide)) (xlk_ok okL_rope rfl) rfl (by omega) (by omega) rfl (cw_o) rfl wM_L_25 wI_C_rope wV_C_rope wN_C wB_C_rope hy_C_rope (fun q => q.elim) ⟨Nat.le_of_ble_eq_true rfl, Nat.le_of_ble_eq_true rfl⟩ ⟨by show _ ≤ 1000; omega, by show _ ≤ 6000; omega⟩ (Nat.le_of_ble_eq_true rfl) (fun r n h hp => ?_) (fun _ _ _ q => q.elim)
      obtain ⟨rfl, rfl, rfl⟩ := hp
      refine XV.idiv C (xlk_ok okL_rope rfl) (sg_q hO hi) ?_
      refine XV.icmp_ne C (tgt := 123) (xlk_ok okL_rope rfl) rfl (fun hc => absurd (sg_1) hc) (fun _ => ?_)
      refine XV.run C okL_rope 4 (q := (86, ([some (.ref (4)), some (.int (nI i)), some (.int (sumN (colR (rowOf f i) true) 0 j)), some (.int (sumN (colR (rowOf f i) false) 0 j)), some (.int (1)), some (.int (nI j))], [.int (2), .int (nI j), .int (nI i), .ref (4)]))) rfl ?_
      refine XV.callV C (As := [.int (nI i), .int (nI j), .int (2)]) (rest := []) (ci := 4) (ct_D_section hfl hn hO hz z1 z2 ho hkp (i := i) (s := j) (w := 2) (by first | assumption | omega) (by omega) (by decide)) (xlk_ok okL_rope rfl) rfl (by omega) (by omega) rfl (cw_o) rfl wM_L_32 wI_C_section wV_C_section wN_C wB_C_section hy_C_section (fun q => q.elim) ⟨Nat.le_of_ble_eq_true rfl, Nat.le_of_ble_eq_true rfl⟩ ⟨by show _ ≤ 1000; omega, by show _ ≤ 6000; omega⟩ (Nat.le_of_ble_eq_true rfl) (fun r n h hp => ?_) (fun _ _ _ q => q.elim)
      obtain ⟨rfl, rfl, rfl⟩ := hp
      refine XV.run C okL_rope 4 (q := (94, ([some (.ref (4)), some (.int (nI i)), some (.int (sumN (colR (rowOf f i) true) 0 j)), some (.int (sumN (colR (rowOf f i) false) 0 j)), some (.int (1)), some (.int (nI j))], [.int (1), .int (nI j), .int (nI i), .ref (4), .int (secF (rowOf f i) j 2)]))) rfl ?_
      refine XV.callV C (As := [.int (nI i), .int (nI j), .int (1)]) (rest := [.int (secF (rowOf f i) j 2)]) (ci := 4) (ct_D_section hfl hn hO hz z1 z2 ho hkp (i := i) (s := j) (w := 1) (by first | assumption | omega) (by omega) (by decide)) (xlk_ok okL_rope rfl) rfl (by omega) (by omega) rfl (cw_o) rfl wM_L_32 wI_C_section wV_C_section wN_C wB_C_section hy_C_section (fun q => q.elim) ⟨Nat.le_of_ble_eq_true rfl, Nat.le_of_ble_eq_true rfl⟩ ⟨by show _ ≤ 1000; omega, by show _ ≤ 6000; omega⟩ (Nat.le_of_ble_eq_true rfl) (fun r n h hp => ?_) (fun _ _ _ q => q.elim)
      obtain ⟨rfl, rfl, rfl⟩ := hp
      refine XV.icmp_gt C (tgt := 123) (xlk_ok okL_rope rfl) rfl (fun hc => absurd hc (sg_2 hO hi (by omega))) (fun _ => ?_)
      refine XV.run C okL_rope 4 (q := (105, ([some (.ref (4)), some (.int (nI i)), some (.int (sumN (colR (rowOf f i) true) 0 j)), some (.int (sumN (colR (rowOf f i) false) 0 j)), some (.int (1)), some (.int (nI j))], [.int (3), .int (nI j), .int (nI i), .ref (4)]))) rfl ?_
      refine XV.callV C (As := [.int (nI i), .int (nI j), .int (3)]) (rest := []) (ci := 4) (ct_D_section hfl hn hO hz z1 z2 ho hkp (i := i) (s := j) (w := 3) (by first | assumption | omega) (by omega) (by decide)) (xlk_ok okL_rope rfl) rfl (by omega) (by omega) rfl (cw_o) rfl wM_L_32 wI_C_section wV_C_section wN_C wB_C_section hy_C_section (fun q => q.elim) ⟨Nat.le_of_ble_eq_true rfl, Nat.le_of_ble_eq_true rfl⟩ ⟨by show _ ≤ 1000; omega, by show _ ≤ 6000; omega⟩ (Nat.le_of_ble_eq_true rfl) (fun r n h hp => ?_) (fun _ _ _ q => q.elim)
      obtain ⟨rfl, rfl, rfl⟩ := hp
      refine XV.run C okL_rope 4 (q := (113, ([some (.ref (4)), some (.int (nI i)), some (.int (sumN (colR (rowOf f i) true) 0 j)), some (.int (sumN (colR (rowOf f i) false) 0 j)), some (.int (1)), some (.int (nI j))], [.int (2), .int (nI j), .int (nI i), .ref (4), .int (secF (rowOf f i) j 3)]))) rfl ?_
      refine XV.callV C (As := [.int (nI i), .int (nI j), .int (2)]) (rest := [.int (secF (rowOf f i) j 3)]) (ci := 4) (ct_D_section hfl hn hO hz z1 z2 ho hkp (i := i) (s := j) (w := 2) (by first | assumption | omega) (by omega) (by decide)) (xlk_ok okL_rope rfl) rfl (by omega) (by omega) rfl (cw_o) rfl wM_L_32 wI_C_section wV_C_section wN_C wB_C_section hy_C_section (fun q => q.elim) ⟨Nat.le_of_ble_eq_true rfl, Nat.le_of_ble_eq_true rfl⟩ ⟨by show _ ≤ 1000; omega, by show _ ≤ 6000; omega⟩ (Nat.le_of_ble_eq_true rfl) (fun r n h hp => ?_) (fun _ _ _ q => q.elim)
      obtain ⟨rfl, rfl, rfl⟩ := hp
      refine XV.icmp_gt C (tgt := 123) (xlk_ok okL_rope rfl) rfl (fun hc => absurd hc (sg_3 hO hi (by omega))) (fun _ => ?_)
      refine XV.run C okL_rope 4 (q := (128, ([some (.ref (4)), some (.int (nI i)), some (.int (sumN (colR (rowOf f i) true) 0 j)), some (.int (sumN (colR (rowOf f i) false) 0 j)), some (.int (1)), some (.int (nI j))], [.int (1)]))) rfl ?_
      refine XV.if_eq C (tgt := 186) (xlk_ok okL_rope rfl) rfl (fun hc => absurd hc (by decide)) (fun _ => ?_)
      refine XV.run C okL_rope 4 (q := (136, ([some (.ref (4)), some (.int (nI i)), some (.int (sumN (colR (rowOf f i) true) 0 j)), some (.int (sumN (colR (rowOf f i) false) 0 j)), some (.int (1)), some (.int (nI j))], [.int (0), .int (nI j), .int (nI i), .ref (4)]))) rfl ?_
      refine XV.callV C (As := [.int (nI i), .int (nI j), .int (0)]) (rest := []) (ci := 4) (ct_D_section hfl hn hO hz z1 z2 ho hkp (i := i) (s := j) (w := 0) (by first | assumption | omega) (by omega) (by decide)) (xlk_ok okL_rope rfl) rfl (by omega) (by omega) rfl (cw_o) rfl wM_L_32 wI_C_section wV_C_section wN_C wB_C_section hy_C_section (fun q => q.elim) ⟨Nat.le_of_ble_eq_true rfl, Nat.le_of_ble_eq_true rfl⟩ ⟨by show _ ≤ 1000; omega, by show _ ≤ 6000; omega⟩ (Nat.le_of_ble_eq_true rfl) (fun r n h hp => ?_) (fun _ _ _ q => q.elim)
      obtain ⟨rfl, rfl, rfl⟩ := hp
      refine XV.run C okL_rope 3 (q := (143, ([some (.ref (4)), some (.int (nI i)), some (.int (sumN (colR (rowOf f i) true) 0 j)), some (.int (sumN (colR (rowOf f i) false) 0 j)), some (.int (1)), some (.int (nI j))], [.int (9), .int (nI i), .ref (4), .int (secF (rowOf f i) j 0)]))) rfl ?_
      refine XV.callV C (As := [.int (nI i), .int (9)]) (rest := [.int (secF (rowOf f i) j 0)]) (ci := 4) (ct_D_rope hfl hn hO hz z1 z2 ho hkp (i := i) (w := 9) (by first | assumption | omega) (by decide)) (xlk_ok okL_rope rfl) rfl (by omega) (by omega) rfl (cw_o) rfl wM_L_25 wI_C_rope wV_C_rope wN_C wB_C_rope hy_C_rope (fun q => q.elim) ⟨Nat.le_of_ble_eq_true rfl, Nat.le_of_ble_eq_true rfl⟩ ⟨by show _ ≤ 1000; omega, by show _ ≤ 6000; omega⟩ (Nat.le_of_ble_eq_true rfl) (fun r n h hp => ?_) (fun _ _ _ q => q.elim)
      obtain ⟨rfl, rfl, rfl⟩ := hp
      refine XV.icmp_gt C (tgt := 186) (xlk_ok okL_rope rfl) rfl (fun hc => absurd hc (sg_4 hO hi (by omega))) (fun _ => ?_)
      refine XV.run C okL_rope 4 (q := (154, ([some (.ref (4)), some (.int (nI i)), some (.int (sumN (colR (rowOf f i) true) 0 j)), some (.int (sumN (colR (rowOf f i) false) 0 j)), some (.int (1)), some (.int (nI j))], [.int (4), .int (nI j), .int (nI i), .ref (4)]))) rfl ?_
      refine XV.callV C (As := [.int (nI i), .int (nI j), .int (4)]) (rest := []) (ci := 4) (ct_D_section hfl hn hO hz z1 z2 ho hkp (i := i) (s := j) (w := 4) (by first | assumption | omega) (by omega) (by decide)) (xlk_ok okL_rope rfl) rfl (by omega) (by omega) rfl (cw_o) rfl wM_L_32 wI_C_section wV_C_section wN_C wB_C_section hy_C_section (fun q => q.elim) ⟨Nat.le_of_ble_eq_true rfl, Nat.le_of_ble_eq_true rfl⟩ ⟨by show _ ≤ 1000; omega, by show _ ≤ 6000; omega⟩ (Nat.le_of_ble_eq_true rfl) (fun r n h hp => ?_) (fun _ _ _ q => q.elim)
      obtain ⟨rfl, rfl, rfl⟩ := hp
      refine XV.run C okL_rope 3 (q := (160, ([some (.ref (4)), some (.int (nI i)), some (.int (sumN (colR (rowOf f i) true) 0 j)), some (.int (sumN (colR (rowOf f i) false) 0 j)), some (.int (1)), some (.int (nI j))], [.int (1), .int (nI i), .ref (4), .int (secF (rowOf f i) j 4)]))) rfl ?_
      refine XV.callV C (As := [.int (nI i), .int (1)]) (rest := [.int (secF (rowOf f i) j 4)]) (ci := 4) (ct_D_rope hfl hn hO hz z1 z2 ho hkp (i := i) (w := 1) (by first | assumption | omega) (by decide)) (xlk_ok okL_rope rfl) rfl (by omega) (by omega) rfl (cw_o) rfl wM_L_25 wI_C_rope wV_C_rope wN_C wB_C_rope hy_C_rope (fun q => q.elim) ⟨Nat.le_of_ble_eq_true rfl, Nat.le_of_ble_eq_true rfl⟩ ⟨by show _ ≤ 1000; omega, by show _ ≤ 6000; omega⟩ (Nat.le_of_ble_eq_true rfl) (fun r n h hp => ?_) (fun _ _ _ q => q.elim)
      obtain ⟨rfl, rfl, rfl⟩ := hp
      refine XV.icmp_lt C (tgt := 186) (xlk_ok okL_rope rfl) rfl (fun hc => absurd hc (sg_5 hO hi (by omega))) (fun _ => ?_)
      refine XV.run C okL_rope 4 (q := (171, ([some (.ref (4)), some (.int (nI i)), some (.int (sumN (colR (rowOf f i) true) 0 j)), some (.int (sumN (colR (rowOf f i) false) 0 j)), some (.int (1)), some (.int (nI j))], [.int (4), .int (nI j), .int (nI i), .ref (4)]))) rfl ?_
      refine XV.callV C (As := [.int (nI i), .int (nI j), .int (4)]) (rest := []) (ci := 4) (ct_D_section hfl hn hO hz z1 z2 ho hkp (i := i) (s := j) (w := 4) (by first | assumption | omega) (by omega) (by decide)) (xlk_ok okL_rope rfl) rfl (by omega) (by omega) rfl (cw_o) rfl wM_L_32 wI_C_section wV_C_section wN_C wB_C_section hy_C_section (fun q => q.elim) ⟨Nat.le_of_ble_eq_true rfl, Nat.le_of_ble_eq_true rfl⟩ ⟨by show _ ≤ 1000; omega, by show _ ≤ 6000; omega⟩ (Nat.le_of_ble_eq_true rfl) (fun r n h hp => ?_) (fun _ _ _ q => q.elim)
      obtain ⟨rfl, rfl, rfl⟩ := hp
      refine XV.run C okL_rope 2 (q := (176, ([some (.ref (4)), some (.int (nI i)), some (.int (sumN (colR (rowOf f i) true) 0 j)), some (.int (sumN (colR (rowOf f i) false) 0 j)), some (.int (1)), some (.int (nI j))], [.int (0), .ref (4), .int (secF (rowOf f i) j 4)]))) rfl ?_
      refine XV.callV C (As := [.int (0)]) (rest := [.int (secF (rowOf f i) j 4)]) (ci := 4) (ct_D_count hfl hn hO hz z1 z2 ho hkp (w := 0) (by decide)) (xlk_ok okL_rope rfl) rfl (by omega) (by omega) rfl (cw_o) rfl wM_L_29 wI_C_count wV_C_count wN_C wB_C_count hy_C_count (fun q => q.elim) ⟨Nat.le_of_ble_eq_true rfl, Nat.le_of_ble_eq_true rfl⟩ ⟨by show _ ≤ 1000; omega, by show _ ≤ 6000; omega⟩ (Nat.le_of_ble_eq_true rfl) (fun r n h hp => ?_) (fun _ _ _ q => q.elim)
      obtain ⟨rfl, rfl, rfl⟩ := hp
      refine XV.icmp_gt C (tgt := 186) (xlk_ok okL_rope rfl) rfl (fun hc => absurd hc (sg_6 hO hi (by omega))) (fun _ => ?_)
      refine XV.run C okL_rope 8 (q := (195, ([some (.ref (4)), some (.int (nI i)), some (.int (sumN (colR (rowOf f i) true) 0 j)), some (.int (sumN (colR (rowOf f i) false) 0 j)), some (.int (1)), some (.int (nI j))], [.int (1), .int (nI j), .int (nI i), .ref (4), .int (sumN (colR (rowOf f i) true) 0 j)]))) rfl ?_
      refine XV.callV C (As := [.int (nI i), .int (nI j), .int (1)]) (rest := [.int (sumN (colR (rowOf f i) true) 0 j)]) (ci := 4) (ct_D_section hfl hn hO hz z1 z2 ho hkp (i := i) (s := j) (w := 1) (by first | assumption | omega) (by omega) (by decide)) (xlk_ok okL_rope rfl) rfl (by omega) (by omega) rfl (cw_o) rfl wM_L_32 wI_C_section wV_C_section wN_C wB_C_section hy_C_section (fun q => q.elim) ⟨Nat.le_of_ble_eq_true rfl, Nat.le_of_ble_eq_true rfl⟩ ⟨by show _ ≤ 1000; omega, by show _ ≤ 6000; omega⟩ (Nat.le_of_ble_eq_true rfl) (fun r n h hp => ?_) (fun _ _ _ q => q.elim)
      obtain ⟨rfl, rfl, rfl⟩ := hp
      refine XV.run C okL_rope 1 (q := (199, ([some (.ref (4)), some (.int (nI i)), some (.int (sumN (colR (rowOf f i) true) 0 j)), some (.int (sumN (colR (rowOf f i) false) 0 j)), some (.int (1)), some (.int (nI j))], [.int ((sumN (colR (rowOf f i) true) 0 j) + (secF (rowOf f i) j 1))]))) rfl ?_
      rw [show ((sumN (colR (rowOf f i) true) 0 j) + (secF (rowOf f i) j 1) : Int32) = sumN (colR (rowOf f i) true) 0 (j + 1) from th_s _ _]
      refine XV.run C okL_rope 6 (q := (206, ([some (.ref (4)), some (.int (nI i)), some (.int (sumN (colR (rowOf f i) true) 0 (j + 1))), some (.int (sumN (colR (rowOf f i) false) 0 j)), some (.int (1)), some (.int (nI j))], [.int (2), .int (nI j), .int (nI i), .ref (4), .int (sumN (colR (rowOf f i) false) 0 j)]))) rfl ?_
      refine XV.callV C (As := [.int (nI i), .int (nI j), .int (2)]) (rest := [.int (sumN (colR (rowOf f i) false) 0 j)]) (ci := 4) (ct_D_section hfl hn hO hz z1 z2 ho hkp (i := i) (s := j) (w := 2) (by first | assumption | omega) (by omega) (by decide)) (xlk_ok okL_rope rfl) rfl (by omega) (by omega) rfl (cw_o) rfl wM_L_32 wI_C_section wV_C_section wN_C wB_C_section hy_C_section (fun q => q.elim) ⟨Nat.le_of_ble_eq_true rfl, Nat.le_of_ble_eq_true rfl⟩ ⟨by show _ ≤ 1000; omega, by show _ ≤ 6000; omega⟩ (Nat.le_of_ble_eq_true rfl) (fun r n h hp => ?_) (fun _ _ _ q => q.elim)
      obtain ⟨rfl, rfl, rfl⟩ := hp
      refine XV.run C okL_rope 1 (q := (210, ([some (.ref (4)), some (.int (nI i)), some (.int (sumN (colR (rowOf f i) true) 0 (j + 1))), some (.int (sumN (colR (rowOf f i) false) 0 j)), some (.int (1)), some (.int (nI j))], [.int ((sumN (colR (rowOf f i) false) 0 j) + (secF (rowOf f i) j 2))]))) rfl ?_
      rw [show ((sumN (colR (rowOf f i) false) 0 j) + (secF (rowOf f i) j 2) : Int32) = sumN (colR (rowOf f i) false) 0 (j + 1) from ct_s _ _]
      refine XV.run C okL_rope 3 (q := (43, ([some (.ref (4)), some (.int (nI i)), some (.int (sumN (colR (rowOf f i) true) 0 (j + 1))), some (.int (sumN (colR (rowOf f i) false) 0 (j + 1))), some (.int (1)), some (.int ((nI j) + 1))], []))) rfl ?_
      rw [nI_1]
      exact XV.widen (by omega) (by omega) (ih (j + 1) (by omega))
  exact loop 24 0 rfl
end
