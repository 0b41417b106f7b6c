/-! branches, divisions, constants, doubles, null, switches, copies, Math, new objects -/
theorem wB_maxL : Cond.code Lib.Math.max.name Lib.Math.max.code 2 (some .int) ∈ WALL := wB_JM_max
theorem wB_minL : Cond.code Lib.Math.min.name Lib.Math.min.code 2 (some .int) ∈ WALL := wB_JM_min
section XBR
variable {G : XG} {nL : Nat} {p : Program} {l : Launch} {e : Env} {R : Room} {s : State} {m : MethodId} {args : Array Value} {below : List Frame} {meth : Method} {c : Code} {Q : State → Prop} {own : String} {cc : ByteArray}
variable {pc : Nat} {ls : List (Option Value)} {st : List Value} {n : Nat} {h : XH} {k ks : Nat}
theorem XV.icmp_eq (C : XCx G l own cc nL p s m args meth c) {x y : Int32} {off : Int} {tgt : Nat} (hd : decode cc pc = .ok (.if_icmp .eq off, 3)) (ht : (pc : Int) + off = (tgt : Int)) (kt : x = y → XV G nL p l e R s m args below meth c Q tgt ls st n h k ks) (kf : ¬ (x = y) → XV G nL p l e R s m args below meth c Q (pc + 3) ls st n h k ks) : XV G nL p l e R s m args below meth c Q pc ls (.int y :: .int x :: st) n h k ks :=
  fun H locs lr hP hz hS hL => lv_icmp_eq C.1 C.2.1 hd ht (fun q => kt q H locs lr hP hz hS hL) (fun q => kf q H locs lr hP hz hS hL)
theorem XV.if_eq (C : XCx G l own cc nL p s m args meth c) {x : Int32} {off : Int} {tgt : Nat} (hd : decode cc pc = .ok (.ifCond .eq off, 3)) (ht : (pc : Int) + off = (tgt : Int)) (kt : x = 0 → XV G nL p l e R s m args below meth c Q tgt ls st n h k ks) (kf : ¬ (x = 0) → XV G nL p l e R s m args below meth c Q (pc + 3) ls st n h k ks) : XV G nL p l e R s m args below meth c Q pc ls (.int x :: st) n h k ks :=
  fun H locs lr hP hz hS hL => lv_if_eq C.1 C.2.1 hd ht (fun q => kt q H locs lr hP hz hS hL) (fun q => kf q H locs lr hP hz hS hL)
theorem XV.icmp_ne (C : XCx G l own cc nL p s m args meth c) {x y : Int32} {off : Int} {tgt : Nat} (hd : decode cc pc = .ok (.if_icmp .ne off, 3)) (ht : (pc : Int) + off = (tgt : Int)) (kt : ¬ x = y → XV G nL p l e R s m args below meth c Q tgt ls st n h k ks) (kf : x = y → XV G nL p l e R s m args below meth c Q (pc + 3) ls st n h k ks) : XV G nL p l e R s m args below meth c Q pc ls (.int y :: .int x :: st) n h k ks :=
  fun H locs lr hP hz hS hL => lv_icmp_ne C.1 C.2.1 hd ht (fun q => kt q H locs lr hP hz hS hL) (fun q => kf q H locs lr hP hz hS hL)
theorem XV.if_ne (C : XCx G l own cc nL p s m args meth c) {x : Int32} {off : Int} {tgt : Nat} (hd : decode cc pc = .ok (.ifCond .ne off, 3)) (ht : (pc : Int) + off = (tgt : Int)) (kt : ¬ x = 0 → XV G nL p l e R s m args below meth c Q tgt ls st n h k ks) (kf : x = 0 → XV G nL p l e R s m args below meth c Q (pc + 3) ls st n h k ks) : XV G nL p l e R s m args below meth c Q pc ls (.int x :: st) n h k ks :=
  fun H locs lr hP hz hS hL => lv_if_ne C.1 C.2.1 hd ht (fun q => kt q H locs lr hP hz hS hL) (fun q => kf q H locs lr hP hz hS hL)
theorem XV.icmp_lt (C : XCx G l own cc nL p s m args meth c) {x y : Int32} {off : Int} {tgt : Nat} (hd : decode cc pc = .ok (.if_icmp .lt off, 3)) (ht : (pc : Int) + off = (tgt : Int)) (kt : x < y → XV G nL p l e R s m args below meth c Q tgt ls st n h k ks) (kf : ¬ (x < y) → XV G nL p l e R s m args below meth c Q (pc + 3) ls st n h k ks) : XV G nL p l e R s m args below meth c Q pc ls (.int y :: .int x :: st) n h k ks :=
  fun H locs lr hP hz hS hL => lv_icmp_lt C.1 C.2.1 hd ht (fun q => kt q H locs lr hP hz hS hL) (fun q => kf q H locs lr hP hz hS hL)
theorem XV.if_lt (C : XCx G l own cc nL p s m args meth c) {x : Int32} {off : Int} {tgt : Nat} (hd : decode cc pc = .ok (.ifCond .lt off, 3)) (ht : (pc : Int) + off = (tgt : Int)) (kt : x < 0 → XV G nL p l e R s m args below meth c Q tgt ls st n h k ks) (kf : ¬ (x < 0) → XV G nL p l e R s m args below meth c Q (pc + 3) ls st n h k ks) : XV G nL p l e R s m args below meth c Q pc ls (.int x :: st) n h k ks :=
  fun H locs lr hP hz hS hL => lv_if_lt C.1 C.2.1 hd ht (fun q => kt q H locs lr hP hz hS hL) (fun q => kf q H locs lr hP hz hS hL)
theorem XV.icmp_ge (C : XCx G l own cc nL p s m args meth c) {x y : Int32} {off : Int} {tgt : Nat} (hd : decode cc pc = .ok (.if_icmp .ge off, 3)) (ht : (pc : Int) + off = (tgt : Int)) (kt : y ≤ x → XV G nL p l e R s m args below meth c Q tgt ls st n h k ks) (kf : ¬ (y ≤ x) → XV G nL p l e R s m args below meth c Q (pc + 3) ls st n h k ks) : XV G nL p l e R s m args below meth c Q pc ls (.int y :: .int x :: st) n h k ks :=
  fun H locs lr hP hz hS hL => lv_icmp_ge C.1 C.2.1 hd ht (fun q => kt q H locs lr hP hz hS hL) (fun q => kf q H locs lr hP hz hS hL)
theorem XV.if_ge (C : XCx G l own cc nL p s m args meth c) {x : Int32} {off : Int} {tgt : Nat} (hd : decode cc pc = .ok (.ifCond .ge off, 3)) (ht : (pc : Int) + off = (tgt : Int)) (kt : 0 ≤ x → XV G nL p l e R s m args below meth c Q tgt ls st n h k ks) (kf : ¬ (0 ≤ x) → XV G nL p l e R s m args below meth c Q (pc + 3) ls st n h k ks) : XV G nL p l e R s m args below meth c Q pc ls (.int x :: st) n h k ks :=
  fun H locs lr hP hz hS hL => lv_if_ge C.1 C.2.1 hd ht (fun q => kt q H locs lr hP hz hS hL) (fun q => kf q H locs lr hP hz hS hL)
theorem XV.icmp_gt (C : XCx G l own cc nL p s m args meth c) {x y : Int32} {off : Int} {tgt : Nat} (hd : decode cc pc = .ok (.if_icmp .gt off, 3)) (ht : (pc : Int) + off = (tgt : Int)) (kt : y < x → XV G nL p l e R s m args below meth c Q tgt ls st n h k ks) (kf : ¬ (y < x) → XV G nL p l e R s m args below meth c Q (pc + 3) ls st n h k ks) : XV G nL p l e R s m args below meth c Q pc ls (.int y :: .int x :: st) n h k ks :=
  fun H locs lr hP hz hS hL => lv_icmp_gt C.1 C.2.1 hd ht (fun q => kt q H locs lr hP hz hS hL) (fun q => kf q H locs lr hP hz hS hL)
theorem XV.if_gt (C : XCx G l own cc nL p s m args meth c) {x : Int32} {off : Int} {tgt : Nat} (hd : decode cc pc = .ok (.ifCond .gt off, 3)) (ht : (pc : Int) + off = (tgt : Int)) (kt : 0 < x → XV G nL p l e R s m args below meth c Q tgt ls st n h k ks) (kf : ¬ (0 < x) → XV G nL p l e R s m args below meth c Q (pc + 3) ls st n h k ks) : XV G nL p l e R s m args below meth c Q pc ls (.int x :: st) n h k ks :=
  fun H locs lr hP hz hS hL => lv_if_gt C.1 C.2.1 hd ht (fun q => kt q H locs lr hP hz hS hL) (fun q => kf q H locs lr hP hz hS hL)
theorem XV.icmp_le (C : XCx G l own cc nL p s m args meth c) {x y : Int32} {off : Int} {tgt : Nat} (hd : decode cc pc = .ok (.if_icmp .le off, 3)) (ht : (pc : Int) + off = (tgt : Int)) (kt : x ≤ y → XV G nL p l e R s m args below meth c Q tgt ls st n h k ks) (kf : ¬ (x ≤ y) → XV G nL p l e R s m args below meth c Q (pc + 3) ls st n h k ks) : XV G nL p l e R s m args below meth c Q pc ls (.int y :: .int x :: st) n h k ks :=
  fun H locs lr hP hz hS hL => lv_icmp_le C.1 C.2.1 hd ht (fun q => kt q H locs lr hP hz hS hL) (fun q => kf q H locs lr hP hz hS hL)
theorem XV.if_le (C : XCx G l own cc nL p s m args meth c) {x : Int32} {off : Int} {tgt : Nat} (hd : decode cc pc = .ok (.ifCond .le off, 3)) (ht : (pc : Int) + off = (tgt : Int)) (kt : x ≤ 0 → XV G nL p l e R s m args below meth c Q tgt ls st n h k ks) (kf : ¬ (x ≤ 0) → XV G nL p l e R s m args below meth c Q (pc + 3) ls st n h k ks) : XV G nL p l e R s m args below meth c Q pc ls (.int x :: st) n h k ks :=
  fun H locs lr hP hz hS hL => lv_if_le C.1 C.2.1 hd ht (fun q => kt q H locs lr hP hz hS hL) (fun q => kf q H locs lr hP hz hS hL)
theorem XV.null_r (C : XCx G l own cc nL p s m args meth c) {i : Nat} {off : Int} (hd : decode cc pc = .ok (.ifnull off, 3)) (kk : XV G nL p l e R s m args below meth c Q (pc + 3) ls st n h k ks) : XV G nL p l e R s m args below meth c Q pc ls (.ref i :: st) n h k ks :=
  fun H locs lr hP hz hS hL => lv_ifnull C.1 C.2.1 hd (kk H locs lr hP hz hS hL)
theorem XV.null_n (C : XCx G l own cc nL p s m args meth c) {off : Int} {tgt : Nat} (hd : decode cc pc = .ok (.ifnull off, 3)) (ht : (pc : Int) + off = (tgt : Int)) (kk : XV G nL p l e R s m args below meth c Q tgt ls st n h k ks) : XV G nL p l e R s m args below meth c Q pc ls (.null :: st) n h k ks :=
  fun H locs lr hP hz hS hL => lv_ifnullN C.1 C.2.1 hd ht (kk H locs lr hP hz hS hL)
theorem XV.nonnull_r (C : XCx G l own cc nL p s m args meth c) {i : Nat} {off : Int} {tgt : Nat} (hd : decode cc pc = .ok (.ifnonnull off, 3)) (ht : (pc : Int) + off = (tgt : Int)) (kk : XV G nL p l e R s m args below meth c Q tgt ls st n h k ks) : XV G nL p l e R s m args below meth c Q pc ls (.ref i :: st) n h k ks :=
  fun H locs lr hP hz hS hL => lv_ifnonnull C.1 C.2.1 hd ht (kk H locs lr hP hz hS hL)
theorem XV.nonnull_n (C : XCx G l own cc nL p s m args meth c) {off : Int} (hd : decode cc pc = .ok (.ifnonnull off, 3)) (kk : XV G nL p l e R s m args below meth c Q (pc + 3) ls st n h k ks) : XV G nL p l e R s m args below meth c Q pc ls (.null :: st) n h k ks :=
  fun H locs lr hP hz hS hL => lv_ifnonnullN C.1 C.2.1 hd (kk H locs lr hP hz hS hL)
theorem XV.idiv (C : XCx G l own cc nL p s m args meth c) {x y : Int32} (hd : decode cc pc = .ok (.idiv, 1)) (hne : ¬ y = 0) (kk : XV G nL p l e R s m args below meth c Q (pc + 1) ls (.int (x / y) :: st) n h k ks) : XV G nL p l e R s m args below meth c Q pc ls (.int y :: .int x :: st) n h k ks :=
  fun H locs lr hP hz hS hL => lv_idiv C.1 C.2.1 hd hne (kk H locs lr hP hz hS hL)
theorem XV.irem (C : XCx G l own cc nL p s m args meth c) {x y : Int32} (hd : decode cc pc = .ok (.irem, 1)) (hne : ¬ y = 0) (kk : XV G nL p l e R s m args below meth c Q (pc + 1) ls (.int (x - x / y * y) :: st) n h k ks) : XV G nL p l e R s m args below meth c Q pc ls (.int y :: .int x :: st) n h k ks :=
  fun H locs lr hP hz hS hL => lv_irem C.1 C.2.1 hd hne (kk H locs lr hP hz hS hL)
theorem XV.ldc (C : XCx G l own cc nL p s m args meth c) {ix : Nat} {v : Int32} (hd : decode cc pc = .ok (.ldc ix, 2)) (hw : Cond.constant own ix v ∈ WALL) (kk : XV G nL p l e R s m args below meth c Q (pc + 2) ls (.int v :: st) n h k ks) : XV G nL p l e R s m args below meth c Q pc ls st n h k ks :=
  fun H locs lr hP hz hS hL => lv_ldc C.1 C.2.1 C.2.2.2.1 (C.2.2.2.2.1 _ hw) hd (kk H locs lr hP hz hS hL)
theorem XV.ldc2 (C : XCx G l own cc nL p s m args meth c) {ix : Nat} {v : Int64} (hd : decode cc pc = .ok (.ldc2_w ix, 3)) (hw : Cond.constantLong own ix v ∈ WALL) (kk : XV G nL p l e R s m args below meth c Q (pc + 3) ls (.long v :: st) n h k ks) : XV G nL p l e R s m args below meth c Q pc ls st n h k ks :=
  fun H locs lr hP hz hS hL => lv_ldc2 C.1 C.2.1 C.2.2.2.1 (C.2.2.2.2.1 _ hw) hd (kk H locs lr hP hz hS hL)
theorem XV.ldc2d (C : XCx G l own cc nL p s m args meth c) {ix : Nat} {v : UInt64} (hd : decode cc pc = .ok (.ldc2_w ix, 3)) (hw : Cond.constantDouble own ix v ∈ WALL) (kk : XV G nL p l e R s m args below meth c Q (pc + 3) ls (.double v :: st) n h k ks) : XV G nL p l e R s m args below meth c Q pc ls st n h k ks :=
  fun H locs lr hP hz hS hL => lv_ldc2d C.1 C.2.1 C.2.2.2.1 (C.2.2.2.2.1 _ hw) hd (kk H locs lr hP hz hS hL)
theorem XV.dconst0 (C : XCx G l own cc nL p s m args meth c) (hd : decode cc pc = .ok (.dconst 0, 1)) (kk : XV G nL p l e R s m args below meth c Q (pc + 1) ls (.double FP.dconst0 :: st) n h k ks) : XV G nL p l e R s m args below meth c Q pc ls st n h k ks :=
  fun H locs lr hP hz hS hL => lv_dconst0 C.1 C.2.1 hd (kk H locs lr hP hz hS hL)
theorem XV.dconst1 (C : XCx G l own cc nL p s m args meth c) (hd : decode cc pc = .ok (.dconst 1, 1)) (kk : XV G nL p l e R s m args below meth c Q (pc + 1) ls (.double FP.dconst1 :: st) n h k ks) : XV G nL p l e R s m args below meth c Q pc ls st n h k ks :=
  fun H locs lr hP hz hS hL => lv_dconst1 C.1 C.2.1 hd (kk H locs lr hP hz hS hL)
theorem XV.ddiv (C : XCx G l own cc nL p s m args meth c) {x y : UInt64} (hd : decode cc pc = .ok (.ddiv, 1)) (hne : vf_n64 (FP.ddiv x y)) (kk : XV G nL p l e R s m args below meth c Q (pc + 1) ls (.double (FP.ddiv x y) :: st) n h k ks) : XV G nL p l e R s m args below meth c Q pc ls (.double y :: .double x :: st) n h k ks :=
  fun H locs lr hP hz hS hL => lv_ddiv C.1 C.2.1 hd hne (kk H locs lr hP hz hS hL)
theorem XV.dmul (C : XCx G l own cc nL p s m args meth c) {x y : UInt64} (hd : decode cc pc = .ok (.dmul, 1)) (hne : vf_n64 (FP.dmul x y)) (kk : XV G nL p l e R s m args below meth c Q (pc + 1) ls (.double (FP.dmul x y) :: st) n h k ks) : XV G nL p l e R s m args below meth c Q pc ls (.double y :: .double x :: st) n h k ks :=
  fun H locs lr hP hz hS hL => lv_dmul C.1 C.2.1 hd hne (kk H locs lr hP hz hS hL)
theorem XV.dsub (C : XCx G l own cc nL p s m args meth c) {x y : UInt64} (hd : decode cc pc = .ok (.dsub, 1)) (hne : vf_n64 (FP.dsub x y)) (kk : XV G nL p l e R s m args below meth c Q (pc + 1) ls (.double (FP.dsub x y) :: st) n h k ks) : XV G nL p l e R s m args below meth c Q pc ls (.double y :: .double x :: st) n h k ks :=
  fun H locs lr hP hz hS hL => lv_dsub C.1 C.2.1 hd hne (kk H locs lr hP hz hS hL)
theorem XV.tabOut (C : XCx G l own cc nL p s m args meth c) {dflt lo hi : Int} {offs : Array Int} {len : Nat} {x : Int32} {tgt : Nat} (hd : decode cc pc = .ok (.tableswitch dflt lo hi offs, len)) (hx : x.toInt < lo ∨ hi < x.toInt) (ht : (pc : Int) + dflt = (tgt : Int)) (kk : XV G nL p l e R s m args below meth c Q tgt ls st n h k ks) : XV G nL p l e R s m args below meth c Q pc ls (.int x :: st) n h k ks :=
  fun H locs lr hP hz hS hL => lv_tableOut C.1 C.2.1 hd hx ht (kk H locs lr hP hz hS hL)
theorem XV.tabIn (C : XCx G l own cc nL p s m args meth c) {dflt lo hi : Int} {offs : Array Int} {len : Nat} {x : Int32} {off : Int} {tgt : Nat} (hd : decode cc pc = .ok (.tableswitch dflt lo hi offs, len)) (h1 : ¬ x.toInt < lo) (h2 : ¬ hi < x.toInt) (ho : offs[(x.toInt - lo).toNat]? = some off) (ht : (pc : Int) + off = (tgt : Int)) (kk : XV G nL p l e R s m args below meth c Q tgt ls st n h k ks) : XV G nL p l e R s m args below meth c Q pc ls (.int x :: st) n h k ks :=
  fun H locs lr hP hz hS hL => lv_tableIn C.1 C.2.1 hd h1 h2 ho ht (kk H locs lr hP hz hS hL)
theorem xsum (G : XG) (st : List Value) : (((st.map (xv G)).map fun v => v.category).sum) = (st.map fun v => v.category).sum := by
  rw [List.map_map]
  congr 1
  apply List.map_congr_left
  intro v _
  exact xv_cat G v
theorem XV.mmax (C : XCx G l own cc nL p s m args meth c) {ix : Nat} {x y : Int32} (hd : decode cc pc = .ok (.invokestatic ix, 3)) (hw : Cond.methodLink own ix Lib.Math.max.name ∈ WALL) (hf : 1 ≤ R.frames) (hl : (st.map fun v => v.category).sum + 13 ≤ R.locals) (hc : k ≤ R.cells) (hs : ks ≤ R.slots) (kk : XV G nL p l e R s m args below meth c Q (pc + 3) ls (.int (if x < y then y else x) :: st) n h k ks) : XV G nL p l e R s m args below meth c Q pc ls (.int y :: .int x :: st) n h k ks :=
  fun H locs lr hP hz hS hL => va_mmax C.1 C.2.1 (C.2.2.1.trans hL.1.symm) C.2.2.2.1 (C.2.2.2.2.1 _ hw) (C.2.2.2.2.1 _ wS_JM_max) (C.2.2.2.2.1 _ wN_JM) (C.2.2.2.2.1 _ wB_maxL) hf (by rw [xsum]; exact hl) hc hs hd (kk H locs lr hP hz hS hL)
theorem XV.mmin (C : XCx G l own cc nL p s m args meth c) {ix : Nat} {x y : Int32} (hd : decode cc pc = .ok (.invokestatic ix, 3)) (hw : Cond.methodLink own ix Lib.Math.min.name ∈ WALL) (hf : 1 ≤ R.frames) (hl : (st.map fun v => v.category).sum + 13 ≤ R.locals) (hc : k ≤ R.cells) (hs : ks ≤ R.slots) (kk : XV G nL p l e R s m args below meth c Q (pc + 3) ls (.int (if y < x then y else x) :: st) n h k ks) : XV G nL p l e R s m args below meth c Q pc ls (.int y :: .int x :: st) n h k ks :=
  fun H locs lr hP hz hS hL => va_mmin C.1 C.2.1 (C.2.2.1.trans hL.1.symm) C.2.2.2.1 (C.2.2.2.2.1 _ hw) (C.2.2.2.2.1 _ wS_JM_min) (C.2.2.2.2.1 _ wN_JM) (C.2.2.2.2.1 _ wB_minL) hf (by rw [xsum]; exact hl) hc hs hd (kk H locs lr hP hz hS hL)
/-- System.arraycopy of whole int arrays, from 0 to 0 -/
theorem XV.copy (C : XCx G l own cc nL p s m args meth c) {ix i j N : Nat} {f g : Nat → Int32} {len : Int32} (hd : decode cc pc = .ok (.invokestatic ix, 3)) (hw : Cond.methodLink own ix arraycopyName ∈ WALL) (hi : 4 ≤ i) (hin : i < n + 4) (hj : 4 ≤ j) (hjn : j < n + 4) (hhi : h i = .inl (0, (N, .inl f))) (hhj : h j = .inl (0, (N, .inl g))) (hlen : len = nI N) (hN : N < 2 ^ 31) (hf : 1 ≤ R.frames) (hl : (st.map fun v => v.category).sum + 18 ≤ R.locals) (kk : XV G nL p l e R s m args below meth c Q (pc + 3) ls st n (xup h j (.inl (0, (N, .inl (fun q => if q < N then f q else g q))))) k ks) : XV G nL p l e R s m args below meth c Q pc ls (.int len :: .int 0 :: .ref j :: .int 0 :: .ref i :: st) n h k ks := by
  obtain ⟨hx, hb, hml, hown, hts, hlocks, hE, -⟩ := C
  intro H locs lr hP hz hS hL
  subst hlen
  refine va_copyi (n0 := N) (n1 := N) (f := f) (g := g) (ty := .int) hx hb (hml.trans hL.1.symm) hown (hts _ hw) (hts _ wX_JS_arraycopy) (hts _ wS_JS_arraycopy) (hts _ wN_JS) hE.1 hP (xw_D G n h) hS (i - 4) (j - 4) 0 0 (by rw [xw_at G hi hin, hhi]; rfl) (by rw [xw_at G hj hjn, hhj]; rfl) rfl rfl rfl (by decide) (by decide) (nI_pos hN) (by rw [nI_clamp hN]; exact Nat.le_of_eq (Nat.zero_add N)) (by rw [nI_clamp hN]; exact Nat.le_of_eq (Nat.zero_add N)) (fun _ _ => rfl) hf (by rw [xsum, nativeFrameWords_plain 5 (by decide)]; exact hl) hd (fun H1 locs1 hP1 _ hS1 => ?_)
  have hcp : va_cpy f g (0 : Int32).toNatClampNeg (0 : Int32).toNatClampNeg (nI N).toNatClampNeg = (fun q => if q < N then f q else g q) := by
    rw [nI_clamp hN]
    funext q
    show (if 0 ≤ q ∧ q < 0 + N then f (0 + (q - 0)) else g q) = _
    by_cases hq : q < N
    · rw [if_pos ⟨Nat.zero_le _, by omega⟩, if_pos hq]
      congr 1
      omega
    · rw [if_neg (fun z => hq (by omega)), if_neg hq]
  rw [hcp, show ((xa G j, Sum.inl (xcA G 0, N, Sum.inl (fun q => if q < N then f q else g q))) : Nat × va_E) = (xa G j, xe G (.inl (0, (N, .inl (fun q => if q < N then f q else g q))))) from rfl, xw_set G n h j _ hj] at hP1
  exact kk H1 locs1 lr hP1 (va_P_size (i := j) hP1 (by omega)) hS1 hL
theorem XV.objInit (C : XCx G l own cc nL p s m args meth c) {ix i : Nat} (hd : decode cc pc = .ok (.invokespecial ix, 3)) (hw : Cond.methodLink own ix Lib.objectInit ∈ WALL) (hf : 1 ≤ R.frames) (hl : (st.map fun v => v.category).sum + 12 ≤ R.locals) (kk : XV G nL p l e R s m args below meth c Q (pc + 3) ls st n h k ks) : XV G nL p l e R s m args below meth c Q pc ls (.ref i :: st) n h k ks := by
  obtain ⟨hx, hb, hml, hown, hts, hlocks, hE, -⟩ := C
  intro H locs lr hP hz hS hL
  refine W.objInit (a := xa G i) (rest := st.map (xv G)) hx hb hown (hts _ hw) (hts _ wI_JO_init) (hts _ wB_objL) rfl (hL.1.trans hml.symm) rfl hd hf (by rw [xsum]; show 2 * 0 + _ + 12 ≤ _; omega) ?_
  exact kk H locs lr hP hz hS hL
theorem XV.new (C : XCx G l own cc nL p s m args meth c) {ix ci : Nat} {q : vw_C} {fs : List Value} (hd : decode cc pc = .ok (.new ix, 3)) (hc : XCl[ci]? = some q) (hw : Cond.classLink own ix q.1 ∈ WALL) (hw2 : Cond.instantiable q.1 q.2.2 ∈ WALL) (hw3 : Cond.initialized q.1 ∈ WALL) (hfs : ∀ (j : Nat) (ty : FieldType), j < q.2.2 → parseFieldDescriptor (q.2.1 j).2.2.1 = some ty → defaultValue ty = vp_V (fs.map (xv G)) j) (hex : s.heap.size + k = xbase G + n) (hcells : k + 1 ≤ R.cells) (hslots : ks + q.2.2 ≤ R.slots) (kk : XV G nL p l e R s m args below meth c Q (pc + 3) ls (.ref (n + 4) :: st) (n + 1) (xup h (n + 4) (.inr (ci, fs))) (k + 1) (ks + q.2.2)) : XV G nL p l e R s m args below meth c Q pc ls st n h k ks := by
  obtain ⟨hx, hb, hml, hown, hts, hlocks, hE, -⟩ := C
  intro H locs lr hP hz hS hL
  refine W.sized (fun hsz => ?_)
  have hsize : H.size = xbase G + n := by omega
  obtain ⟨C0, T, N⟩ := q
  obtain ⟨ty0, hty0⟩ := XCl_ty hc
  have hKn := hE.1.1 ci _ hc
  refine W.newcK hx hb hown (hts _ hw) (hts _ hw2) (hts _ hw3) rfl hd hcells hslots hKn.2.1 rfl fun H1 kC hkC e1 z1 o1 => ?_
  have hk : ∀ (k : Nat) (x : Nat × va_E), (xw G n h)[k]? = some x → H1[x.1]? = H[x.1]? := fun k x hx => o1 x.1 ((hP k x hx).lt)
  have hS1 : va_S (xA G) s.heap H1 locs := ⟨Nat.le_trans hS.1 (by omega), fun x h1 h2 => (o1 x (Nat.lt_of_lt_of_le h1 hS.1)).trans (hS.2.1 x h1 h2), hS.2.2⟩
  have hP1 : va_P (xD G) XCl (xw G n h ++ [(xbase G + n, xe G (.inr (ci, fs)))]) H1 := by
    refine (hP.kept hk).app (fun k x hx => ?_)
    have hz : k < 1 := (List.getElem?_eq_some_iff.mp hx).1
    rw [show k = 0 by omega] at hx
    cases hx
    rw [hsize] at e1
    exact ⟨_, hc, (u_born ty0 hts (XCl_in hc) hKn hkC e1 hty0).to (fun j hj => hfs j _ hj (hty0 j hj))⟩
  rw [xw_push] at hP1
  have hr : Value.ref H.size = xv G (.ref (n + 4)) := by
    show Value.ref H.size = Value.ref (xa G (n + 4))
    rw [xa_in G (by omega), hsize]
    rfl
  have K := kk H1 locs lr hP1 (by omega) hS1 hL
  rw [List.map_cons, ← hr] at K
  exact K
theorem XV.newI (C : XCx G l own cc nL p s m args meth c) {N : Nat} {x : Int32} (hd : decode cc pc = .ok (.newarray .int, 2)) (hw : Cond.arrayClass .int ∈ WALL) (hx0 : x = nI N) (hN : N < 100000) (hex : s.heap.size + k = xbase G + n) (hcells : k + 1 ≤ R.cells) (hslots : ks + N ≤ R.slots) (kk : XV G nL p l e R s m args below meth c Q (pc + 2) ls (.ref (n + 4) :: st) (n + 1) (xup h (n + 4) (.inl (0, (N, .inl (fun _ => 0))))) (k + 1) (ks + N)) : XV G nL p l e R s m args below meth c Q pc ls (.int x :: st) n h k ks := by
  obtain ⟨hx, hb, hml, hown, hts, hlocks, hE, -⟩ := C
  intro H locs lr hP hz hS hL
  subst hx0
  refine W.sized (fun hsz => ?_)
  have hsize : H.size = xbase G + n := by omega
  refine va_newaK (atype := .int) (N := N) hx hb (hts _ hw) rfl hd rfl (nI_pos (by omega)) (nI_clamp (by omega)) (by show N * 4 ≤ _; omega) hcells hslots rfl fun H1 cA e1 z1 o1 hAr hNm => ?_
  have hcA : cA = xcA G 0 := by
    have h1 := (hE.1.2 0 (xcA G 0, .int) rfl).2
    have h2 : s.vm.findClass ("[" ++ (FieldType.int).toString) = some (xcA G 0) := h1
    have h3 : s.vm.findClass ("[" ++ (FieldType.int).toString) = some cA := hNm
    exact Option.some.inj (h3.symm.trans h2)
  subst hcA
  have hk : ∀ (k : Nat) (x : Nat × va_E), (xw G n h)[k]? = some x → H1[x.1]? = H[x.1]? := fun k x hx => o1 x.1 ((hP k x hx).lt)
  have hS1 : va_S (xA G) s.heap H1 locs := ⟨Nat.le_trans hS.1 (by omega), fun x h1 h2 => (o1 x (Nat.lt_of_lt_of_le h1 hS.1)).trans (hS.2.1 x h1 h2), hS.2.2⟩
  have hP1 : va_P (xD G) XCl (xw G n h ++ [(xbase G + n, xe G (.inl (0, (N, .inl (fun _ => 0)))))]) H1 := by
    refine (hP.kept hk).app (fun k x hx => ?_)
    have hz : k < 1 := (List.getElem?_eq_some_iff.mp hx).1
    rw [show k = 0 by omega] at hx
    cases hx
    rw [hsize] at e1
    exact e1
  rw [xw_push] at hP1
  have hr : Value.ref H.size = xv G (.ref (n + 4)) := by
    show Value.ref H.size = Value.ref (xa G (n + 4))
    rw [xa_in G (by omega), hsize]
    rfl
  have K := kk H1 locs lr hP1 (by omega) hS1 hL
  rw [List.map_cons, ← hr] at K
  exact K
theorem XV.newA (C : XCx G l own cc nL p s m args meth c) {ix N t : Nat} {Cn : String} {x : Int32} (hd : decode cc pc = .ok (.anewarray ix, 3)) (hw : Cond.classLink own ix Cn ∈ WALL) (hAO : va_AO Cn s) (ht : (xtys G)[t]? = some (xcA G t, .object Cn)) (hx0 : x = nI N) (hN : N < 100000) (hex : s.heap.size + k = xbase G + n) (hcells : k + 1 ≤ R.cells) (hslots : ks + N ≤ R.slots) (kk : XV G nL p l e R s m args below meth c Q (pc + 3) ls (.ref (n + 4) :: st) (n + 1) (xup h (n + 4) (.inl (t, (N, .inr (.inr (fun _ => none)))))) (k + 1) (ks + N)) : XV G nL p l e R s m args below meth c Q pc ls (.int x :: st) n h k ks := by
  obtain ⟨hx, hb, hml, hown, hts, hlocks, hE, -⟩ := C
  intro H locs lr hP hz hS hL
  subst hx0
  refine W.sized (fun hsz => ?_)
  have hsize : H.size = xbase G + n := by omega
  have hcl : (nI N).toNatClampNeg = N := nI_clamp (by omega)
  refine W.anew hx hb hown (hts _ hw) (va_AO.use hAO) rfl hd rfl (nI_pos (by omega)) (by rw [hcl]; omega) hcells (by rw [hcl]; exact hslots) fun cA kA comp f1 f2 f3 f4 => ?_
  rw [hcl]
  generalize hH1 : H.push ({ cls := cA, slots := Array.replicate N .null, vm := .none } : Cell) = H1
  have z1 : H1.size = H.size + 1 := by rw [← hH1, Array.size_push]
  have e1 : H1[H.size]? = some (arrV cA N (fun _ => .null)) := by rw [← hH1, Array.getElem?_push_size, ← arrV_new]
  have o1 : ∀ q : Nat, q < H.size → H1[q]? = H[q]? := fun q hq => by rw [← hH1, Array.getElem?_push, if_neg (Nat.ne_of_lt hq)]
  have hcA : cA = xcA G t := by
    obtain ⟨kA', comp', -, -, -, g4⟩ := (hE.1.2 t (xcA G t, .object Cn) ht).2
    exact Option.some.inj (f1.symm.trans g4)
  subst hcA
  have hk : ∀ (k : Nat) (x : Nat × va_E), (xw G n h)[k]? = some x → H1[x.1]? = H[x.1]? := fun k x hx => o1 x.1 ((hP k x hx).lt)
  have hS1 : va_S (xA G) s.heap H1 locs := ⟨Nat.le_trans hS.1 (by omega), fun x h1 h2 => (o1 x (Nat.lt_of_lt_of_le h1 hS.1)).trans (hS.2.1 x h1 h2), hS.2.2⟩
  have hP1 : va_P (xD G) XCl (xw G n h ++ [(xbase G + n, xe G (.inl (t, (N, .inr (.inr (fun _ => none))))))]) H1 := by
    refine (hP.kept hk).app (fun k x hx => ?_)
    have hz : k < 1 := (List.getElem?_eq_some_iff.mp hx).1
    rw [show k = 0 by omega] at hx
    cases hx
    rw [hsize] at e1
    exact e1
  rw [xw_push] at hP1
  have hr : Value.ref H.size = xv G (.ref (n + 4)) := by
    show Value.ref H.size = Value.ref (xa G (n + 4))
    rw [xa_in G (by omega), hsize]
    rfl
  have K := kk H1 locs lr hP1 (by omega) hS1 hL
  rw [List.map_cons, ← hr] at K
  exact K
end XBR
