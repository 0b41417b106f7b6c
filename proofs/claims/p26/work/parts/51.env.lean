/-! what the Statement gives of the start; the law from its entry -/
theorem env_nw : ∀ w ∈ XNW, w ∈ lw_tbl := by decide +kernel
theorem env_str : ∀ q ∈ XSTR, Cond.stringRef "RopeThreads" q.1 q.2 ∈ lw_tbl := by decide +kernel
theorem env_strx : ∀ q ∈ XSTR, Cond.exactly (.string "RopeThreads" q.1) "java/lang/String" ∈ flatC (Jvm.Cond.and given_1 narrow_1) := by decide +kernel
def SAt (n : String) : Term := .static "RopeThreads" n "[I"
theorem env_tab1 : ∀ n ∈ ["LEAST_VALUES", "MOST_VALUES", "FIRST_VALUES"], Cond.arrayOf (SAt n) .int ∈ flatC (Jvm.Cond.and given_1 narrow_1) ∧ Cond.eq (.length (SAt n)) (.int 5) ∈ flatC (Jvm.Cond.and given_1 narrow_1) ∧ Cond.laysStatic "RopeThreads" n "[I" ∈ lw_tbl := by decide +kernel
theorem env_tab2 : ∀ i ∈ [1, 2, 3], ∀ j ∈ [0, 1, 2, 3, 4], Cond.eq (.elem (SAt (XSA i).1) (.int (Int32.ofNat j))) (.int ((XSA i).2 j)) ∈ flatC (Jvm.Cond.and given_1 narrow_1) := by decide +kernel
theorem env_ao : Cond.arrayOver (.object "RopeThreads$Rope") ∈ lw_tbl ∧ Cond.arrayOver (.object "RopeThreads$Elevator") ∈ lw_tbl := by decide +kernel
theorem env_zq : Cond.laysStatic Bundle.tN "UNASSIGNED_STACK" Bundle.steD ∈ lw_tbl ∧ Cond.laysStatic Bundle.tN "SUPPRESSED_SENTINEL" Bundle.listD ∈ lw_tbl ∧ Cond.initialized Bundle.tN ∈ lw_tbl ∧ Cond.isRef (.static Bundle.tN "UNASSIGNED_STACK" Bundle.steD) ∈ flatC (Jvm.Cond.and given_1 narrow_1) ∧ Cond.isRef (.static Bundle.tN "SUPPRESSED_SENTINEL" Bundle.listD) ∈ flatC (Jvm.Cond.and given_1 narrow_1) := by decide +kernel
theorem env_arr {s : State} {args : Array Value} {ty : FieldType} (h : (Cond.arrayClass ty).before args s = true) (hty : ∀ C, ty ≠ .object C) : ∃ cA, ArrOfT s cA ty ∧ va_RA s cA ty := by
  obtain ⟨c, k, comp, h1, h2, h3⟩ := Cond.arrayClass_spec h
  refine ⟨c, fun N z => ⟨(fun k h => by cases h), k, h2, comp, h3⟩, ?_⟩
  cases ty with
  | object C => exact absurd rfl (hty C)
  | _ => exact h1
theorem env_arrO {s : State} {args : Array Value} {C : String} (h : (Cond.arrayOver (.object C)).before args s = true) : ∃ cA, ArrOfT s cA (.object C) ∧ va_RA s cA (.object C) := by
  obtain ⟨comp, c, k, h1, h2, h3, h4, h5⟩ := Cond.arrayOver_spec h
  exact ⟨c, fun N z => ⟨(fun k h => by cases h), k, h3, comp, h4⟩, k, comp, h3, h4, h1, h5⟩
theorem env_static {s : State} {args : Array Value} {i : Nat} (hi : i ∈ [1, 2, 3]) (hts : ∀ w ∈ lw_tbl, w.before args s = true) (hs : ∀ w ∈ flatC (Jvm.Cond.and given_1 narrow_1), w.before args s = true) : ∃ t, t < s.heap.size ∧ va_Z "RopeThreads" (XSA i).1 "[I" (.ref t) (fun q => s.heap.size ≤ q) s s.heap ∧ va_T .int t 5 (fun j => .int ((XSA i).2 j)) (fun q => s.heap.size ≤ q) s s.heap := by
  have hA : ∀ a : Nat, a < s.heap.size → ¬ (fun q : Nat => s.heap.size ≤ q) a := fun a h => Nat.not_le.mpr h
  have hn : (XSA i).1 ∈ ["LEAST_VALUES", "MOST_VALUES", "FIRST_VALUES"] := by
    simp only [List.mem_cons, List.not_mem_nil, or_false] at hi
    rcases hi with rfl | rfl | rfl <;> decide
  obtain ⟨m1, m2, m3⟩ := env_tab1 _ hn
  obtain ⟨t, ht, hT⟩ := va_Tof (tm := SAt (XSA i).1) (ty := .int) (N := 5) (f := fun j => .int ((XSA i).2 j)) (A := fun q => s.heap.size ≤ q) (by decide) (hs _ m1) (va_eqt (hs _ m2)) (fun j hj => va_eqt (hs _ (env_tab2 i hi j (by
    rcases (show j = 0 ∨ j = 1 ∨ j = 2 ∨ j = 3 ∨ j = 4 by omega) with rfl | rfl | rfl | rfl | rfl <;> decide)))) hA
  refine ⟨t, ?_, va_Zof (hts _ m3) (hts _ (List.mem_filter.mp wN_C).1) ht hA, hT⟩
  obtain ⟨cell, h1, -⟩ := hT
  exact (Array.getElem?_eq_some_iff.mp h1).1
theorem law_env {p : Program} {s : State} {m : MethodId} {meth : Method} {c : Code} {b L : Nat} {xs : Nat → Int32} (C0 : lw_At p s m meth c b L xs) : ∃ G : XG, xL G = L ∧ xbase G = s.heap.size ∧ xext G 0 = b ∧ xEnv G s := by
  obtain ⟨hx, hb, hr, hml, hown, hts, hX, hbl, hlocks, hgv⟩ := C0
  have hs := flat_of_before _ hgv
  have hW : ∀ w ∈ WALL, w.before #[Value.ref b] s = true := fun w hw => hts w (List.mem_filter.mp hw).1
  have hA : ∀ a : Nat, a < s.heap.size → ¬ (fun q : Nat => s.heap.size ≤ q) a := fun a h => Nat.not_le.mpr h
  obtain ⟨cE, iE, kE⟩ := u_known (C := "RopeThreads$Elevator") (T := F_E) (N := 7) (n := 7) hW i_E (hW _ wA_E)
  obtain ⟨cH, iH, kH⟩ := u_known (C := "RopeThreads$History") (T := F_H) (N := 3) (n := 3) hW i_H (hW _ wA_H)
  obtain ⟨cR, iR, kR⟩ := u_known (C := "RopeThreads$Rope") (T := F_R) (N := 7) (n := 7) hW i_R (hW _ wA_R)
  obtain ⟨cT, iT, kT⟩ := u_known (C := "RopeThreads$TripText") (T := F_T) (N := 6) (n := 6) hW i_T (hW _ wA_T)
  obtain ⟨cC, iC, kC⟩ := u_known (C := "RopeThreads") (T := F_C) (N := 4) (n := 4) hW i_C (hW _ wA_C)
  obtain ⟨a0, r0⟩ := env_arr (hW _ wR_74) (fun C q => by cases q)
  obtain ⟨a2, r2⟩ := env_arrO (hts _ env_ao.2)
  obtain ⟨a3, r3⟩ := env_arrO (hts _ env_ao.1)
  obtain ⟨t1, l1, z1, y1⟩ := env_static (i := 1) (by decide) hts hs
  obtain ⟨t2, l2, z2, y2⟩ := env_static (i := 2) (by decide) hts hs
  obtain ⟨t3, l3, z3, y3⟩ := env_static (i := 3) (by decide) hts hs
  refine ⟨(fun k => match k with | 0 => a0 | 1 => a0 | 2 => a2 | _ => a3, ((fun k => match k with | 0 => cE | 1 => cH | 2 => cR | 3 => cT | _ => cC, fun k => match k with | 0 => iE | 1 => iH | 2 => iR | 3 => iT | _ => iC), (fun k => match k with | 0 => b | 1 => t1 | 2 => t2 | _ => t3, (s.heap.size, (L, xs))))), rfl, rfl, rfl, ⟨?_, ?_⟩, ?_, hX, ?_, ?_, ?_, ?_, ?_, ?_⟩
  · intro k q hq
    match k, hq with
    | 0, hq => cases hq; exact kE
    | 1, hq => cases hq; exact kH
    | 2, hq => cases hq; exact kR
    | 3, hq => cases hq; exact kT
    | 4, hq => cases hq; exact kC
    | k + 5, hq => simp [XCl] at hq
  · intro k q hq
    match k, hq with
    | 0, hq => cases hq; exact r0
    | 1, hq => cases hq; exact r0
    | 2, hq => cases hq; exact r2
    | 3, hq => cases hq; exact r3
    | k + 4, hq => simp [xtys] at hq
  · intro i hi
    match i, hi with
    | 0, _ => exact ⟨hbl, hbl⟩
    | 1, _ => exact ⟨l1, l1⟩
    | 2, _ => exact ⟨l2, l2⟩
    | 3, _ => exact ⟨l3, l3⟩
    | i + 4, hi => omega
  · intro i h1 h4
    match i, h1, h4 with
    | 1, _, _ => exact ⟨z1, y1⟩
    | 2, _, _ => exact ⟨z2, y2⟩
    | 3, _, _ => exact ⟨z3, y3⟩
    | i + 4, _, h4 => omega
  · exact ⟨vx_Zqof (hts _ env_zq.1) (hts _ env_zq.2.2.1) (hs _ env_zq.2.2.2.1) hA, vx_Zqof (hts _ env_zq.2.1) (hts _ env_zq.2.2.1) (hs _ env_zq.2.2.2.2) hA⟩
  · exact fun w hw => va_Nw.of (xnw_tab w hw) (hts w (env_nw w hw))
  · intro q hq
    obtain ⟨a, -, -, -, h1, -⟩ := Cond.exactly_spec (hs _ (env_strx q hq))
    exact ⟨a, vk_R.of (hts _ (env_str q hq)) h1⟩
  · exact trivial
  · exact ⟨va_AO.of (hts _ env_ao.1), va_AO.of (hts _ env_ao.2)⟩
set_option maxHeartbeats 4000000 in
theorem whole_start {p : Program} {e : Env} {s : State} {m : MethodId} {below : List Frame} {meth : Method} {c : Code} (l : Launch) (hflags : l.flags = flags0) {b L : Nat} {xs : Nat → Int32} (hL : L ≤ 260) (C0 : lw_At p s m meth c b L xs) : W p l e room_1 s m #[Value.ref b] below meth c s.heap [] 0 0 (lw_Z below #[Value.ref b] s) (entryFrame m ([Value.ref b] : List Value).toArray 16) := by
  obtain ⟨hx, hb, hr, hml, hown, hts, hX, hbl, hlocks, hgv⟩ := id C0
  have hfl : l.stackTraces = false := by
    unfold Launch.stackTraces
    rw [hflags]
    decide +kernel
  obtain ⟨G, hGL, hGb, hG0, hE⟩ := law_env C0
  subst hG0
  have hW : ∀ w ∈ WALL, w.before #[Value.ref (xext G 0)] s = true := fun w hw => hts w (List.mem_filter.mp hw).1
  have C : XCx G l "RopeThreadsLaw" code 16 p s m #[Value.ref (xext G 0)] meth c := ⟨hx, hb, hml, hown, hW, hlocks, hE, Nat.le_of_eq hGb, hfl⟩
  have fin : ∀ (h : XH) (k ks : Nat), k ≤ 600130 → ks ≤ 7301080 → XV G 16 p l e room_1 s m #[Value.ref (xext G 0)] below meth c (lw_Z below #[Value.ref (xext G 0)] s) 513 [some (.ref 0), some (.ref 4), some (.int 1), none, none, none, none, none, none, none, none, none, none, none, none, none] [] 209 h k ks := by
    intro h k ks hk hks
    refine XV.run C okL_end 1 (q := (514, ([some (.ref 0), some (.ref 4), some (.int 1), none, none, none, none, none, none, none, none, none, none, none, none, none], [.int 1]))) rfl ?_
    intro H locs lr hP hz hS hL
    refine W.widen hk hks (va_forget (fun q hq => ?_) ?_)
    · have h1 : xbase G ≤ q.base := hS.2.2 q hq
      rw [hGb] at h1
      exact h1
    · exact lw_ret (d0 := s.drawn) (Drawn.sameBut.refl s.drawn lw_cs) hx hb hr hlocks (xlk_ok okL_end rfl)
  have K := law_begin (Q := lw_Z below #[Value.ref (xext G 0)] s) (e' := e) (b' := below) hfl (by rw [hGL]; exact hL) C hGb.symm fin (fun _ => .inr (0, []))
  rw [lg_entry_eq]
  exact K s.heap [] _ (fun k q hq => by simp [xw] at hq) (by rw [hGb]; exact Nat.le_refl _) va_S.rf (xent_has (maxL := 16) (av := [.ref 0]) G (by decide))
