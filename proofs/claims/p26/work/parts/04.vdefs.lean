/-! THE V LAYER: methods walked over virtual addresses (i < 4: externals; 4 + j: the j-th object made since the law's entry) -/
abbrev XC : Type := (Nat × (Nat × ((Nat → Int32) ⊕ ((Nat → Int64) ⊕ (Nat → Option Nat))))) ⊕ (Nat × List Value)
abbrev XH : Type := Nat → XC
abbrev XG : Type := (Nat → ClassId) × (va_G × ((Nat → Nat) × (Nat × (Nat × (Nat → Int32)))))
def xcA (G : XG) : Nat → ClassId := G.1
def xD (G : XG) : va_G := G.2.1
def xext (G : XG) : Nat → Nat := G.2.2.1
def xbase (G : XG) : Nat := G.2.2.2.1
def xL (G : XG) : Nat := G.2.2.2.2.1
def xxs (G : XG) : Nat → Int32 := G.2.2.2.2.2
def xa (G : XG) (i : Nat) : Nat := if i < 4 then xext G i else xbase G + (i - 4)
def xv (G : XG) (v : Value) : Value := match v with
  | .ref i => .ref (xa G i)
  | .int x => .int x
  | .long x => .long x
  | .float x => .float x
  | .double x => .double x
  | .null => .null
  | .retAddr x => .retAddr x
def xe (G : XG) (c : XC) : va_E := match c with
  | .inl (k, (n, .inl f)) => .inl (xcA G k, (n, .inl f))
  | .inl (k, (n, .inr (.inl f))) => .inl (xcA G k, (n, .inr (.inl f)))
  | .inl (k, (n, .inr (.inr f))) => .inl (xcA G k, (n, .inr (.inr (.inr (.inr (fun i => (f i).map (xa G)))))))
  | .inr (ci, fs) => .inr (ci, fs.map (xv G))
def xw (G : XG) (n : Nat) (h : XH) : va_W := (List.range n).map (fun j => (xbase G + j, xe G (h (j + 4))))
abbrev XCl : List vw_C := [("RopeThreads$Elevator", F_E, 7), ("RopeThreads$History", F_H, 3), ("RopeThreads$Rope", F_R, 7), ("RopeThreads$TripText", F_T, 6), ("RopeThreads", F_C, 4)]
def xtys (G : XG) : List (ClassId × FieldType) := [(xcA G 0, .int), (xcA G 1, .int), (xcA G 2, .object "RopeThreads$Elevator"), (xcA G 3, .object "RopeThreads$Rope")]
def xA (G : XG) : Nat → Prop := fun q => xbase G ≤ q
theorem xv_cat (G : XG) (v : Value) : (xv G v).category = v.category := by cases v <;> rfl
theorem xw_get (G : XG) {n : Nat} (h : XH) {j : Nat} (hj : j < n) : (xw G n h)[j]? = some (xbase G + j, xe G (h (j + 4))) := by
  unfold xw
  rw [List.getElem?_map, List.getElem?_range hj]
  rfl
theorem xw_len (G : XG) (n : Nat) (h : XH) : (xw G n h).length = n := by simp [xw]
theorem xw_D (G : XG) (n : Nat) (h : XH) : va_D (xA G) (xw G n h) := by
  have key : ∀ (k : Nat) (q : Nat × va_E), (xw G n h)[k]? = some q → q.1 = xbase G + k := by
    intro k q hk
    have hl : k < n := by
      have := (List.getElem?_eq_some_iff.mp hk).1
      rwa [xw_len] at this
    rw [xw_get G h hl] at hk
    cases hk
    rfl
  refine ⟨fun i j p q hi hj hpq => ?_, fun k q hk => ?_⟩
  · have h1 := key i p hi
    have h2 := key j q hj
    omega
  · have h1 := key k q hk
    show xbase G ≤ q.1
    omega
/-- one cell anew -/
def xup (h : XH) (i : Nat) (c : XC) : XH := fun j => if j = i then c else h j
theorem xw_set (G : XG) (n : Nat) (h : XH) (i : Nat) (c : XC) (hi : 4 ≤ i) : (xw G n h).set (i - 4) (xa G i, xe G c) = xw G n (xup h i c) := by
  apply List.ext_getElem?
  intro k
  by_cases hk : k < n
  · by_cases hki : i - 4 = k
    · subst hki
      rw [List.getElem?_set_self (by rw [xw_len]; exact hk), xw_get G _ hk]
      unfold xa xup
      rw [if_neg (by omega), if_pos (by omega)]
    · rw [List.getElem?_set_ne hki, xw_get G _ hk, xw_get G _ hk]
      unfold xup
      rw [if_neg (by omega)]
  · rw [List.getElem?_eq_none (by rw [List.length_set, xw_len]; omega), List.getElem?_eq_none (by rw [xw_len]; omega)]
theorem xw_push (G : XG) (n : Nat) (h : XH) (c : XC) : xw G n h ++ [(xbase G + n, xe G c)] = xw G (n + 1) (xup h (n + 4) c) := by
  unfold xw
  rw [List.range_succ, List.map_append]
  congr 1
  · apply List.map_congr_left
    intro j hj
    rw [List.mem_range] at hj
    unfold xup
    rw [if_neg (by omega)]
  · simp [xup]
/-- words that are not good ones, held by what they say -/
def XNW : List Cond := [.declares ⟨"java/lang/RuntimeException", "<init>", "()V"⟩, .declares ⟨"java/lang/RuntimeException", "<init>", "(Ljava/lang/String;)V"⟩, .declares ⟨"java/lang/Exception", "<init>", "()V"⟩, .declares ⟨"java/lang/Exception", "<init>", "(Ljava/lang/String;)V"⟩, .declares ⟨"java/lang/Throwable", "<init>", "()V"⟩, .declares ⟨"java/lang/Throwable", "<init>", "(Ljava/lang/String;)V"⟩, .castable "java/lang/IllegalArgumentException" "java/lang/IllegalArgumentException", .castable "java/lang/IllegalStateException" "java/lang/IllegalStateException", .castable "java/lang/IndexOutOfBoundsException" "java/lang/IndexOutOfBoundsException",
  .fieldLinkNest "RopeThreads$Elevator" 37 "RopeThreads" "FIRST_VALUES" "[I" "RopeThreads",
  .fieldLinkNest "RopeThreads" 236 "RopeThreads$Rope" "quality" "I" "RopeThreads",
  .fieldLinkNest "RopeThreads" 239 "RopeThreads$Rope" "hungMonth" "I" "RopeThreads",
  .fieldLinkNest "RopeThreads" 257 "RopeThreads$Rope" "trips" "I" "RopeThreads",
  .fieldLinkNest "RopeThreads" 103 "RopeThreads$Elevator" "settings" "[I" "RopeThreads",
  .fieldLinkNest "RopeThreads" 41 "RopeThreads$Elevator" "ropes" "I" "RopeThreads",
  .fieldLinkNest "RopeThreads" 71 "RopeThreads$Elevator" "month" "I" "RopeThreads",
  .fieldLinkNest "RopeThreads" 112 "RopeThreads$Elevator" "trips" "I" "RopeThreads",
  .fieldLinkNest "RopeThreads" 90 "RopeThreads$Elevator" "inspected" "I" "RopeThreads",
  .fieldLinkNest "RopeThreads" 78 "RopeThreads$Elevator" "swaps" "I" "RopeThreads",
  .fieldLinkNest "RopeThreads" 155 "RopeThreads$History" "kept" "I" "RopeThreads",
  .methodLinkNest "RopeThreads$Elevator" 40 ⟨"RopeThreads$Rope", "<init>", "()V"⟩ "RopeThreads",
  .methodLinkNest "RopeThreads" 25 ⟨"RopeThreads$TripText", "<init>", "()V"⟩ "RopeThreads",
  .methodLinkNest "RopeThreads" 32 ⟨"RopeThreads$Rope", "<init>", "()V"⟩ "RopeThreads"]
def XSTR : List (Nat × String) := [(226, "a value is out of range"), (47, "there are 5 ropes"), (221, "there is no such rope"), (224, "there is no such number"), (228, "the last section is ahead of the first one"), (234, "the elevator cannot run, or there would be too many trips"), (115, "the month would be above 2000"), (158, "there is no saved state")]
/-- the static arrays: name, what they hold -/
def XSA : Nat → String × (Nat → Int32) := fun i => match i with
  | 1 => ("LEAST_VALUES", fun _ => 1)
  | 2 => ("MOST_VALUES", fun j => if j = 0 then 12 else if j = 1 then 99 else if j = 2 then 999 else if j = 3 then 99 else 60)
  | _ => ("FIRST_VALUES", fun j => if j = 0 then 4 else if j = 1 then 8 else if j = 2 then 20 else if j = 3 then 5 else 3)
def XIOB : String := "java/lang/IndexOutOfBoundsException"
def XIAE : String := "java/lang/IllegalArgumentException"
def XISE : String := "java/lang/IllegalStateException"
/-- what a state U gives everywhere: tables, script, statics, strings -/
def xEnv (G : XG) (U : State) : Prop :=
  va_K (xD G) XCl (xtys G) U ∧
  (∀ i, i < 4 → xext G i < xbase G ∧ xext G i < U.heap.size) ∧
  va_X (xext G 0) (xL G) (xxs G) U U.heap ∧
  (∀ i, 1 ≤ i → i < 4 → va_Z "RopeThreads" (XSA i).1 "[I" (.ref (xext G i)) (xA G) U U.heap ∧ va_T .int (xext G i) 5 (fun j => .int ((XSA i).2 j)) (xA G) U U.heap) ∧
  (vx_Zq Bundle.tN "UNASSIGNED_STACK" Bundle.steD (xA G) U U.heap ∧ vx_Zq Bundle.tN "SUPPRESSED_SENTINEL" Bundle.listD (xA G) U U.heap) ∧
  (∀ w ∈ XNW, va_Nw w U) ∧
  (∀ q ∈ XSTR, ∃ sa, vk_R "RopeThreads" q.1 q.2 sa U) ∧
  True ∧
  (va_AO "RopeThreads$Rope" U ∧ va_AO "RopeThreads$Elevator" U)
