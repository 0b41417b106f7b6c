/-! names, words -/
def WALL : List Cond := lw_tbl.filter goodWord
theorem mem_W (k : Nat) {w : Cond} (h : lw_tbl[k]? = some w) (g : goodWord w = true) : w ∈ WALL := List.mem_filter.mpr ⟨List.mem_of_getElem? h, g⟩
theorem W_good : ∀ w ∈ WALL, w ∈ lw_tbl ∧ goodWord w = true := fun w h => List.mem_filter.mp h
def F_E : u_T := fun k => match k with
  | 0 => ("RopeThreads$Elevator", "settings", "[I", true)
  | 1 => ("RopeThreads$Elevator", "places", "[LRopeThreads$Rope;", true)
  | 2 => ("RopeThreads$Elevator", "ropes", "I", false)
  | 3 => ("RopeThreads$Elevator", "month", "I", false)
  | 4 => ("RopeThreads$Elevator", "trips", "I", false)
  | 5 => ("RopeThreads$Elevator", "inspected", "I", false)
  | _ => ("RopeThreads$Elevator", "swaps", "I", false)
def ft_E : Nat → FieldType := fun k => match k with
  | 0 => .array .int
  | 1 => .array (.object "RopeThreads$Rope")
  | 2 => .int
  | 3 => .int
  | 4 => .int
  | 5 => .int
  | _ => .int
theorem n_E : ∀ a, a < 7 → ∀ b, b < 7 → a ≠ b → (F_E a).2.1 ≠ (F_E b).2.1 := by decide +kernel
theorem ft_E_ok : ∀ k, k < 7 → parseFieldDescriptor (F_E k).2.2.1 = some (ft_E k) := by decide +kernel
def F_H : u_T := fun k => match k with
  | 0 => ("RopeThreads$History", "ring", "[LRopeThreads$Elevator;", true)
  | 1 => ("RopeThreads$History", "oldest", "I", false)
  | _ => ("RopeThreads$History", "kept", "I", false)
def ft_H : Nat → FieldType := fun k => match k with
  | 0 => .array (.object "RopeThreads$Elevator")
  | 1 => .int
  | _ => .int
theorem n_H : ∀ a, a < 3 → ∀ b, b < 3 → a ≠ b → (F_H a).2.1 ≠ (F_H b).2.1 := by decide +kernel
theorem ft_H_ok : ∀ k, k < 3 → parseFieldDescriptor (F_H k).2.2.1 = some (ft_H k) := by decide +kernel
def F_R : u_T := fun k => match k with
  | 0 => ("RopeThreads$Rope", "bends", "[I", true)
  | 1 => ("RopeThreads$Rope", "counts", "[I", true)
  | 2 => ("RopeThreads$Rope", "countsAhead", "[I", true)
  | 3 => ("RopeThreads$Rope", "lookMonths", "[I", true)
  | 4 => ("RopeThreads$Rope", "quality", "I", false)
  | 5 => ("RopeThreads$Rope", "hungMonth", "I", false)
  | _ => ("RopeThreads$Rope", "trips", "I", false)
def ft_R : Nat → FieldType := fun k => match k with
  | 0 => .array .int
  | 1 => .array .int
  | 2 => .array .int
  | 3 => .array .int
  | 4 => .int
  | 5 => .int
  | _ => .int
theorem n_R : ∀ a, a < 7 → ∀ b, b < 7 → a ≠ b → (F_R a).2.1 ≠ (F_R b).2.1 := by decide +kernel
theorem ft_R_ok : ∀ k, k < 7 → parseFieldDescriptor (F_R k).2.2.1 = some (ft_R k) := by decide +kernel
def F_T : u_T := fun k => match k with
  | 0 => ("RopeThreads$TripText", "signs", "[I", true)
  | 1 => ("RopeThreads$TripText", "froms", "[I", true)
  | 2 => ("RopeThreads$TripText", "tos", "[I", true)
  | 3 => ("RopeThreads$TripText", "times", "[I", true)
  | 4 => ("RopeThreads$TripText", "length", "I", false)
  | _ => ("RopeThreads$TripText", "parts", "I", false)
def ft_T : Nat → FieldType := fun k => match k with
  | 0 => .array .int
  | 1 => .array .int
  | 2 => .array .int
  | 3 => .array .int
  | 4 => .int
  | _ => .int
theorem n_T : ∀ a, a < 6 → ∀ b, b < 6 → a ≠ b → (F_T a).2.1 ≠ (F_T b).2.1 := by decide +kernel
theorem ft_T_ok : ∀ k, k < 6 → parseFieldDescriptor (F_T k).2.2.1 = some (ft_T k) := by decide +kernel
def F_C : u_T := fun k => match k with
  | 0 => ("RopeThreads", "now", "LRopeThreads$Elevator;", true)
  | 1 => ("RopeThreads", "history", "LRopeThreads$History;", true)
  | 2 => ("RopeThreads", "text", "LRopeThreads$TripText;", true)
  | _ => ("RopeThreads", "supposed", "LRopeThreads$Rope;", true)
def ft_C : Nat → FieldType := fun k => match k with
  | 0 => .object "RopeThreads$Elevator"
  | 1 => .object "RopeThreads$History"
  | 2 => .object "RopeThreads$TripText"
  | _ => .object "RopeThreads$Rope"
theorem n_C : ∀ a, a < 4 → ∀ b, b < 4 → a ≠ b → (F_C a).2.1 ≠ (F_C b).2.1 := by decide +kernel
theorem ft_C_ok : ∀ k, k < 4 → parseFieldDescriptor (F_C k).2.2.1 = some (ft_C k) := by decide +kernel
def yC_existingRope : MethodName := ⟨"RopeThreads", "existingRope", "(I)LRopeThreads$Rope;"⟩
def yJT_fillInStackTrace : MethodName := ⟨"java/lang/Throwable", "fillInStackTrace", "(I)Ljava/lang/Throwable;"⟩
def yC_ropeFigure : MethodName := ⟨"RopeThreads", "ropeFigure", "(LRopeThreads$Rope;I)I"⟩
def yC_countFigure : MethodName := ⟨"RopeThreads", "countFigure", "(I)I"⟩
def yC_requireTripsAllowed : MethodName := ⟨"RopeThreads", "requireTripsAllowed", "(I)V"⟩
def yC_windowFigure : MethodName := ⟨"RopeThreads", "windowFigure", "(LRopeThreads$Rope;II)I"⟩
def yC_tripsToLimit : MethodName := ⟨"RopeThreads", "tripsToLimit", "(LRopeThreads$Rope;)I"⟩
def yC_reachesLimit : MethodName := ⟨"RopeThreads", "reachesLimit", "(LRopeThreads$Rope;I)Z"⟩
def yC_lowestUnseen : MethodName := ⟨"RopeThreads", "lowestUnseen", "()I"⟩
def yC_reasonIfInspected : MethodName := ⟨"RopeThreads", "reasonIfInspected", "(LRopeThreads$Rope;II)I"⟩
def yC_shareCounted : MethodName := ⟨"RopeThreads", "shareCounted", "()D"⟩
def yC_init : MethodName := ⟨"RopeThreads", "<init>", "()V"⟩
def yJO_init : MethodName := ⟨"java/lang/Object", "<init>", "()V"⟩
def yE_init : MethodName := ⟨"RopeThreads$Elevator", "<init>", "()V"⟩
def yR_init : MethodName := ⟨"RopeThreads$Rope", "<init>", "()V"⟩
def yH_init : MethodName := ⟨"RopeThreads$History", "<init>", "()V"⟩
def yT_init : MethodName := ⟨"RopeThreads$TripText", "<init>", "()V"⟩
def yC_cut : MethodName := ⟨"RopeThreads", "cut", "(I)I"⟩
def yE_ropeAt : MethodName := ⟨"RopeThreads$Elevator", "ropeAt", "(I)LRopeThreads$Rope;"⟩
def yJT_init : MethodName := ⟨"java/lang/Throwable", "<init>", "()V"⟩
def yJT_fillInStackTrace2 : MethodName := ⟨"java/lang/Throwable", "fillInStackTrace", "()Ljava/lang/Throwable;"⟩
def yJT_init2 : MethodName := ⟨"java/lang/Throwable", "<init>", "(Ljava/lang/String;)V"⟩
def yH_keep : MethodName := ⟨"RopeThreads$History", "keep", "(LRopeThreads$Elevator;)V"⟩
def yJM_floorMod : MethodName := ⟨"java/lang/Math", "floorMod", "(II)I"⟩
def yE_copyFrom : MethodName := ⟨"RopeThreads$Elevator", "copyFrom", "(LRopeThreads$Elevator;)V"⟩
def yJS_arraycopy : MethodName := ⟨"java/lang/System", "arraycopy", "(Ljava/lang/Object;ILjava/lang/Object;II)V"⟩
def yR_copyFrom : MethodName := ⟨"RopeThreads$Rope", "copyFrom", "(LRopeThreads$Rope;)V"⟩
def yE_removeRope : MethodName := ⟨"RopeThreads$Elevator", "removeRope", "(I)V"⟩
def yC_swap : MethodName := ⟨"RopeThreads", "swap", "(II)I"⟩
def yC_requireRange : MethodName := ⟨"RopeThreads", "requireRange", "(III)V"⟩
def yR_allBroken : MethodName := ⟨"RopeThreads$Rope", "allBroken", "()I"⟩
def yR_sumOfBroken : MethodName := ⟨"RopeThreads$Rope", "sumOfBroken", "(II)I"⟩
def yR_broken : MethodName := ⟨"RopeThreads$Rope", "broken", "(I)I"⟩
def yR_renew : MethodName := ⟨"RopeThreads$Rope", "renew", "(II)V"⟩
def yJA_fill : MethodName := ⟨"java/util/Arrays", "fill", "([II)V"⟩
def yC_inspect : MethodName := ⟨"RopeThreads", "inspect", "(III)I"⟩
def yC_requireSections : MethodName := ⟨"RopeThreads", "requireSections", "(II)V"⟩
def yC_requireIndex : MethodName := ⟨"RopeThreads", "requireIndex", "(II)V"⟩
def yR_allCounts : MethodName := ⟨"RopeThreads$Rope", "allCounts", "()I"⟩
def yR_sumOfCounts : MethodName := ⟨"RopeThreads$Rope", "sumOfCounts", "(II)I"⟩
def yR_lookAt : MethodName := ⟨"RopeThreads$Rope", "lookAt", "(III)V"⟩
def yC_set : MethodName := ⟨"RopeThreads", "set", "(II)I"⟩
def yC_pass : MethodName := ⟨"RopeThreads", "pass", "(I)I"⟩
def yE_ropesToRetire : MethodName := ⟨"RopeThreads$Elevator", "ropesToRetire", "()I"⟩
def yE_reasonFor : MethodName := ⟨"RopeThreads$Elevator", "reasonFor", "(LRopeThreads$Rope;)I"⟩
def yR_greatestCounts : MethodName := ⟨"RopeThreads$Rope", "greatestCounts", "(I)I"⟩
def yJM_max : MethodName := ⟨"java/lang/Math", "max", "(II)I"⟩
def yR_greatestGrowth : MethodName := ⟨"RopeThreads$Rope", "greatestGrowth", "()I"⟩
def yE_monthsLeft : MethodName := ⟨"RopeThreads$Elevator", "monthsLeft", "(LRopeThreads$Rope;)I"⟩
def yR_oldestLook : MethodName := ⟨"RopeThreads$Rope", "oldestLook", "()I"⟩
def yJM_min : MethodName := ⟨"java/lang/Math", "min", "(II)I"⟩
def yC_rope : MethodName := ⟨"RopeThreads", "rope", "(II)I"⟩
def yR_windowOfGreatestCounts : MethodName := ⟨"RopeThreads$Rope", "windowOfGreatestCounts", "(I)I"⟩
def yR_greatestBroken : MethodName := ⟨"RopeThreads$Rope", "greatestBroken", "(I)I"⟩
def yC_count : MethodName := ⟨"RopeThreads", "count", "(I)I"⟩
def yE_canRun : MethodName := ⟨"RopeThreads$Elevator", "canRun", "()Z"⟩
def yE_brokenOfRopes : MethodName := ⟨"RopeThreads$Elevator", "brokenOfRopes", "()I"⟩
def yE_countsOfRopes : MethodName := ⟨"RopeThreads$Elevator", "countsOfRopes", "()I"⟩
def yL_low : MethodName := ⟨"RopeThreadsLaw", "low", "(II)I"⟩
def yL_cell : MethodName := ⟨"RopeThreadsLaw", "cell", "([II)I"⟩
def yL_trip : MethodName := ⟨"RopeThreadsLaw", "trip", "(LRopeThreads;III)I"⟩
def yC_trip : MethodName := ⟨"RopeThreads", "trip", "(III)I"⟩
def yE_travel : MethodName := ⟨"RopeThreads$Elevator", "travel", "(III)V"⟩
def yR_bend : MethodName := ⟨"RopeThreads$Rope", "bend", "(III)V"⟩
def yL_hang : MethodName := ⟨"RopeThreadsLaw", "hang", "(LRopeThreads;I)I"⟩
def yC_hang : MethodName := ⟨"RopeThreads", "hang", "(I)I"⟩
def yE_addRope : MethodName := ⟨"RopeThreads$Elevator", "addRope", "(I)V"⟩
def yL_undo : MethodName := ⟨"RopeThreadsLaw", "undo", "(LRopeThreads;)I"⟩
def yC_undo : MethodName := ⟨"RopeThreads", "undo", "()I"⟩
def yH_giveBack : MethodName := ⟨"RopeThreads$History", "giveBack", "(LRopeThreads$Elevator;)V"⟩
def yL_lift : MethodName := ⟨"RopeThreadsLaw", "lift", "(LRopeThreads;)Z"⟩
def yL_rope : MethodName := ⟨"RopeThreadsLaw", "rope", "(LRopeThreads;I)Z"⟩
def yC_section : MethodName := ⟨"RopeThreads", "section", "(III)I"⟩
def yR_sectionFigure : MethodName := ⟨"RopeThreads$Rope", "sectionFigure", "(II)I"⟩
def yC_window : MethodName := ⟨"RopeThreads", "window", "(III)I"⟩
def yE_windows : MethodName := ⟨"RopeThreads$Elevator", "windows", "()I"⟩
def yC_tripsLeft : MethodName := ⟨"RopeThreads", "tripsLeft", "(I)I"⟩
def yC_setting : MethodName := ⟨"RopeThreads", "setting", "(I)I"⟩
def yC_unseen : MethodName := ⟨"RopeThreads", "unseen", "()I"⟩
def yC_ifInspected : MethodName := ⟨"RopeThreads", "ifInspected", "(III)I"⟩
def yC_countedShare : MethodName := ⟨"RopeThreads", "countedShare", "()D"⟩
abbrev bC_init : ByteArray := prog_1_method_1_code
abbrev bE_init : ByteArray := prog_2_method_1_code
abbrev bR_init : ByteArray := prog_4_method_1_code
abbrev bH_init : ByteArray := prog_3_method_1_code
abbrev bT_init : ByteArray := prog_5_method_1_code
abbrev bC_cut : ByteArray := prog_1_method_3_code
abbrev bC_existingRope : ByteArray := prog_1_method_25_code
abbrev bE_ropeAt : ByteArray := prog_2_method_3_code
abbrev bJT_init : ByteArray := prog_16_method_1_code
abbrev bJT_init2 : ByteArray := prog_16_method_2_code
abbrev bH_keep : ByteArray := prog_3_method_2_code
abbrev bJM_floorMod : ByteArray := prog_12_method_50_code
abbrev bE_copyFrom : ByteArray := prog_2_method_2_code
abbrev bR_copyFrom : ByteArray := prog_4_method_3_code
abbrev bE_removeRope : ByteArray := prog_2_method_5_code
abbrev bC_swap : ByteArray := prog_1_method_4_code
abbrev bC_requireRange : ByteArray := prog_1_method_27_code
abbrev bR_allBroken : ByteArray := prog_4_method_10_code
abbrev bR_sumOfBroken : ByteArray := prog_4_method_8_code
abbrev bR_broken : ByteArray := prog_4_method_6_code
abbrev bR_renew : ByteArray := prog_4_method_2_code
abbrev bJA_fill : ByteArray := prog_17_method_103_code
abbrev bC_inspect : ByteArray := prog_1_method_5_code
abbrev bC_requireSections : ByteArray := prog_1_method_28_code
abbrev bC_requireIndex : ByteArray := prog_1_method_26_code
abbrev bR_allCounts : ByteArray := prog_4_method_9_code
abbrev bR_sumOfCounts : ByteArray := prog_4_method_7_code
abbrev bR_lookAt : ByteArray := prog_4_method_5_code
abbrev bC_set : ByteArray := prog_1_method_6_code
abbrev bC_pass : ByteArray := prog_1_method_8_code
abbrev bE_ropesToRetire : ByteArray := prog_2_method_10_code
abbrev bE_reasonFor : ByteArray := prog_2_method_8_code
abbrev bR_greatestCounts : ByteArray := prog_4_method_11_code
abbrev bJM_max : ByteArray := prog_12_method_65_code
abbrev bR_greatestGrowth : ByteArray := prog_4_method_16_code
abbrev bE_monthsLeft : ByteArray := prog_2_method_9_code
abbrev bR_oldestLook : ByteArray := prog_4_method_17_code
abbrev bJM_min : ByteArray := prog_12_method_69_code
abbrev bC_rope : ByteArray := prog_1_method_14_code
abbrev bC_ropeFigure : ByteArray := prog_1_method_30_code
abbrev bR_windowOfGreatestCounts : ByteArray := prog_4_method_12_code
abbrev bR_greatestBroken : ByteArray := prog_4_method_13_code
abbrev bC_count : ByteArray := prog_1_method_17_code
abbrev bC_countFigure : ByteArray := prog_1_method_32_code
abbrev bE_canRun : ByteArray := prog_2_method_11_code
abbrev bE_brokenOfRopes : ByteArray := prog_2_method_13_code
abbrev bE_countsOfRopes : ByteArray := prog_2_method_12_code
abbrev bL_low : ByteArray := method_2_code
abbrev bL_cell : ByteArray := method_3_code
abbrev bL_trip : ByteArray := method_4_code
abbrev bC_trip : ByteArray := prog_1_method_7_code
abbrev bC_requireTripsAllowed : ByteArray := prog_1_method_29_code
abbrev bE_travel : ByteArray := prog_2_method_6_code
abbrev bR_bend : ByteArray := prog_4_method_4_code
abbrev bL_hang : ByteArray := method_5_code
abbrev bC_hang : ByteArray := prog_1_method_2_code
abbrev bE_addRope : ByteArray := prog_2_method_4_code
abbrev bL_undo : ByteArray := method_6_code
abbrev bC_undo : ByteArray := prog_1_method_13_code
abbrev bH_giveBack : ByteArray := prog_3_method_3_code
abbrev bL_lift : ByteArray := method_8_code
abbrev bL_rope : ByteArray := method_7_code
abbrev bC_section : ByteArray := prog_1_method_15_code
abbrev bR_sectionFigure : ByteArray := prog_4_method_18_code
abbrev bC_window : ByteArray := prog_1_method_16_code
abbrev bE_windows : ByteArray := prog_2_method_7_code
abbrev bC_windowFigure : ByteArray := prog_1_method_31_code
abbrev bC_tripsLeft : ByteArray := prog_1_method_21_code
abbrev bC_tripsToLimit : ByteArray := prog_1_method_34_code
abbrev bC_reachesLimit : ByteArray := prog_1_method_35_code
abbrev bC_setting : ByteArray := prog_1_method_18_code
abbrev bC_unseen : ByteArray := prog_1_method_22_code
abbrev bC_lowestUnseen : ByteArray := prog_1_method_36_code
abbrev bC_reasonIfInspected : ByteArray := prog_1_method_33_code
abbrev bC_ifInspected : ByteArray := prog_1_method_19_code
abbrev bC_countedShare : ByteArray := prog_1_method_23_code
abbrev bC_shareCounted : ByteArray := prog_1_method_37_code
theorem wV_C_existingRope : Cond.selects "RopeThreads" yC_existingRope yC_existingRope ∈ WALL := mem_W 0 (by decide +kernel) rfl
theorem wV_JT_fillInStackTrace : Cond.selects "java/lang/Throwable" yJT_fillInStackTrace yJT_fillInStackTrace ∈ WALL := mem_W 1 (by decide +kernel) rfl
theorem wV_C_ropeFigure : Cond.selects "RopeThreads" yC_ropeFigure yC_ropeFigure ∈ WALL := mem_W 2 (by decide +kernel) rfl
theorem wV_C_countFigure : Cond.selects "RopeThreads" yC_countFigure yC_countFigure ∈ WALL := mem_W 3 (by decide +kernel) rfl
theorem wV_C_requireTripsAllowed : Cond.selects "RopeThreads" yC_requireTripsAllowed yC_requireTripsAllowed ∈ WALL := mem_W 4 (by decide +kernel) rfl
theorem wV_C_windowFigure : Cond.selects "RopeThreads" yC_windowFigure yC_windowFigure ∈ WALL := mem_W 5 (by decide +kernel) rfl
theorem wV_C_tripsToLimit : Cond.selects "RopeThreads" yC_tripsToLimit yC_tripsToLimit ∈ WALL := mem_W 6 (by decide +kernel) rfl
theorem wV_C_reachesLimit : Cond.selects "RopeThreads" yC_reachesLimit yC_reachesLimit ∈ WALL := mem_W 7 (by decide +kernel) rfl
theorem wV_C_lowestUnseen : Cond.selects "RopeThreads" yC_lowestUnseen yC_lowestUnseen ∈ WALL := mem_W 8 (by decide +kernel) rfl
theorem wV_C_reasonIfInspected : Cond.selects "RopeThreads" yC_reasonIfInspected yC_reasonIfInspected ∈ WALL := mem_W 9 (by decide +kernel) rfl
theorem wV_C_shareCounted : Cond.selects "RopeThreads" yC_shareCounted yC_shareCounted ∈ WALL := mem_W 10 (by decide +kernel) rfl
theorem wN_L : Cond.initialized "RopeThreadsLaw" ∈ WALL := mem_W 11 (by decide +kernel) rfl
theorem wN_C : Cond.initialized "RopeThreads" ∈ WALL := mem_W 12 (by decide +kernel) rfl
theorem wN_E : Cond.initialized "RopeThreads$Elevator" ∈ WALL := mem_W 13 (by decide +kernel) rfl
theorem wN_R : Cond.initialized "RopeThreads$Rope" ∈ WALL := mem_W 14 (by decide +kernel) rfl
theorem wN_H : Cond.initialized "RopeThreads$History" ∈ WALL := mem_W 15 (by decide +kernel) rfl
theorem wN_T : Cond.initialized "RopeThreads$TripText" ∈ WALL := mem_W 16 (by decide +kernel) rfl
theorem wN_JT : Cond.initialized "java/lang/Throwable" ∈ WALL := mem_W 17 (by decide +kernel) rfl
theorem wN_Exception : Cond.initialized "java/lang/Exception" ∈ WALL := mem_W 18 (by decide +kernel) rfl
theorem wN_RuntimeException : Cond.initialized "java/lang/RuntimeException" ∈ WALL := mem_W 19 (by decide +kernel) rfl
theorem wN_IllegalArgumentException : Cond.initialized "java/lang/IllegalArgumentException" ∈ WALL := mem_W 20 (by decide +kernel) rfl
theorem wN_JM : Cond.initialized "java/lang/Math" ∈ WALL := mem_W 21 (by decide +kernel) rfl
theorem wN_IllegalStateException : Cond.initialized "java/lang/IllegalStateException" ∈ WALL := mem_W 22 (by decide +kernel) rfl
theorem wN_JS : Cond.initialized "java/lang/System" ∈ WALL := mem_W 23 (by decide +kernel) rfl
theorem wN_JA : Cond.initialized "java/util/Arrays" ∈ WALL := mem_W 24 (by decide +kernel) rfl
theorem wN_IndexOutOfBoundsException : Cond.initialized "java/lang/IndexOutOfBoundsException" ∈ WALL := mem_W 25 (by decide +kernel) rfl
theorem wC_L_10 : Cond.classLink "RopeThreadsLaw" 10 "RopeThreads" ∈ WALL := mem_W 26 (by decide +kernel) rfl
theorem wA_C : Cond.instantiable "RopeThreads" 4 ∈ WALL := mem_W 27 (by decide +kernel) rfl
theorem wM_L_59 : Cond.methodLink "RopeThreadsLaw" 59 yC_init ∈ WALL := mem_W 28 (by decide +kernel) rfl
theorem wI_C_init : Cond.instanceMethod yC_init ∈ WALL := mem_W 29 (by decide +kernel) rfl
set_option maxRecDepth 30000 in
theorem wB_C_init : Cond.code yC_init prog_1_method_1_code 1 none ∈ WALL := mem_W 30 rfl rfl
theorem wM_C_1 : Cond.methodLink "RopeThreads" 1 yJO_init ∈ WALL := mem_W 31 (by decide +kernel) rfl
theorem wI_JO_init : Cond.instanceMethod yJO_init ∈ WALL := mem_W 32 (by decide +kernel) rfl
theorem wB_objL : Cond.code Lib.objectInit ⟨#[0xb1]⟩ 1 none ∈ WALL := mem_W 33 rfl rfl
theorem wC_C_7 : Cond.classLink "RopeThreads" 7 "RopeThreads$Elevator" ∈ WALL := mem_W 34 (by decide +kernel) rfl
theorem wA_E : Cond.instantiable "RopeThreads$Elevator" 7 ∈ WALL := mem_W 35 (by decide +kernel) rfl
theorem wM_C_9 : Cond.methodLink "RopeThreads" 9 yE_init ∈ WALL := mem_W 36 (by decide +kernel) rfl
theorem wI_E_init : Cond.instanceMethod yE_init ∈ WALL := mem_W 37 (by decide +kernel) rfl
set_option maxRecDepth 30000 in
theorem wB_E_init : Cond.code yE_init prog_2_method_1_code 2 none ∈ WALL := mem_W 38 rfl rfl
theorem wM_E_3 : Cond.methodLink "RopeThreads$Elevator" 3 yJO_init ∈ WALL := mem_W 39 (by decide +kernel) rfl
theorem wC_E_15 : Cond.classLink "RopeThreads$Elevator" 15 "RopeThreads$Rope" ∈ WALL := mem_W 40 (by decide +kernel) rfl
theorem wA_R : Cond.instantiable "RopeThreads$Rope" 7 ∈ WALL := mem_W 44 (by decide +kernel) rfl
theorem wI_R_init : Cond.instanceMethod yR_init ∈ WALL := mem_W 46 (by decide +kernel) rfl
set_option maxRecDepth 30000 in
theorem wB_R_init : Cond.code yR_init prog_4_method_1_code 1 none ∈ WALL := mem_W 47 rfl rfl
theorem wM_R_3 : Cond.methodLink "RopeThreads$Rope" 3 yJO_init ∈ WALL := mem_W 48 (by decide +kernel) rfl
theorem wF_R_9 : Cond.fieldLink "RopeThreads$Rope" 9 "RopeThreads$Rope" "bends" "[I" ∈ WALL := mem_W 49 (by decide +kernel) rfl
theorem wF_R_15 : Cond.fieldLink "RopeThreads$Rope" 15 "RopeThreads$Rope" "counts" "[I" ∈ WALL := mem_W 50 (by decide +kernel) rfl
theorem wF_R_18 : Cond.fieldLink "RopeThreads$Rope" 18 "RopeThreads$Rope" "countsAhead" "[I" ∈ WALL := mem_W 51 (by decide +kernel) rfl
theorem wF_R_21 : Cond.fieldLink "RopeThreads$Rope" 21 "RopeThreads$Rope" "lookMonths" "[I" ∈ WALL := mem_W 52 (by decide +kernel) rfl
theorem wF_R_24 : Cond.fieldLink "RopeThreads$Rope" 24 "RopeThreads$Rope" "quality" "I" ∈ WALL := mem_W 53 (by decide +kernel) rfl
theorem wF_R_28 : Cond.fieldLink "RopeThreads$Rope" 28 "RopeThreads$Rope" "hungMonth" "I" ∈ WALL := mem_W 55 (by decide +kernel) rfl
theorem wF_R_31 : Cond.fieldLink "RopeThreads$Rope" 31 "RopeThreads$Rope" "trips" "I" ∈ WALL := mem_W 57 (by decide +kernel) rfl
theorem wR_74 : Cond.arrayClass Jvm.ClassFile.FieldType.int ∈ WALL := mem_W 74 (by decide +kernel) rfl
theorem wF_E_9 : Cond.fieldLink "RopeThreads$Elevator" 9 "RopeThreads$Elevator" "settings" "[I" ∈ WALL := mem_W 75 (by decide +kernel) rfl
theorem wF_E_17 : Cond.fieldLink "RopeThreads$Elevator" 17 "RopeThreads$Elevator" "places" "[LRopeThreads$Rope;" ∈ WALL := mem_W 77 (by decide +kernel) rfl
theorem wF_E_21 : Cond.fieldLink "RopeThreads$Elevator" 21 "RopeThreads$Elevator" "ropes" "I" ∈ WALL := mem_W 78 (by decide +kernel) rfl
theorem wF_E_25 : Cond.fieldLink "RopeThreads$Elevator" 25 "RopeThreads$Elevator" "month" "I" ∈ WALL := mem_W 80 (by decide +kernel) rfl
theorem wF_E_28 : Cond.fieldLink "RopeThreads$Elevator" 28 "RopeThreads$Elevator" "trips" "I" ∈ WALL := mem_W 82 (by decide +kernel) rfl
theorem wF_E_31 : Cond.fieldLink "RopeThreads$Elevator" 31 "RopeThreads$Elevator" "inspected" "I" ∈ WALL := mem_W 84 (by decide +kernel) rfl
theorem wF_E_34 : Cond.fieldLink "RopeThreads$Elevator" 34 "RopeThreads$Elevator" "swaps" "I" ∈ WALL := mem_W 86 (by decide +kernel) rfl
theorem wC_C_16 : Cond.classLink "RopeThreads" 16 "RopeThreads$History" ∈ WALL := mem_W 103 (by decide +kernel) rfl
theorem wA_H : Cond.instantiable "RopeThreads$History" 3 ∈ WALL := mem_W 104 (by decide +kernel) rfl
theorem wM_C_18 : Cond.methodLink "RopeThreads" 18 yH_init ∈ WALL := mem_W 105 (by decide +kernel) rfl
theorem wI_H_init : Cond.instanceMethod yH_init ∈ WALL := mem_W 106 (by decide +kernel) rfl
set_option maxRecDepth 30000 in
theorem wB_H_init : Cond.code yH_init prog_3_method_1_code 2 none ∈ WALL := mem_W 107 rfl rfl
theorem wM_H_3 : Cond.methodLink "RopeThreads$History" 3 yJO_init ∈ WALL := mem_W 108 (by decide +kernel) rfl
theorem wC_H_9 : Cond.classLink "RopeThreads$History" 9 "RopeThreads$Elevator" ∈ WALL := mem_W 109 (by decide +kernel) rfl
theorem wM_H_24 : Cond.methodLink "RopeThreads$History" 24 yE_init ∈ WALL := mem_W 111 (by decide +kernel) rfl
theorem wF_H_11 : Cond.fieldLink "RopeThreads$History" 11 "RopeThreads$History" "ring" "[LRopeThreads$Elevator;" ∈ WALL := mem_W 112 (by decide +kernel) rfl
theorem wF_H_17 : Cond.fieldLink "RopeThreads$History" 17 "RopeThreads$History" "oldest" "I" ∈ WALL := mem_W 113 (by decide +kernel) rfl
theorem wF_H_21 : Cond.fieldLink "RopeThreads$History" 21 "RopeThreads$History" "kept" "I" ∈ WALL := mem_W 114 (by decide +kernel) rfl
theorem wC_C_23 : Cond.classLink "RopeThreads" 23 "RopeThreads$TripText" ∈ WALL := mem_W 123 (by decide +kernel) rfl
theorem wA_T : Cond.instantiable "RopeThreads$TripText" 6 ∈ WALL := mem_W 124 (by decide +kernel) rfl
theorem wI_T_init : Cond.instanceMethod yT_init ∈ WALL := mem_W 126 (by decide +kernel) rfl
set_option maxRecDepth 30000 in
theorem wB_T_init : Cond.code yT_init prog_5_method_1_code 1 none ∈ WALL := mem_W 127 rfl rfl
theorem wM_T_3 : Cond.methodLink "RopeThreads$TripText" 3 yJO_init ∈ WALL := mem_W 128 (by decide +kernel) rfl
theorem wF_T_9 : Cond.fieldLink "RopeThreads$TripText" 9 "RopeThreads$TripText" "signs" "[I" ∈ WALL := mem_W 129 (by decide +kernel) rfl
theorem wF_T_15 : Cond.fieldLink "RopeThreads$TripText" 15 "RopeThreads$TripText" "froms" "[I" ∈ WALL := mem_W 130 (by decide +kernel) rfl
theorem wF_T_18 : Cond.fieldLink "RopeThreads$TripText" 18 "RopeThreads$TripText" "tos" "[I" ∈ WALL := mem_W 131 (by decide +kernel) rfl
theorem wF_T_21 : Cond.fieldLink "RopeThreads$TripText" 21 "RopeThreads$TripText" "times" "[I" ∈ WALL := mem_W 132 (by decide +kernel) rfl
theorem wF_T_24 : Cond.fieldLink "RopeThreads$TripText" 24 "RopeThreads$TripText" "length" "I" ∈ WALL := mem_W 133 (by decide +kernel) rfl
theorem wF_T_28 : Cond.fieldLink "RopeThreads$TripText" 28 "RopeThreads$TripText" "parts" "I" ∈ WALL := mem_W 134 (by decide +kernel) rfl
theorem wC_C_30 : Cond.classLink "RopeThreads" 30 "RopeThreads$Rope" ∈ WALL := mem_W 148 (by decide +kernel) rfl
theorem wF_C_10 : Cond.fieldLink "RopeThreads" 10 "RopeThreads" "now" "LRopeThreads$Elevator;" ∈ WALL := mem_W 150 (by decide +kernel) rfl
theorem wF_C_19 : Cond.fieldLink "RopeThreads" 19 "RopeThreads" "history" "LRopeThreads$History;" ∈ WALL := mem_W 151 (by decide +kernel) rfl
theorem wF_C_26 : Cond.fieldLink "RopeThreads" 26 "RopeThreads" "text" "LRopeThreads$TripText;" ∈ WALL := mem_W 152 (by decide +kernel) rfl
theorem wF_C_33 : Cond.fieldLink "RopeThreads" 33 "RopeThreads" "supposed" "LRopeThreads$Rope;" ∈ WALL := mem_W 153 (by decide +kernel) rfl
theorem wM_L_79 : Cond.methodLink "RopeThreadsLaw" 79 yC_cut ∈ WALL := mem_W 163 (by decide +kernel) rfl
theorem wI_C_cut : Cond.instanceMethod yC_cut ∈ WALL := mem_W 164 (by decide +kernel) rfl
theorem wV_C_cut : Cond.selects "RopeThreads" yC_cut yC_cut ∈ WALL := mem_W 165 (by decide +kernel) rfl
set_option maxRecDepth 30000 in
theorem wB_C_cut : Cond.code yC_cut prog_1_method_3_code 2 (some .int) ∈ WALL := mem_W 166 rfl rfl
theorem wM_C_60 : Cond.methodLink "RopeThreads" 60 yC_existingRope ∈ WALL := mem_W 167 (by decide +kernel) rfl
theorem wI_C_existingRope : Cond.instanceMethod yC_existingRope ∈ WALL := mem_W 169 (by decide +kernel) rfl
set_option maxRecDepth 30000 in
theorem wB_C_existingRope : Cond.code yC_existingRope prog_1_method_25_code 3 (some (.object "RopeThreads$Rope")) ∈ WALL := mem_W 170 rfl rfl
theorem wM_C_205 : Cond.methodLink "RopeThreads" 205 yE_ropeAt ∈ WALL := mem_W 171 (by decide +kernel) rfl
theorem wI_E_ropeAt : Cond.instanceMethod yE_ropeAt ∈ WALL := mem_W 172 (by decide +kernel) rfl
theorem wV_E_ropeAt : Cond.selects "RopeThreads$Elevator" yE_ropeAt yE_ropeAt ∈ WALL := mem_W 173 (by decide +kernel) rfl
set_option maxRecDepth 30000 in
theorem wB_E_ropeAt : Cond.code yE_ropeAt prog_2_method_3_code 2 (some (.object "RopeThreads$Rope")) ∈ WALL := mem_W 174 rfl rfl
theorem wC_C_219 : Cond.classLink "RopeThreads" 219 "java/lang/IndexOutOfBoundsException" ∈ WALL := mem_W 175 (by decide +kernel) rfl
theorem wA_IndexOutOfBoundsException : Cond.instantiable "java/lang/IndexOutOfBoundsException" 6 ∈ WALL := mem_W 176 (by decide +kernel) rfl
theorem wF_JT_198 : Cond.fieldLink "java/lang/Throwable" 198 "java/lang/Throwable" "backtrace" "Ljava/lang/Object;" ∈ WALL := mem_W 196 (by decide +kernel) rfl
theorem wI_JT_init : Cond.instanceMethod yJT_init ∈ WALL := mem_W 198 (by decide +kernel) rfl
set_option maxRecDepth 30000 in
theorem wB_JT_init : Cond.code yJT_init prog_16_method_1_code 1 none ∈ WALL := mem_W 199 rfl rfl
theorem wM_JT_1 : Cond.methodLink "java/lang/Throwable" 1 yJO_init ∈ WALL := mem_W 200 (by decide +kernel) rfl
theorem wF_JT_13 : Cond.fieldLink "java/lang/Throwable" 13 "java/lang/Throwable" "UNASSIGNED_STACK" "[Ljava/lang/StackTraceElement;" ∈ WALL := mem_W 201 (by decide +kernel) rfl
theorem wF_JT_20 : Cond.fieldLink "java/lang/Throwable" 20 "java/lang/Throwable" "SUPPRESSED_SENTINEL" "Ljava/util/List;" ∈ WALL := mem_W 203 (by decide +kernel) rfl
theorem wM_JT_27 : Cond.methodLink "java/lang/Throwable" 27 yJT_fillInStackTrace2 ∈ WALL := mem_W 205 (by decide +kernel) rfl
theorem wI_JT_fillInStackTrace2 : Cond.instanceMethod yJT_fillInStackTrace2 ∈ WALL := mem_W 206 (by decide +kernel) rfl
theorem wM_JT_202 : Cond.methodLink "java/lang/Throwable" 202 yJT_fillInStackTrace ∈ WALL := mem_W 211 (by decide +kernel) rfl
theorem wI_JT_fillInStackTrace : Cond.instanceMethod yJT_fillInStackTrace ∈ WALL := mem_W 213 (by decide +kernel) rfl
theorem wA_JT : Cond.instantiable "java/lang/Throwable" 6 ∈ WALL := mem_W 214 (by decide +kernel) rfl
theorem wX_JT_fillInStackTrace : Cond.native yJT_fillInStackTrace ∈ WALL := mem_W 215 (by decide +kernel) rfl
theorem wM_C_223 : Cond.methodLink "RopeThreads" 223 ⟨"java/lang/IndexOutOfBoundsException", "<init>", "(Ljava/lang/String;)V"⟩ ∈ WALL := mem_W 217 (by decide +kernel) rfl
theorem wI_JT_init2 : Cond.instanceMethod yJT_init2 ∈ WALL := mem_W 227 (by decide +kernel) rfl
set_option maxRecDepth 30000 in
theorem wB_JT_init2 : Cond.code yJT_init2 prog_16_method_2_code 2 none ∈ WALL := mem_W 228 rfl rfl
theorem wF_JT_31 : Cond.fieldLink "java/lang/Throwable" 31 "java/lang/Throwable" "detailMessage" "Ljava/lang/String;" ∈ WALL := mem_W 230 (by decide +kernel) rfl
theorem wF_JT_7 : Cond.fieldLink "java/lang/Throwable" 7 "java/lang/Throwable" "cause" "Ljava/lang/Throwable;" ∈ WALL := mem_W 231 (by decide +kernel) rfl
theorem wF_JT_17 : Cond.fieldLink "java/lang/Throwable" 17 "java/lang/Throwable" "stackTrace" "[Ljava/lang/StackTraceElement;" ∈ WALL := mem_W 232 (by decide +kernel) rfl
theorem wF_JT_24 : Cond.fieldLink "java/lang/Throwable" 24 "java/lang/Throwable" "suppressedExceptions" "Ljava/util/List;" ∈ WALL := mem_W 233 (by decide +kernel) rfl
theorem wR_242 : Cond.arrayClass Jvm.ClassFile.FieldType.byte ∈ WALL := mem_W 242 (by decide +kernel) rfl
theorem wM_C_52 : Cond.methodLink "RopeThreads" 52 yH_keep ∈ WALL := mem_W 243 (by decide +kernel) rfl
theorem wI_H_keep : Cond.instanceMethod yH_keep ∈ WALL := mem_W 244 (by decide +kernel) rfl
theorem wV_H_keep : Cond.selects "RopeThreads$History" yH_keep yH_keep ∈ WALL := mem_W 245 (by decide +kernel) rfl
set_option maxRecDepth 30000 in
theorem wB_H_keep : Cond.code yH_keep prog_3_method_2_code 3 none ∈ WALL := mem_W 246 rfl rfl
theorem wM_H_25 : Cond.methodLink "RopeThreads$History" 25 yJM_floorMod ∈ WALL := mem_W 247 (by decide +kernel) rfl
theorem wS_JM_floorMod : Cond.static yJM_floorMod ∈ WALL := mem_W 248 (by decide +kernel) rfl
set_option maxRecDepth 30000 in
theorem wB_JM_floorMod : Cond.code yJM_floorMod prog_12_method_50_code 3 (some .int) ∈ WALL := mem_W 249 rfl rfl
theorem wM_H_31 : Cond.methodLink "RopeThreads$History" 31 yE_copyFrom ∈ WALL := mem_W 250 (by decide +kernel) rfl
theorem wI_E_copyFrom : Cond.instanceMethod yE_copyFrom ∈ WALL := mem_W 251 (by decide +kernel) rfl
theorem wV_E_copyFrom : Cond.selects "RopeThreads$Elevator" yE_copyFrom yE_copyFrom ∈ WALL := mem_W 252 (by decide +kernel) rfl
set_option maxRecDepth 30000 in
theorem wB_E_copyFrom : Cond.code yE_copyFrom prog_2_method_2_code 5 none ∈ WALL := mem_W 253 rfl rfl
theorem wM_E_41 : Cond.methodLink "RopeThreads$Elevator" 41 yJS_arraycopy ∈ WALL := mem_W 254 (by decide +kernel) rfl
theorem wS_JS_arraycopy : Cond.static yJS_arraycopy ∈ WALL := mem_W 255 (by decide +kernel) rfl
theorem wX_JS_arraycopy : Cond.native yJS_arraycopy ∈ WALL := mem_W 256 (by decide +kernel) rfl
theorem wM_E_47 : Cond.methodLink "RopeThreads$Elevator" 47 yR_copyFrom ∈ WALL := mem_W 257 (by decide +kernel) rfl
theorem wI_R_copyFrom : Cond.instanceMethod yR_copyFrom ∈ WALL := mem_W 258 (by decide +kernel) rfl
theorem wV_R_copyFrom : Cond.selects "RopeThreads$Rope" yR_copyFrom yR_copyFrom ∈ WALL := mem_W 259 (by decide +kernel) rfl
set_option maxRecDepth 30000 in
theorem wB_R_copyFrom : Cond.code yR_copyFrom prog_4_method_3_code 2 none ∈ WALL := mem_W 260 rfl rfl
theorem wM_R_40 : Cond.methodLink "RopeThreads$Rope" 40 yJS_arraycopy ∈ WALL := mem_W 261 (by decide +kernel) rfl
theorem wM_C_64 : Cond.methodLink "RopeThreads" 64 yE_removeRope ∈ WALL := mem_W 262 (by decide +kernel) rfl
theorem wI_E_removeRope : Cond.instanceMethod yE_removeRope ∈ WALL := mem_W 263 (by decide +kernel) rfl
theorem wV_E_removeRope : Cond.selects "RopeThreads$Elevator" yE_removeRope yE_removeRope ∈ WALL := mem_W 264 (by decide +kernel) rfl
set_option maxRecDepth 30000 in
theorem wB_E_removeRope : Cond.code yE_removeRope prog_2_method_5_code 5 none ∈ WALL := mem_W 265 rfl rfl
theorem wM_E_51 : Cond.methodLink "RopeThreads$Elevator" 51 yE_ropeAt ∈ WALL := mem_W 266 (by decide +kernel) rfl
theorem wM_L_82 : Cond.methodLink "RopeThreadsLaw" 82 yC_swap ∈ WALL := mem_W 267 (by decide +kernel) rfl
theorem wI_C_swap : Cond.instanceMethod yC_swap ∈ WALL := mem_W 268 (by decide +kernel) rfl
theorem wV_C_swap : Cond.selects "RopeThreads" yC_swap yC_swap ∈ WALL := mem_W 269 (by decide +kernel) rfl
set_option maxRecDepth 30000 in
theorem wB_C_swap : Cond.code yC_swap prog_1_method_4_code 5 (some .int) ∈ WALL := mem_W 270 rfl rfl
theorem wM_C_37 : Cond.methodLink "RopeThreads" 37 yC_requireRange ∈ WALL := mem_W 271 (by decide +kernel) rfl
theorem wS_C_requireRange : Cond.static yC_requireRange ∈ WALL := mem_W 272 (by decide +kernel) rfl
set_option maxRecDepth 30000 in
theorem wB_C_requireRange : Cond.code yC_requireRange prog_1_method_27_code 3 none ∈ WALL := mem_W 273 rfl rfl
theorem wC_C_135 : Cond.classLink "RopeThreads" 135 "java/lang/IllegalArgumentException" ∈ WALL := mem_W 274 (by decide +kernel) rfl
theorem wA_IllegalArgumentException : Cond.instantiable "java/lang/IllegalArgumentException" 6 ∈ WALL := mem_W 275 (by decide +kernel) rfl
theorem wM_C_139 : Cond.methodLink "RopeThreads" 139 ⟨"java/lang/IllegalArgumentException", "<init>", "(Ljava/lang/String;)V"⟩ ∈ WALL := mem_W 284 (by decide +kernel) rfl
theorem wM_C_67 : Cond.methodLink "RopeThreads" 67 yR_allBroken ∈ WALL := mem_W 290 (by decide +kernel) rfl
theorem wI_R_allBroken : Cond.instanceMethod yR_allBroken ∈ WALL := mem_W 291 (by decide +kernel) rfl
theorem wV_R_allBroken : Cond.selects "RopeThreads$Rope" yR_allBroken yR_allBroken ∈ WALL := mem_W 292 (by decide +kernel) rfl
set_option maxRecDepth 30000 in
theorem wB_R_allBroken : Cond.code yR_allBroken prog_4_method_10_code 1 (some .int) ∈ WALL := mem_W 293 rfl rfl
theorem wM_R_54 : Cond.methodLink "RopeThreads$Rope" 54 yR_sumOfBroken ∈ WALL := mem_W 294 (by decide +kernel) rfl
theorem wI_R_sumOfBroken : Cond.instanceMethod yR_sumOfBroken ∈ WALL := mem_W 295 (by decide +kernel) rfl
theorem wV_R_sumOfBroken : Cond.selects "RopeThreads$Rope" yR_sumOfBroken yR_sumOfBroken ∈ WALL := mem_W 296 (by decide +kernel) rfl
set_option maxRecDepth 30000 in
theorem wB_R_sumOfBroken : Cond.code yR_sumOfBroken prog_4_method_8_code 5 (some .int) ∈ WALL := mem_W 297 rfl rfl
theorem wM_R_46 : Cond.methodLink "RopeThreads$Rope" 46 yR_broken ∈ WALL := mem_W 298 (by decide +kernel) rfl
theorem wI_R_broken : Cond.instanceMethod yR_broken ∈ WALL := mem_W 299 (by decide +kernel) rfl
theorem wV_R_broken : Cond.selects "RopeThreads$Rope" yR_broken yR_broken ∈ WALL := mem_W 300 (by decide +kernel) rfl
set_option maxRecDepth 30000 in
theorem wB_R_broken : Cond.code yR_broken prog_4_method_6_code 2 (some .int) ∈ WALL := mem_W 301 rfl rfl
theorem wM_C_74 : Cond.methodLink "RopeThreads" 74 yR_renew ∈ WALL := mem_W 302 (by decide +kernel) rfl
theorem wI_R_renew : Cond.instanceMethod yR_renew ∈ WALL := mem_W 303 (by decide +kernel) rfl
theorem wV_R_renew : Cond.selects "RopeThreads$Rope" yR_renew yR_renew ∈ WALL := mem_W 304 (by decide +kernel) rfl
set_option maxRecDepth 30000 in
theorem wB_R_renew : Cond.code yR_renew prog_4_method_2_code 3 none ∈ WALL := mem_W 305 rfl rfl
theorem wM_R_34 : Cond.methodLink "RopeThreads$Rope" 34 yJA_fill ∈ WALL := mem_W 306 (by decide +kernel) rfl
theorem wS_JA_fill : Cond.static yJA_fill ∈ WALL := mem_W 307 (by decide +kernel) rfl
set_option maxRecDepth 30000 in
theorem wB_JA_fill : Cond.code yJA_fill prog_17_method_103_code 4 none ∈ WALL := mem_W 308 rfl rfl
theorem wM_L_73 : Cond.methodLink "RopeThreadsLaw" 73 yC_inspect ∈ WALL := mem_W 309 (by decide +kernel) rfl
theorem wI_C_inspect : Cond.instanceMethod yC_inspect ∈ WALL := mem_W 310 (by decide +kernel) rfl
theorem wV_C_inspect : Cond.selects "RopeThreads" yC_inspect yC_inspect ∈ WALL := mem_W 311 (by decide +kernel) rfl
set_option maxRecDepth 30000 in
theorem wB_C_inspect : Cond.code yC_inspect prog_1_method_5_code 6 (some .int) ∈ WALL := mem_W 312 rfl rfl
theorem wM_C_81 : Cond.methodLink "RopeThreads" 81 yC_requireSections ∈ WALL := mem_W 313 (by decide +kernel) rfl
theorem wS_C_requireSections : Cond.static yC_requireSections ∈ WALL := mem_W 314 (by decide +kernel) rfl
set_option maxRecDepth 30000 in
theorem wB_C_requireSections : Cond.code yC_requireSections prog_1_method_28_code 2 none ∈ WALL := mem_W 315 rfl rfl
theorem wM_C_93 : Cond.methodLink "RopeThreads" 93 yC_requireIndex ∈ WALL := mem_W 316 (by decide +kernel) rfl
theorem wS_C_requireIndex : Cond.static yC_requireIndex ∈ WALL := mem_W 317 (by decide +kernel) rfl
set_option maxRecDepth 30000 in
theorem wB_C_requireIndex : Cond.code yC_requireIndex prog_1_method_26_code 2 none ∈ WALL := mem_W 318 rfl rfl
theorem wM_C_84 : Cond.methodLink "RopeThreads" 84 yR_allCounts ∈ WALL := mem_W 321 (by decide +kernel) rfl
theorem wI_R_allCounts : Cond.instanceMethod yR_allCounts ∈ WALL := mem_W 322 (by decide +kernel) rfl
theorem wV_R_allCounts : Cond.selects "RopeThreads$Rope" yR_allCounts yR_allCounts ∈ WALL := mem_W 323 (by decide +kernel) rfl
set_option maxRecDepth 30000 in
theorem wB_R_allCounts : Cond.code yR_allCounts prog_4_method_9_code 1 (some .int) ∈ WALL := mem_W 324 rfl rfl
theorem wM_R_50 : Cond.methodLink "RopeThreads$Rope" 50 yR_sumOfCounts ∈ WALL := mem_W 325 (by decide +kernel) rfl
theorem wI_R_sumOfCounts : Cond.instanceMethod yR_sumOfCounts ∈ WALL := mem_W 326 (by decide +kernel) rfl
theorem wV_R_sumOfCounts : Cond.selects "RopeThreads$Rope" yR_sumOfCounts yR_sumOfCounts ∈ WALL := mem_W 327 (by decide +kernel) rfl
set_option maxRecDepth 30000 in
theorem wB_R_sumOfCounts : Cond.code yR_sumOfCounts prog_4_method_7_code 5 (some .int) ∈ WALL := mem_W 328 rfl rfl
theorem wM_C_87 : Cond.methodLink "RopeThreads" 87 yR_lookAt ∈ WALL := mem_W 329 (by decide +kernel) rfl
theorem wI_R_lookAt : Cond.instanceMethod yR_lookAt ∈ WALL := mem_W 330 (by decide +kernel) rfl
theorem wV_R_lookAt : Cond.selects "RopeThreads$Rope" yR_lookAt yR_lookAt ∈ WALL := mem_W 331 (by decide +kernel) rfl
set_option maxRecDepth 30000 in
theorem wB_R_lookAt : Cond.code yR_lookAt prog_4_method_5_code 5 none ∈ WALL := mem_W 332 rfl rfl
theorem wM_L_85 : Cond.methodLink "RopeThreadsLaw" 85 yC_set ∈ WALL := mem_W 333 (by decide +kernel) rfl
theorem wI_C_set : Cond.instanceMethod yC_set ∈ WALL := mem_W 334 (by decide +kernel) rfl
theorem wV_C_set : Cond.selects "RopeThreads" yC_set yC_set ∈ WALL := mem_W 335 (by decide +kernel) rfl
set_option maxRecDepth 30000 in
theorem wB_C_set : Cond.code yC_set prog_1_method_6_code 4 (some .int) ∈ WALL := mem_W 336 rfl rfl
theorem wF_C_96 : Cond.fieldLink "RopeThreads" 96 "RopeThreads" "LEAST_VALUES" "[I" ∈ WALL := mem_W 337 (by decide +kernel) rfl
theorem wF_C_100 : Cond.fieldLink "RopeThreads" 100 "RopeThreads" "MOST_VALUES" "[I" ∈ WALL := mem_W 339 (by decide +kernel) rfl
theorem wM_L_76 : Cond.methodLink "RopeThreadsLaw" 76 yC_pass ∈ WALL := mem_W 341 (by decide +kernel) rfl
theorem wI_C_pass : Cond.instanceMethod yC_pass ∈ WALL := mem_W 342 (by decide +kernel) rfl
theorem wV_C_pass : Cond.selects "RopeThreads" yC_pass yC_pass ∈ WALL := mem_W 343 (by decide +kernel) rfl
set_option maxRecDepth 30000 in
theorem wB_C_pass : Cond.code yC_pass prog_1_method_8_code 2 (some .int) ∈ WALL := mem_W 344 rfl rfl
theorem wC_C_45 : Cond.classLink "RopeThreads" 45 "java/lang/IllegalStateException" ∈ WALL := mem_W 345 (by decide +kernel) rfl
theorem wA_IllegalStateException : Cond.instantiable "java/lang/IllegalStateException" 6 ∈ WALL := mem_W 346 (by decide +kernel) rfl
theorem wM_C_49 : Cond.methodLink "RopeThreads" 49 ⟨"java/lang/IllegalStateException", "<init>", "(Ljava/lang/String;)V"⟩ ∈ WALL := mem_W 355 (by decide +kernel) rfl
theorem wM_C_117 : Cond.methodLink "RopeThreads" 117 yE_ropesToRetire ∈ WALL := mem_W 361 (by decide +kernel) rfl
theorem wI_E_ropesToRetire : Cond.instanceMethod yE_ropesToRetire ∈ WALL := mem_W 362 (by decide +kernel) rfl
theorem wV_E_ropesToRetire : Cond.selects "RopeThreads$Elevator" yE_ropesToRetire yE_ropesToRetire ∈ WALL := mem_W 363 (by decide +kernel) rfl
set_option maxRecDepth 30000 in
theorem wB_E_ropesToRetire : Cond.code yE_ropesToRetire prog_2_method_10_code 4 (some .int) ∈ WALL := mem_W 364 rfl rfl
theorem wM_E_90 : Cond.methodLink "RopeThreads$Elevator" 90 yE_reasonFor ∈ WALL := mem_W 365 (by decide +kernel) rfl
theorem wI_E_reasonFor : Cond.instanceMethod yE_reasonFor ∈ WALL := mem_W 366 (by decide +kernel) rfl
theorem wV_E_reasonFor : Cond.selects "RopeThreads$Elevator" yE_reasonFor yE_reasonFor ∈ WALL := mem_W 367 (by decide +kernel) rfl
set_option maxRecDepth 30000 in
theorem wB_E_reasonFor : Cond.code yE_reasonFor prog_2_method_8_code 2 (some .int) ∈ WALL := mem_W 368 rfl rfl
theorem wM_E_72 : Cond.methodLink "RopeThreads$Elevator" 72 yR_greatestCounts ∈ WALL := mem_W 369 (by decide +kernel) rfl
theorem wI_R_greatestCounts : Cond.instanceMethod yR_greatestCounts ∈ WALL := mem_W 370 (by decide +kernel) rfl
theorem wV_R_greatestCounts : Cond.selects "RopeThreads$Rope" yR_greatestCounts yR_greatestCounts ∈ WALL := mem_W 371 (by decide +kernel) rfl
set_option maxRecDepth 30000 in
theorem wB_R_greatestCounts : Cond.code yR_greatestCounts prog_4_method_11_code 4 (some .int) ∈ WALL := mem_W 372 rfl rfl
theorem wM_R_57 : Cond.methodLink "RopeThreads$Rope" 57 yJM_max ∈ WALL := mem_W 373 (by decide +kernel) rfl
theorem wS_JM_max : Cond.static yJM_max ∈ WALL := mem_W 374 (by decide +kernel) rfl
set_option maxRecDepth 30000 in
theorem wB_JM_max : Cond.code yJM_max prog_12_method_65_code 2 (some .int) ∈ WALL := mem_W 375 rfl rfl
theorem wM_E_76 : Cond.methodLink "RopeThreads$Elevator" 76 yR_allCounts ∈ WALL := mem_W 376 (by decide +kernel) rfl
theorem wM_E_80 : Cond.methodLink "RopeThreads$Elevator" 80 yR_greatestGrowth ∈ WALL := mem_W 377 (by decide +kernel) rfl
theorem wI_R_greatestGrowth : Cond.instanceMethod yR_greatestGrowth ∈ WALL := mem_W 378 (by decide +kernel) rfl
theorem wV_R_greatestGrowth : Cond.selects "RopeThreads$Rope" yR_greatestGrowth yR_greatestGrowth ∈ WALL := mem_W 379 (by decide +kernel) rfl
set_option maxRecDepth 30000 in
theorem wB_R_greatestGrowth : Cond.code yR_greatestGrowth prog_4_method_16_code 3 (some .int) ∈ WALL := mem_W 380 rfl rfl
theorem wM_E_83 : Cond.methodLink "RopeThreads$Elevator" 83 yE_monthsLeft ∈ WALL := mem_W 381 (by decide +kernel) rfl
theorem wI_E_monthsLeft : Cond.instanceMethod yE_monthsLeft ∈ WALL := mem_W 382 (by decide +kernel) rfl
theorem wV_E_monthsLeft : Cond.selects "RopeThreads$Elevator" yE_monthsLeft yE_monthsLeft ∈ WALL := mem_W 383 (by decide +kernel) rfl
set_option maxRecDepth 30000 in
theorem wB_E_monthsLeft : Cond.code yE_monthsLeft prog_2_method_9_code 2 (some .int) ∈ WALL := mem_W 384 rfl rfl
theorem wM_E_87 : Cond.methodLink "RopeThreads$Elevator" 87 yR_oldestLook ∈ WALL := mem_W 385 (by decide +kernel) rfl
theorem wI_R_oldestLook : Cond.instanceMethod yR_oldestLook ∈ WALL := mem_W 386 (by decide +kernel) rfl
theorem wV_R_oldestLook : Cond.selects "RopeThreads$Rope" yR_oldestLook yR_oldestLook ∈ WALL := mem_W 387 (by decide +kernel) rfl
set_option maxRecDepth 30000 in
theorem wB_R_oldestLook : Cond.code yR_oldestLook prog_4_method_17_code 3 (some .int) ∈ WALL := mem_W 388 rfl rfl
theorem wM_R_68 : Cond.methodLink "RopeThreads$Rope" 68 yJM_min ∈ WALL := mem_W 389 (by decide +kernel) rfl
theorem wS_JM_min : Cond.static yJM_min ∈ WALL := mem_W 390 (by decide +kernel) rfl
set_option maxRecDepth 30000 in
theorem wB_JM_min : Cond.code yJM_min prog_12_method_69_code 2 (some .int) ∈ WALL := mem_W 391 rfl rfl
theorem wM_E_65 : Cond.methodLink "RopeThreads$Elevator" 65 yJM_max ∈ WALL := mem_W 392 (by decide +kernel) rfl
theorem wM_L_25 : Cond.methodLink "RopeThreadsLaw" 25 yC_rope ∈ WALL := mem_W 393 (by decide +kernel) rfl
theorem wI_C_rope : Cond.instanceMethod yC_rope ∈ WALL := mem_W 394 (by decide +kernel) rfl
theorem wV_C_rope : Cond.selects "RopeThreads" yC_rope yC_rope ∈ WALL := mem_W 395 (by decide +kernel) rfl
set_option maxRecDepth 30000 in
theorem wB_C_rope : Cond.code yC_rope prog_1_method_14_code 4 (some .int) ∈ WALL := mem_W 396 rfl rfl
theorem wM_C_163 : Cond.methodLink "RopeThreads" 163 yC_ropeFigure ∈ WALL := mem_W 397 (by decide +kernel) rfl
theorem wI_C_ropeFigure : Cond.instanceMethod yC_ropeFigure ∈ WALL := mem_W 399 (by decide +kernel) rfl
set_option maxRecDepth 30000 in
theorem wB_C_ropeFigure : Cond.code yC_ropeFigure prog_1_method_30_code 4 (some .int) ∈ WALL := mem_W 400 rfl rfl
theorem wM_C_242 : Cond.methodLink "RopeThreads" 242 yR_greatestCounts ∈ WALL := mem_W 401 (by decide +kernel) rfl
theorem wM_C_245 : Cond.methodLink "RopeThreads" 245 yR_windowOfGreatestCounts ∈ WALL := mem_W 402 (by decide +kernel) rfl
theorem wI_R_windowOfGreatestCounts : Cond.instanceMethod yR_windowOfGreatestCounts ∈ WALL := mem_W 403 (by decide +kernel) rfl
theorem wV_R_windowOfGreatestCounts : Cond.selects "RopeThreads$Rope" yR_windowOfGreatestCounts yR_windowOfGreatestCounts ∈ WALL := mem_W 404 (by decide +kernel) rfl
set_option maxRecDepth 30000 in
theorem wB_R_windowOfGreatestCounts : Cond.code yR_windowOfGreatestCounts prog_4_method_12_code 4 (some .int) ∈ WALL := mem_W 405 rfl rfl
theorem wM_R_62 : Cond.methodLink "RopeThreads$Rope" 62 yR_greatestCounts ∈ WALL := mem_W 406 (by decide +kernel) rfl
theorem wM_C_248 : Cond.methodLink "RopeThreads" 248 yR_greatestBroken ∈ WALL := mem_W 407 (by decide +kernel) rfl
theorem wI_R_greatestBroken : Cond.instanceMethod yR_greatestBroken ∈ WALL := mem_W 408 (by decide +kernel) rfl
theorem wV_R_greatestBroken : Cond.selects "RopeThreads$Rope" yR_greatestBroken yR_greatestBroken ∈ WALL := mem_W 409 (by decide +kernel) rfl
set_option maxRecDepth 30000 in
theorem wB_R_greatestBroken : Cond.code yR_greatestBroken prog_4_method_13_code 4 (some .int) ∈ WALL := mem_W 410 rfl rfl
theorem wM_C_251 : Cond.methodLink "RopeThreads" 251 yE_reasonFor ∈ WALL := mem_W 411 (by decide +kernel) rfl
theorem wM_C_254 : Cond.methodLink "RopeThreads" 254 yE_monthsLeft ∈ WALL := mem_W 412 (by decide +kernel) rfl
theorem wM_L_29 : Cond.methodLink "RopeThreadsLaw" 29 yC_count ∈ WALL := mem_W 413 (by decide +kernel) rfl
theorem wI_C_count : Cond.instanceMethod yC_count ∈ WALL := mem_W 414 (by decide +kernel) rfl
theorem wV_C_count : Cond.selects "RopeThreads" yC_count yC_count ∈ WALL := mem_W 415 (by decide +kernel) rfl
set_option maxRecDepth 30000 in
theorem wB_C_count : Cond.code yC_count prog_1_method_17_code 2 (some .int) ∈ WALL := mem_W 416 rfl rfl
theorem wM_C_178 : Cond.methodLink "RopeThreads" 178 yC_countFigure ∈ WALL := mem_W 417 (by decide +kernel) rfl
theorem wI_C_countFigure : Cond.instanceMethod yC_countFigure ∈ WALL := mem_W 419 (by decide +kernel) rfl
set_option maxRecDepth 30000 in
theorem wB_C_countFigure : Cond.code yC_countFigure prog_1_method_32_code 2 (some .int) ∈ WALL := mem_W 420 rfl rfl
theorem wM_C_230 : Cond.methodLink "RopeThreads" 230 yE_canRun ∈ WALL := mem_W 421 (by decide +kernel) rfl
theorem wI_E_canRun : Cond.instanceMethod yE_canRun ∈ WALL := mem_W 422 (by decide +kernel) rfl
theorem wV_E_canRun : Cond.selects "RopeThreads$Elevator" yE_canRun yE_canRun ∈ WALL := mem_W 423 (by decide +kernel) rfl
set_option maxRecDepth 30000 in
theorem wB_E_canRun : Cond.code yE_canRun prog_2_method_11_code 1 (some .boolean) ∈ WALL := mem_W 424 rfl rfl
theorem wM_E_93 : Cond.methodLink "RopeThreads$Elevator" 93 yE_ropesToRetire ∈ WALL := mem_W 425 (by decide +kernel) rfl
theorem wM_C_264 : Cond.methodLink "RopeThreads" 264 yE_brokenOfRopes ∈ WALL := mem_W 426 (by decide +kernel) rfl
theorem wI_E_brokenOfRopes : Cond.instanceMethod yE_brokenOfRopes ∈ WALL := mem_W 427 (by decide +kernel) rfl
theorem wV_E_brokenOfRopes : Cond.selects "RopeThreads$Elevator" yE_brokenOfRopes yE_brokenOfRopes ∈ WALL := mem_W 428 (by decide +kernel) rfl
set_option maxRecDepth 30000 in
theorem wB_E_brokenOfRopes : Cond.code yE_brokenOfRopes prog_2_method_13_code 4 (some .int) ∈ WALL := mem_W 429 rfl rfl
theorem wM_E_96 : Cond.methodLink "RopeThreads$Elevator" 96 yR_allBroken ∈ WALL := mem_W 430 (by decide +kernel) rfl
theorem wM_C_267 : Cond.methodLink "RopeThreads" 267 yE_countsOfRopes ∈ WALL := mem_W 431 (by decide +kernel) rfl
theorem wI_E_countsOfRopes : Cond.instanceMethod yE_countsOfRopes ∈ WALL := mem_W 432 (by decide +kernel) rfl
theorem wV_E_countsOfRopes : Cond.selects "RopeThreads$Elevator" yE_countsOfRopes yE_countsOfRopes ∈ WALL := mem_W 433 (by decide +kernel) rfl
set_option maxRecDepth 30000 in
theorem wB_E_countsOfRopes : Cond.code yE_countsOfRopes prog_2_method_12_code 4 (some .int) ∈ WALL := mem_W 434 rfl rfl
theorem wM_L_64 : Cond.methodLink "RopeThreadsLaw" 64 yL_low ∈ WALL := mem_W 435 (by decide +kernel) rfl
theorem wS_L_low : Cond.static yL_low ∈ WALL := mem_W 436 (by decide +kernel) rfl
set_option maxRecDepth 30000 in
theorem wB_L_low : Cond.code yL_low method_2_code 2 (some .int) ∈ WALL := mem_W 437 rfl rfl
theorem wK_L_7 : Cond.constant "RopeThreadsLaw" 7 (2147483647) ∈ WALL := mem_W 438 (by decide +kernel) rfl
theorem wM_L_60 : Cond.methodLink "RopeThreadsLaw" 60 yL_cell ∈ WALL := mem_W 439 (by decide +kernel) rfl
theorem wS_L_cell : Cond.static yL_cell ∈ WALL := mem_W 440 (by decide +kernel) rfl
set_option maxRecDepth 30000 in
theorem wB_L_cell : Cond.code yL_cell method_3_code 2 (some .int) ∈ WALL := mem_W 441 rfl rfl
theorem wK_L_8 : Cond.constant "RopeThreadsLaw" 8 (40503) ∈ WALL := mem_W 442 (by decide +kernel) rfl
theorem wM_L_70 : Cond.methodLink "RopeThreadsLaw" 70 yL_trip ∈ WALL := mem_W 443 (by decide +kernel) rfl
theorem wS_L_trip : Cond.static yL_trip ∈ WALL := mem_W 444 (by decide +kernel) rfl
set_option maxRecDepth 30000 in
theorem wB_L_trip : Cond.codeWith yL_trip method_4_code 5 (some .int) [(0, 7, 8, 15)] ∈ WALL := mem_W 445 rfl rfl
theorem wC_L_15 : Cond.classLink "RopeThreadsLaw" 15 "java/lang/IllegalStateException" ∈ WALL := mem_W 446 (by decide +kernel) rfl
theorem wM_L_9 : Cond.methodLink "RopeThreadsLaw" 9 yC_trip ∈ WALL := mem_W 447 (by decide +kernel) rfl
theorem wI_C_trip : Cond.instanceMethod yC_trip ∈ WALL := mem_W 448 (by decide +kernel) rfl
theorem wV_C_trip : Cond.selects "RopeThreads" yC_trip yC_trip ∈ WALL := mem_W 449 (by decide +kernel) rfl
set_option maxRecDepth 30000 in
theorem wB_C_trip : Cond.code yC_trip prog_1_method_7_code 4 (some .int) ∈ WALL := mem_W 450 rfl rfl
theorem wM_C_106 : Cond.methodLink "RopeThreads" 106 yC_requireTripsAllowed ∈ WALL := mem_W 451 (by decide +kernel) rfl
theorem wI_C_requireTripsAllowed : Cond.instanceMethod yC_requireTripsAllowed ∈ WALL := mem_W 453 (by decide +kernel) rfl
set_option maxRecDepth 30000 in
theorem wB_C_requireTripsAllowed : Cond.code yC_requireTripsAllowed prog_1_method_29_code 2 none ∈ WALL := mem_W 454 rfl rfl
theorem wK_C_233 : Cond.constant "RopeThreads" 233 (99999) ∈ WALL := mem_W 455 (by decide +kernel) rfl
theorem wM_C_109 : Cond.methodLink "RopeThreads" 109 yE_travel ∈ WALL := mem_W 457 (by decide +kernel) rfl
theorem wI_E_travel : Cond.instanceMethod yE_travel ∈ WALL := mem_W 458 (by decide +kernel) rfl
theorem wV_E_travel : Cond.selects "RopeThreads$Elevator" yE_travel yE_travel ∈ WALL := mem_W 459 (by decide +kernel) rfl
set_option maxRecDepth 30000 in
theorem wB_E_travel : Cond.code yE_travel prog_2_method_6_code 8 none ∈ WALL := mem_W 460 rfl rfl
theorem wM_E_59 : Cond.methodLink "RopeThreads$Elevator" 59 yJM_min ∈ WALL := mem_W 461 (by decide +kernel) rfl
theorem wM_E_68 : Cond.methodLink "RopeThreads$Elevator" 68 yR_bend ∈ WALL := mem_W 462 (by decide +kernel) rfl
theorem wI_R_bend : Cond.instanceMethod yR_bend ∈ WALL := mem_W 463 (by decide +kernel) rfl
theorem wV_R_bend : Cond.selects "RopeThreads$Rope" yR_bend yR_bend ∈ WALL := mem_W 464 (by decide +kernel) rfl
set_option maxRecDepth 30000 in
theorem wB_R_bend : Cond.code yR_bend prog_4_method_4_code 5 none ∈ WALL := mem_W 465 rfl rfl
theorem wM_L_67 : Cond.methodLink "RopeThreadsLaw" 67 yL_hang ∈ WALL := mem_W 466 (by decide +kernel) rfl
theorem wS_L_hang : Cond.static yL_hang ∈ WALL := mem_W 467 (by decide +kernel) rfl
set_option maxRecDepth 30000 in
theorem wB_L_hang : Cond.codeWith yL_hang method_5_code 3 (some .int) [(0, 5, 6, 15)] ∈ WALL := mem_W 468 rfl rfl
theorem wM_L_17 : Cond.methodLink "RopeThreadsLaw" 17 yC_hang ∈ WALL := mem_W 469 (by decide +kernel) rfl
theorem wI_C_hang : Cond.instanceMethod yC_hang ∈ WALL := mem_W 470 (by decide +kernel) rfl
theorem wV_C_hang : Cond.selects "RopeThreads" yC_hang yC_hang ∈ WALL := mem_W 471 (by decide +kernel) rfl
set_option maxRecDepth 30000 in
theorem wB_C_hang : Cond.code yC_hang prog_1_method_2_code 2 (some .int) ∈ WALL := mem_W 472 rfl rfl
theorem wM_C_56 : Cond.methodLink "RopeThreads" 56 yE_addRope ∈ WALL := mem_W 474 (by decide +kernel) rfl
theorem wI_E_addRope : Cond.instanceMethod yE_addRope ∈ WALL := mem_W 475 (by decide +kernel) rfl
theorem wV_E_addRope : Cond.selects "RopeThreads$Elevator" yE_addRope yE_addRope ∈ WALL := mem_W 476 (by decide +kernel) rfl
set_option maxRecDepth 30000 in
theorem wB_E_addRope : Cond.code yE_addRope prog_2_method_4_code 3 none ∈ WALL := mem_W 477 rfl rfl
theorem wM_E_55 : Cond.methodLink "RopeThreads$Elevator" 55 yR_renew ∈ WALL := mem_W 478 (by decide +kernel) rfl
theorem wM_L_88 : Cond.methodLink "RopeThreadsLaw" 88 yL_undo ∈ WALL := mem_W 479 (by decide +kernel) rfl
theorem wS_L_undo : Cond.static yL_undo ∈ WALL := mem_W 480 (by decide +kernel) rfl
set_option maxRecDepth 30000 in
theorem wB_L_undo : Cond.codeWith yL_undo method_6_code 2 (some .int) [(0, 4, 5, 15)] ∈ WALL := mem_W 481 rfl rfl
theorem wM_L_21 : Cond.methodLink "RopeThreadsLaw" 21 yC_undo ∈ WALL := mem_W 482 (by decide +kernel) rfl
theorem wI_C_undo : Cond.instanceMethod yC_undo ∈ WALL := mem_W 483 (by decide +kernel) rfl
theorem wV_C_undo : Cond.selects "RopeThreads" yC_undo yC_undo ∈ WALL := mem_W 484 (by decide +kernel) rfl
set_option maxRecDepth 30000 in
theorem wB_C_undo : Cond.code yC_undo prog_1_method_13_code 1 (some .int) ∈ WALL := mem_W 485 rfl rfl
theorem wM_C_160 : Cond.methodLink "RopeThreads" 160 yH_giveBack ∈ WALL := mem_W 487 (by decide +kernel) rfl
theorem wI_H_giveBack : Cond.instanceMethod yH_giveBack ∈ WALL := mem_W 488 (by decide +kernel) rfl
theorem wV_H_giveBack : Cond.selects "RopeThreads$History" yH_giveBack yH_giveBack ∈ WALL := mem_W 489 (by decide +kernel) rfl
set_option maxRecDepth 30000 in
theorem wB_H_giveBack : Cond.code yH_giveBack prog_3_method_3_code 3 none ∈ WALL := mem_W 490 rfl rfl
theorem wM_L_91 : Cond.methodLink "RopeThreadsLaw" 91 yL_lift ∈ WALL := mem_W 491 (by decide +kernel) rfl
theorem wS_L_lift : Cond.static yL_lift ∈ WALL := mem_W 492 (by decide +kernel) rfl
set_option maxRecDepth 30000 in
theorem wB_L_lift : Cond.code yL_lift method_8_code 9 (some .boolean) ∈ WALL := mem_W 493 rfl rfl
theorem wM_L_44 : Cond.methodLink "RopeThreadsLaw" 44 yL_rope ∈ WALL := mem_W 494 (by decide +kernel) rfl
theorem wS_L_rope : Cond.static yL_rope ∈ WALL := mem_W 495 (by decide +kernel) rfl
set_option maxRecDepth 30000 in
theorem wB_L_rope : Cond.code yL_rope method_7_code 6 (some .boolean) ∈ WALL := mem_W 496 rfl rfl
theorem wM_L_32 : Cond.methodLink "RopeThreadsLaw" 32 yC_section ∈ WALL := mem_W 497 (by decide +kernel) rfl
theorem wI_C_section : Cond.instanceMethod yC_section ∈ WALL := mem_W 498 (by decide +kernel) rfl
theorem wV_C_section : Cond.selects "RopeThreads" yC_section yC_section ∈ WALL := mem_W 499 (by decide +kernel) rfl
set_option maxRecDepth 30000 in
theorem wB_C_section : Cond.code yC_section prog_1_method_15_code 5 (some .int) ∈ WALL := mem_W 500 rfl rfl
theorem wM_C_167 : Cond.methodLink "RopeThreads" 167 yR_sectionFigure ∈ WALL := mem_W 501 (by decide +kernel) rfl
theorem wI_R_sectionFigure : Cond.instanceMethod yR_sectionFigure ∈ WALL := mem_W 502 (by decide +kernel) rfl
theorem wV_R_sectionFigure : Cond.selects "RopeThreads$Rope" yR_sectionFigure yR_sectionFigure ∈ WALL := mem_W 503 (by decide +kernel) rfl
set_option maxRecDepth 30000 in
theorem wB_R_sectionFigure : Cond.code yR_sectionFigure prog_4_method_18_code 3 (some .int) ∈ WALL := mem_W 504 rfl rfl
theorem wM_L_35 : Cond.methodLink "RopeThreadsLaw" 35 yC_window ∈ WALL := mem_W 505 (by decide +kernel) rfl
theorem wI_C_window : Cond.instanceMethod yC_window ∈ WALL := mem_W 506 (by decide +kernel) rfl
theorem wV_C_window : Cond.selects "RopeThreads" yC_window yC_window ∈ WALL := mem_W 507 (by decide +kernel) rfl
set_option maxRecDepth 30000 in
theorem wB_C_window : Cond.code yC_window prog_1_method_16_code 5 (some .int) ∈ WALL := mem_W 508 rfl rfl
theorem wM_C_171 : Cond.methodLink "RopeThreads" 171 yE_windows ∈ WALL := mem_W 509 (by decide +kernel) rfl
theorem wI_E_windows : Cond.instanceMethod yE_windows ∈ WALL := mem_W 510 (by decide +kernel) rfl
theorem wV_E_windows : Cond.selects "RopeThreads$Elevator" yE_windows yE_windows ∈ WALL := mem_W 511 (by decide +kernel) rfl
set_option maxRecDepth 30000 in
theorem wB_E_windows : Cond.code yE_windows prog_2_method_7_code 1 (some .int) ∈ WALL := mem_W 512 rfl rfl
theorem wM_C_174 : Cond.methodLink "RopeThreads" 174 yC_windowFigure ∈ WALL := mem_W 513 (by decide +kernel) rfl
theorem wI_C_windowFigure : Cond.instanceMethod yC_windowFigure ∈ WALL := mem_W 515 (by decide +kernel) rfl
set_option maxRecDepth 30000 in
theorem wB_C_windowFigure : Cond.code yC_windowFigure prog_1_method_31_code 5 (some .int) ∈ WALL := mem_W 516 rfl rfl
theorem wM_C_258 : Cond.methodLink "RopeThreads" 258 yR_sumOfCounts ∈ WALL := mem_W 517 (by decide +kernel) rfl
theorem wM_C_261 : Cond.methodLink "RopeThreads" 261 yR_sumOfBroken ∈ WALL := mem_W 518 (by decide +kernel) rfl
theorem wM_L_38 : Cond.methodLink "RopeThreadsLaw" 38 yC_tripsLeft ∈ WALL := mem_W 519 (by decide +kernel) rfl
theorem wI_C_tripsLeft : Cond.instanceMethod yC_tripsLeft ∈ WALL := mem_W 520 (by decide +kernel) rfl
theorem wV_C_tripsLeft : Cond.selects "RopeThreads" yC_tripsLeft yC_tripsLeft ∈ WALL := mem_W 521 (by decide +kernel) rfl
set_option maxRecDepth 30000 in
theorem wB_C_tripsLeft : Cond.code yC_tripsLeft prog_1_method_21_code 2 (some .int) ∈ WALL := mem_W 522 rfl rfl
theorem wM_C_188 : Cond.methodLink "RopeThreads" 188 yC_tripsToLimit ∈ WALL := mem_W 523 (by decide +kernel) rfl
theorem wI_C_tripsToLimit : Cond.instanceMethod yC_tripsToLimit ∈ WALL := mem_W 525 (by decide +kernel) rfl
set_option maxRecDepth 30000 in
theorem wB_C_tripsToLimit : Cond.code yC_tripsToLimit prog_1_method_34_code 6 (some .int) ∈ WALL := mem_W 526 rfl rfl
theorem wM_C_274 : Cond.methodLink "RopeThreads" 274 yC_reachesLimit ∈ WALL := mem_W 527 (by decide +kernel) rfl
theorem wI_C_reachesLimit : Cond.instanceMethod yC_reachesLimit ∈ WALL := mem_W 529 (by decide +kernel) rfl
set_option maxRecDepth 30000 in
theorem wB_C_reachesLimit : Cond.code yC_reachesLimit prog_1_method_35_code 3 (some .boolean) ∈ WALL := mem_W 530 rfl rfl
theorem wM_C_270 : Cond.methodLink "RopeThreads" 270 yR_copyFrom ∈ WALL := mem_W 531 (by decide +kernel) rfl
theorem wM_C_278 : Cond.methodLink "RopeThreads" 278 yR_bend ∈ WALL := mem_W 532 (by decide +kernel) rfl
theorem wM_L_41 : Cond.methodLink "RopeThreadsLaw" 41 yC_setting ∈ WALL := mem_W 533 (by decide +kernel) rfl
theorem wI_C_setting : Cond.instanceMethod yC_setting ∈ WALL := mem_W 534 (by decide +kernel) rfl
theorem wV_C_setting : Cond.selects "RopeThreads" yC_setting yC_setting ∈ WALL := mem_W 535 (by decide +kernel) rfl
set_option maxRecDepth 30000 in
theorem wB_C_setting : Cond.code yC_setting prog_1_method_18_code 2 (some .int) ∈ WALL := mem_W 536 rfl rfl
theorem wM_L_49 : Cond.methodLink "RopeThreadsLaw" 49 yC_unseen ∈ WALL := mem_W 537 (by decide +kernel) rfl
theorem wI_C_unseen : Cond.instanceMethod yC_unseen ∈ WALL := mem_W 538 (by decide +kernel) rfl
theorem wV_C_unseen : Cond.selects "RopeThreads" yC_unseen yC_unseen ∈ WALL := mem_W 539 (by decide +kernel) rfl
set_option maxRecDepth 30000 in
theorem wB_C_unseen : Cond.code yC_unseen prog_1_method_22_code 1 (some .int) ∈ WALL := mem_W 540 rfl rfl
theorem wM_C_192 : Cond.methodLink "RopeThreads" 192 yC_lowestUnseen ∈ WALL := mem_W 541 (by decide +kernel) rfl
theorem wI_C_lowestUnseen : Cond.instanceMethod yC_lowestUnseen ∈ WALL := mem_W 543 (by decide +kernel) rfl
set_option maxRecDepth 30000 in
theorem wB_C_lowestUnseen : Cond.code yC_lowestUnseen prog_1_method_36_code 4 (some .int) ∈ WALL := mem_W 544 rfl rfl
theorem wM_C_182 : Cond.methodLink "RopeThreads" 182 yC_reasonIfInspected ∈ WALL := mem_W 545 (by decide +kernel) rfl
theorem wI_C_reasonIfInspected : Cond.instanceMethod yC_reasonIfInspected ∈ WALL := mem_W 547 (by decide +kernel) rfl
set_option maxRecDepth 30000 in
theorem wB_C_reasonIfInspected : Cond.code yC_reasonIfInspected prog_1_method_33_code 4 (some .int) ∈ WALL := mem_W 548 rfl rfl
theorem wM_L_52 : Cond.methodLink "RopeThreadsLaw" 52 yC_ifInspected ∈ WALL := mem_W 549 (by decide +kernel) rfl
theorem wI_C_ifInspected : Cond.instanceMethod yC_ifInspected ∈ WALL := mem_W 550 (by decide +kernel) rfl
theorem wV_C_ifInspected : Cond.selects "RopeThreads" yC_ifInspected yC_ifInspected ∈ WALL := mem_W 551 (by decide +kernel) rfl
set_option maxRecDepth 30000 in
theorem wB_C_ifInspected : Cond.code yC_ifInspected prog_1_method_19_code 5 (some .int) ∈ WALL := mem_W 552 rfl rfl
theorem wM_L_55 : Cond.methodLink "RopeThreadsLaw" 55 yC_countedShare ∈ WALL := mem_W 553 (by decide +kernel) rfl
theorem wI_C_countedShare : Cond.instanceMethod yC_countedShare ∈ WALL := mem_W 554 (by decide +kernel) rfl
theorem wV_C_countedShare : Cond.selects "RopeThreads" yC_countedShare yC_countedShare ∈ WALL := mem_W 555 (by decide +kernel) rfl
set_option maxRecDepth 30000 in
theorem wB_C_countedShare : Cond.code yC_countedShare prog_1_method_23_code 1 (some .double) ∈ WALL := mem_W 556 rfl rfl
theorem wM_C_195 : Cond.methodLink "RopeThreads" 195 yC_shareCounted ∈ WALL := mem_W 557 (by decide +kernel) rfl
theorem wI_C_shareCounted : Cond.instanceMethod yC_shareCounted ∈ WALL := mem_W 559 (by decide +kernel) rfl
set_option maxRecDepth 30000 in
theorem wB_C_shareCounted : Cond.code yC_shareCounted prog_1_method_37_code 2 (some .double) ∈ WALL := mem_W 560 rfl rfl
theorem inW_of {ws : List Cond} (ps : List Nat) (h : ws = ps.filterMap (fun i => lw_tbl[i]?)) (g : ws.all goodWord = true) : ∀ w ∈ ws, w ∈ WALL := by
  intro w hw
  have h1 := List.all_eq_true.mp g w hw
  rw [h] at hw
  obtain ⟨i, -, hi⟩ := List.mem_filterMap.mp hw
  exact mem_W i hi h1
theorem i_E : ∀ w ∈ u_ws "RopeThreads$Elevator" F_E 7, w ∈ WALL := inW_of [88, 90, 92, 94, 96, 98, 100] (by decide +kernel) (by decide +kernel)
theorem i_H : ∀ w ∈ u_ws "RopeThreads$History" F_H 3, w ∈ WALL := inW_of [116, 118, 120] (by decide +kernel) (by decide +kernel)
theorem i_R : ∀ w ∈ u_ws "RopeThreads$Rope" F_R 7, w ∈ WALL := inW_of [59, 61, 63, 65, 67, 69, 71] (by decide +kernel) (by decide +kernel)
theorem i_T : ∀ w ∈ u_ws "RopeThreads$TripText" F_T 6, w ∈ WALL := inW_of [135, 137, 139, 141, 143, 145] (by decide +kernel) (by decide +kernel)
theorem i_C : ∀ w ∈ u_ws "RopeThreads" F_C 4, w ∈ WALL := inW_of [154, 156, 158, 160] (by decide +kernel) (by decide +kernel)
