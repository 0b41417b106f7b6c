/-! names, words -/
def WALL : List Cond := lw_tbl.filter goodWord
theorem mem_W (k : Nat) {w : Cond} (h : lw_tbl[k]? = some w) (g : goodWord w = true) : w ∈ WALL := List.mem_filter.mpr ⟨List.mem_of_getElem? h, g⟩
theorem W_good : ∀ w ∈ WALL, w ∈ lw_tbl ∧ goodWord w = true := fun w h => List.mem_filter.mp h
def F_E : u_T := fun k => match k with
  | 0 => ("RopeThreads$Elevator", "settings", "[I", true)
  | 1 => ("RopeThreads$Elevator", "places", "[LRopeThreads$Rope;", true)
  | 2 => ("RopeThreads$Elevator", "ropes", "I", false)
  | 3 => ("RopeThreads$Elevator", "month", "I", false)
  | 4 => ("RopeThreads$Elevator", "trips", "I", false)
  | 5 => ("RopeThreads$Elevator", "inspected", "I", false)
  | _ => ("RopeThreads$Elevator", "swaps", "I", false)
def ft_E : Nat → FieldType := fun k => match k with
  | 0 => .array .int
  | 1 => .array (.object "RopeThreads$Rope")
  | 2 => .int
  | 3 => .int
  | 4 => .int
  | 5 => .int
  | _ => .int
theorem n_E : ∀ a, a < 7 → ∀ b, b < 7 → a ≠ b → (F_E a).2.1 ≠ (F_E b).2.1 := by decide +kernel
theorem ft_E_ok : ∀ k, k < 7 → parseFieldDescriptor (F_E k).2.2.1 = some (ft_E k) := by decide +kernel
def F_H : u_T := fun k => match k with
  | 0 => ("RopeThreads$History", "ring", "[LRopeThreads$Elevator;", true)
  | 1 => ("RopeThreads$History", "oldest", "I", false)
  | _ => ("RopeThreads$History", "kept", "I", false)
def ft_H : Nat → FieldType := fun k => match k with
  | 0 => .array (.object "RopeThreads$Elevator")
  | 1 => .int
  | _ => .int
theorem n_H : ∀ a, a < 3 → ∀ b, b < 3 → a ≠ b → (F_H a).2.1 ≠ (F_H b).2.1 := by decide +kernel
theorem ft_H_ok : ∀ k, k < 3 → parseFieldDescriptor (F_H k).2.2.1 = some (ft_H k) := by decide +kernel
def F_R : u_T := fun k => match k with
  | 0 => ("RopeThreads$Rope", "bends", "[I", true)
  | 1 => ("RopeThreads$Rope", "counts", "[I", true)
  | 2 => ("RopeThreads$Rope", "countsAhead", "[I", true)
  | 3 => ("RopeThreads$Rope", "lookMonths", "[I", true)
  | 4 => ("RopeThreads$Rope", "quality", "I", false)
  | 5 => ("RopeThreads$Rope", "hungMonth", "I", false)
  | _ => ("RopeThreads$Rope", "trips", "I", false)
def ft_R : Nat → FieldType := fun k => match k with
  | 0 => .array .int
  | 1 => .array .int
  | 2 => .array .int
  | 3 => .array .int
  | 4 => .int
  | 5 => .int
  | _ => .int
theorem n_R : ∀ a, a < 7 → ∀ b, b < 7 → a ≠ b → (F_R a).2.1 ≠ (F_R b).2.1 := by decide +kernel
theorem ft_R_ok : ∀ k, k < 7 → parseFieldDescriptor (F_R k).2.2.1 = some (ft_R k) := by decide +kernel
def F_T : u_T := fun k => match k with
  | 0 => ("RopeThreads$TripText", "signs", "[I", true)
  | 1 => ("RopeThreads$TripText", "froms", "[I", true)
  | 2 => ("RopeThreads$TripText", "tos", "[I", true)
  | 3 => ("RopeThreads$TripText", "times", "[I", true)
  | 4 => ("RopeThreads$TripText", "length", "I", false)
  | _ => ("RopeThreads$TripText", "parts", "I", false)
def ft_T : Nat → FieldType := fun k => match k with
  | 0 => .array .int
  | 1 => .array .int
  | 2 => .array .int
  | 3 => .array .int
  | 4 => .int
  | _ => .int
theorem n_T : ∀ a, a < 6 → ∀ b, b < 6 → a ≠ b → (F_T a).2.1 ≠ (F_T b).2.1 := by decide +kernel
theorem ft_T_ok : ∀ k, k < 6 → parseFieldDescriptor (F_T k).2.2.1 = some (ft_T k) := by decide +kernel
def F_C : u_T := fun k => match k with
  | 0 => ("RopeThreads", "now", "LRopeThreads$Elevator;", true)
  | 1 => ("RopeThreads", "history", "LRopeThreads$History;", true)
  | 2 => ("RopeThreads", "text", "LRopeThreads$TripText;", true)
  | _ => ("RopeThreads", "supposed", "LRopeThreads$Rope;", true)
def ft_C : Nat → FieldType := fun k => match k with
  | 0 => .object "RopeThreads$Elevator"
  | 1 => .object "RopeThreads$History"
  | 2 => .object "RopeThreads$TripText"
  | _ => .object "RopeThreads$Rope"
theorem n_C : ∀ a, a < 4 → ∀ b, b < 4 → a ≠ b → (F_C a).2.1 ≠ (F_C b).2.1 := by decide +kernel
theorem ft_C_ok : ∀ k, k < 4 → parseFieldDescriptor (F_C k).2.2.1 = some (ft_C k) := by decide +kernel
def F_M : u_T := fun k => match k with
  | 0 => ("RopeThreadsModel", "now", "[I", true)
  | 1 => ("RopeThreadsModel", "past", "[I", true)
  | 2 => ("RopeThreadsModel", "kept", "I", false)
  | 3 => ("RopeThreadsModel", "trial", "[I", true)
  | 4 => ("RopeThreadsModel", "text", "[I", true)
  | 5 => ("RopeThreadsModel", "typed", "I", false)
  | 6 => ("RopeThreadsModel", "thrown", "I", false)
  | 7 => ("RopeThreadsModel", "at", "I", false)
  | 8 => ("RopeThreadsModel", "isFault", "Z", false)
  | 9 => ("RopeThreadsModel", "told", "[I", true)
  | _ => ("RopeThreadsModel", "tolds", "I", false)
def ft_M : Nat → FieldType := fun k => match k with
  | 0 => .array .int
  | 1 => .array .int
  | 2 => .int
  | 3 => .array .int
  | 4 => .array .int
  | 5 => .int
  | 6 => .int
  | 7 => .int
  | 8 => .boolean
  | 9 => .array .int
  | _ => .int
theorem n_M : ∀ a, a < 11 → ∀ b, b < 11 → a ≠ b → (F_M a).2.1 ≠ (F_M b).2.1 := by decide +kernel
theorem ft_M_ok : ∀ k, k < 11 → parseFieldDescriptor (F_M k).2.2.1 = some (ft_M k) := by decide +kernel
def yC_lowestUnseen : MethodName := ⟨"RopeThreads", "lowestUnseen", "()I"⟩
def yC_reasonIfInspected : MethodName := ⟨"RopeThreads", "reasonIfInspected", "(LRopeThreads$Rope;II)I"⟩
def yC_shareCounted : MethodName := ⟨"RopeThreads", "shareCounted", "()D"⟩
def yC_countFigure : MethodName := ⟨"RopeThreads", "countFigure", "(I)I"⟩
def yC_mixedWithRope : MethodName := ⟨"RopeThreads", "mixedWithRope", "(JLRopeThreads$Rope;)J"⟩
def yC_ropeFigure : MethodName := ⟨"RopeThreads", "ropeFigure", "(LRopeThreads$Rope;I)I"⟩
def yC_windowFigure : MethodName := ⟨"RopeThreads", "windowFigure", "(LRopeThreads$Rope;II)I"⟩
def yC_tripsToLimit : MethodName := ⟨"RopeThreads", "tripsToLimit", "(LRopeThreads$Rope;)I"⟩
def yC_reachesLimit : MethodName := ⟨"RopeThreads", "reachesLimit", "(LRopeThreads$Rope;I)Z"⟩
def yJT_fillInStackTrace : MethodName := ⟨"java/lang/Throwable", "fillInStackTrace", "(I)Ljava/lang/Throwable;"⟩
def yC_existingRope : MethodName := ⟨"RopeThreads", "existingRope", "(I)LRopeThreads$Rope;"⟩
def yC_requireTripsAllowed : MethodName := ⟨"RopeThreads", "requireTripsAllowed", "(I)V"⟩
def yT_readSign : MethodName := ⟨"RopeThreads$TripText", "readSign", "(II)V"⟩
def yM_fails : MethodName := ⟨"RopeThreadsModel", "fails", "(I)I"⟩
def yM_saves : MethodName := ⟨"RopeThreadsModel", "saves", "()V"⟩
def yM_hangs : MethodName := ⟨"RopeThreadsModel", "hangs", "(II)V"⟩
def yM_isRope : MethodName := ⟨"RopeThreadsModel", "isRope", "(I)Z"⟩
def yM_inspects : MethodName := ⟨"RopeThreadsModel", "inspects", "([IIII)V"⟩
def yM_canRun : MethodName := ⟨"RopeThreadsModel", "canRun", "()Z"⟩
def yM_retired : MethodName := ⟨"RopeThreadsModel", "retired", "()I"⟩
def yM_reason : MethodName := ⟨"RopeThreadsModel", "reason", "([II)I"⟩
def yM_most : MethodName := ⟨"RopeThreadsModel", "most", "([IIZ)I"⟩
def yM_greatest : MethodName := ⟨"RopeThreadsModel", "greatest", "([IIZ)I"⟩
def yM_windows : MethodName := ⟨"RopeThreadsModel", "windows", "()I"⟩
def yM_goes : MethodName := ⟨"RopeThreadsModel", "goes", "(III)V"⟩
def yM_isText : MethodName := ⟨"RopeThreadsModel", "isText", "()Z"⟩
def yM_isPart : MethodName := ⟨"RopeThreadsModel", "isPart", "()Z"⟩
def yM_isFloor : MethodName := ⟨"RopeThreadsModel", "isFloor", "(I)Z"⟩
def yM_isAt : MethodName := ⟨"RopeThreadsModel", "isAt", "(II)Z"⟩
def yM_stops : MethodName := ⟨"RopeThreadsModel", "stops", "()Z"⟩
def yM_isOften : MethodName := ⟨"RopeThreadsModel", "isOften", "()Z"⟩
def yM_ofRope : MethodName := ⟨"RopeThreadsModel", "ofRope", "(II)I"⟩
def yM_monthsLeft : MethodName := ⟨"RopeThreadsModel", "monthsLeft", "(I)I"⟩
def yM_ofSection : MethodName := ⟨"RopeThreadsModel", "ofSection", "(III)I"⟩
def yM_counted : MethodName := ⟨"RopeThreadsModel", "counted", "(I)I"⟩
def yM_threads : MethodName := ⟨"RopeThreadsModel", "threads", "(Z)I"⟩
def yM_reasonThen : MethodName := ⟨"RopeThreadsModel", "reasonThen", "(III)I"⟩
def yM_tries : MethodName := ⟨"RopeThreadsModel", "tries", "(I)V"⟩
def yM_best : MethodName := ⟨"RopeThreadsModel", "best", "(II)I"⟩
def yM_unseenIn : MethodName := ⟨"RopeThreadsModel", "unseenIn", "(III)I"⟩
def yM_leftFor : MethodName := ⟨"RopeThreadsModel", "leftFor", "(I)I"⟩
def yM_isWorn : MethodName := ⟨"RopeThreadsModel", "isWorn", "(II)Z"⟩
def yM_firstUnseen : MethodName := ⟨"RopeThreadsModel", "firstUnseen", "()I"⟩
def yM_share : MethodName := ⟨"RopeThreadsModel", "share", "()D"⟩
def yC_init : MethodName := ⟨"RopeThreads", "<init>", "()V"⟩
def yJO_init : MethodName := ⟨"java/lang/Object", "<init>", "()V"⟩
def yE_init : MethodName := ⟨"RopeThreads$Elevator", "<init>", "()V"⟩
def yR_init : MethodName := ⟨"RopeThreads$Rope", "<init>", "()V"⟩
def yH_init : MethodName := ⟨"RopeThreads$History", "<init>", "()V"⟩
def yT_init : MethodName := ⟨"RopeThreads$TripText", "<init>", "()V"⟩
def yC_clearBuffer : MethodName := ⟨"RopeThreads", "clearBuffer", "()I"⟩
def yC_firstError : MethodName := ⟨"RopeThreads", "firstError", "()I"⟩
def yT_errorPlace : MethodName := ⟨"RopeThreads$TripText", "errorPlace", "()I"⟩
def yT_signAt : MethodName := ⟨"RopeThreads$TripText", "signAt", "(I)I"⟩
def yT_stateAfter : MethodName := ⟨"RopeThreads$TripText", "stateAfter", "(II)I"⟩
def yT_isFloor : MethodName := ⟨"RopeThreads$TripText", "isFloor", "(I)Z"⟩
def yT_stateAfterPart : MethodName := ⟨"RopeThreads$TripText", "stateAfterPart", "(I)I"⟩
def yT_stateAfterFirstDigit : MethodName := ⟨"RopeThreads$TripText", "stateAfterFirstDigit", "(I)I"⟩
def yT_isDigit : MethodName := ⟨"RopeThreads$TripText", "isDigit", "(I)Z"⟩
def yC_unseen : MethodName := ⟨"RopeThreads", "unseen", "()I"⟩
def yE_ropeAt : MethodName := ⟨"RopeThreads$Elevator", "ropeAt", "(I)LRopeThreads$Rope;"⟩
def yE_reasonFor : MethodName := ⟨"RopeThreads$Elevator", "reasonFor", "(LRopeThreads$Rope;)I"⟩
def yR_greatestCounts : MethodName := ⟨"RopeThreads$Rope", "greatestCounts", "(I)I"⟩
def yR_sumOfCounts : MethodName := ⟨"RopeThreads$Rope", "sumOfCounts", "(II)I"⟩
def yJM_max : MethodName := ⟨"java/lang/Math", "max", "(II)I"⟩
def yR_allCounts : MethodName := ⟨"RopeThreads$Rope", "allCounts", "()I"⟩
def yR_greatestGrowth : MethodName := ⟨"RopeThreads$Rope", "greatestGrowth", "()I"⟩
def yE_monthsLeft : MethodName := ⟨"RopeThreads$Elevator", "monthsLeft", "(LRopeThreads$Rope;)I"⟩
def yR_oldestLook : MethodName := ⟨"RopeThreads$Rope", "oldestLook", "()I"⟩
def yJM_min : MethodName := ⟨"java/lang/Math", "min", "(II)I"⟩
def yR_copyFrom : MethodName := ⟨"RopeThreads$Rope", "copyFrom", "(LRopeThreads$Rope;)V"⟩
def yJS_arraycopy : MethodName := ⟨"java/lang/System", "arraycopy", "(Ljava/lang/Object;ILjava/lang/Object;II)V"⟩
def yR_lookAt : MethodName := ⟨"RopeThreads$Rope", "lookAt", "(III)V"⟩
def yR_broken : MethodName := ⟨"RopeThreads$Rope", "broken", "(I)I"⟩
def yC_countedShare : MethodName := ⟨"RopeThreads", "countedShare", "()D"⟩
def yE_brokenOfRopes : MethodName := ⟨"RopeThreads$Elevator", "brokenOfRopes", "()I"⟩
def yR_allBroken : MethodName := ⟨"RopeThreads$Rope", "allBroken", "()I"⟩
def yR_sumOfBroken : MethodName := ⟨"RopeThreads$Rope", "sumOfBroken", "(II)I"⟩
def yE_countsOfRopes : MethodName := ⟨"RopeThreads$Elevator", "countsOfRopes", "()I"⟩
def yC_digest : MethodName := ⟨"RopeThreads", "digest", "()J"⟩
def yE_ropesToRetire : MethodName := ⟨"RopeThreads$Elevator", "ropesToRetire", "()I"⟩
def yE_canRun : MethodName := ⟨"RopeThreads$Elevator", "canRun", "()Z"⟩
def yC_mixed : MethodName := ⟨"RopeThreads", "mixed", "(JJ)J"⟩
def yR_windowOfGreatestCounts : MethodName := ⟨"RopeThreads$Rope", "windowOfGreatestCounts", "(I)I"⟩
def yR_greatestBroken : MethodName := ⟨"RopeThreads$Rope", "greatestBroken", "(I)I"⟩
def yR_sectionFigure : MethodName := ⟨"RopeThreads$Rope", "sectionFigure", "(II)I"⟩
def yE_windows : MethodName := ⟨"RopeThreads$Elevator", "windows", "()I"⟩
def yR_mostUncounted : MethodName := ⟨"RopeThreads$Rope", "mostUncounted", "(I)I"⟩
def yR_uncounted : MethodName := ⟨"RopeThreads$Rope", "uncounted", "(II)I"⟩
def yR_bend : MethodName := ⟨"RopeThreads$Rope", "bend", "(III)V"⟩
def yC_bitsOfShare : MethodName := ⟨"RopeThreads", "bitsOfShare", "(D)J"⟩
def yL_hang : MethodName := ⟨"RopeThreadsLaw", "hang", "(LRopeThreads;I[J)I"⟩
def yC_hang : MethodName := ⟨"RopeThreads", "hang", "(I)I"⟩
def yC_requireRange : MethodName := ⟨"RopeThreads", "requireRange", "(III)V"⟩
def yJT_init : MethodName := ⟨"java/lang/Throwable", "<init>", "()V"⟩
def yJT_fillInStackTrace2 : MethodName := ⟨"java/lang/Throwable", "fillInStackTrace", "()Ljava/lang/Throwable;"⟩
def yJT_init2 : MethodName := ⟨"java/lang/Throwable", "<init>", "(Ljava/lang/String;)V"⟩
def yH_keep : MethodName := ⟨"RopeThreads$History", "keep", "(LRopeThreads$Elevator;)V"⟩
def yJM_floorMod : MethodName := ⟨"java/lang/Math", "floorMod", "(II)I"⟩
def yE_copyFrom : MethodName := ⟨"RopeThreads$Elevator", "copyFrom", "(LRopeThreads$Elevator;)V"⟩
def yE_addRope : MethodName := ⟨"RopeThreads$Elevator", "addRope", "(I)V"⟩
def yR_renew : MethodName := ⟨"RopeThreads$Rope", "renew", "(II)V"⟩
def yJA_fill : MethodName := ⟨"java/util/Arrays", "fill", "([II)V"⟩
def yL_cut : MethodName := ⟨"RopeThreadsLaw", "cut", "(LRopeThreads;I[J)I"⟩
def yC_cut : MethodName := ⟨"RopeThreads", "cut", "(I)I"⟩
def yE_removeRope : MethodName := ⟨"RopeThreads$Elevator", "removeRope", "(I)V"⟩
def yL_swap : MethodName := ⟨"RopeThreadsLaw", "swap", "(LRopeThreads;II[J)I"⟩
def yC_swap : MethodName := ⟨"RopeThreads", "swap", "(II)I"⟩
def yL_inspect : MethodName := ⟨"RopeThreadsLaw", "inspect", "(LRopeThreads;III[J)I"⟩
def yC_inspect : MethodName := ⟨"RopeThreads", "inspect", "(III)I"⟩
def yC_requireSections : MethodName := ⟨"RopeThreads", "requireSections", "(II)V"⟩
def yC_requireIndex : MethodName := ⟨"RopeThreads", "requireIndex", "(II)V"⟩
def yL_set : MethodName := ⟨"RopeThreadsLaw", "set", "(LRopeThreads;II[J)I"⟩
def yC_set : MethodName := ⟨"RopeThreads", "set", "(II)I"⟩
def yL_trip : MethodName := ⟨"RopeThreadsLaw", "trip", "(LRopeThreads;III[J)I"⟩
def yC_trip : MethodName := ⟨"RopeThreads", "trip", "(III)I"⟩
def yE_travel : MethodName := ⟨"RopeThreads$Elevator", "travel", "(III)V"⟩
def yL_pass : MethodName := ⟨"RopeThreadsLaw", "pass", "(LRopeThreads;I[J)I"⟩
def yC_pass : MethodName := ⟨"RopeThreads", "pass", "(I)I"⟩
def yL_append : MethodName := ⟨"RopeThreadsLaw", "append", "(LRopeThreads;I[J)I"⟩
def yC_append : MethodName := ⟨"RopeThreads", "append", "(I)I"⟩
def yT_addSign : MethodName := ⟨"RopeThreads$TripText", "addSign", "(I)V"⟩
def yL_run : MethodName := ⟨"RopeThreadsLaw", "run", "(LRopeThreads;[J)I"⟩
def yC_run : MethodName := ⟨"RopeThreads", "run", "()I"⟩
def yT_readParts : MethodName := ⟨"RopeThreads$TripText", "readParts", "()Z"⟩
def yT_tripsOfParts : MethodName := ⟨"RopeThreads$TripText", "tripsOfParts", "()I"⟩
def yL_undo : MethodName := ⟨"RopeThreadsLaw", "undo", "(LRopeThreads;[J)I"⟩
def yC_undo : MethodName := ⟨"RopeThreads", "undo", "()I"⟩
def yH_giveBack : MethodName := ⟨"RopeThreads$History", "giveBack", "(LRopeThreads$Elevator;)V"⟩
def yL_rope : MethodName := ⟨"RopeThreadsLaw", "rope", "(LRopeThreads;II[J)I"⟩
def yC_rope : MethodName := ⟨"RopeThreads", "rope", "(II)I"⟩
def yL_section : MethodName := ⟨"RopeThreadsLaw", "section", "(LRopeThreads;III[J)I"⟩
def yC_section : MethodName := ⟨"RopeThreads", "section", "(III)I"⟩
def yL_window : MethodName := ⟨"RopeThreadsLaw", "window", "(LRopeThreads;III[J)I"⟩
def yC_window : MethodName := ⟨"RopeThreads", "window", "(III)I"⟩
def yL_count : MethodName := ⟨"RopeThreadsLaw", "count", "(LRopeThreads;I[J)I"⟩
def yC_count : MethodName := ⟨"RopeThreads", "count", "(I)I"⟩
def yL_setting : MethodName := ⟨"RopeThreadsLaw", "setting", "(LRopeThreads;I[J)I"⟩
def yC_setting : MethodName := ⟨"RopeThreads", "setting", "(I)I"⟩
def yL_ifInspected : MethodName := ⟨"RopeThreadsLaw", "ifInspected", "(LRopeThreads;III[J)I"⟩
def yC_ifInspected : MethodName := ⟨"RopeThreads", "ifInspected", "(III)I"⟩
def yL_bestInspection : MethodName := ⟨"RopeThreadsLaw", "bestInspection", "(LRopeThreads;II[J)I"⟩
def yC_bestInspection : MethodName := ⟨"RopeThreads", "bestInspection", "(II)I"⟩
def yL_tripsLeft : MethodName := ⟨"RopeThreadsLaw", "tripsLeft", "(LRopeThreads;I[J)I"⟩
def yC_tripsLeft : MethodName := ⟨"RopeThreads", "tripsLeft", "(I)I"⟩
def yM_init : MethodName := ⟨"RopeThreadsModel", "<init>", "()V"⟩
def yM_thrown : MethodName := ⟨"RopeThreadsModel", "thrown", "()I"⟩
def yM_undo : MethodName := ⟨"RopeThreadsModel", "undo", "()I"⟩
def yM_hang : MethodName := ⟨"RopeThreadsModel", "hang", "(I)I"⟩
def yM_isQuality : MethodName := ⟨"RopeThreadsModel", "isQuality", "(I)Z"⟩
def yM_in : MethodName := ⟨"RopeThreadsModel", "in", "(III)Z"⟩
def yM_row : MethodName := ⟨"RopeThreadsModel", "row", "(I)I"⟩
def yM_cut : MethodName := ⟨"RopeThreadsModel", "cut", "(I)I"⟩
def yM_swap : MethodName := ⟨"RopeThreadsModel", "swap", "(II)I"⟩
def yM_sumOf : MethodName := ⟨"RopeThreadsModel", "sumOf", "([IIIIZ)I"⟩
def yM_broken : MethodName := ⟨"RopeThreadsModel", "broken", "([III)I"⟩
def yM_inspect : MethodName := ⟨"RopeThreadsModel", "inspect", "(III)I"⟩
def yM_isSection : MethodName := ⟨"RopeThreadsModel", "isSection", "(I)Z"⟩
def yM_set : MethodName := ⟨"RopeThreadsModel", "set", "(II)I"⟩
def yM_isFor : MethodName := ⟨"RopeThreadsModel", "isFor", "(II)Z"⟩
def yM_trip : MethodName := ⟨"RopeThreadsModel", "trip", "(III)I"⟩
def yM_pass : MethodName := ⟨"RopeThreadsModel", "pass", "(I)I"⟩
def yM_append : MethodName := ⟨"RopeThreadsModel", "append", "(I)I"⟩
def yM_clearBuffer : MethodName := ⟨"RopeThreadsModel", "clearBuffer", "()I"⟩
def yM_firstError : MethodName := ⟨"RopeThreadsModel", "firstError", "()I"⟩
def yM_run : MethodName := ⟨"RopeThreadsModel", "run", "()I"⟩
def yM_rope : MethodName := ⟨"RopeThreadsModel", "rope", "(II)I"⟩
def yM_section : MethodName := ⟨"RopeThreadsModel", "section", "(III)I"⟩
def yM_window : MethodName := ⟨"RopeThreadsModel", "window", "(III)I"⟩
def yM_count : MethodName := ⟨"RopeThreadsModel", "count", "(I)I"⟩
def yM_setting : MethodName := ⟨"RopeThreadsModel", "setting", "(I)I"⟩
def yM_ifInspected : MethodName := ⟨"RopeThreadsModel", "ifInspected", "(III)I"⟩
def yM_bestInspection : MethodName := ⟨"RopeThreadsModel", "bestInspection", "(II)I"⟩
def yM_tripsLeft : MethodName := ⟨"RopeThreadsModel", "tripsLeft", "(I)I"⟩
def yM_unseen : MethodName := ⟨"RopeThreadsModel", "unseen", "()I"⟩
def yM_countedShare : MethodName := ⟨"RopeThreadsModel", "countedShare", "()D"⟩
def yM_digest : MethodName := ⟨"RopeThreadsModel", "digest", "()J"⟩
def yJD_doubleToLongBits : MethodName := ⟨"java/lang/Double", "doubleToLongBits", "(D)J"⟩
def yJD_isNaN : MethodName := ⟨"java/lang/Double", "isNaN", "(D)Z"⟩
def yJD_doubleToRawLongBits : MethodName := ⟨"java/lang/Double", "doubleToRawLongBits", "(D)J"⟩
abbrev bC_init : ByteArray := prog_1_method_1_code
abbrev bE_init : ByteArray := prog_2_method_1_code
abbrev bR_init : ByteArray := prog_4_method_1_code
abbrev bH_init : ByteArray := prog_3_method_1_code
abbrev bT_init : ByteArray := prog_5_method_1_code
abbrev bC_clearBuffer : ByteArray := prog_1_method_10_code
abbrev bC_firstError : ByteArray := prog_1_method_11_code
abbrev bT_errorPlace : ByteArray := prog_5_method_4_code
abbrev bT_signAt : ByteArray := prog_5_method_3_code
abbrev bT_stateAfter : ByteArray := prog_5_method_8_code
abbrev bT_isFloor : ByteArray := prog_5_method_11_code
abbrev bT_stateAfterPart : ByteArray := prog_5_method_9_code
abbrev bT_stateAfterFirstDigit : ByteArray := prog_5_method_10_code
abbrev bT_isDigit : ByteArray := prog_5_method_12_code
abbrev bC_unseen : ByteArray := prog_1_method_22_code
abbrev bC_lowestUnseen : ByteArray := prog_1_method_36_code
abbrev bE_ropeAt : ByteArray := prog_2_method_3_code
abbrev bE_reasonFor : ByteArray := prog_2_method_8_code
abbrev bR_greatestCounts : ByteArray := prog_4_method_11_code
abbrev bR_sumOfCounts : ByteArray := prog_4_method_7_code
abbrev bJM_max : ByteArray := prog_13_method_65_code
abbrev bR_allCounts : ByteArray := prog_4_method_9_code
abbrev bR_greatestGrowth : ByteArray := prog_4_method_16_code
abbrev bE_monthsLeft : ByteArray := prog_2_method_9_code
abbrev bR_oldestLook : ByteArray := prog_4_method_17_code
abbrev bJM_min : ByteArray := prog_13_method_69_code
abbrev bC_reasonIfInspected : ByteArray := prog_1_method_33_code
abbrev bR_copyFrom : ByteArray := prog_4_method_3_code
abbrev bR_lookAt : ByteArray := prog_4_method_5_code
abbrev bR_broken : ByteArray := prog_4_method_6_code
abbrev bC_countedShare : ByteArray := prog_1_method_23_code
abbrev bC_shareCounted : ByteArray := prog_1_method_37_code
abbrev bE_brokenOfRopes : ByteArray := prog_2_method_13_code
abbrev bR_allBroken : ByteArray := prog_4_method_10_code
abbrev bR_sumOfBroken : ByteArray := prog_4_method_8_code
abbrev bE_countsOfRopes : ByteArray := prog_2_method_12_code
abbrev bC_digest : ByteArray := prog_1_method_24_code
abbrev bC_countFigure : ByteArray := prog_1_method_32_code
abbrev bE_ropesToRetire : ByteArray := prog_2_method_10_code
abbrev bE_canRun : ByteArray := prog_2_method_11_code
abbrev bC_mixed : ByteArray := prog_1_method_38_code
abbrev bC_mixedWithRope : ByteArray := prog_1_method_39_code
abbrev bC_ropeFigure : ByteArray := prog_1_method_30_code
abbrev bR_windowOfGreatestCounts : ByteArray := prog_4_method_12_code
abbrev bR_greatestBroken : ByteArray := prog_4_method_13_code
abbrev bR_sectionFigure : ByteArray := prog_4_method_18_code
abbrev bE_windows : ByteArray := prog_2_method_7_code
abbrev bC_windowFigure : ByteArray := prog_1_method_31_code
abbrev bR_mostUncounted : ByteArray := prog_4_method_15_code
abbrev bR_uncounted : ByteArray := prog_4_method_14_code
abbrev bC_tripsToLimit : ByteArray := prog_1_method_34_code
abbrev bC_reachesLimit : ByteArray := prog_1_method_35_code
abbrev bR_bend : ByteArray := prog_4_method_4_code
abbrev bC_bitsOfShare : ByteArray := prog_1_method_40_code
abbrev bL_hang : ByteArray := method_3_code
abbrev bC_hang : ByteArray := prog_1_method_2_code
abbrev bC_requireRange : ByteArray := prog_1_method_27_code
abbrev bJT_init : ByteArray := prog_18_method_1_code
abbrev bJT_init2 : ByteArray := prog_18_method_2_code
abbrev bH_keep : ByteArray := prog_3_method_2_code
abbrev bJM_floorMod : ByteArray := prog_13_method_50_code
abbrev bE_copyFrom : ByteArray := prog_2_method_2_code
abbrev bE_addRope : ByteArray := prog_2_method_4_code
abbrev bR_renew : ByteArray := prog_4_method_2_code
abbrev bJA_fill : ByteArray := prog_19_method_103_code
abbrev bL_cut : ByteArray := method_4_code
abbrev bC_cut : ByteArray := prog_1_method_3_code
abbrev bC_existingRope : ByteArray := prog_1_method_25_code
abbrev bE_removeRope : ByteArray := prog_2_method_5_code
abbrev bL_swap : ByteArray := method_5_code
abbrev bC_swap : ByteArray := prog_1_method_4_code
abbrev bL_inspect : ByteArray := method_6_code
abbrev bC_inspect : ByteArray := prog_1_method_5_code
abbrev bC_requireSections : ByteArray := prog_1_method_28_code
abbrev bC_requireIndex : ByteArray := prog_1_method_26_code
abbrev bL_set : ByteArray := method_7_code
abbrev bC_set : ByteArray := prog_1_method_6_code
abbrev bL_trip : ByteArray := method_8_code
abbrev bC_trip : ByteArray := prog_1_method_7_code
abbrev bC_requireTripsAllowed : ByteArray := prog_1_method_29_code
abbrev bE_travel : ByteArray := prog_2_method_6_code
abbrev bL_pass : ByteArray := method_9_code
abbrev bC_pass : ByteArray := prog_1_method_8_code
abbrev bL_append : ByteArray := method_10_code
abbrev bC_append : ByteArray := prog_1_method_9_code
abbrev bT_addSign : ByteArray := prog_5_method_2_code
abbrev bL_run : ByteArray := method_11_code
abbrev bC_run : ByteArray := prog_1_method_12_code
abbrev bT_readParts : ByteArray := prog_5_method_5_code
abbrev bT_readSign : ByteArray := prog_5_method_6_code
abbrev bT_tripsOfParts : ByteArray := prog_5_method_7_code
abbrev bL_undo : ByteArray := method_12_code
abbrev bC_undo : ByteArray := prog_1_method_13_code
abbrev bH_giveBack : ByteArray := prog_3_method_3_code
abbrev bL_rope : ByteArray := method_13_code
abbrev bC_rope : ByteArray := prog_1_method_14_code
abbrev bL_section : ByteArray := method_14_code
abbrev bC_section : ByteArray := prog_1_method_15_code
abbrev bL_window : ByteArray := method_15_code
abbrev bC_window : ByteArray := prog_1_method_16_code
abbrev bL_count : ByteArray := method_16_code
abbrev bC_count : ByteArray := prog_1_method_17_code
abbrev bL_setting : ByteArray := method_17_code
abbrev bC_setting : ByteArray := prog_1_method_18_code
abbrev bL_ifInspected : ByteArray := method_18_code
abbrev bC_ifInspected : ByteArray := prog_1_method_19_code
abbrev bL_bestInspection : ByteArray := method_19_code
abbrev bC_bestInspection : ByteArray := prog_1_method_20_code
abbrev bL_tripsLeft : ByteArray := method_20_code
abbrev bC_tripsLeft : ByteArray := prog_1_method_21_code
abbrev bM_init : ByteArray := prog_7_method_1_code
abbrev bM_thrown : ByteArray := prog_7_method_2_code
abbrev bM_undo : ByteArray := prog_7_method_10_code
abbrev bM_fails : ByteArray := prog_7_method_3_code
abbrev bM_hang : ByteArray := prog_7_method_20_code
abbrev bM_isQuality : ByteArray := prog_7_method_7_code
abbrev bM_in : ByteArray := prog_7_method_4_code
abbrev bM_saves : ByteArray := prog_7_method_9_code
abbrev bM_hangs : ByteArray := prog_7_method_19_code
abbrev bM_row : ByteArray := prog_7_method_8_code
abbrev bM_cut : ByteArray := prog_7_method_21_code
abbrev bM_isRope : ByteArray := prog_7_method_5_code
abbrev bM_swap : ByteArray := prog_7_method_22_code
abbrev bM_sumOf : ByteArray := prog_7_method_12_code
abbrev bM_broken : ByteArray := prog_7_method_11_code
abbrev bM_inspect : ByteArray := prog_7_method_23_code
abbrev bM_isSection : ByteArray := prog_7_method_6_code
abbrev bM_inspects : ByteArray := prog_7_method_17_code
abbrev bM_set : ByteArray := prog_7_method_25_code
abbrev bM_isFor : ByteArray := prog_7_method_24_code
abbrev bM_trip : ByteArray := prog_7_method_29_code
abbrev bM_canRun : ByteArray := prog_7_method_27_code
abbrev bM_retired : ByteArray := prog_7_method_26_code
abbrev bM_reason : ByteArray := prog_7_method_16_code
abbrev bM_most : ByteArray := prog_7_method_15_code
abbrev bM_greatest : ByteArray := prog_7_method_14_code
abbrev bM_windows : ByteArray := prog_7_method_13_code
abbrev bM_goes : ByteArray := prog_7_method_28_code
abbrev bM_pass : ByteArray := prog_7_method_30_code
abbrev bM_append : ByteArray := prog_7_method_31_code
abbrev bM_clearBuffer : ByteArray := prog_7_method_32_code
abbrev bM_firstError : ByteArray := prog_7_method_39_code
abbrev bM_isText : ByteArray := prog_7_method_38_code
abbrev bM_isPart : ByteArray := prog_7_method_37_code
abbrev bM_isFloor : ByteArray := prog_7_method_35_code
abbrev bM_isAt : ByteArray := prog_7_method_33_code
abbrev bM_stops : ByteArray := prog_7_method_34_code
abbrev bM_isOften : ByteArray := prog_7_method_36_code
abbrev bM_run : ByteArray := prog_7_method_40_code
abbrev bM_rope : ByteArray := prog_7_method_43_code
abbrev bM_ofRope : ByteArray := prog_7_method_42_code
abbrev bM_monthsLeft : ByteArray := prog_7_method_41_code
abbrev bM_section : ByteArray := prog_7_method_45_code
abbrev bM_ofSection : ByteArray := prog_7_method_44_code
abbrev bM_window : ByteArray := prog_7_method_46_code
abbrev bM_count : ByteArray := prog_7_method_49_code
abbrev bM_counted : ByteArray := prog_7_method_48_code
abbrev bM_threads : ByteArray := prog_7_method_47_code
abbrev bM_setting : ByteArray := prog_7_method_50_code
abbrev bM_ifInspected : ByteArray := prog_7_method_52_code
abbrev bM_reasonThen : ByteArray := prog_7_method_51_code
abbrev bM_tries : ByteArray := prog_7_method_18_code
abbrev bM_bestInspection : ByteArray := prog_7_method_55_code
abbrev bM_best : ByteArray := prog_7_method_54_code
abbrev bM_unseenIn : ByteArray := prog_7_method_53_code
abbrev bM_tripsLeft : ByteArray := prog_7_method_58_code
abbrev bM_leftFor : ByteArray := prog_7_method_57_code
abbrev bM_isWorn : ByteArray := prog_7_method_56_code
abbrev bM_unseen : ByteArray := prog_7_method_60_code
abbrev bM_firstUnseen : ByteArray := prog_7_method_59_code
abbrev bM_countedShare : ByteArray := prog_7_method_62_code
abbrev bM_share : ByteArray := prog_7_method_61_code
abbrev bM_digest : ByteArray := prog_7_method_63_code
abbrev bJD_doubleToLongBits : ByteArray := prog_8_method_23_code
abbrev bJD_isNaN : ByteArray := prog_8_method_6_code
theorem wV_C_lowestUnseen : Cond.selects "RopeThreads" yC_lowestUnseen yC_lowestUnseen ∈ WALL := mem_W 0 (by decide +kernel) rfl
theorem wV_C_reasonIfInspected : Cond.selects "RopeThreads" yC_reasonIfInspected yC_reasonIfInspected ∈ WALL := mem_W 1 (by decide +kernel) rfl
theorem wV_C_shareCounted : Cond.selects "RopeThreads" yC_shareCounted yC_shareCounted ∈ WALL := mem_W 2 (by decide +kernel) rfl
theorem wV_C_countFigure : Cond.selects "RopeThreads" yC_countFigure yC_countFigure ∈ WALL := mem_W 3 (by decide +kernel) rfl
theorem wV_C_mixedWithRope : Cond.selects "RopeThreads" yC_mixedWithRope yC_mixedWithRope ∈ WALL := mem_W 4 (by decide +kernel) rfl
theorem wV_C_ropeFigure : Cond.selects "RopeThreads" yC_ropeFigure yC_ropeFigure ∈ WALL := mem_W 5 (by decide +kernel) rfl
theorem wV_C_windowFigure : Cond.selects "RopeThreads" yC_windowFigure yC_windowFigure ∈ WALL := mem_W 6 (by decide +kernel) rfl
theorem wV_C_tripsToLimit : Cond.selects "RopeThreads" yC_tripsToLimit yC_tripsToLimit ∈ WALL := mem_W 7 (by decide +kernel) rfl
theorem wV_C_reachesLimit : Cond.selects "RopeThreads" yC_reachesLimit yC_reachesLimit ∈ WALL := mem_W 8 (by decide +kernel) rfl
theorem wV_JT_fillInStackTrace : Cond.selects "java/lang/Throwable" yJT_fillInStackTrace yJT_fillInStackTrace ∈ WALL := mem_W 9 (by decide +kernel) rfl
theorem wV_C_existingRope : Cond.selects "RopeThreads" yC_existingRope yC_existingRope ∈ WALL := mem_W 10 (by decide +kernel) rfl
theorem wV_C_requireTripsAllowed : Cond.selects "RopeThreads" yC_requireTripsAllowed yC_requireTripsAllowed ∈ WALL := mem_W 11 (by decide +kernel) rfl
theorem wV_T_readSign : Cond.selects "RopeThreads$TripText" yT_readSign yT_readSign ∈ WALL := mem_W 12 (by decide +kernel) rfl
theorem wV_M_fails : Cond.selects "RopeThreadsModel" yM_fails yM_fails ∈ WALL := mem_W 13 (by decide +kernel) rfl
theorem wV_M_saves : Cond.selects "RopeThreadsModel" yM_saves yM_saves ∈ WALL := mem_W 14 (by decide +kernel) rfl
theorem wV_M_hangs : Cond.selects "RopeThreadsModel" yM_hangs yM_hangs ∈ WALL := mem_W 15 (by decide +kernel) rfl
theorem wV_M_isRope : Cond.selects "RopeThreadsModel" yM_isRope yM_isRope ∈ WALL := mem_W 16 (by decide +kernel) rfl
theorem wV_M_inspects : Cond.selects "RopeThreadsModel" yM_inspects yM_inspects ∈ WALL := mem_W 17 (by decide +kernel) rfl
theorem wV_M_canRun : Cond.selects "RopeThreadsModel" yM_canRun yM_canRun ∈ WALL := mem_W 18 (by decide +kernel) rfl
theorem wV_M_retired : Cond.selects "RopeThreadsModel" yM_retired yM_retired ∈ WALL := mem_W 19 (by decide +kernel) rfl
theorem wV_M_reason : Cond.selects "RopeThreadsModel" yM_reason yM_reason ∈ WALL := mem_W 20 (by decide +kernel) rfl
theorem wV_M_most : Cond.selects "RopeThreadsModel" yM_most yM_most ∈ WALL := mem_W 21 (by decide +kernel) rfl
theorem wV_M_greatest : Cond.selects "RopeThreadsModel" yM_greatest yM_greatest ∈ WALL := mem_W 22 (by decide +kernel) rfl
theorem wV_M_windows : Cond.selects "RopeThreadsModel" yM_windows yM_windows ∈ WALL := mem_W 23 (by decide +kernel) rfl
theorem wV_M_goes : Cond.selects "RopeThreadsModel" yM_goes yM_goes ∈ WALL := mem_W 24 (by decide +kernel) rfl
theorem wV_M_isText : Cond.selects "RopeThreadsModel" yM_isText yM_isText ∈ WALL := mem_W 25 (by decide +kernel) rfl
theorem wV_M_isPart : Cond.selects "RopeThreadsModel" yM_isPart yM_isPart ∈ WALL := mem_W 26 (by decide +kernel) rfl
theorem wV_M_isFloor : Cond.selects "RopeThreadsModel" yM_isFloor yM_isFloor ∈ WALL := mem_W 27 (by decide +kernel) rfl
theorem wV_M_isAt : Cond.selects "RopeThreadsModel" yM_isAt yM_isAt ∈ WALL := mem_W 28 (by decide +kernel) rfl
theorem wV_M_stops : Cond.selects "RopeThreadsModel" yM_stops yM_stops ∈ WALL := mem_W 29 (by decide +kernel) rfl
theorem wV_M_isOften : Cond.selects "RopeThreadsModel" yM_isOften yM_isOften ∈ WALL := mem_W 30 (by decide +kernel) rfl
theorem wV_M_ofRope : Cond.selects "RopeThreadsModel" yM_ofRope yM_ofRope ∈ WALL := mem_W 31 (by decide +kernel) rfl
theorem wV_M_monthsLeft : Cond.selects "RopeThreadsModel" yM_monthsLeft yM_monthsLeft ∈ WALL := mem_W 32 (by decide +kernel) rfl
theorem wV_M_ofSection : Cond.selects "RopeThreadsModel" yM_ofSection yM_ofSection ∈ WALL := mem_W 33 (by decide +kernel) rfl
theorem wV_M_counted : Cond.selects "RopeThreadsModel" yM_counted yM_counted ∈ WALL := mem_W 34 (by decide +kernel) rfl
theorem wV_M_threads : Cond.selects "RopeThreadsModel" yM_threads yM_threads ∈ WALL := mem_W 35 (by decide +kernel) rfl
theorem wV_M_reasonThen : Cond.selects "RopeThreadsModel" yM_reasonThen yM_reasonThen ∈ WALL := mem_W 36 (by decide +kernel) rfl
theorem wV_M_tries : Cond.selects "RopeThreadsModel" yM_tries yM_tries ∈ WALL := mem_W 37 (by decide +kernel) rfl
theorem wV_M_best : Cond.selects "RopeThreadsModel" yM_best yM_best ∈ WALL := mem_W 38 (by decide +kernel) rfl
theorem wV_M_unseenIn : Cond.selects "RopeThreadsModel" yM_unseenIn yM_unseenIn ∈ WALL := mem_W 39 (by decide +kernel) rfl
theorem wV_M_leftFor : Cond.selects "RopeThreadsModel" yM_leftFor yM_leftFor ∈ WALL := mem_W 40 (by decide +kernel) rfl
theorem wV_M_isWorn : Cond.selects "RopeThreadsModel" yM_isWorn yM_isWorn ∈ WALL := mem_W 41 (by decide +kernel) rfl
theorem wV_M_firstUnseen : Cond.selects "RopeThreadsModel" yM_firstUnseen yM_firstUnseen ∈ WALL := mem_W 42 (by decide +kernel) rfl
theorem wV_M_share : Cond.selects "RopeThreadsModel" yM_share yM_share ∈ WALL := mem_W 43 (by decide +kernel) rfl
theorem wN_L : Cond.initialized "RopeThreadsLaw" ∈ WALL := mem_W 44 (by decide +kernel) rfl
theorem wN_C : Cond.initialized "RopeThreads" ∈ WALL := mem_W 45 (by decide +kernel) rfl
theorem wN_E : Cond.initialized "RopeThreads$Elevator" ∈ WALL := mem_W 46 (by decide +kernel) rfl
theorem wN_R : Cond.initialized "RopeThreads$Rope" ∈ WALL := mem_W 47 (by decide +kernel) rfl
theorem wN_H : Cond.initialized "RopeThreads$History" ∈ WALL := mem_W 48 (by decide +kernel) rfl
theorem wN_T : Cond.initialized "RopeThreads$TripText" ∈ WALL := mem_W 49 (by decide +kernel) rfl
theorem wN_M : Cond.initialized "RopeThreadsModel" ∈ WALL := mem_W 50 (by decide +kernel) rfl
theorem wN_JT : Cond.initialized "java/lang/Throwable" ∈ WALL := mem_W 51 (by decide +kernel) rfl
theorem wN_Exception : Cond.initialized "java/lang/Exception" ∈ WALL := mem_W 52 (by decide +kernel) rfl
theorem wN_RuntimeException : Cond.initialized "java/lang/RuntimeException" ∈ WALL := mem_W 53 (by decide +kernel) rfl
theorem wN_IllegalArgumentException : Cond.initialized "java/lang/IllegalArgumentException" ∈ WALL := mem_W 54 (by decide +kernel) rfl
theorem wN_IllegalStateException : Cond.initialized "java/lang/IllegalStateException" ∈ WALL := mem_W 55 (by decide +kernel) rfl
theorem wN_JM : Cond.initialized "java/lang/Math" ∈ WALL := mem_W 56 (by decide +kernel) rfl
theorem wN_JS : Cond.initialized "java/lang/System" ∈ WALL := mem_W 57 (by decide +kernel) rfl
theorem wN_JA : Cond.initialized "java/util/Arrays" ∈ WALL := mem_W 58 (by decide +kernel) rfl
theorem wN_IndexOutOfBoundsException : Cond.initialized "java/lang/IndexOutOfBoundsException" ∈ WALL := mem_W 59 (by decide +kernel) rfl
theorem wN_Number : Cond.initialized "java/lang/Number" ∈ WALL := mem_W 60 (by decide +kernel) rfl
theorem wN_JD : Cond.initialized "java/lang/Double" ∈ WALL := mem_W 61 (by decide +kernel) rfl
theorem wC_L_8 : Cond.classLink "RopeThreadsLaw" 8 "RopeThreads" ∈ WALL := mem_W 62 (by decide +kernel) rfl
theorem wA_C : Cond.instantiable "RopeThreads" 4 ∈ WALL := mem_W 63 (by decide +kernel) rfl
theorem wM_L_73 : Cond.methodLink "RopeThreadsLaw" 73 yC_init ∈ WALL := mem_W 64 (by decide +kernel) rfl
theorem wI_C_init : Cond.instanceMethod yC_init ∈ WALL := mem_W 65 (by decide +kernel) rfl
set_option maxRecDepth 30000 in
theorem wB_C_init : Cond.code yC_init prog_1_method_1_code 1 none ∈ WALL := mem_W 66 rfl rfl
theorem wM_C_1 : Cond.methodLink "RopeThreads" 1 yJO_init ∈ WALL := mem_W 67 (by decide +kernel) rfl
theorem wI_JO_init : Cond.instanceMethod yJO_init ∈ WALL := mem_W 68 (by decide +kernel) rfl
theorem wB_objL : Cond.code Lib.objectInit ⟨#[0xb1]⟩ 1 none ∈ WALL := mem_W 69 rfl rfl
theorem wC_C_7 : Cond.classLink "RopeThreads" 7 "RopeThreads$Elevator" ∈ WALL := mem_W 70 (by decide +kernel) rfl
theorem wA_E : Cond.instantiable "RopeThreads$Elevator" 7 ∈ WALL := mem_W 71 (by decide +kernel) rfl
theorem wM_C_9 : Cond.methodLink "RopeThreads" 9 yE_init ∈ WALL := mem_W 72 (by decide +kernel) rfl
theorem wI_E_init : Cond.instanceMethod yE_init ∈ WALL := mem_W 73 (by decide +kernel) rfl
set_option maxRecDepth 30000 in
theorem wB_E_init : Cond.code yE_init prog_2_method_1_code 2 none ∈ WALL := mem_W 74 rfl rfl
theorem wM_E_3 : Cond.methodLink "RopeThreads$Elevator" 3 yJO_init ∈ WALL := mem_W 75 (by decide +kernel) rfl
theorem wC_E_15 : Cond.classLink "RopeThreads$Elevator" 15 "RopeThreads$Rope" ∈ WALL := mem_W 76 (by decide +kernel) rfl
theorem wA_R : Cond.instantiable "RopeThreads$Rope" 7 ∈ WALL := mem_W 80 (by decide +kernel) rfl
theorem wI_R_init : Cond.instanceMethod yR_init ∈ WALL := mem_W 82 (by decide +kernel) rfl
set_option maxRecDepth 30000 in
theorem wB_R_init : Cond.code yR_init prog_4_method_1_code 1 none ∈ WALL := mem_W 83 rfl rfl
theorem wM_R_3 : Cond.methodLink "RopeThreads$Rope" 3 yJO_init ∈ WALL := mem_W 84 (by decide +kernel) rfl
theorem wF_R_9 : Cond.fieldLink "RopeThreads$Rope" 9 "RopeThreads$Rope" "bends" "[I" ∈ WALL := mem_W 85 (by decide +kernel) rfl
theorem wF_R_15 : Cond.fieldLink "RopeThreads$Rope" 15 "RopeThreads$Rope" "counts" "[I" ∈ WALL := mem_W 86 (by decide +kernel) rfl
theorem wF_R_18 : Cond.fieldLink "RopeThreads$Rope" 18 "RopeThreads$Rope" "countsAhead" "[I" ∈ WALL := mem_W 87 (by decide +kernel) rfl
theorem wF_R_21 : Cond.fieldLink "RopeThreads$Rope" 21 "RopeThreads$Rope" "lookMonths" "[I" ∈ WALL := mem_W 88 (by decide +kernel) rfl
theorem wF_R_24 : Cond.fieldLink "RopeThreads$Rope" 24 "RopeThreads$Rope" "quality" "I" ∈ WALL := mem_W 89 (by decide +kernel) rfl
theorem wF_R_28 : Cond.fieldLink "RopeThreads$Rope" 28 "RopeThreads$Rope" "hungMonth" "I" ∈ WALL := mem_W 91 (by decide +kernel) rfl
theorem wF_R_31 : Cond.fieldLink "RopeThreads$Rope" 31 "RopeThreads$Rope" "trips" "I" ∈ WALL := mem_W 93 (by decide +kernel) rfl
theorem wR_110 : Cond.arrayClass Jvm.ClassFile.FieldType.int ∈ WALL := mem_W 110 (by decide +kernel) rfl
theorem wF_E_9 : Cond.fieldLink "RopeThreads$Elevator" 9 "RopeThreads$Elevator" "settings" "[I" ∈ WALL := mem_W 111 (by decide +kernel) rfl
theorem wF_E_17 : Cond.fieldLink "RopeThreads$Elevator" 17 "RopeThreads$Elevator" "places" "[LRopeThreads$Rope;" ∈ WALL := mem_W 113 (by decide +kernel) rfl
theorem wF_E_21 : Cond.fieldLink "RopeThreads$Elevator" 21 "RopeThreads$Elevator" "ropes" "I" ∈ WALL := mem_W 114 (by decide +kernel) rfl
theorem wF_E_25 : Cond.fieldLink "RopeThreads$Elevator" 25 "RopeThreads$Elevator" "month" "I" ∈ WALL := mem_W 116 (by decide +kernel) rfl
theorem wF_E_28 : Cond.fieldLink "RopeThreads$Elevator" 28 "RopeThreads$Elevator" "trips" "I" ∈ WALL := mem_W 118 (by decide +kernel) rfl
theorem wF_E_31 : Cond.fieldLink "RopeThreads$Elevator" 31 "RopeThreads$Elevator" "inspected" "I" ∈ WALL := mem_W 120 (by decide +kernel) rfl
theorem wF_E_34 : Cond.fieldLink "RopeThreads$Elevator" 34 "RopeThreads$Elevator" "swaps" "I" ∈ WALL := mem_W 122 (by decide +kernel) rfl
theorem wC_C_16 : Cond.classLink "RopeThreads" 16 "RopeThreads$History" ∈ WALL := mem_W 139 (by decide +kernel) rfl
theorem wA_H : Cond.instantiable "RopeThreads$History" 3 ∈ WALL := mem_W 140 (by decide +kernel) rfl
theorem wM_C_18 : Cond.methodLink "RopeThreads" 18 yH_init ∈ WALL := mem_W 141 (by decide +kernel) rfl
theorem wI_H_init : Cond.instanceMethod yH_init ∈ WALL := mem_W 142 (by decide +kernel) rfl
set_option maxRecDepth 30000 in
theorem wB_H_init : Cond.code yH_init prog_3_method_1_code 2 none ∈ WALL := mem_W 143 rfl rfl
theorem wM_H_3 : Cond.methodLink "RopeThreads$History" 3 yJO_init ∈ WALL := mem_W 144 (by decide +kernel) rfl
theorem wC_H_9 : Cond.classLink "RopeThreads$History" 9 "RopeThreads$Elevator" ∈ WALL := mem_W 145 (by decide +kernel) rfl
theorem wM_H_24 : Cond.methodLink "RopeThreads$History" 24 yE_init ∈ WALL := mem_W 147 (by decide +kernel) rfl
theorem wF_H_11 : Cond.fieldLink "RopeThreads$History" 11 "RopeThreads$History" "ring" "[LRopeThreads$Elevator;" ∈ WALL := mem_W 148 (by decide +kernel) rfl
theorem wF_H_17 : Cond.fieldLink "RopeThreads$History" 17 "RopeThreads$History" "oldest" "I" ∈ WALL := mem_W 149 (by decide +kernel) rfl
theorem wF_H_21 : Cond.fieldLink "RopeThreads$History" 21 "RopeThreads$History" "kept" "I" ∈ WALL := mem_W 150 (by decide +kernel) rfl
theorem wC_C_23 : Cond.classLink "RopeThreads" 23 "RopeThreads$TripText" ∈ WALL := mem_W 159 (by decide +kernel) rfl
theorem wA_T : Cond.instantiable "RopeThreads$TripText" 6 ∈ WALL := mem_W 160 (by decide +kernel) rfl
theorem wI_T_init : Cond.instanceMethod yT_init ∈ WALL := mem_W 162 (by decide +kernel) rfl
set_option maxRecDepth 30000 in
theorem wB_T_init : Cond.code yT_init prog_5_method_1_code 1 none ∈ WALL := mem_W 163 rfl rfl
theorem wM_T_3 : Cond.methodLink "RopeThreads$TripText" 3 yJO_init ∈ WALL := mem_W 164 (by decide +kernel) rfl
theorem wF_T_9 : Cond.fieldLink "RopeThreads$TripText" 9 "RopeThreads$TripText" "signs" "[I" ∈ WALL := mem_W 165 (by decide +kernel) rfl
theorem wF_T_15 : Cond.fieldLink "RopeThreads$TripText" 15 "RopeThreads$TripText" "froms" "[I" ∈ WALL := mem_W 166 (by decide +kernel) rfl
theorem wF_T_18 : Cond.fieldLink "RopeThreads$TripText" 18 "RopeThreads$TripText" "tos" "[I" ∈ WALL := mem_W 168 (by decide +kernel) rfl
theorem wF_T_21 : Cond.fieldLink "RopeThreads$TripText" 21 "RopeThreads$TripText" "times" "[I" ∈ WALL := mem_W 170 (by decide +kernel) rfl
theorem wF_T_24 : Cond.fieldLink "RopeThreads$TripText" 24 "RopeThreads$TripText" "length" "I" ∈ WALL := mem_W 172 (by decide +kernel) rfl
theorem wF_T_28 : Cond.fieldLink "RopeThreads$TripText" 28 "RopeThreads$TripText" "parts" "I" ∈ WALL := mem_W 174 (by decide +kernel) rfl
theorem wC_C_30 : Cond.classLink "RopeThreads" 30 "RopeThreads$Rope" ∈ WALL := mem_W 189 (by decide +kernel) rfl
theorem wF_C_10 : Cond.fieldLink "RopeThreads" 10 "RopeThreads" "now" "LRopeThreads$Elevator;" ∈ WALL := mem_W 191 (by decide +kernel) rfl
theorem wF_C_19 : Cond.fieldLink "RopeThreads" 19 "RopeThreads" "history" "LRopeThreads$History;" ∈ WALL := mem_W 192 (by decide +kernel) rfl
theorem wF_C_26 : Cond.fieldLink "RopeThreads" 26 "RopeThreads" "text" "LRopeThreads$TripText;" ∈ WALL := mem_W 193 (by decide +kernel) rfl
theorem wF_C_33 : Cond.fieldLink "RopeThreads" 33 "RopeThreads" "supposed" "LRopeThreads$Rope;" ∈ WALL := mem_W 194 (by decide +kernel) rfl
theorem wM_L_109 : Cond.methodLink "RopeThreadsLaw" 109 yC_clearBuffer ∈ WALL := mem_W 204 (by decide +kernel) rfl
theorem wI_C_clearBuffer : Cond.instanceMethod yC_clearBuffer ∈ WALL := mem_W 205 (by decide +kernel) rfl
theorem wV_C_clearBuffer : Cond.selects "RopeThreads" yC_clearBuffer yC_clearBuffer ∈ WALL := mem_W 206 (by decide +kernel) rfl
set_option maxRecDepth 30000 in
theorem wB_C_clearBuffer : Cond.code yC_clearBuffer prog_1_method_10_code 2 (some .int) ∈ WALL := mem_W 207 rfl rfl
theorem wM_L_113 : Cond.methodLink "RopeThreadsLaw" 113 yC_firstError ∈ WALL := mem_W 208 (by decide +kernel) rfl
theorem wI_C_firstError : Cond.instanceMethod yC_firstError ∈ WALL := mem_W 209 (by decide +kernel) rfl
theorem wV_C_firstError : Cond.selects "RopeThreads" yC_firstError yC_firstError ∈ WALL := mem_W 210 (by decide +kernel) rfl
set_option maxRecDepth 30000 in
theorem wB_C_firstError : Cond.code yC_firstError prog_1_method_11_code 1 (some .int) ∈ WALL := mem_W 211 rfl rfl
theorem wM_C_128 : Cond.methodLink "RopeThreads" 128 yT_errorPlace ∈ WALL := mem_W 212 (by decide +kernel) rfl
theorem wI_T_errorPlace : Cond.instanceMethod yT_errorPlace ∈ WALL := mem_W 213 (by decide +kernel) rfl
theorem wV_T_errorPlace : Cond.selects "RopeThreads$TripText" yT_errorPlace yT_errorPlace ∈ WALL := mem_W 214 (by decide +kernel) rfl
set_option maxRecDepth 30000 in
theorem wB_T_errorPlace : Cond.code yT_errorPlace prog_5_method_4_code 3 (some .int) ∈ WALL := mem_W 215 rfl rfl
theorem wM_T_31 : Cond.methodLink "RopeThreads$TripText" 31 yT_signAt ∈ WALL := mem_W 216 (by decide +kernel) rfl
theorem wI_T_signAt : Cond.instanceMethod yT_signAt ∈ WALL := mem_W 217 (by decide +kernel) rfl
theorem wV_T_signAt : Cond.selects "RopeThreads$TripText" yT_signAt yT_signAt ∈ WALL := mem_W 218 (by decide +kernel) rfl
set_option maxRecDepth 30000 in
theorem wB_T_signAt : Cond.code yT_signAt prog_5_method_3_code 2 (some .int) ∈ WALL := mem_W 219 rfl rfl
theorem wM_T_35 : Cond.methodLink "RopeThreads$TripText" 35 yT_stateAfter ∈ WALL := mem_W 220 (by decide +kernel) rfl
theorem wS_T_stateAfter : Cond.static yT_stateAfter ∈ WALL := mem_W 221 (by decide +kernel) rfl
set_option maxRecDepth 30000 in
theorem wB_T_stateAfter : Cond.code yT_stateAfter prog_5_method_8_code 2 (some .int) ∈ WALL := mem_W 222 rfl rfl
theorem wM_T_48 : Cond.methodLink "RopeThreads$TripText" 48 yT_isFloor ∈ WALL := mem_W 223 (by decide +kernel) rfl
theorem wS_T_isFloor : Cond.static yT_isFloor ∈ WALL := mem_W 224 (by decide +kernel) rfl
set_option maxRecDepth 30000 in
theorem wB_T_isFloor : Cond.code yT_isFloor prog_5_method_11_code 1 (some .boolean) ∈ WALL := mem_W 225 rfl rfl
theorem wM_T_52 : Cond.methodLink "RopeThreads$TripText" 52 yT_stateAfterPart ∈ WALL := mem_W 226 (by decide +kernel) rfl
theorem wS_T_stateAfterPart : Cond.static yT_stateAfterPart ∈ WALL := mem_W 227 (by decide +kernel) rfl
set_option maxRecDepth 30000 in
theorem wB_T_stateAfterPart : Cond.code yT_stateAfterPart prog_5_method_9_code 1 (some .int) ∈ WALL := mem_W 228 rfl rfl
theorem wM_T_55 : Cond.methodLink "RopeThreads$TripText" 55 yT_stateAfterFirstDigit ∈ WALL := mem_W 229 (by decide +kernel) rfl
theorem wS_T_stateAfterFirstDigit : Cond.static yT_stateAfterFirstDigit ∈ WALL := mem_W 230 (by decide +kernel) rfl
set_option maxRecDepth 30000 in
theorem wB_T_stateAfterFirstDigit : Cond.code yT_stateAfterFirstDigit prog_5_method_10_code 1 (some .int) ∈ WALL := mem_W 231 rfl rfl
theorem wM_T_58 : Cond.methodLink "RopeThreads$TripText" 58 yT_isDigit ∈ WALL := mem_W 232 (by decide +kernel) rfl
theorem wS_T_isDigit : Cond.static yT_isDigit ∈ WALL := mem_W 233 (by decide +kernel) rfl
set_option maxRecDepth 30000 in
theorem wB_T_isDigit : Cond.code yT_isDigit prog_5_method_12_code 1 (some .boolean) ∈ WALL := mem_W 234 rfl rfl
theorem wM_L_148 : Cond.methodLink "RopeThreadsLaw" 148 yC_unseen ∈ WALL := mem_W 235 (by decide +kernel) rfl
theorem wI_C_unseen : Cond.instanceMethod yC_unseen ∈ WALL := mem_W 236 (by decide +kernel) rfl
theorem wV_C_unseen : Cond.selects "RopeThreads" yC_unseen yC_unseen ∈ WALL := mem_W 237 (by decide +kernel) rfl
set_option maxRecDepth 30000 in
theorem wB_C_unseen : Cond.code yC_unseen prog_1_method_22_code 1 (some .int) ∈ WALL := mem_W 238 rfl rfl
theorem wM_C_192 : Cond.methodLink "RopeThreads" 192 yC_lowestUnseen ∈ WALL := mem_W 239 (by decide +kernel) rfl
theorem wI_C_lowestUnseen : Cond.instanceMethod yC_lowestUnseen ∈ WALL := mem_W 241 (by decide +kernel) rfl
set_option maxRecDepth 30000 in
theorem wB_C_lowestUnseen : Cond.code yC_lowestUnseen prog_1_method_36_code 4 (some .int) ∈ WALL := mem_W 242 rfl rfl
theorem wM_C_205 : Cond.methodLink "RopeThreads" 205 yE_ropeAt ∈ WALL := mem_W 243 (by decide +kernel) rfl
theorem wI_E_ropeAt : Cond.instanceMethod yE_ropeAt ∈ WALL := mem_W 244 (by decide +kernel) rfl
theorem wV_E_ropeAt : Cond.selects "RopeThreads$Elevator" yE_ropeAt yE_ropeAt ∈ WALL := mem_W 245 (by decide +kernel) rfl
set_option maxRecDepth 30000 in
theorem wB_E_ropeAt : Cond.code yE_ropeAt prog_2_method_3_code 2 (some (.object "RopeThreads$Rope")) ∈ WALL := mem_W 246 rfl rfl
theorem wM_C_251 : Cond.methodLink "RopeThreads" 251 yE_reasonFor ∈ WALL := mem_W 247 (by decide +kernel) rfl
theorem wI_E_reasonFor : Cond.instanceMethod yE_reasonFor ∈ WALL := mem_W 248 (by decide +kernel) rfl
theorem wV_E_reasonFor : Cond.selects "RopeThreads$Elevator" yE_reasonFor yE_reasonFor ∈ WALL := mem_W 249 (by decide +kernel) rfl
set_option maxRecDepth 30000 in
theorem wB_E_reasonFor : Cond.code yE_reasonFor prog_2_method_8_code 2 (some .int) ∈ WALL := mem_W 250 rfl rfl
theorem wM_E_72 : Cond.methodLink "RopeThreads$Elevator" 72 yR_greatestCounts ∈ WALL := mem_W 251 (by decide +kernel) rfl
theorem wI_R_greatestCounts : Cond.instanceMethod yR_greatestCounts ∈ WALL := mem_W 252 (by decide +kernel) rfl
theorem wV_R_greatestCounts : Cond.selects "RopeThreads$Rope" yR_greatestCounts yR_greatestCounts ∈ WALL := mem_W 253 (by decide +kernel) rfl
set_option maxRecDepth 30000 in
theorem wB_R_greatestCounts : Cond.code yR_greatestCounts prog_4_method_11_code 4 (some .int) ∈ WALL := mem_W 254 rfl rfl
theorem wM_R_50 : Cond.methodLink "RopeThreads$Rope" 50 yR_sumOfCounts ∈ WALL := mem_W 255 (by decide +kernel) rfl
theorem wI_R_sumOfCounts : Cond.instanceMethod yR_sumOfCounts ∈ WALL := mem_W 256 (by decide +kernel) rfl
theorem wV_R_sumOfCounts : Cond.selects "RopeThreads$Rope" yR_sumOfCounts yR_sumOfCounts ∈ WALL := mem_W 257 (by decide +kernel) rfl
set_option maxRecDepth 30000 in
theorem wB_R_sumOfCounts : Cond.code yR_sumOfCounts prog_4_method_7_code 5 (some .int) ∈ WALL := mem_W 258 rfl rfl
theorem wM_R_57 : Cond.methodLink "RopeThreads$Rope" 57 yJM_max ∈ WALL := mem_W 259 (by decide +kernel) rfl
theorem wS_JM_max : Cond.static yJM_max ∈ WALL := mem_W 260 (by decide +kernel) rfl
set_option maxRecDepth 30000 in
theorem wB_JM_max : Cond.code yJM_max prog_13_method_65_code 2 (some .int) ∈ WALL := mem_W 261 rfl rfl
theorem wM_E_76 : Cond.methodLink "RopeThreads$Elevator" 76 yR_allCounts ∈ WALL := mem_W 262 (by decide +kernel) rfl
theorem wI_R_allCounts : Cond.instanceMethod yR_allCounts ∈ WALL := mem_W 263 (by decide +kernel) rfl
theorem wV_R_allCounts : Cond.selects "RopeThreads$Rope" yR_allCounts yR_allCounts ∈ WALL := mem_W 264 (by decide +kernel) rfl
set_option maxRecDepth 30000 in
theorem wB_R_allCounts : Cond.code yR_allCounts prog_4_method_9_code 1 (some .int) ∈ WALL := mem_W 265 rfl rfl
theorem wM_E_80 : Cond.methodLink "RopeThreads$Elevator" 80 yR_greatestGrowth ∈ WALL := mem_W 266 (by decide +kernel) rfl
theorem wI_R_greatestGrowth : Cond.instanceMethod yR_greatestGrowth ∈ WALL := mem_W 267 (by decide +kernel) rfl
theorem wV_R_greatestGrowth : Cond.selects "RopeThreads$Rope" yR_greatestGrowth yR_greatestGrowth ∈ WALL := mem_W 268 (by decide +kernel) rfl
set_option maxRecDepth 30000 in
theorem wB_R_greatestGrowth : Cond.code yR_greatestGrowth prog_4_method_16_code 3 (some .int) ∈ WALL := mem_W 269 rfl rfl
theorem wM_E_83 : Cond.methodLink "RopeThreads$Elevator" 83 yE_monthsLeft ∈ WALL := mem_W 270 (by decide +kernel) rfl
theorem wI_E_monthsLeft : Cond.instanceMethod yE_monthsLeft ∈ WALL := mem_W 271 (by decide +kernel) rfl
theorem wV_E_monthsLeft : Cond.selects "RopeThreads$Elevator" yE_monthsLeft yE_monthsLeft ∈ WALL := mem_W 272 (by decide +kernel) rfl
set_option maxRecDepth 30000 in
theorem wB_E_monthsLeft : Cond.code yE_monthsLeft prog_2_method_9_code 2 (some .int) ∈ WALL := mem_W 273 rfl rfl
theorem wM_E_87 : Cond.methodLink "RopeThreads$Elevator" 87 yR_oldestLook ∈ WALL := mem_W 274 (by decide +kernel) rfl
theorem wI_R_oldestLook : Cond.instanceMethod yR_oldestLook ∈ WALL := mem_W 275 (by decide +kernel) rfl
theorem wV_R_oldestLook : Cond.selects "RopeThreads$Rope" yR_oldestLook yR_oldestLook ∈ WALL := mem_W 276 (by decide +kernel) rfl
set_option maxRecDepth 30000 in
theorem wB_R_oldestLook : Cond.code yR_oldestLook prog_4_method_17_code 3 (some .int) ∈ WALL := mem_W 277 rfl rfl
theorem wM_R_68 : Cond.methodLink "RopeThreads$Rope" 68 yJM_min ∈ WALL := mem_W 278 (by decide +kernel) rfl
theorem wS_JM_min : Cond.static yJM_min ∈ WALL := mem_W 279 (by decide +kernel) rfl
set_option maxRecDepth 30000 in
theorem wB_JM_min : Cond.code yJM_min prog_13_method_69_code 2 (some .int) ∈ WALL := mem_W 280 rfl rfl
theorem wM_E_65 : Cond.methodLink "RopeThreads$Elevator" 65 yJM_max ∈ WALL := mem_W 281 (by decide +kernel) rfl
theorem wM_C_182 : Cond.methodLink "RopeThreads" 182 yC_reasonIfInspected ∈ WALL := mem_W 282 (by decide +kernel) rfl
theorem wI_C_reasonIfInspected : Cond.instanceMethod yC_reasonIfInspected ∈ WALL := mem_W 284 (by decide +kernel) rfl
set_option maxRecDepth 30000 in
theorem wB_C_reasonIfInspected : Cond.code yC_reasonIfInspected prog_1_method_33_code 4 (some .int) ∈ WALL := mem_W 285 rfl rfl
theorem wM_C_270 : Cond.methodLink "RopeThreads" 270 yR_copyFrom ∈ WALL := mem_W 286 (by decide +kernel) rfl
theorem wI_R_copyFrom : Cond.instanceMethod yR_copyFrom ∈ WALL := mem_W 287 (by decide +kernel) rfl
theorem wV_R_copyFrom : Cond.selects "RopeThreads$Rope" yR_copyFrom yR_copyFrom ∈ WALL := mem_W 288 (by decide +kernel) rfl
set_option maxRecDepth 30000 in
theorem wB_R_copyFrom : Cond.code yR_copyFrom prog_4_method_3_code 2 none ∈ WALL := mem_W 289 rfl rfl
theorem wM_R_40 : Cond.methodLink "RopeThreads$Rope" 40 yJS_arraycopy ∈ WALL := mem_W 290 (by decide +kernel) rfl
theorem wS_JS_arraycopy : Cond.static yJS_arraycopy ∈ WALL := mem_W 291 (by decide +kernel) rfl
theorem wX_JS_arraycopy : Cond.native yJS_arraycopy ∈ WALL := mem_W 292 (by decide +kernel) rfl
theorem wM_C_87 : Cond.methodLink "RopeThreads" 87 yR_lookAt ∈ WALL := mem_W 293 (by decide +kernel) rfl
theorem wI_R_lookAt : Cond.instanceMethod yR_lookAt ∈ WALL := mem_W 294 (by decide +kernel) rfl
theorem wV_R_lookAt : Cond.selects "RopeThreads$Rope" yR_lookAt yR_lookAt ∈ WALL := mem_W 295 (by decide +kernel) rfl
set_option maxRecDepth 30000 in
theorem wB_R_lookAt : Cond.code yR_lookAt prog_4_method_5_code 5 none ∈ WALL := mem_W 296 rfl rfl
theorem wM_R_46 : Cond.methodLink "RopeThreads$Rope" 46 yR_broken ∈ WALL := mem_W 297 (by decide +kernel) rfl
theorem wI_R_broken : Cond.instanceMethod yR_broken ∈ WALL := mem_W 298 (by decide +kernel) rfl
theorem wV_R_broken : Cond.selects "RopeThreads$Rope" yR_broken yR_broken ∈ WALL := mem_W 299 (by decide +kernel) rfl
set_option maxRecDepth 30000 in
theorem wB_R_broken : Cond.code yR_broken prog_4_method_6_code 2 (some .int) ∈ WALL := mem_W 300 rfl rfl
theorem wM_L_152 : Cond.methodLink "RopeThreadsLaw" 152 yC_countedShare ∈ WALL := mem_W 301 (by decide +kernel) rfl
theorem wI_C_countedShare : Cond.instanceMethod yC_countedShare ∈ WALL := mem_W 302 (by decide +kernel) rfl
theorem wV_C_countedShare : Cond.selects "RopeThreads" yC_countedShare yC_countedShare ∈ WALL := mem_W 303 (by decide +kernel) rfl
set_option maxRecDepth 30000 in
theorem wB_C_countedShare : Cond.code yC_countedShare prog_1_method_23_code 1 (some .double) ∈ WALL := mem_W 304 rfl rfl
theorem wM_C_195 : Cond.methodLink "RopeThreads" 195 yC_shareCounted ∈ WALL := mem_W 305 (by decide +kernel) rfl
theorem wI_C_shareCounted : Cond.instanceMethod yC_shareCounted ∈ WALL := mem_W 307 (by decide +kernel) rfl
set_option maxRecDepth 30000 in
theorem wB_C_shareCounted : Cond.code yC_shareCounted prog_1_method_37_code 2 (some .double) ∈ WALL := mem_W 308 rfl rfl
theorem wM_C_264 : Cond.methodLink "RopeThreads" 264 yE_brokenOfRopes ∈ WALL := mem_W 309 (by decide +kernel) rfl
theorem wI_E_brokenOfRopes : Cond.instanceMethod yE_brokenOfRopes ∈ WALL := mem_W 310 (by decide +kernel) rfl
theorem wV_E_brokenOfRopes : Cond.selects "RopeThreads$Elevator" yE_brokenOfRopes yE_brokenOfRopes ∈ WALL := mem_W 311 (by decide +kernel) rfl
set_option maxRecDepth 30000 in
theorem wB_E_brokenOfRopes : Cond.code yE_brokenOfRopes prog_2_method_13_code 4 (some .int) ∈ WALL := mem_W 312 rfl rfl
theorem wM_E_51 : Cond.methodLink "RopeThreads$Elevator" 51 yE_ropeAt ∈ WALL := mem_W 313 (by decide +kernel) rfl
theorem wM_E_96 : Cond.methodLink "RopeThreads$Elevator" 96 yR_allBroken ∈ WALL := mem_W 314 (by decide +kernel) rfl
theorem wI_R_allBroken : Cond.instanceMethod yR_allBroken ∈ WALL := mem_W 315 (by decide +kernel) rfl
theorem wV_R_allBroken : Cond.selects "RopeThreads$Rope" yR_allBroken yR_allBroken ∈ WALL := mem_W 316 (by decide +kernel) rfl
set_option maxRecDepth 30000 in
theorem wB_R_allBroken : Cond.code yR_allBroken prog_4_method_10_code 1 (some .int) ∈ WALL := mem_W 317 rfl rfl
theorem wM_R_54 : Cond.methodLink "RopeThreads$Rope" 54 yR_sumOfBroken ∈ WALL := mem_W 318 (by decide +kernel) rfl
theorem wI_R_sumOfBroken : Cond.instanceMethod yR_sumOfBroken ∈ WALL := mem_W 319 (by decide +kernel) rfl
theorem wV_R_sumOfBroken : Cond.selects "RopeThreads$Rope" yR_sumOfBroken yR_sumOfBroken ∈ WALL := mem_W 320 (by decide +kernel) rfl
set_option maxRecDepth 30000 in
theorem wB_R_sumOfBroken : Cond.code yR_sumOfBroken prog_4_method_8_code 5 (some .int) ∈ WALL := mem_W 321 rfl rfl
theorem wM_C_267 : Cond.methodLink "RopeThreads" 267 yE_countsOfRopes ∈ WALL := mem_W 322 (by decide +kernel) rfl
theorem wI_E_countsOfRopes : Cond.instanceMethod yE_countsOfRopes ∈ WALL := mem_W 323 (by decide +kernel) rfl
theorem wV_E_countsOfRopes : Cond.selects "RopeThreads$Elevator" yE_countsOfRopes yE_countsOfRopes ∈ WALL := mem_W 324 (by decide +kernel) rfl
set_option maxRecDepth 30000 in
theorem wB_E_countsOfRopes : Cond.code yE_countsOfRopes prog_2_method_12_code 4 (some .int) ∈ WALL := mem_W 325 rfl rfl
theorem wM_L_157 : Cond.methodLink "RopeThreadsLaw" 157 yC_digest ∈ WALL := mem_W 326 (by decide +kernel) rfl
theorem wI_C_digest : Cond.instanceMethod yC_digest ∈ WALL := mem_W 327 (by decide +kernel) rfl
theorem wV_C_digest : Cond.selects "RopeThreads" yC_digest yC_digest ∈ WALL := mem_W 328 (by decide +kernel) rfl
set_option maxRecDepth 30000 in
theorem wB_C_digest : Cond.code yC_digest prog_1_method_24_code 5 (some .long) ∈ WALL := mem_W 329 rfl rfl
theorem wK_C_199 : Cond.constantLong "RopeThreads" 199 (2677) ∈ WALL := mem_W 330 (by decide +kernel) rfl
theorem wM_C_178 : Cond.methodLink "RopeThreads" 178 yC_countFigure ∈ WALL := mem_W 331 (by decide +kernel) rfl
theorem wI_C_countFigure : Cond.instanceMethod yC_countFigure ∈ WALL := mem_W 333 (by decide +kernel) rfl
set_option maxRecDepth 30000 in
theorem wB_C_countFigure : Cond.code yC_countFigure prog_1_method_32_code 2 (some .int) ∈ WALL := mem_W 334 rfl rfl
theorem wM_C_117 : Cond.methodLink "RopeThreads" 117 yE_ropesToRetire ∈ WALL := mem_W 335 (by decide +kernel) rfl
theorem wI_E_ropesToRetire : Cond.instanceMethod yE_ropesToRetire ∈ WALL := mem_W 336 (by decide +kernel) rfl
theorem wV_E_ropesToRetire : Cond.selects "RopeThreads$Elevator" yE_ropesToRetire yE_ropesToRetire ∈ WALL := mem_W 337 (by decide +kernel) rfl
set_option maxRecDepth 30000 in
theorem wB_E_ropesToRetire : Cond.code yE_ropesToRetire prog_2_method_10_code 4 (some .int) ∈ WALL := mem_W 338 rfl rfl
theorem wM_E_90 : Cond.methodLink "RopeThreads$Elevator" 90 yE_reasonFor ∈ WALL := mem_W 339 (by decide +kernel) rfl
theorem wM_C_230 : Cond.methodLink "RopeThreads" 230 yE_canRun ∈ WALL := mem_W 340 (by decide +kernel) rfl
theorem wI_E_canRun : Cond.instanceMethod yE_canRun ∈ WALL := mem_W 341 (by decide +kernel) rfl
theorem wV_E_canRun : Cond.selects "RopeThreads$Elevator" yE_canRun yE_canRun ∈ WALL := mem_W 342 (by decide +kernel) rfl
set_option maxRecDepth 30000 in
theorem wB_E_canRun : Cond.code yE_canRun prog_2_method_11_code 1 (some .boolean) ∈ WALL := mem_W 343 rfl rfl
theorem wM_E_93 : Cond.methodLink "RopeThreads$Elevator" 93 yE_ropesToRetire ∈ WALL := mem_W 344 (by decide +kernel) rfl
theorem wM_C_201 : Cond.methodLink "RopeThreads" 201 yC_mixed ∈ WALL := mem_W 345 (by decide +kernel) rfl
theorem wS_C_mixed : Cond.static yC_mixed ∈ WALL := mem_W 346 (by decide +kernel) rfl
set_option maxRecDepth 30000 in
theorem wB_C_mixed : Cond.code yC_mixed prog_1_method_38_code 4 (some .long) ∈ WALL := mem_W 347 rfl rfl
theorem wK_C_281 : Cond.constantLong "RopeThreads" 281 (31) ∈ WALL := mem_W 348 (by decide +kernel) rfl
theorem wM_C_208 : Cond.methodLink "RopeThreads" 208 yC_mixedWithRope ∈ WALL := mem_W 349 (by decide +kernel) rfl
theorem wI_C_mixedWithRope : Cond.instanceMethod yC_mixedWithRope ∈ WALL := mem_W 351 (by decide +kernel) rfl
set_option maxRecDepth 30000 in
theorem wB_C_mixedWithRope : Cond.code yC_mixedWithRope prog_1_method_39_code 8 (some .long) ∈ WALL := mem_W 352 rfl rfl
theorem wM_C_163 : Cond.methodLink "RopeThreads" 163 yC_ropeFigure ∈ WALL := mem_W 353 (by decide +kernel) rfl
theorem wI_C_ropeFigure : Cond.instanceMethod yC_ropeFigure ∈ WALL := mem_W 355 (by decide +kernel) rfl
set_option maxRecDepth 30000 in
theorem wB_C_ropeFigure : Cond.code yC_ropeFigure prog_1_method_30_code 4 (some .int) ∈ WALL := mem_W 356 rfl rfl
theorem wM_C_84 : Cond.methodLink "RopeThreads" 84 yR_allCounts ∈ WALL := mem_W 357 (by decide +kernel) rfl
theorem wM_C_67 : Cond.methodLink "RopeThreads" 67 yR_allBroken ∈ WALL := mem_W 358 (by decide +kernel) rfl
theorem wM_C_242 : Cond.methodLink "RopeThreads" 242 yR_greatestCounts ∈ WALL := mem_W 359 (by decide +kernel) rfl
theorem wM_C_245 : Cond.methodLink "RopeThreads" 245 yR_windowOfGreatestCounts ∈ WALL := mem_W 360 (by decide +kernel) rfl
theorem wI_R_windowOfGreatestCounts : Cond.instanceMethod yR_windowOfGreatestCounts ∈ WALL := mem_W 361 (by decide +kernel) rfl
theorem wV_R_windowOfGreatestCounts : Cond.selects "RopeThreads$Rope" yR_windowOfGreatestCounts yR_windowOfGreatestCounts ∈ WALL := mem_W 362 (by decide +kernel) rfl
set_option maxRecDepth 30000 in
theorem wB_R_windowOfGreatestCounts : Cond.code yR_windowOfGreatestCounts prog_4_method_12_code 4 (some .int) ∈ WALL := mem_W 363 rfl rfl
theorem wM_R_62 : Cond.methodLink "RopeThreads$Rope" 62 yR_greatestCounts ∈ WALL := mem_W 364 (by decide +kernel) rfl
theorem wM_C_248 : Cond.methodLink "RopeThreads" 248 yR_greatestBroken ∈ WALL := mem_W 365 (by decide +kernel) rfl
theorem wI_R_greatestBroken : Cond.instanceMethod yR_greatestBroken ∈ WALL := mem_W 366 (by decide +kernel) rfl
theorem wV_R_greatestBroken : Cond.selects "RopeThreads$Rope" yR_greatestBroken yR_greatestBroken ∈ WALL := mem_W 367 (by decide +kernel) rfl
set_option maxRecDepth 30000 in
theorem wB_R_greatestBroken : Cond.code yR_greatestBroken prog_4_method_13_code 4 (some .int) ∈ WALL := mem_W 368 rfl rfl
theorem wM_C_254 : Cond.methodLink "RopeThreads" 254 yE_monthsLeft ∈ WALL := mem_W 369 (by decide +kernel) rfl
theorem wM_C_167 : Cond.methodLink "RopeThreads" 167 yR_sectionFigure ∈ WALL := mem_W 370 (by decide +kernel) rfl
theorem wI_R_sectionFigure : Cond.instanceMethod yR_sectionFigure ∈ WALL := mem_W 371 (by decide +kernel) rfl
theorem wV_R_sectionFigure : Cond.selects "RopeThreads$Rope" yR_sectionFigure yR_sectionFigure ∈ WALL := mem_W 372 (by decide +kernel) rfl
set_option maxRecDepth 30000 in
theorem wB_R_sectionFigure : Cond.code yR_sectionFigure prog_4_method_18_code 3 (some .int) ∈ WALL := mem_W 373 rfl rfl
theorem wM_C_171 : Cond.methodLink "RopeThreads" 171 yE_windows ∈ WALL := mem_W 374 (by decide +kernel) rfl
theorem wI_E_windows : Cond.instanceMethod yE_windows ∈ WALL := mem_W 375 (by decide +kernel) rfl
theorem wV_E_windows : Cond.selects "RopeThreads$Elevator" yE_windows yE_windows ∈ WALL := mem_W 376 (by decide +kernel) rfl
set_option maxRecDepth 30000 in
theorem wB_E_windows : Cond.code yE_windows prog_2_method_7_code 1 (some .int) ∈ WALL := mem_W 377 rfl rfl
theorem wM_C_174 : Cond.methodLink "RopeThreads" 174 yC_windowFigure ∈ WALL := mem_W 378 (by decide +kernel) rfl
theorem wI_C_windowFigure : Cond.instanceMethod yC_windowFigure ∈ WALL := mem_W 380 (by decide +kernel) rfl
set_option maxRecDepth 30000 in
theorem wB_C_windowFigure : Cond.code yC_windowFigure prog_1_method_31_code 5 (some .int) ∈ WALL := mem_W 381 rfl rfl
theorem wM_C_258 : Cond.methodLink "RopeThreads" 258 yR_sumOfCounts ∈ WALL := mem_W 382 (by decide +kernel) rfl
theorem wM_C_261 : Cond.methodLink "RopeThreads" 261 yR_sumOfBroken ∈ WALL := mem_W 383 (by decide +kernel) rfl
theorem wM_C_185 : Cond.methodLink "RopeThreads" 185 yR_mostUncounted ∈ WALL := mem_W 384 (by decide +kernel) rfl
theorem wI_R_mostUncounted : Cond.instanceMethod yR_mostUncounted ∈ WALL := mem_W 385 (by decide +kernel) rfl
theorem wV_R_mostUncounted : Cond.selects "RopeThreads$Rope" yR_mostUncounted yR_mostUncounted ∈ WALL := mem_W 386 (by decide +kernel) rfl
set_option maxRecDepth 30000 in
theorem wB_R_mostUncounted : Cond.code yR_mostUncounted prog_4_method_15_code 6 (some .int) ∈ WALL := mem_W 387 rfl rfl
theorem wM_R_65 : Cond.methodLink "RopeThreads$Rope" 65 yR_uncounted ∈ WALL := mem_W 388 (by decide +kernel) rfl
theorem wI_R_uncounted : Cond.instanceMethod yR_uncounted ∈ WALL := mem_W 389 (by decide +kernel) rfl
theorem wV_R_uncounted : Cond.selects "RopeThreads$Rope" yR_uncounted yR_uncounted ∈ WALL := mem_W 390 (by decide +kernel) rfl
set_option maxRecDepth 30000 in
theorem wB_R_uncounted : Cond.code yR_uncounted prog_4_method_14_code 3 (some .int) ∈ WALL := mem_W 391 rfl rfl
theorem wM_C_188 : Cond.methodLink "RopeThreads" 188 yC_tripsToLimit ∈ WALL := mem_W 392 (by decide +kernel) rfl
theorem wI_C_tripsToLimit : Cond.instanceMethod yC_tripsToLimit ∈ WALL := mem_W 394 (by decide +kernel) rfl
set_option maxRecDepth 30000 in
theorem wB_C_tripsToLimit : Cond.code yC_tripsToLimit prog_1_method_34_code 6 (some .int) ∈ WALL := mem_W 395 rfl rfl
theorem wM_C_274 : Cond.methodLink "RopeThreads" 274 yC_reachesLimit ∈ WALL := mem_W 396 (by decide +kernel) rfl
theorem wI_C_reachesLimit : Cond.instanceMethod yC_reachesLimit ∈ WALL := mem_W 398 (by decide +kernel) rfl
set_option maxRecDepth 30000 in
theorem wB_C_reachesLimit : Cond.code yC_reachesLimit prog_1_method_35_code 3 (some .boolean) ∈ WALL := mem_W 399 rfl rfl
theorem wM_C_278 : Cond.methodLink "RopeThreads" 278 yR_bend ∈ WALL := mem_W 400 (by decide +kernel) rfl
theorem wI_R_bend : Cond.instanceMethod yR_bend ∈ WALL := mem_W 401 (by decide +kernel) rfl
theorem wV_R_bend : Cond.selects "RopeThreads$Rope" yR_bend yR_bend ∈ WALL := mem_W 402 (by decide +kernel) rfl
set_option maxRecDepth 30000 in
theorem wB_R_bend : Cond.code yR_bend prog_4_method_4_code 5 none ∈ WALL := mem_W 403 rfl rfl
theorem wM_C_212 : Cond.methodLink "RopeThreads" 212 yC_bitsOfShare ∈ WALL := mem_W 404 (by decide +kernel) rfl
theorem wS_C_bitsOfShare : Cond.static yC_bitsOfShare ∈ WALL := mem_W 405 (by decide +kernel) rfl
set_option maxRecDepth 30000 in
theorem wB_C_bitsOfShare : Cond.code yC_bitsOfShare prog_1_method_40_code 8 (some .long) ∈ WALL := mem_W 406 rfl rfl
theorem wK_C_283 : Cond.constantLong "RopeThreads" 283 (1023) ∈ WALL := mem_W 407 (by decide +kernel) rfl
theorem wK_C_285 : Cond.constantDouble "RopeThreads" 285 (4611686018427387904) ∈ WALL := mem_W 408 (by decide +kernel) rfl
theorem wK_C_287 : Cond.constantDouble "RopeThreads" 287 (4841369599423283200) ∈ WALL := mem_W 409 (by decide +kernel) rfl
theorem wM_C_216 : Cond.methodLink "RopeThreads" 216 yT_signAt ∈ WALL := mem_W 410 (by decide +kernel) rfl
theorem wM_L_77 : Cond.methodLink "RopeThreadsLaw" 77 yL_hang ∈ WALL := mem_W 411 (by decide +kernel) rfl
theorem wS_L_hang : Cond.static yL_hang ∈ WALL := mem_W 412 (by decide +kernel) rfl
set_option maxRecDepth 30000 in
theorem wB_L_hang : Cond.codeWith yL_hang method_3_code 4 (some .int) [(0, 9, 12, 13), (0, 9, 15, 15)] ∈ WALL := mem_W 413 rfl rfl
theorem wC_L_13 : Cond.classLink "RopeThreadsLaw" 13 "java/lang/IllegalArgumentException" ∈ WALL := mem_W 414 (by decide +kernel) rfl
theorem wC_L_15 : Cond.classLink "RopeThreadsLaw" 15 "java/lang/IllegalStateException" ∈ WALL := mem_W 415 (by decide +kernel) rfl
theorem wM_L_7 : Cond.methodLink "RopeThreadsLaw" 7 yC_hang ∈ WALL := mem_W 416 (by decide +kernel) rfl
theorem wI_C_hang : Cond.instanceMethod yC_hang ∈ WALL := mem_W 417 (by decide +kernel) rfl
theorem wV_C_hang : Cond.selects "RopeThreads" yC_hang yC_hang ∈ WALL := mem_W 418 (by decide +kernel) rfl
set_option maxRecDepth 30000 in
theorem wB_C_hang : Cond.code yC_hang prog_1_method_2_code 2 (some .int) ∈ WALL := mem_W 419 rfl rfl
theorem wM_C_37 : Cond.methodLink "RopeThreads" 37 yC_requireRange ∈ WALL := mem_W 420 (by decide +kernel) rfl
theorem wS_C_requireRange : Cond.static yC_requireRange ∈ WALL := mem_W 421 (by decide +kernel) rfl
set_option maxRecDepth 30000 in
theorem wB_C_requireRange : Cond.code yC_requireRange prog_1_method_27_code 3 none ∈ WALL := mem_W 422 rfl rfl
theorem wC_C_135 : Cond.classLink "RopeThreads" 135 "java/lang/IllegalArgumentException" ∈ WALL := mem_W 423 (by decide +kernel) rfl
theorem wA_IllegalArgumentException : Cond.instantiable "java/lang/IllegalArgumentException" 6 ∈ WALL := mem_W 424 (by decide +kernel) rfl
theorem wF_JT_198 : Cond.fieldLink "java/lang/Throwable" 198 "java/lang/Throwable" "backtrace" "Ljava/lang/Object;" ∈ WALL := mem_W 444 (by decide +kernel) rfl
theorem wI_JT_init : Cond.instanceMethod yJT_init ∈ WALL := mem_W 446 (by decide +kernel) rfl
set_option maxRecDepth 30000 in
theorem wB_JT_init : Cond.code yJT_init prog_18_method_1_code 1 none ∈ WALL := mem_W 447 rfl rfl
theorem wM_JT_1 : Cond.methodLink "java/lang/Throwable" 1 yJO_init ∈ WALL := mem_W 448 (by decide +kernel) rfl
theorem wF_JT_13 : Cond.fieldLink "java/lang/Throwable" 13 "java/lang/Throwable" "UNASSIGNED_STACK" "[Ljava/lang/StackTraceElement;" ∈ WALL := mem_W 449 (by decide +kernel) rfl
theorem wF_JT_20 : Cond.fieldLink "java/lang/Throwable" 20 "java/lang/Throwable" "SUPPRESSED_SENTINEL" "Ljava/util/List;" ∈ WALL := mem_W 451 (by decide +kernel) rfl
theorem wM_JT_27 : Cond.methodLink "java/lang/Throwable" 27 yJT_fillInStackTrace2 ∈ WALL := mem_W 453 (by decide +kernel) rfl
theorem wI_JT_fillInStackTrace2 : Cond.instanceMethod yJT_fillInStackTrace2 ∈ WALL := mem_W 454 (by decide +kernel) rfl
theorem wM_JT_202 : Cond.methodLink "java/lang/Throwable" 202 yJT_fillInStackTrace ∈ WALL := mem_W 459 (by decide +kernel) rfl
theorem wI_JT_fillInStackTrace : Cond.instanceMethod yJT_fillInStackTrace ∈ WALL := mem_W 461 (by decide +kernel) rfl
theorem wA_JT : Cond.instantiable "java/lang/Throwable" 6 ∈ WALL := mem_W 462 (by decide +kernel) rfl
theorem wX_JT_fillInStackTrace : Cond.native yJT_fillInStackTrace ∈ WALL := mem_W 463 (by decide +kernel) rfl
theorem wM_C_139 : Cond.methodLink "RopeThreads" 139 ⟨"java/lang/IllegalArgumentException", "<init>", "(Ljava/lang/String;)V"⟩ ∈ WALL := mem_W 465 (by decide +kernel) rfl
theorem wI_JT_init2 : Cond.instanceMethod yJT_init2 ∈ WALL := mem_W 475 (by decide +kernel) rfl
set_option maxRecDepth 30000 in
theorem wB_JT_init2 : Cond.code yJT_init2 prog_18_method_2_code 2 none ∈ WALL := mem_W 476 rfl rfl
theorem wF_JT_31 : Cond.fieldLink "java/lang/Throwable" 31 "java/lang/Throwable" "detailMessage" "Ljava/lang/String;" ∈ WALL := mem_W 478 (by decide +kernel) rfl
theorem wF_JT_7 : Cond.fieldLink "java/lang/Throwable" 7 "java/lang/Throwable" "cause" "Ljava/lang/Throwable;" ∈ WALL := mem_W 479 (by decide +kernel) rfl
theorem wF_JT_17 : Cond.fieldLink "java/lang/Throwable" 17 "java/lang/Throwable" "stackTrace" "[Ljava/lang/StackTraceElement;" ∈ WALL := mem_W 480 (by decide +kernel) rfl
theorem wF_JT_24 : Cond.fieldLink "java/lang/Throwable" 24 "java/lang/Throwable" "suppressedExceptions" "Ljava/util/List;" ∈ WALL := mem_W 481 (by decide +kernel) rfl
theorem wR_490 : Cond.arrayClass Jvm.ClassFile.FieldType.byte ∈ WALL := mem_W 490 (by decide +kernel) rfl
theorem wC_C_45 : Cond.classLink "RopeThreads" 45 "java/lang/IllegalStateException" ∈ WALL := mem_W 491 (by decide +kernel) rfl
theorem wA_IllegalStateException : Cond.instantiable "java/lang/IllegalStateException" 6 ∈ WALL := mem_W 492 (by decide +kernel) rfl
theorem wM_C_49 : Cond.methodLink "RopeThreads" 49 ⟨"java/lang/IllegalStateException", "<init>", "(Ljava/lang/String;)V"⟩ ∈ WALL := mem_W 501 (by decide +kernel) rfl
theorem wM_C_52 : Cond.methodLink "RopeThreads" 52 yH_keep ∈ WALL := mem_W 507 (by decide +kernel) rfl
theorem wI_H_keep : Cond.instanceMethod yH_keep ∈ WALL := mem_W 508 (by decide +kernel) rfl
theorem wV_H_keep : Cond.selects "RopeThreads$History" yH_keep yH_keep ∈ WALL := mem_W 509 (by decide +kernel) rfl
set_option maxRecDepth 30000 in
theorem wB_H_keep : Cond.code yH_keep prog_3_method_2_code 3 none ∈ WALL := mem_W 510 rfl rfl
theorem wM_H_25 : Cond.methodLink "RopeThreads$History" 25 yJM_floorMod ∈ WALL := mem_W 511 (by decide +kernel) rfl
theorem wS_JM_floorMod : Cond.static yJM_floorMod ∈ WALL := mem_W 512 (by decide +kernel) rfl
set_option maxRecDepth 30000 in
theorem wB_JM_floorMod : Cond.code yJM_floorMod prog_13_method_50_code 3 (some .int) ∈ WALL := mem_W 513 rfl rfl
theorem wM_H_31 : Cond.methodLink "RopeThreads$History" 31 yE_copyFrom ∈ WALL := mem_W 514 (by decide +kernel) rfl
theorem wI_E_copyFrom : Cond.instanceMethod yE_copyFrom ∈ WALL := mem_W 515 (by decide +kernel) rfl
theorem wV_E_copyFrom : Cond.selects "RopeThreads$Elevator" yE_copyFrom yE_copyFrom ∈ WALL := mem_W 516 (by decide +kernel) rfl
set_option maxRecDepth 30000 in
theorem wB_E_copyFrom : Cond.code yE_copyFrom prog_2_method_2_code 5 none ∈ WALL := mem_W 517 rfl rfl
theorem wM_E_41 : Cond.methodLink "RopeThreads$Elevator" 41 yJS_arraycopy ∈ WALL := mem_W 518 (by decide +kernel) rfl
theorem wM_E_47 : Cond.methodLink "RopeThreads$Elevator" 47 yR_copyFrom ∈ WALL := mem_W 519 (by decide +kernel) rfl
theorem wM_C_56 : Cond.methodLink "RopeThreads" 56 yE_addRope ∈ WALL := mem_W 520 (by decide +kernel) rfl
theorem wI_E_addRope : Cond.instanceMethod yE_addRope ∈ WALL := mem_W 521 (by decide +kernel) rfl
theorem wV_E_addRope : Cond.selects "RopeThreads$Elevator" yE_addRope yE_addRope ∈ WALL := mem_W 522 (by decide +kernel) rfl
set_option maxRecDepth 30000 in
theorem wB_E_addRope : Cond.code yE_addRope prog_2_method_4_code 3 none ∈ WALL := mem_W 523 rfl rfl
theorem wM_E_55 : Cond.methodLink "RopeThreads$Elevator" 55 yR_renew ∈ WALL := mem_W 524 (by decide +kernel) rfl
theorem wI_R_renew : Cond.instanceMethod yR_renew ∈ WALL := mem_W 525 (by decide +kernel) rfl
theorem wV_R_renew : Cond.selects "RopeThreads$Rope" yR_renew yR_renew ∈ WALL := mem_W 526 (by decide +kernel) rfl
set_option maxRecDepth 30000 in
theorem wB_R_renew : Cond.code yR_renew prog_4_method_2_code 3 none ∈ WALL := mem_W 527 rfl rfl
theorem wM_R_34 : Cond.methodLink "RopeThreads$Rope" 34 yJA_fill ∈ WALL := mem_W 528 (by decide +kernel) rfl
theorem wS_JA_fill : Cond.static yJA_fill ∈ WALL := mem_W 529 (by decide +kernel) rfl
set_option maxRecDepth 30000 in
theorem wB_JA_fill : Cond.code yJA_fill prog_19_method_103_code 4 none ∈ WALL := mem_W 530 rfl rfl
theorem wM_L_86 : Cond.methodLink "RopeThreadsLaw" 86 yL_cut ∈ WALL := mem_W 531 (by decide +kernel) rfl
theorem wS_L_cut : Cond.static yL_cut ∈ WALL := mem_W 532 (by decide +kernel) rfl
set_option maxRecDepth 30000 in
theorem wB_L_cut : Cond.codeWith yL_cut method_4_code 4 (some .int) [(0, 9, 12, 20)] ∈ WALL := mem_W 533 rfl rfl
theorem wC_L_20 : Cond.classLink "RopeThreadsLaw" 20 "java/lang/IndexOutOfBoundsException" ∈ WALL := mem_W 534 (by decide +kernel) rfl
theorem wM_L_17 : Cond.methodLink "RopeThreadsLaw" 17 yC_cut ∈ WALL := mem_W 535 (by decide +kernel) rfl
theorem wI_C_cut : Cond.instanceMethod yC_cut ∈ WALL := mem_W 536 (by decide +kernel) rfl
theorem wV_C_cut : Cond.selects "RopeThreads" yC_cut yC_cut ∈ WALL := mem_W 537 (by decide +kernel) rfl
set_option maxRecDepth 30000 in
theorem wB_C_cut : Cond.code yC_cut prog_1_method_3_code 2 (some .int) ∈ WALL := mem_W 538 rfl rfl
theorem wM_C_60 : Cond.methodLink "RopeThreads" 60 yC_existingRope ∈ WALL := mem_W 539 (by decide +kernel) rfl
theorem wI_C_existingRope : Cond.instanceMethod yC_existingRope ∈ WALL := mem_W 541 (by decide +kernel) rfl
set_option maxRecDepth 30000 in
theorem wB_C_existingRope : Cond.code yC_existingRope prog_1_method_25_code 3 (some (.object "RopeThreads$Rope")) ∈ WALL := mem_W 542 rfl rfl
theorem wC_C_219 : Cond.classLink "RopeThreads" 219 "java/lang/IndexOutOfBoundsException" ∈ WALL := mem_W 543 (by decide +kernel) rfl
theorem wA_IndexOutOfBoundsException : Cond.instantiable "java/lang/IndexOutOfBoundsException" 6 ∈ WALL := mem_W 544 (by decide +kernel) rfl
theorem wM_C_223 : Cond.methodLink "RopeThreads" 223 ⟨"java/lang/IndexOutOfBoundsException", "<init>", "(Ljava/lang/String;)V"⟩ ∈ WALL := mem_W 553 (by decide +kernel) rfl
theorem wM_C_64 : Cond.methodLink "RopeThreads" 64 yE_removeRope ∈ WALL := mem_W 559 (by decide +kernel) rfl
theorem wI_E_removeRope : Cond.instanceMethod yE_removeRope ∈ WALL := mem_W 560 (by decide +kernel) rfl
theorem wV_E_removeRope : Cond.selects "RopeThreads$Elevator" yE_removeRope yE_removeRope ∈ WALL := mem_W 561 (by decide +kernel) rfl
set_option maxRecDepth 30000 in
theorem wB_E_removeRope : Cond.code yE_removeRope prog_2_method_5_code 5 none ∈ WALL := mem_W 562 rfl rfl
theorem wM_L_89 : Cond.methodLink "RopeThreadsLaw" 89 yL_swap ∈ WALL := mem_W 563 (by decide +kernel) rfl
theorem wS_L_swap : Cond.static yL_swap ∈ WALL := mem_W 564 (by decide +kernel) rfl
set_option maxRecDepth 30000 in
theorem wB_L_swap : Cond.codeWith yL_swap method_5_code 5 (some .int) [(0, 10, 13, 20), (0, 10, 17, 13)] ∈ WALL := mem_W 565 rfl rfl
theorem wM_L_22 : Cond.methodLink "RopeThreadsLaw" 22 yC_swap ∈ WALL := mem_W 566 (by decide +kernel) rfl
theorem wI_C_swap : Cond.instanceMethod yC_swap ∈ WALL := mem_W 567 (by decide +kernel) rfl
theorem wV_C_swap : Cond.selects "RopeThreads" yC_swap yC_swap ∈ WALL := mem_W 568 (by decide +kernel) rfl
set_option maxRecDepth 30000 in
theorem wB_C_swap : Cond.code yC_swap prog_1_method_4_code 5 (some .int) ∈ WALL := mem_W 569 rfl rfl
theorem wM_C_74 : Cond.methodLink "RopeThreads" 74 yR_renew ∈ WALL := mem_W 570 (by decide +kernel) rfl
theorem wM_L_93 : Cond.methodLink "RopeThreadsLaw" 93 yL_inspect ∈ WALL := mem_W 571 (by decide +kernel) rfl
theorem wS_L_inspect : Cond.static yL_inspect ∈ WALL := mem_W 572 (by decide +kernel) rfl
set_option maxRecDepth 30000 in
theorem wB_L_inspect : Cond.codeWith yL_inspect method_6_code 6 (some .int) [(0, 12, 15, 20), (0, 12, 19, 13)] ∈ WALL := mem_W 573 rfl rfl
theorem wM_L_26 : Cond.methodLink "RopeThreadsLaw" 26 yC_inspect ∈ WALL := mem_W 574 (by decide +kernel) rfl
theorem wI_C_inspect : Cond.instanceMethod yC_inspect ∈ WALL := mem_W 575 (by decide +kernel) rfl
theorem wV_C_inspect : Cond.selects "RopeThreads" yC_inspect yC_inspect ∈ WALL := mem_W 576 (by decide +kernel) rfl
set_option maxRecDepth 30000 in
theorem wB_C_inspect : Cond.code yC_inspect prog_1_method_5_code 6 (some .int) ∈ WALL := mem_W 577 rfl rfl
theorem wM_C_81 : Cond.methodLink "RopeThreads" 81 yC_requireSections ∈ WALL := mem_W 578 (by decide +kernel) rfl
theorem wS_C_requireSections : Cond.static yC_requireSections ∈ WALL := mem_W 579 (by decide +kernel) rfl
set_option maxRecDepth 30000 in
theorem wB_C_requireSections : Cond.code yC_requireSections prog_1_method_28_code 2 none ∈ WALL := mem_W 580 rfl rfl
theorem wM_C_93 : Cond.methodLink "RopeThreads" 93 yC_requireIndex ∈ WALL := mem_W 581 (by decide +kernel) rfl
theorem wS_C_requireIndex : Cond.static yC_requireIndex ∈ WALL := mem_W 582 (by decide +kernel) rfl
set_option maxRecDepth 30000 in
theorem wB_C_requireIndex : Cond.code yC_requireIndex prog_1_method_26_code 2 none ∈ WALL := mem_W 583 rfl rfl
theorem wM_L_97 : Cond.methodLink "RopeThreadsLaw" 97 yL_set ∈ WALL := mem_W 586 (by decide +kernel) rfl
theorem wS_L_set : Cond.static yL_set ∈ WALL := mem_W 587 (by decide +kernel) rfl
set_option maxRecDepth 30000 in
theorem wB_L_set : Cond.codeWith yL_set method_7_code 5 (some .int) [(0, 10, 13, 20), (0, 10, 17, 13)] ∈ WALL := mem_W 588 rfl rfl
theorem wM_L_30 : Cond.methodLink "RopeThreadsLaw" 30 yC_set ∈ WALL := mem_W 589 (by decide +kernel) rfl
theorem wI_C_set : Cond.instanceMethod yC_set ∈ WALL := mem_W 590 (by decide +kernel) rfl
theorem wV_C_set : Cond.selects "RopeThreads" yC_set yC_set ∈ WALL := mem_W 591 (by decide +kernel) rfl
set_option maxRecDepth 30000 in
theorem wB_C_set : Cond.code yC_set prog_1_method_6_code 4 (some .int) ∈ WALL := mem_W 592 rfl rfl
theorem wF_C_96 : Cond.fieldLink "RopeThreads" 96 "RopeThreads" "LEAST_VALUES" "[I" ∈ WALL := mem_W 593 (by decide +kernel) rfl
theorem wF_C_100 : Cond.fieldLink "RopeThreads" 100 "RopeThreads" "MOST_VALUES" "[I" ∈ WALL := mem_W 595 (by decide +kernel) rfl
theorem wM_L_100 : Cond.methodLink "RopeThreadsLaw" 100 yL_trip ∈ WALL := mem_W 597 (by decide +kernel) rfl
theorem wS_L_trip : Cond.static yL_trip ∈ WALL := mem_W 598 (by decide +kernel) rfl
set_option maxRecDepth 30000 in
theorem wB_L_trip : Cond.codeWith yL_trip method_8_code 6 (some .int) [(0, 12, 15, 20), (0, 12, 19, 13), (0, 12, 23, 15)] ∈ WALL := mem_W 599 rfl rfl
theorem wM_L_33 : Cond.methodLink "RopeThreadsLaw" 33 yC_trip ∈ WALL := mem_W 600 (by decide +kernel) rfl
theorem wI_C_trip : Cond.instanceMethod yC_trip ∈ WALL := mem_W 601 (by decide +kernel) rfl
theorem wV_C_trip : Cond.selects "RopeThreads" yC_trip yC_trip ∈ WALL := mem_W 602 (by decide +kernel) rfl
set_option maxRecDepth 30000 in
theorem wB_C_trip : Cond.code yC_trip prog_1_method_7_code 4 (some .int) ∈ WALL := mem_W 603 rfl rfl
theorem wM_C_106 : Cond.methodLink "RopeThreads" 106 yC_requireTripsAllowed ∈ WALL := mem_W 604 (by decide +kernel) rfl
theorem wI_C_requireTripsAllowed : Cond.instanceMethod yC_requireTripsAllowed ∈ WALL := mem_W 606 (by decide +kernel) rfl
set_option maxRecDepth 30000 in
theorem wB_C_requireTripsAllowed : Cond.code yC_requireTripsAllowed prog_1_method_29_code 2 none ∈ WALL := mem_W 607 rfl rfl
theorem wK_C_233 : Cond.constant "RopeThreads" 233 (99999) ∈ WALL := mem_W 608 (by decide +kernel) rfl
theorem wM_C_109 : Cond.methodLink "RopeThreads" 109 yE_travel ∈ WALL := mem_W 610 (by decide +kernel) rfl
theorem wI_E_travel : Cond.instanceMethod yE_travel ∈ WALL := mem_W 611 (by decide +kernel) rfl
theorem wV_E_travel : Cond.selects "RopeThreads$Elevator" yE_travel yE_travel ∈ WALL := mem_W 612 (by decide +kernel) rfl
set_option maxRecDepth 30000 in
theorem wB_E_travel : Cond.code yE_travel prog_2_method_6_code 8 none ∈ WALL := mem_W 613 rfl rfl
theorem wM_E_59 : Cond.methodLink "RopeThreads$Elevator" 59 yJM_min ∈ WALL := mem_W 614 (by decide +kernel) rfl
theorem wM_E_68 : Cond.methodLink "RopeThreads$Elevator" 68 yR_bend ∈ WALL := mem_W 615 (by decide +kernel) rfl
theorem wM_L_103 : Cond.methodLink "RopeThreadsLaw" 103 yL_pass ∈ WALL := mem_W 616 (by decide +kernel) rfl
theorem wS_L_pass : Cond.static yL_pass ∈ WALL := mem_W 617 (by decide +kernel) rfl
set_option maxRecDepth 30000 in
theorem wB_L_pass : Cond.codeWith yL_pass method_9_code 4 (some .int) [(0, 9, 12, 13), (0, 9, 15, 15)] ∈ WALL := mem_W 618 rfl rfl
theorem wM_L_36 : Cond.methodLink "RopeThreadsLaw" 36 yC_pass ∈ WALL := mem_W 619 (by decide +kernel) rfl
theorem wI_C_pass : Cond.instanceMethod yC_pass ∈ WALL := mem_W 620 (by decide +kernel) rfl
theorem wV_C_pass : Cond.selects "RopeThreads" yC_pass yC_pass ∈ WALL := mem_W 621 (by decide +kernel) rfl
set_option maxRecDepth 30000 in
theorem wB_C_pass : Cond.code yC_pass prog_1_method_8_code 2 (some .int) ∈ WALL := mem_W 622 rfl rfl
theorem wM_L_106 : Cond.methodLink "RopeThreadsLaw" 106 yL_append ∈ WALL := mem_W 624 (by decide +kernel) rfl
theorem wS_L_append : Cond.static yL_append ∈ WALL := mem_W 625 (by decide +kernel) rfl
set_option maxRecDepth 30000 in
theorem wB_L_append : Cond.codeWith yL_append method_10_code 4 (some .int) [(0, 9, 12, 13), (0, 9, 15, 15)] ∈ WALL := mem_W 626 rfl rfl
theorem wM_L_39 : Cond.methodLink "RopeThreadsLaw" 39 yC_append ∈ WALL := mem_W 627 (by decide +kernel) rfl
theorem wI_C_append : Cond.instanceMethod yC_append ∈ WALL := mem_W 628 (by decide +kernel) rfl
theorem wV_C_append : Cond.selects "RopeThreads" yC_append yC_append ∈ WALL := mem_W 629 (by decide +kernel) rfl
set_option maxRecDepth 30000 in
theorem wB_C_append : Cond.code yC_append prog_1_method_9_code 2 (some .int) ∈ WALL := mem_W 630 rfl rfl
theorem wM_C_125 : Cond.methodLink "RopeThreads" 125 yT_addSign ∈ WALL := mem_W 632 (by decide +kernel) rfl
theorem wI_T_addSign : Cond.instanceMethod yT_addSign ∈ WALL := mem_W 633 (by decide +kernel) rfl
theorem wV_T_addSign : Cond.selects "RopeThreads$TripText" yT_addSign yT_addSign ∈ WALL := mem_W 634 (by decide +kernel) rfl
set_option maxRecDepth 30000 in
theorem wB_T_addSign : Cond.code yT_addSign prog_5_method_2_code 2 none ∈ WALL := mem_W 635 rfl rfl
theorem wM_L_117 : Cond.methodLink "RopeThreadsLaw" 117 yL_run ∈ WALL := mem_W 636 (by decide +kernel) rfl
theorem wS_L_run : Cond.static yL_run ∈ WALL := mem_W 637 (by decide +kernel) rfl
set_option maxRecDepth 30000 in
theorem wB_L_run : Cond.codeWith yL_run method_11_code 3 (some .int) [(0, 8, 11, 13), (0, 8, 14, 15)] ∈ WALL := mem_W 638 rfl rfl
theorem wM_L_42 : Cond.methodLink "RopeThreadsLaw" 42 yC_run ∈ WALL := mem_W 639 (by decide +kernel) rfl
theorem wI_C_run : Cond.instanceMethod yC_run ∈ WALL := mem_W 640 (by decide +kernel) rfl
theorem wV_C_run : Cond.selects "RopeThreads" yC_run yC_run ∈ WALL := mem_W 641 (by decide +kernel) rfl
set_option maxRecDepth 30000 in
theorem wB_C_run : Cond.code yC_run prog_1_method_12_code 2 (some .int) ∈ WALL := mem_W 642 rfl rfl
theorem wM_C_131 : Cond.methodLink "RopeThreads" 131 yT_readParts ∈ WALL := mem_W 643 (by decide +kernel) rfl
theorem wI_T_readParts : Cond.instanceMethod yT_readParts ∈ WALL := mem_W 644 (by decide +kernel) rfl
theorem wV_T_readParts : Cond.selects "RopeThreads$TripText" yT_readParts yT_readParts ∈ WALL := mem_W 645 (by decide +kernel) rfl
set_option maxRecDepth 30000 in
theorem wB_T_readParts : Cond.code yT_readParts prog_5_method_5_code 5 (some .boolean) ∈ WALL := mem_W 646 rfl rfl
theorem wM_T_39 : Cond.methodLink "RopeThreads$TripText" 39 yT_readSign ∈ WALL := mem_W 647 (by decide +kernel) rfl
theorem wI_T_readSign : Cond.instanceMethod yT_readSign ∈ WALL := mem_W 649 (by decide +kernel) rfl
set_option maxRecDepth 30000 in
theorem wB_T_readSign : Cond.code yT_readSign prog_5_method_6_code 3 none ∈ WALL := mem_W 650 rfl rfl
theorem wM_T_43 : Cond.methodLink "RopeThreads$TripText" 43 yJM_max ∈ WALL := mem_W 651 (by decide +kernel) rfl
theorem wM_C_140 : Cond.methodLink "RopeThreads" 140 yT_tripsOfParts ∈ WALL := mem_W 653 (by decide +kernel) rfl
theorem wI_T_tripsOfParts : Cond.instanceMethod yT_tripsOfParts ∈ WALL := mem_W 654 (by decide +kernel) rfl
theorem wV_T_tripsOfParts : Cond.selects "RopeThreads$TripText" yT_tripsOfParts yT_tripsOfParts ∈ WALL := mem_W 655 (by decide +kernel) rfl
set_option maxRecDepth 30000 in
theorem wB_T_tripsOfParts : Cond.code yT_tripsOfParts prog_5_method_7_code 3 (some .int) ∈ WALL := mem_W 656 rfl rfl
theorem wM_L_121 : Cond.methodLink "RopeThreadsLaw" 121 yL_undo ∈ WALL := mem_W 657 (by decide +kernel) rfl
theorem wS_L_undo : Cond.static yL_undo ∈ WALL := mem_W 658 (by decide +kernel) rfl
set_option maxRecDepth 30000 in
theorem wB_L_undo : Cond.codeWith yL_undo method_12_code 3 (some .int) [(0, 8, 11, 15)] ∈ WALL := mem_W 659 rfl rfl
theorem wM_L_46 : Cond.methodLink "RopeThreadsLaw" 46 yC_undo ∈ WALL := mem_W 660 (by decide +kernel) rfl
theorem wI_C_undo : Cond.instanceMethod yC_undo ∈ WALL := mem_W 661 (by decide +kernel) rfl
theorem wV_C_undo : Cond.selects "RopeThreads" yC_undo yC_undo ∈ WALL := mem_W 662 (by decide +kernel) rfl
set_option maxRecDepth 30000 in
theorem wB_C_undo : Cond.code yC_undo prog_1_method_13_code 1 (some .int) ∈ WALL := mem_W 663 rfl rfl
theorem wM_C_160 : Cond.methodLink "RopeThreads" 160 yH_giveBack ∈ WALL := mem_W 665 (by decide +kernel) rfl
theorem wI_H_giveBack : Cond.instanceMethod yH_giveBack ∈ WALL := mem_W 666 (by decide +kernel) rfl
theorem wV_H_giveBack : Cond.selects "RopeThreads$History" yH_giveBack yH_giveBack ∈ WALL := mem_W 667 (by decide +kernel) rfl
set_option maxRecDepth 30000 in
theorem wB_H_giveBack : Cond.code yH_giveBack prog_3_method_3_code 3 none ∈ WALL := mem_W 668 rfl rfl
theorem wM_L_124 : Cond.methodLink "RopeThreadsLaw" 124 yL_rope ∈ WALL := mem_W 669 (by decide +kernel) rfl
theorem wS_L_rope : Cond.static yL_rope ∈ WALL := mem_W 670 (by decide +kernel) rfl
set_option maxRecDepth 30000 in
theorem wB_L_rope : Cond.codeWith yL_rope method_13_code 5 (some .int) [(0, 10, 13, 20), (0, 10, 17, 13)] ∈ WALL := mem_W 671 rfl rfl
theorem wM_L_49 : Cond.methodLink "RopeThreadsLaw" 49 yC_rope ∈ WALL := mem_W 672 (by decide +kernel) rfl
theorem wI_C_rope : Cond.instanceMethod yC_rope ∈ WALL := mem_W 673 (by decide +kernel) rfl
theorem wV_C_rope : Cond.selects "RopeThreads" yC_rope yC_rope ∈ WALL := mem_W 674 (by decide +kernel) rfl
set_option maxRecDepth 30000 in
theorem wB_C_rope : Cond.code yC_rope prog_1_method_14_code 4 (some .int) ∈ WALL := mem_W 675 rfl rfl
theorem wM_L_127 : Cond.methodLink "RopeThreadsLaw" 127 yL_section ∈ WALL := mem_W 676 (by decide +kernel) rfl
theorem wS_L_section : Cond.static yL_section ∈ WALL := mem_W 677 (by decide +kernel) rfl
set_option maxRecDepth 30000 in
theorem wB_L_section : Cond.codeWith yL_section method_14_code 6 (some .int) [(0, 12, 15, 20), (0, 12, 19, 13)] ∈ WALL := mem_W 678 rfl rfl
theorem wM_L_52 : Cond.methodLink "RopeThreadsLaw" 52 yC_section ∈ WALL := mem_W 679 (by decide +kernel) rfl
theorem wI_C_section : Cond.instanceMethod yC_section ∈ WALL := mem_W 680 (by decide +kernel) rfl
theorem wV_C_section : Cond.selects "RopeThreads" yC_section yC_section ∈ WALL := mem_W 681 (by decide +kernel) rfl
set_option maxRecDepth 30000 in
theorem wB_C_section : Cond.code yC_section prog_1_method_15_code 5 (some .int) ∈ WALL := mem_W 682 rfl rfl
theorem wM_L_130 : Cond.methodLink "RopeThreadsLaw" 130 yL_window ∈ WALL := mem_W 683 (by decide +kernel) rfl
theorem wS_L_window : Cond.static yL_window ∈ WALL := mem_W 684 (by decide +kernel) rfl
set_option maxRecDepth 30000 in
theorem wB_L_window : Cond.codeWith yL_window method_15_code 6 (some .int) [(0, 12, 15, 20), (0, 12, 19, 13)] ∈ WALL := mem_W 685 rfl rfl
theorem wM_L_55 : Cond.methodLink "RopeThreadsLaw" 55 yC_window ∈ WALL := mem_W 686 (by decide +kernel) rfl
theorem wI_C_window : Cond.instanceMethod yC_window ∈ WALL := mem_W 687 (by decide +kernel) rfl
theorem wV_C_window : Cond.selects "RopeThreads" yC_window yC_window ∈ WALL := mem_W 688 (by decide +kernel) rfl
set_option maxRecDepth 30000 in
theorem wB_C_window : Cond.code yC_window prog_1_method_16_code 5 (some .int) ∈ WALL := mem_W 689 rfl rfl
theorem wM_L_133 : Cond.methodLink "RopeThreadsLaw" 133 yL_count ∈ WALL := mem_W 690 (by decide +kernel) rfl
theorem wS_L_count : Cond.static yL_count ∈ WALL := mem_W 691 (by decide +kernel) rfl
set_option maxRecDepth 30000 in
theorem wB_L_count : Cond.codeWith yL_count method_16_code 4 (some .int) [(0, 9, 12, 13)] ∈ WALL := mem_W 692 rfl rfl
theorem wM_L_58 : Cond.methodLink "RopeThreadsLaw" 58 yC_count ∈ WALL := mem_W 693 (by decide +kernel) rfl
theorem wI_C_count : Cond.instanceMethod yC_count ∈ WALL := mem_W 694 (by decide +kernel) rfl
theorem wV_C_count : Cond.selects "RopeThreads" yC_count yC_count ∈ WALL := mem_W 695 (by decide +kernel) rfl
set_option maxRecDepth 30000 in
theorem wB_C_count : Cond.code yC_count prog_1_method_17_code 2 (some .int) ∈ WALL := mem_W 696 rfl rfl
theorem wM_L_136 : Cond.methodLink "RopeThreadsLaw" 136 yL_setting ∈ WALL := mem_W 697 (by decide +kernel) rfl
theorem wS_L_setting : Cond.static yL_setting ∈ WALL := mem_W 698 (by decide +kernel) rfl
set_option maxRecDepth 30000 in
theorem wB_L_setting : Cond.codeWith yL_setting method_17_code 4 (some .int) [(0, 9, 12, 20)] ∈ WALL := mem_W 699 rfl rfl
theorem wM_L_61 : Cond.methodLink "RopeThreadsLaw" 61 yC_setting ∈ WALL := mem_W 700 (by decide +kernel) rfl
theorem wI_C_setting : Cond.instanceMethod yC_setting ∈ WALL := mem_W 701 (by decide +kernel) rfl
theorem wV_C_setting : Cond.selects "RopeThreads" yC_setting yC_setting ∈ WALL := mem_W 702 (by decide +kernel) rfl
set_option maxRecDepth 30000 in
theorem wB_C_setting : Cond.code yC_setting prog_1_method_18_code 2 (some .int) ∈ WALL := mem_W 703 rfl rfl
theorem wM_L_139 : Cond.methodLink "RopeThreadsLaw" 139 yL_ifInspected ∈ WALL := mem_W 704 (by decide +kernel) rfl
theorem wS_L_ifInspected : Cond.static yL_ifInspected ∈ WALL := mem_W 705 (by decide +kernel) rfl
set_option maxRecDepth 30000 in
theorem wB_L_ifInspected : Cond.codeWith yL_ifInspected method_18_code 6 (some .int) [(0, 12, 15, 20), (0, 12, 19, 13)] ∈ WALL := mem_W 706 rfl rfl
theorem wM_L_64 : Cond.methodLink "RopeThreadsLaw" 64 yC_ifInspected ∈ WALL := mem_W 707 (by decide +kernel) rfl
theorem wI_C_ifInspected : Cond.instanceMethod yC_ifInspected ∈ WALL := mem_W 708 (by decide +kernel) rfl
theorem wV_C_ifInspected : Cond.selects "RopeThreads" yC_ifInspected yC_ifInspected ∈ WALL := mem_W 709 (by decide +kernel) rfl
set_option maxRecDepth 30000 in
theorem wB_C_ifInspected : Cond.code yC_ifInspected prog_1_method_19_code 5 (some .int) ∈ WALL := mem_W 710 rfl rfl
theorem wM_L_142 : Cond.methodLink "RopeThreadsLaw" 142 yL_bestInspection ∈ WALL := mem_W 711 (by decide +kernel) rfl
theorem wS_L_bestInspection : Cond.static yL_bestInspection ∈ WALL := mem_W 712 (by decide +kernel) rfl
set_option maxRecDepth 30000 in
theorem wB_L_bestInspection : Cond.codeWith yL_bestInspection method_19_code 5 (some .int) [(0, 10, 13, 20), (0, 10, 17, 13)] ∈ WALL := mem_W 713 rfl rfl
theorem wM_L_67 : Cond.methodLink "RopeThreadsLaw" 67 yC_bestInspection ∈ WALL := mem_W 714 (by decide +kernel) rfl
theorem wI_C_bestInspection : Cond.instanceMethod yC_bestInspection ∈ WALL := mem_W 715 (by decide +kernel) rfl
theorem wV_C_bestInspection : Cond.selects "RopeThreads" yC_bestInspection yC_bestInspection ∈ WALL := mem_W 716 (by decide +kernel) rfl
set_option maxRecDepth 30000 in
theorem wB_C_bestInspection : Cond.code yC_bestInspection prog_1_method_20_code 4 (some .int) ∈ WALL := mem_W 717 rfl rfl
theorem wM_L_145 : Cond.methodLink "RopeThreadsLaw" 145 yL_tripsLeft ∈ WALL := mem_W 718 (by decide +kernel) rfl
theorem wS_L_tripsLeft : Cond.static yL_tripsLeft ∈ WALL := mem_W 719 (by decide +kernel) rfl
set_option maxRecDepth 30000 in
theorem wB_L_tripsLeft : Cond.codeWith yL_tripsLeft method_20_code 4 (some .int) [(0, 9, 12, 20)] ∈ WALL := mem_W 720 rfl rfl
theorem wM_L_70 : Cond.methodLink "RopeThreadsLaw" 70 yC_tripsLeft ∈ WALL := mem_W 721 (by decide +kernel) rfl
theorem wI_C_tripsLeft : Cond.instanceMethod yC_tripsLeft ∈ WALL := mem_W 722 (by decide +kernel) rfl
theorem wV_C_tripsLeft : Cond.selects "RopeThreads" yC_tripsLeft yC_tripsLeft ∈ WALL := mem_W 723 (by decide +kernel) rfl
set_option maxRecDepth 30000 in
theorem wB_C_tripsLeft : Cond.code yC_tripsLeft prog_1_method_21_code 2 (some .int) ∈ WALL := mem_W 724 rfl rfl
theorem wC_L_74 : Cond.classLink "RopeThreadsLaw" 74 "RopeThreadsModel" ∈ WALL := mem_W 725 (by decide +kernel) rfl
theorem wA_M : Cond.instantiable "RopeThreadsModel" 11 ∈ WALL := mem_W 726 (by decide +kernel) rfl
theorem wM_L_76 : Cond.methodLink "RopeThreadsLaw" 76 yM_init ∈ WALL := mem_W 727 (by decide +kernel) rfl
theorem wI_M_init : Cond.instanceMethod yM_init ∈ WALL := mem_W 728 (by decide +kernel) rfl
set_option maxRecDepth 30000 in
theorem wB_M_init : Cond.code yM_init prog_7_method_1_code 1 none ∈ WALL := mem_W 729 rfl rfl
theorem wM_M_1 : Cond.methodLink "RopeThreadsModel" 1 yJO_init ∈ WALL := mem_W 730 (by decide +kernel) rfl
theorem wF_M_7 : Cond.fieldLink "RopeThreadsModel" 7 "RopeThreadsModel" "now" "[I" ∈ WALL := mem_W 731 (by decide +kernel) rfl
theorem wF_M_13 : Cond.fieldLink "RopeThreadsModel" 13 "RopeThreadsModel" "past" "[I" ∈ WALL := mem_W 732 (by decide +kernel) rfl
theorem wF_M_33 : Cond.fieldLink "RopeThreadsModel" 33 "RopeThreadsModel" "kept" "I" ∈ WALL := mem_W 733 (by decide +kernel) rfl
theorem wF_M_16 : Cond.fieldLink "RopeThreadsModel" 16 "RopeThreadsModel" "trial" "[I" ∈ WALL := mem_W 734 (by decide +kernel) rfl
theorem wF_M_19 : Cond.fieldLink "RopeThreadsModel" 19 "RopeThreadsModel" "text" "[I" ∈ WALL := mem_W 735 (by decide +kernel) rfl
theorem wF_M_103 : Cond.fieldLink "RopeThreadsModel" 103 "RopeThreadsModel" "typed" "I" ∈ WALL := mem_W 736 (by decide +kernel) rfl
theorem wF_M_25 : Cond.fieldLink "RopeThreadsModel" 25 "RopeThreadsModel" "thrown" "I" ∈ WALL := mem_W 737 (by decide +kernel) rfl
theorem wF_M_106 : Cond.fieldLink "RopeThreadsModel" 106 "RopeThreadsModel" "at" "I" ∈ WALL := mem_W 738 (by decide +kernel) rfl
theorem wF_M_109 : Cond.fieldLink "RopeThreadsModel" 109 "RopeThreadsModel" "isFault" "Z" ∈ WALL := mem_W 739 (by decide +kernel) rfl
theorem wF_M_22 : Cond.fieldLink "RopeThreadsModel" 22 "RopeThreadsModel" "told" "[I" ∈ WALL := mem_W 740 (by decide +kernel) rfl
theorem wF_M_119 : Cond.fieldLink "RopeThreadsModel" 119 "RopeThreadsModel" "tolds" "I" ∈ WALL := mem_W 741 (by decide +kernel) rfl
theorem wM_L_83 : Cond.methodLink "RopeThreadsLaw" 83 yM_thrown ∈ WALL := mem_W 765 (by decide +kernel) rfl
theorem wI_M_thrown : Cond.instanceMethod yM_thrown ∈ WALL := mem_W 766 (by decide +kernel) rfl
theorem wV_M_thrown : Cond.selects "RopeThreadsModel" yM_thrown yM_thrown ∈ WALL := mem_W 767 (by decide +kernel) rfl
set_option maxRecDepth 30000 in
theorem wB_M_thrown : Cond.code yM_thrown prog_7_method_2_code 1 (some .int) ∈ WALL := mem_W 768 rfl rfl
theorem wM_L_123 : Cond.methodLink "RopeThreadsLaw" 123 yM_undo ∈ WALL := mem_W 769 (by decide +kernel) rfl
theorem wI_M_undo : Cond.instanceMethod yM_undo ∈ WALL := mem_W 770 (by decide +kernel) rfl
theorem wV_M_undo : Cond.selects "RopeThreadsModel" yM_undo yM_undo ∈ WALL := mem_W 771 (by decide +kernel) rfl
set_option maxRecDepth 30000 in
theorem wB_M_undo : Cond.code yM_undo prog_7_method_10_code 2 (some .int) ∈ WALL := mem_W 772 rfl rfl
theorem wM_M_36 : Cond.methodLink "RopeThreadsModel" 36 yM_fails ∈ WALL := mem_W 773 (by decide +kernel) rfl
theorem wI_M_fails : Cond.instanceMethod yM_fails ∈ WALL := mem_W 775 (by decide +kernel) rfl
set_option maxRecDepth 30000 in
theorem wB_M_fails : Cond.code yM_fails prog_7_method_3_code 2 (some .int) ∈ WALL := mem_W 776 rfl rfl
theorem wM_L_82 : Cond.methodLink "RopeThreadsLaw" 82 yM_hang ∈ WALL := mem_W 777 (by decide +kernel) rfl
theorem wI_M_hang : Cond.instanceMethod yM_hang ∈ WALL := mem_W 778 (by decide +kernel) rfl
theorem wV_M_hang : Cond.selects "RopeThreadsModel" yM_hang yM_hang ∈ WALL := mem_W 779 (by decide +kernel) rfl
set_option maxRecDepth 30000 in
theorem wB_M_hang : Cond.code yM_hang prog_7_method_20_code 2 (some .int) ∈ WALL := mem_W 780 rfl rfl
theorem wM_M_62 : Cond.methodLink "RopeThreadsModel" 62 yM_isQuality ∈ WALL := mem_W 781 (by decide +kernel) rfl
theorem wS_M_isQuality : Cond.static yM_isQuality ∈ WALL := mem_W 782 (by decide +kernel) rfl
set_option maxRecDepth 30000 in
theorem wB_M_isQuality : Cond.code yM_isQuality prog_7_method_7_code 1 (some .boolean) ∈ WALL := mem_W 783 rfl rfl
theorem wM_M_29 : Cond.methodLink "RopeThreadsModel" 29 yM_in ∈ WALL := mem_W 784 (by decide +kernel) rfl
theorem wS_M_in : Cond.static yM_in ∈ WALL := mem_W 785 (by decide +kernel) rfl
set_option maxRecDepth 30000 in
theorem wB_M_in : Cond.code yM_in prog_7_method_4_code 3 (some .boolean) ∈ WALL := mem_W 786 rfl rfl
theorem wM_M_66 : Cond.methodLink "RopeThreadsModel" 66 yM_saves ∈ WALL := mem_W 787 (by decide +kernel) rfl
theorem wI_M_saves : Cond.instanceMethod yM_saves ∈ WALL := mem_W 789 (by decide +kernel) rfl
set_option maxRecDepth 30000 in
theorem wB_M_saves : Cond.code yM_saves prog_7_method_9_code 2 none ∈ WALL := mem_W 790 rfl rfl
theorem wM_M_69 : Cond.methodLink "RopeThreadsModel" 69 yM_hangs ∈ WALL := mem_W 791 (by decide +kernel) rfl
theorem wI_M_hangs : Cond.instanceMethod yM_hangs ∈ WALL := mem_W 793 (by decide +kernel) rfl
set_option maxRecDepth 30000 in
theorem wB_M_hangs : Cond.code yM_hangs prog_7_method_19_code 4 none ∈ WALL := mem_W 794 rfl rfl
theorem wM_M_59 : Cond.methodLink "RopeThreadsModel" 59 yM_row ∈ WALL := mem_W 795 (by decide +kernel) rfl
theorem wS_M_row : Cond.static yM_row ∈ WALL := mem_W 796 (by decide +kernel) rfl
set_option maxRecDepth 30000 in
theorem wB_M_row : Cond.code yM_row prog_7_method_8_code 1 (some .int) ∈ WALL := mem_W 797 rfl rfl
theorem wM_L_88 : Cond.methodLink "RopeThreadsLaw" 88 yM_cut ∈ WALL := mem_W 798 (by decide +kernel) rfl
theorem wI_M_cut : Cond.instanceMethod yM_cut ∈ WALL := mem_W 799 (by decide +kernel) rfl
theorem wV_M_cut : Cond.selects "RopeThreadsModel" yM_cut yM_cut ∈ WALL := mem_W 800 (by decide +kernel) rfl
set_option maxRecDepth 30000 in
theorem wB_M_cut : Cond.code yM_cut prog_7_method_21_code 3 (some .int) ∈ WALL := mem_W 801 rfl rfl
theorem wM_M_73 : Cond.methodLink "RopeThreadsModel" 73 yM_isRope ∈ WALL := mem_W 802 (by decide +kernel) rfl
theorem wI_M_isRope : Cond.instanceMethod yM_isRope ∈ WALL := mem_W 804 (by decide +kernel) rfl
set_option maxRecDepth 30000 in
theorem wB_M_isRope : Cond.code yM_isRope prog_7_method_5_code 2 (some .boolean) ∈ WALL := mem_W 805 rfl rfl
theorem wM_L_92 : Cond.methodLink "RopeThreadsLaw" 92 yM_swap ∈ WALL := mem_W 806 (by decide +kernel) rfl
theorem wI_M_swap : Cond.instanceMethod yM_swap ∈ WALL := mem_W 807 (by decide +kernel) rfl
theorem wV_M_swap : Cond.selects "RopeThreadsModel" yM_swap yM_swap ∈ WALL := mem_W 808 (by decide +kernel) rfl
set_option maxRecDepth 30000 in
theorem wB_M_swap : Cond.code yM_swap prog_7_method_22_code 4 (some .int) ∈ WALL := mem_W 809 rfl rfl
theorem wM_M_48 : Cond.methodLink "RopeThreadsModel" 48 yM_sumOf ∈ WALL := mem_W 810 (by decide +kernel) rfl
theorem wS_M_sumOf : Cond.static yM_sumOf ∈ WALL := mem_W 811 (by decide +kernel) rfl
set_option maxRecDepth 30000 in
theorem wB_M_sumOf : Cond.code yM_sumOf prog_7_method_12_code 7 (some .int) ∈ WALL := mem_W 812 rfl rfl
theorem wM_M_40 : Cond.methodLink "RopeThreadsModel" 40 yM_broken ∈ WALL := mem_W 813 (by decide +kernel) rfl
theorem wS_M_broken : Cond.static yM_broken ∈ WALL := mem_W 814 (by decide +kernel) rfl
set_option maxRecDepth 30000 in
theorem wB_M_broken : Cond.code yM_broken prog_7_method_11_code 3 (some .int) ∈ WALL := mem_W 815 rfl rfl
theorem wM_L_96 : Cond.methodLink "RopeThreadsLaw" 96 yM_inspect ∈ WALL := mem_W 816 (by decide +kernel) rfl
theorem wI_M_inspect : Cond.instanceMethod yM_inspect ∈ WALL := mem_W 817 (by decide +kernel) rfl
theorem wV_M_inspect : Cond.selects "RopeThreadsModel" yM_inspect yM_inspect ∈ WALL := mem_W 818 (by decide +kernel) rfl
set_option maxRecDepth 30000 in
theorem wB_M_inspect : Cond.code yM_inspect prog_7_method_23_code 5 (some .int) ∈ WALL := mem_W 819 rfl rfl
theorem wM_M_76 : Cond.methodLink "RopeThreadsModel" 76 yM_isSection ∈ WALL := mem_W 820 (by decide +kernel) rfl
theorem wS_M_isSection : Cond.static yM_isSection ∈ WALL := mem_W 821 (by decide +kernel) rfl
set_option maxRecDepth 30000 in
theorem wB_M_isSection : Cond.code yM_isSection prog_7_method_6_code 1 (some .boolean) ∈ WALL := mem_W 822 rfl rfl
theorem wM_M_79 : Cond.methodLink "RopeThreadsModel" 79 yM_inspects ∈ WALL := mem_W 823 (by decide +kernel) rfl
theorem wI_M_inspects : Cond.instanceMethod yM_inspects ∈ WALL := mem_W 825 (by decide +kernel) rfl
set_option maxRecDepth 30000 in
theorem wB_M_inspects : Cond.code yM_inspects prog_7_method_17_code 6 none ∈ WALL := mem_W 826 rfl rfl
theorem wM_L_99 : Cond.methodLink "RopeThreadsLaw" 99 yM_set ∈ WALL := mem_W 827 (by decide +kernel) rfl
theorem wI_M_set : Cond.instanceMethod yM_set ∈ WALL := mem_W 828 (by decide +kernel) rfl
theorem wV_M_set : Cond.selects "RopeThreadsModel" yM_set yM_set ∈ WALL := mem_W 829 (by decide +kernel) rfl
set_option maxRecDepth 30000 in
theorem wB_M_set : Cond.code yM_set prog_7_method_25_code 4 (some .int) ∈ WALL := mem_W 830 rfl rfl
theorem wM_M_83 : Cond.methodLink "RopeThreadsModel" 83 yM_isFor ∈ WALL := mem_W 831 (by decide +kernel) rfl
theorem wS_M_isFor : Cond.static yM_isFor ∈ WALL := mem_W 832 (by decide +kernel) rfl
set_option maxRecDepth 30000 in
theorem wB_M_isFor : Cond.code yM_isFor prog_7_method_24_code 2 (some .boolean) ∈ WALL := mem_W 833 rfl rfl
theorem wM_L_102 : Cond.methodLink "RopeThreadsLaw" 102 yM_trip ∈ WALL := mem_W 834 (by decide +kernel) rfl
theorem wI_M_trip : Cond.instanceMethod yM_trip ∈ WALL := mem_W 835 (by decide +kernel) rfl
theorem wV_M_trip : Cond.selects "RopeThreadsModel" yM_trip yM_trip ∈ WALL := mem_W 836 (by decide +kernel) rfl
set_option maxRecDepth 30000 in
theorem wB_M_trip : Cond.code yM_trip prog_7_method_29_code 4 (some .int) ∈ WALL := mem_W 837 rfl rfl
theorem wM_M_94 : Cond.methodLink "RopeThreadsModel" 94 yM_canRun ∈ WALL := mem_W 838 (by decide +kernel) rfl
theorem wI_M_canRun : Cond.instanceMethod yM_canRun ∈ WALL := mem_W 840 (by decide +kernel) rfl
set_option maxRecDepth 30000 in
theorem wB_M_canRun : Cond.code yM_canRun prog_7_method_27_code 1 (some .boolean) ∈ WALL := mem_W 841 rfl rfl
theorem wM_M_91 : Cond.methodLink "RopeThreadsModel" 91 yM_retired ∈ WALL := mem_W 842 (by decide +kernel) rfl
theorem wI_M_retired : Cond.instanceMethod yM_retired ∈ WALL := mem_W 844 (by decide +kernel) rfl
set_option maxRecDepth 30000 in
theorem wB_M_retired : Cond.code yM_retired prog_7_method_26_code 3 (some .int) ∈ WALL := mem_W 845 rfl rfl
theorem wM_M_87 : Cond.methodLink "RopeThreadsModel" 87 yM_reason ∈ WALL := mem_W 846 (by decide +kernel) rfl
theorem wI_M_reason : Cond.instanceMethod yM_reason ∈ WALL := mem_W 848 (by decide +kernel) rfl
set_option maxRecDepth 30000 in
theorem wB_M_reason : Cond.code yM_reason prog_7_method_16_code 6 (some .int) ∈ WALL := mem_W 849 rfl rfl
theorem wM_M_56 : Cond.methodLink "RopeThreadsModel" 56 yM_most ∈ WALL := mem_W 850 (by decide +kernel) rfl
theorem wI_M_most : Cond.instanceMethod yM_most ∈ WALL := mem_W 852 (by decide +kernel) rfl
set_option maxRecDepth 30000 in
theorem wB_M_most : Cond.code yM_most prog_7_method_15_code 4 (some .int) ∈ WALL := mem_W 853 rfl rfl
theorem wM_M_52 : Cond.methodLink "RopeThreadsModel" 52 yM_greatest ∈ WALL := mem_W 854 (by decide +kernel) rfl
theorem wI_M_greatest : Cond.instanceMethod yM_greatest ∈ WALL := mem_W 856 (by decide +kernel) rfl
set_option maxRecDepth 30000 in
theorem wB_M_greatest : Cond.code yM_greatest prog_7_method_14_code 7 (some .int) ∈ WALL := mem_W 857 rfl rfl
theorem wM_M_44 : Cond.methodLink "RopeThreadsModel" 44 yM_windows ∈ WALL := mem_W 858 (by decide +kernel) rfl
theorem wI_M_windows : Cond.instanceMethod yM_windows ∈ WALL := mem_W 860 (by decide +kernel) rfl
set_option maxRecDepth 30000 in
theorem wB_M_windows : Cond.code yM_windows prog_7_method_13_code 1 (some .int) ∈ WALL := mem_W 861 rfl rfl
theorem wK_M_98 : Cond.constant "RopeThreadsModel" 98 (99999) ∈ WALL := mem_W 862 (by decide +kernel) rfl
theorem wM_M_99 : Cond.methodLink "RopeThreadsModel" 99 yM_goes ∈ WALL := mem_W 863 (by decide +kernel) rfl
theorem wI_M_goes : Cond.instanceMethod yM_goes ∈ WALL := mem_W 865 (by decide +kernel) rfl
set_option maxRecDepth 30000 in
theorem wB_M_goes : Cond.code yM_goes prog_7_method_28_code 8 none ∈ WALL := mem_W 866 rfl rfl
theorem wM_L_105 : Cond.methodLink "RopeThreadsLaw" 105 yM_pass ∈ WALL := mem_W 867 (by decide +kernel) rfl
theorem wI_M_pass : Cond.instanceMethod yM_pass ∈ WALL := mem_W 868 (by decide +kernel) rfl
theorem wV_M_pass : Cond.selects "RopeThreadsModel" yM_pass yM_pass ∈ WALL := mem_W 869 (by decide +kernel) rfl
set_option maxRecDepth 30000 in
theorem wB_M_pass : Cond.code yM_pass prog_7_method_30_code 2 (some .int) ∈ WALL := mem_W 870 rfl rfl
theorem wM_L_108 : Cond.methodLink "RopeThreadsLaw" 108 yM_append ∈ WALL := mem_W 871 (by decide +kernel) rfl
theorem wI_M_append : Cond.instanceMethod yM_append ∈ WALL := mem_W 872 (by decide +kernel) rfl
theorem wV_M_append : Cond.selects "RopeThreadsModel" yM_append yM_append ∈ WALL := mem_W 873 (by decide +kernel) rfl
set_option maxRecDepth 30000 in
theorem wB_M_append : Cond.code yM_append prog_7_method_31_code 2 (some .int) ∈ WALL := mem_W 874 rfl rfl
theorem wM_L_112 : Cond.methodLink "RopeThreadsLaw" 112 yM_clearBuffer ∈ WALL := mem_W 875 (by decide +kernel) rfl
theorem wI_M_clearBuffer : Cond.instanceMethod yM_clearBuffer ∈ WALL := mem_W 876 (by decide +kernel) rfl
theorem wV_M_clearBuffer : Cond.selects "RopeThreadsModel" yM_clearBuffer yM_clearBuffer ∈ WALL := mem_W 877 (by decide +kernel) rfl
set_option maxRecDepth 30000 in
theorem wB_M_clearBuffer : Cond.code yM_clearBuffer prog_7_method_32_code 2 (some .int) ∈ WALL := mem_W 878 rfl rfl
theorem wM_L_116 : Cond.methodLink "RopeThreadsLaw" 116 yM_firstError ∈ WALL := mem_W 879 (by decide +kernel) rfl
theorem wI_M_firstError : Cond.instanceMethod yM_firstError ∈ WALL := mem_W 880 (by decide +kernel) rfl
theorem wV_M_firstError : Cond.selects "RopeThreadsModel" yM_firstError yM_firstError ∈ WALL := mem_W 881 (by decide +kernel) rfl
set_option maxRecDepth 30000 in
theorem wB_M_firstError : Cond.code yM_firstError prog_7_method_39_code 2 (some .int) ∈ WALL := mem_W 882 rfl rfl
theorem wM_M_131 : Cond.methodLink "RopeThreadsModel" 131 yM_isText ∈ WALL := mem_W 883 (by decide +kernel) rfl
theorem wI_M_isText : Cond.instanceMethod yM_isText ∈ WALL := mem_W 885 (by decide +kernel) rfl
set_option maxRecDepth 30000 in
theorem wB_M_isText : Cond.code yM_isText prog_7_method_38_code 2 (some .boolean) ∈ WALL := mem_W 886 rfl rfl
theorem wM_M_128 : Cond.methodLink "RopeThreadsModel" 128 yM_isPart ∈ WALL := mem_W 887 (by decide +kernel) rfl
theorem wI_M_isPart : Cond.instanceMethod yM_isPart ∈ WALL := mem_W 889 (by decide +kernel) rfl
set_option maxRecDepth 30000 in
theorem wB_M_isPart : Cond.code yM_isPart prog_7_method_37_code 1 (some .boolean) ∈ WALL := mem_W 890 rfl rfl
theorem wM_M_122 : Cond.methodLink "RopeThreadsModel" 122 yM_isFloor ∈ WALL := mem_W 891 (by decide +kernel) rfl
theorem wI_M_isFloor : Cond.instanceMethod yM_isFloor ∈ WALL := mem_W 893 (by decide +kernel) rfl
set_option maxRecDepth 30000 in
theorem wB_M_isFloor : Cond.code yM_isFloor prog_7_method_35_code 2 (some .boolean) ∈ WALL := mem_W 894 rfl rfl
theorem wM_M_113 : Cond.methodLink "RopeThreadsModel" 113 yM_isAt ∈ WALL := mem_W 895 (by decide +kernel) rfl
theorem wI_M_isAt : Cond.instanceMethod yM_isAt ∈ WALL := mem_W 897 (by decide +kernel) rfl
set_option maxRecDepth 30000 in
theorem wB_M_isAt : Cond.code yM_isAt prog_7_method_33_code 3 (some .boolean) ∈ WALL := mem_W 898 rfl rfl
theorem wM_M_116 : Cond.methodLink "RopeThreadsModel" 116 yM_stops ∈ WALL := mem_W 899 (by decide +kernel) rfl
theorem wI_M_stops : Cond.instanceMethod yM_stops ∈ WALL := mem_W 901 (by decide +kernel) rfl
set_option maxRecDepth 30000 in
theorem wB_M_stops : Cond.code yM_stops prog_7_method_34_code 1 (some .boolean) ∈ WALL := mem_W 902 rfl rfl
theorem wM_M_125 : Cond.methodLink "RopeThreadsModel" 125 yM_isOften ∈ WALL := mem_W 903 (by decide +kernel) rfl
theorem wI_M_isOften : Cond.instanceMethod yM_isOften ∈ WALL := mem_W 905 (by decide +kernel) rfl
set_option maxRecDepth 30000 in
theorem wB_M_isOften : Cond.code yM_isOften prog_7_method_36_code 2 (some .boolean) ∈ WALL := mem_W 906 rfl rfl
theorem wM_L_120 : Cond.methodLink "RopeThreadsLaw" 120 yM_run ∈ WALL := mem_W 907 (by decide +kernel) rfl
theorem wI_M_run : Cond.instanceMethod yM_run ∈ WALL := mem_W 908 (by decide +kernel) rfl
theorem wV_M_run : Cond.selects "RopeThreadsModel" yM_run yM_run ∈ WALL := mem_W 909 (by decide +kernel) rfl
set_option maxRecDepth 30000 in
theorem wB_M_run : Cond.code yM_run prog_7_method_40_code 3 (some .int) ∈ WALL := mem_W 910 rfl rfl
theorem wM_L_126 : Cond.methodLink "RopeThreadsLaw" 126 yM_rope ∈ WALL := mem_W 911 (by decide +kernel) rfl
theorem wI_M_rope : Cond.instanceMethod yM_rope ∈ WALL := mem_W 912 (by decide +kernel) rfl
theorem wV_M_rope : Cond.selects "RopeThreadsModel" yM_rope yM_rope ∈ WALL := mem_W 913 (by decide +kernel) rfl
set_option maxRecDepth 30000 in
theorem wB_M_rope : Cond.code yM_rope prog_7_method_43_code 3 (some .int) ∈ WALL := mem_W 914 rfl rfl
theorem wM_M_137 : Cond.methodLink "RopeThreadsModel" 137 yM_ofRope ∈ WALL := mem_W 915 (by decide +kernel) rfl
theorem wI_M_ofRope : Cond.instanceMethod yM_ofRope ∈ WALL := mem_W 917 (by decide +kernel) rfl
set_option maxRecDepth 30000 in
theorem wB_M_ofRope : Cond.code yM_ofRope prog_7_method_42_code 4 (some .int) ∈ WALL := mem_W 918 rfl rfl
theorem wM_M_134 : Cond.methodLink "RopeThreadsModel" 134 yM_monthsLeft ∈ WALL := mem_W 919 (by decide +kernel) rfl
theorem wI_M_monthsLeft : Cond.instanceMethod yM_monthsLeft ∈ WALL := mem_W 921 (by decide +kernel) rfl
set_option maxRecDepth 30000 in
theorem wB_M_monthsLeft : Cond.code yM_monthsLeft prog_7_method_41_code 5 (some .int) ∈ WALL := mem_W 922 rfl rfl
theorem wM_L_129 : Cond.methodLink "RopeThreadsLaw" 129 yM_section ∈ WALL := mem_W 923 (by decide +kernel) rfl
theorem wI_M_section : Cond.instanceMethod yM_section ∈ WALL := mem_W 924 (by decide +kernel) rfl
theorem wV_M_section : Cond.selects "RopeThreadsModel" yM_section yM_section ∈ WALL := mem_W 925 (by decide +kernel) rfl
set_option maxRecDepth 30000 in
theorem wB_M_section : Cond.code yM_section prog_7_method_45_code 4 (some .int) ∈ WALL := mem_W 926 rfl rfl
theorem wM_M_141 : Cond.methodLink "RopeThreadsModel" 141 yM_ofSection ∈ WALL := mem_W 927 (by decide +kernel) rfl
theorem wI_M_ofSection : Cond.instanceMethod yM_ofSection ∈ WALL := mem_W 929 (by decide +kernel) rfl
set_option maxRecDepth 30000 in
theorem wB_M_ofSection : Cond.code yM_ofSection prog_7_method_44_code 5 (some .int) ∈ WALL := mem_W 930 rfl rfl
theorem wM_L_132 : Cond.methodLink "RopeThreadsLaw" 132 yM_window ∈ WALL := mem_W 931 (by decide +kernel) rfl
theorem wI_M_window : Cond.instanceMethod yM_window ∈ WALL := mem_W 932 (by decide +kernel) rfl
theorem wV_M_window : Cond.selects "RopeThreadsModel" yM_window yM_window ∈ WALL := mem_W 933 (by decide +kernel) rfl
set_option maxRecDepth 30000 in
theorem wB_M_window : Cond.code yM_window prog_7_method_46_code 4 (some .int) ∈ WALL := mem_W 934 rfl rfl
theorem wM_L_135 : Cond.methodLink "RopeThreadsLaw" 135 yM_count ∈ WALL := mem_W 935 (by decide +kernel) rfl
theorem wI_M_count : Cond.instanceMethod yM_count ∈ WALL := mem_W 936 (by decide +kernel) rfl
theorem wV_M_count : Cond.selects "RopeThreadsModel" yM_count yM_count ∈ WALL := mem_W 937 (by decide +kernel) rfl
set_option maxRecDepth 30000 in
theorem wB_M_count : Cond.code yM_count prog_7_method_49_code 2 (some .int) ∈ WALL := mem_W 938 rfl rfl
theorem wM_M_149 : Cond.methodLink "RopeThreadsModel" 149 yM_counted ∈ WALL := mem_W 939 (by decide +kernel) rfl
theorem wI_M_counted : Cond.instanceMethod yM_counted ∈ WALL := mem_W 941 (by decide +kernel) rfl
set_option maxRecDepth 30000 in
theorem wB_M_counted : Cond.code yM_counted prog_7_method_48_code 2 (some .int) ∈ WALL := mem_W 942 rfl rfl
theorem wM_M_145 : Cond.methodLink "RopeThreadsModel" 145 yM_threads ∈ WALL := mem_W 943 (by decide +kernel) rfl
theorem wI_M_threads : Cond.instanceMethod yM_threads ∈ WALL := mem_W 945 (by decide +kernel) rfl
set_option maxRecDepth 30000 in
theorem wB_M_threads : Cond.code yM_threads prog_7_method_47_code 4 (some .int) ∈ WALL := mem_W 946 rfl rfl
theorem wM_L_138 : Cond.methodLink "RopeThreadsLaw" 138 yM_setting ∈ WALL := mem_W 947 (by decide +kernel) rfl
theorem wI_M_setting : Cond.instanceMethod yM_setting ∈ WALL := mem_W 948 (by decide +kernel) rfl
theorem wV_M_setting : Cond.selects "RopeThreadsModel" yM_setting yM_setting ∈ WALL := mem_W 949 (by decide +kernel) rfl
set_option maxRecDepth 30000 in
theorem wB_M_setting : Cond.code yM_setting prog_7_method_50_code 2 (some .int) ∈ WALL := mem_W 950 rfl rfl
theorem wM_L_141 : Cond.methodLink "RopeThreadsLaw" 141 yM_ifInspected ∈ WALL := mem_W 951 (by decide +kernel) rfl
theorem wI_M_ifInspected : Cond.instanceMethod yM_ifInspected ∈ WALL := mem_W 952 (by decide +kernel) rfl
theorem wV_M_ifInspected : Cond.selects "RopeThreadsModel" yM_ifInspected yM_ifInspected ∈ WALL := mem_W 953 (by decide +kernel) rfl
set_option maxRecDepth 30000 in
theorem wB_M_ifInspected : Cond.code yM_ifInspected prog_7_method_52_code 4 (some .int) ∈ WALL := mem_W 954 rfl rfl
theorem wM_M_156 : Cond.methodLink "RopeThreadsModel" 156 yM_reasonThen ∈ WALL := mem_W 955 (by decide +kernel) rfl
theorem wI_M_reasonThen : Cond.instanceMethod yM_reasonThen ∈ WALL := mem_W 957 (by decide +kernel) rfl
set_option maxRecDepth 30000 in
theorem wB_M_reasonThen : Cond.code yM_reasonThen prog_7_method_51_code 4 (some .int) ∈ WALL := mem_W 958 rfl rfl
theorem wM_M_152 : Cond.methodLink "RopeThreadsModel" 152 yM_tries ∈ WALL := mem_W 959 (by decide +kernel) rfl
theorem wI_M_tries : Cond.instanceMethod yM_tries ∈ WALL := mem_W 961 (by decide +kernel) rfl
set_option maxRecDepth 30000 in
theorem wB_M_tries : Cond.code yM_tries prog_7_method_18_code 3 none ∈ WALL := mem_W 962 rfl rfl
theorem wM_L_144 : Cond.methodLink "RopeThreadsLaw" 144 yM_bestInspection ∈ WALL := mem_W 963 (by decide +kernel) rfl
theorem wI_M_bestInspection : Cond.instanceMethod yM_bestInspection ∈ WALL := mem_W 964 (by decide +kernel) rfl
theorem wV_M_bestInspection : Cond.selects "RopeThreadsModel" yM_bestInspection yM_bestInspection ∈ WALL := mem_W 965 (by decide +kernel) rfl
set_option maxRecDepth 30000 in
theorem wB_M_bestInspection : Cond.code yM_bestInspection prog_7_method_55_code 3 (some .int) ∈ WALL := mem_W 966 rfl rfl
theorem wM_M_162 : Cond.methodLink "RopeThreadsModel" 162 yM_best ∈ WALL := mem_W 967 (by decide +kernel) rfl
theorem wI_M_best : Cond.instanceMethod yM_best ∈ WALL := mem_W 969 (by decide +kernel) rfl
set_option maxRecDepth 30000 in
theorem wB_M_best : Cond.code yM_best prog_7_method_54_code 5 (some .int) ∈ WALL := mem_W 970 rfl rfl
theorem wM_M_159 : Cond.methodLink "RopeThreadsModel" 159 yM_unseenIn ∈ WALL := mem_W 971 (by decide +kernel) rfl
theorem wI_M_unseenIn : Cond.instanceMethod yM_unseenIn ∈ WALL := mem_W 973 (by decide +kernel) rfl
set_option maxRecDepth 30000 in
theorem wB_M_unseenIn : Cond.code yM_unseenIn prog_7_method_53_code 4 (some .int) ∈ WALL := mem_W 974 rfl rfl
theorem wM_L_147 : Cond.methodLink "RopeThreadsLaw" 147 yM_tripsLeft ∈ WALL := mem_W 975 (by decide +kernel) rfl
theorem wI_M_tripsLeft : Cond.instanceMethod yM_tripsLeft ∈ WALL := mem_W 976 (by decide +kernel) rfl
theorem wV_M_tripsLeft : Cond.selects "RopeThreadsModel" yM_tripsLeft yM_tripsLeft ∈ WALL := mem_W 977 (by decide +kernel) rfl
set_option maxRecDepth 30000 in
theorem wB_M_tripsLeft : Cond.code yM_tripsLeft prog_7_method_58_code 2 (some .int) ∈ WALL := mem_W 978 rfl rfl
theorem wM_M_168 : Cond.methodLink "RopeThreadsModel" 168 yM_leftFor ∈ WALL := mem_W 979 (by decide +kernel) rfl
theorem wI_M_leftFor : Cond.instanceMethod yM_leftFor ∈ WALL := mem_W 981 (by decide +kernel) rfl
set_option maxRecDepth 30000 in
theorem wB_M_leftFor : Cond.code yM_leftFor prog_7_method_57_code 5 (some .int) ∈ WALL := mem_W 982 rfl rfl
theorem wM_M_165 : Cond.methodLink "RopeThreadsModel" 165 yM_isWorn ∈ WALL := mem_W 983 (by decide +kernel) rfl
theorem wI_M_isWorn : Cond.instanceMethod yM_isWorn ∈ WALL := mem_W 985 (by decide +kernel) rfl
set_option maxRecDepth 30000 in
theorem wB_M_isWorn : Cond.code yM_isWorn prog_7_method_56_code 4 (some .boolean) ∈ WALL := mem_W 986 rfl rfl
theorem wM_L_151 : Cond.methodLink "RopeThreadsLaw" 151 yM_unseen ∈ WALL := mem_W 987 (by decide +kernel) rfl
theorem wI_M_unseen : Cond.instanceMethod yM_unseen ∈ WALL := mem_W 988 (by decide +kernel) rfl
theorem wV_M_unseen : Cond.selects "RopeThreadsModel" yM_unseen yM_unseen ∈ WALL := mem_W 989 (by decide +kernel) rfl
set_option maxRecDepth 30000 in
theorem wB_M_unseen : Cond.code yM_unseen prog_7_method_60_code 1 (some .int) ∈ WALL := mem_W 990 rfl rfl
theorem wM_M_171 : Cond.methodLink "RopeThreadsModel" 171 yM_firstUnseen ∈ WALL := mem_W 991 (by decide +kernel) rfl
theorem wI_M_firstUnseen : Cond.instanceMethod yM_firstUnseen ∈ WALL := mem_W 993 (by decide +kernel) rfl
set_option maxRecDepth 30000 in
theorem wB_M_firstUnseen : Cond.code yM_firstUnseen prog_7_method_59_code 2 (some .int) ∈ WALL := mem_W 994 rfl rfl
theorem wM_L_156 : Cond.methodLink "RopeThreadsLaw" 156 yM_countedShare ∈ WALL := mem_W 995 (by decide +kernel) rfl
theorem wI_M_countedShare : Cond.instanceMethod yM_countedShare ∈ WALL := mem_W 996 (by decide +kernel) rfl
theorem wV_M_countedShare : Cond.selects "RopeThreadsModel" yM_countedShare yM_countedShare ∈ WALL := mem_W 997 (by decide +kernel) rfl
set_option maxRecDepth 30000 in
theorem wB_M_countedShare : Cond.code yM_countedShare prog_7_method_62_code 1 (some .double) ∈ WALL := mem_W 998 rfl rfl
theorem wM_M_174 : Cond.methodLink "RopeThreadsModel" 174 yM_share ∈ WALL := mem_W 999 (by decide +kernel) rfl
theorem wI_M_share : Cond.instanceMethod yM_share ∈ WALL := mem_W 1001 (by decide +kernel) rfl
set_option maxRecDepth 30000 in
theorem wB_M_share : Cond.code yM_share prog_7_method_61_code 2 (some .double) ∈ WALL := mem_W 1002 rfl rfl
theorem wM_L_161 : Cond.methodLink "RopeThreadsLaw" 161 yM_digest ∈ WALL := mem_W 1003 (by decide +kernel) rfl
theorem wI_M_digest : Cond.instanceMethod yM_digest ∈ WALL := mem_W 1004 (by decide +kernel) rfl
theorem wV_M_digest : Cond.selects "RopeThreadsModel" yM_digest yM_digest ∈ WALL := mem_W 1005 (by decide +kernel) rfl
set_option maxRecDepth 30000 in
theorem wB_M_digest : Cond.code yM_digest prog_7_method_63_code 6 (some .long) ∈ WALL := mem_W 1006 rfl rfl
theorem wK_M_178 : Cond.constantLong "RopeThreadsModel" 178 (2677) ∈ WALL := mem_W 1007 (by decide +kernel) rfl
theorem wK_M_180 : Cond.constantLong "RopeThreadsModel" 180 (31) ∈ WALL := mem_W 1008 (by decide +kernel) rfl
theorem wM_M_182 : Cond.methodLink "RopeThreadsModel" 182 yJD_doubleToLongBits ∈ WALL := mem_W 1009 (by decide +kernel) rfl
theorem wS_JD_doubleToLongBits : Cond.static yJD_doubleToLongBits ∈ WALL := mem_W 1010 (by decide +kernel) rfl
set_option maxRecDepth 30000 in
theorem wB_JD_doubleToLongBits : Cond.code yJD_doubleToLongBits prog_8_method_23_code 2 (some .long) ∈ WALL := mem_W 1011 rfl rfl
theorem wM_JD_122 : Cond.methodLink "java/lang/Double" 122 yJD_isNaN ∈ WALL := mem_W 1012 (by decide +kernel) rfl
theorem wS_JD_isNaN : Cond.static yJD_isNaN ∈ WALL := mem_W 1013 (by decide +kernel) rfl
set_option maxRecDepth 30000 in
theorem wB_JD_isNaN : Cond.code yJD_isNaN prog_8_method_6_code 2 (some .boolean) ∈ WALL := mem_W 1014 rfl rfl
theorem wM_JD_134 : Cond.methodLink "java/lang/Double" 134 yJD_doubleToRawLongBits ∈ WALL := mem_W 1015 (by decide +kernel) rfl
theorem wS_JD_doubleToRawLongBits : Cond.static yJD_doubleToRawLongBits ∈ WALL := mem_W 1016 (by decide +kernel) rfl
theorem wX_JD_doubleToRawLongBits : Cond.native yJD_doubleToRawLongBits ∈ WALL := mem_W 1017 (by decide +kernel) rfl
theorem wK_JD_137 : Cond.constantLong "java/lang/Double" 137 (9221120237041090560) ∈ WALL := mem_W 1018 (by decide +kernel) rfl
theorem wR_1019 : Cond.arrayClass Jvm.ClassFile.FieldType.long ∈ WALL := mem_W 1019 (by decide +kernel) rfl
theorem inW_of {ws : List Cond} (ps : List Nat) (h : ws = ps.filterMap (fun i => lw_tbl[i]?)) (g : ws.all goodWord = true) : ∀ w ∈ ws, w ∈ WALL := by
  intro w hw
  have h1 := List.all_eq_true.mp g w hw
  rw [h] at hw
  obtain ⟨i, -, hi⟩ := List.mem_filterMap.mp hw
  exact mem_W i hi h1
theorem i_E : ∀ w ∈ u_ws "RopeThreads$Elevator" F_E 7, w ∈ WALL := inW_of [124, 126, 128, 130, 132, 134, 136] (by decide +kernel) (by decide +kernel)
theorem i_H : ∀ w ∈ u_ws "RopeThreads$History" F_H 3, w ∈ WALL := inW_of [152, 154, 156] (by decide +kernel) (by decide +kernel)
theorem i_R : ∀ w ∈ u_ws "RopeThreads$Rope" F_R 7, w ∈ WALL := inW_of [95, 97, 99, 101, 103, 105, 107] (by decide +kernel) (by decide +kernel)
theorem i_T : ∀ w ∈ u_ws "RopeThreads$TripText" F_T 6, w ∈ WALL := inW_of [176, 178, 180, 182, 184, 186] (by decide +kernel) (by decide +kernel)
theorem i_C : ∀ w ∈ u_ws "RopeThreads" F_C 4, w ∈ WALL := inW_of [195, 197, 199, 201] (by decide +kernel) (by decide +kernel)
theorem i_M : ∀ w ∈ u_ws "RopeThreadsModel" F_M 11, w ∈ WALL := inW_of [742, 744, 746, 748, 750, 752, 754, 756, 758, 760, 762] (by decide +kernel) (by decide +kernel)
