abbrev zw_tbl : List Cond := lw_tbl.filter goodWord
def R_La : String := "StageStepsLaw"
def R_SS : String := "StageSteps"
def R_Cr : String := "StageSteps$Creeps"
def R_Gi : String := "StageSteps$Givens"
def R_Pl : String := "StageSteps$Plan"
def R_Ru : String := "StageSteps$Rules"
def R_Se : String := "StageSteps$Search"
def R_Wa : String := "StageSteps$Walk"
def R_Mo : String := "StageStepsModel"
def R_Math : String := "java/lang/Math"
def R_Sys : String := "java/lang/System"
def R_Arr : String := "java/util/Arrays"
def R_Obj : String := "java/lang/Object"
def T_SS : u_T := fun k => match k with
  | 0 => ("StageSteps", "givens", "LStageSteps$Givens;", true)
  | 1 => ("StageSteps", "creeps", "LStageSteps$Creeps;", true)
  | 2 => ("StageSteps", "plan", "LStageSteps$Plan;", true)
  | 3 => ("StageSteps", "rules", "LStageSteps$Rules;", true)
  | 4 => ("StageSteps", "walk", "LStageSteps$Walk;", true)
  | 5 => ("StageSteps", "search", "LStageSteps$Search;", true)
  | 6 => ("StageSteps", "offsets", "[J", true)
  | 7 => ("StageSteps", "casts", "[J", true)
  | _ => ("StageSteps", "mostMillimetres", "I", false)
def t_SS : Nat → FieldType := fun k => match k with
  | 0 => .object "StageSteps$Givens"
  | 1 => .object "StageSteps$Creeps"
  | 2 => .object "StageSteps$Plan"
  | 3 => .object "StageSteps$Rules"
  | 4 => .object "StageSteps$Walk"
  | 5 => .object "StageSteps$Search"
  | 6 => .array .long
  | 7 => .array .long
  | _ => .int
theorem n_SS : ∀ a, a < 9 → ∀ b, b < 9 → a ≠ b → (T_SS a).2.1 ≠ (T_SS b).2.1 := by decide +kernel
theorem t_SS_ok : ∀ k, k < 9 → parseFieldDescriptor (T_SS k).2.2.1 = some (t_SS k) := by decide +kernel
theorem in_SS : ∀ w ∈ u_ws R_SS T_SS 9, w ∈ zw_tbl := by decide +kernel
def T_Cr : u_T := fun k => match k with
  | 0 => ("StageSteps$Creeps", "ages", "[I", true)
  | 1 => ("StageSteps$Creeps", "values", "[I", true)
  | _ => ("StageSteps$Creeps", "count", "I", false)
def t_Cr : Nat → FieldType := fun k => match k with
  | 0 => .array .int
  | 1 => .array .int
  | _ => .int
theorem n_Cr : ∀ a, a < 3 → ∀ b, b < 3 → a ≠ b → (T_Cr a).2.1 ≠ (T_Cr b).2.1 := by decide +kernel
theorem t_Cr_ok : ∀ k, k < 3 → parseFieldDescriptor (T_Cr k).2.2.1 = some (t_Cr k) := by decide +kernel
theorem in_Cr : ∀ w ∈ u_ws R_Cr T_Cr 3, w ∈ zw_tbl := by decide +kernel
def T_Gi : u_T := fun k => match k with
  | 0 => ("StageSteps$Givens", "parts", "I", true)
  | 1 => ("StageSteps$Givens", "weights", "[I", true)
  | 2 => ("StageSteps$Givens", "wanted", "[I", true)
  | 3 => ("StageSteps$Givens", "flexes", "[[I", true)
  | 4 => ("StageSteps$Givens", "shares", "[[I", true)
  | 5 => ("StageSteps$Givens", "releases", "[[I", true)
  | _ => ("StageSteps$Givens", "befores", "[I", true)
def t_Gi : Nat → FieldType := fun k => match k with
  | 0 => .int
  | 1 => .array .int
  | 2 => .array .int
  | 3 => .array (.array .int)
  | 4 => .array (.array .int)
  | 5 => .array (.array .int)
  | _ => .array .int
theorem n_Gi : ∀ a, a < 7 → ∀ b, b < 7 → a ≠ b → (T_Gi a).2.1 ≠ (T_Gi b).2.1 := by decide +kernel
theorem t_Gi_ok : ∀ k, k < 7 → parseFieldDescriptor (T_Gi k).2.2.1 = some (t_Gi k) := by decide +kernel
theorem in_Gi : ∀ w ∈ u_ws R_Gi T_Gi 7, w ∈ zw_tbl := by decide +kernel
def T_Pl : u_T := fun k => match k with
  | 0 => ("StageSteps$Plan", "days", "[I", true)
  | 1 => ("StageSteps$Plan", "kinds", "[I", true)
  | 2 => ("StageSteps$Plan", "whats", "[I", true)
  | 3 => ("StageSteps$Plan", "tonnes", "[I", true)
  | 4 => ("StageSteps$Plan", "actStages", "[I", true)
  | 5 => ("StageSteps$Plan", "row", "[I", true)
  | 6 => ("StageSteps$Plan", "addStages", "[I", true)
  | 7 => ("StageSteps$Plan", "stages", "I", false)
  | 8 => ("StageSteps$Plan", "acts", "I", false)
  | 9 => ("StageSteps$Plan", "adds", "I", false)
  | _ => ("StageSteps$Plan", "toldEnd", "I", false)
def t_Pl : Nat → FieldType := fun k => match k with
  | 0 => .array .int
  | 1 => .array .int
  | 2 => .array .int
  | 3 => .array .int
  | 4 => .array .int
  | 5 => .array .int
  | 6 => .array .int
  | 7 => .int
  | 8 => .int
  | 9 => .int
  | _ => .int
theorem n_Pl : ∀ a, a < 11 → ∀ b, b < 11 → a ≠ b → (T_Pl a).2.1 ≠ (T_Pl b).2.1 := by decide +kernel
theorem t_Pl_ok : ∀ k, k < 11 → parseFieldDescriptor (T_Pl k).2.2.1 = some (t_Pl k) := by decide +kernel
theorem in_Pl : ∀ w ∈ u_ws R_Pl T_Pl 11, w ∈ zw_tbl := by decide +kernel
def T_Ru : u_T := fun k => match k with
  | 0 => ("StageSteps$Rules", "kinds", "[I", true)
  | 1 => ("StageSteps$Rules", "ofs", "[I", true)
  | 2 => ("StageSteps$Rules", "lows", "[I", true)
  | 3 => ("StageSteps$Rules", "highs", "[I", true)
  | _ => ("StageSteps$Rules", "count", "I", false)
def t_Ru : Nat → FieldType := fun k => match k with
  | 0 => .array .int
  | 1 => .array .int
  | 2 => .array .int
  | 3 => .array .int
  | _ => .int
theorem n_Ru : ∀ a, a < 5 → ∀ b, b < 5 → a ≠ b → (T_Ru a).2.1 ≠ (T_Ru b).2.1 := by decide +kernel
theorem t_Ru_ok : ∀ k, k < 5 → parseFieldDescriptor (T_Ru k).2.2.1 = some (t_Ru k) := by decide +kernel
theorem in_Ru : ∀ w ∈ u_ws R_Ru T_Ru 5, w ∈ zw_tbl := by decide +kernel
def T_Se : u_T := fun k => match k with
  | 0 => ("StageSteps$Search", "givens", "LStageSteps$Givens;", true)
  | 1 => ("StageSteps$Search", "plan", "LStageSteps$Plan;", true)
  | 2 => ("StageSteps$Search", "walk", "LStageSteps$Walk;", true)
  | 3 => ("StageSteps$Search", "tried", "[I", true)
  | 4 => ("StageSteps$Search", "found", "[I", true)
  | 5 => ("StageSteps$Search", "foundCount", "I", false)
  | _ => ("StageSteps$Search", "least", "J", false)
def t_Se : Nat → FieldType := fun k => match k with
  | 0 => .object "StageSteps$Givens"
  | 1 => .object "StageSteps$Plan"
  | 2 => .object "StageSteps$Walk"
  | 3 => .array .int
  | 4 => .array .int
  | 5 => .int
  | _ => .long
theorem n_Se : ∀ a, a < 7 → ∀ b, b < 7 → a ≠ b → (T_Se a).2.1 ≠ (T_Se b).2.1 := by decide +kernel
theorem t_Se_ok : ∀ k, k < 7 → parseFieldDescriptor (T_Se k).2.2.1 = some (t_Se k) := by decide +kernel
theorem in_Se : ∀ w ∈ u_ws R_Se T_Se 7, w ∈ zw_tbl := by decide +kernel
def T_Wa : u_T := fun k => match k with
  | 0 => ("StageSteps$Walk", "givens", "LStageSteps$Givens;", true)
  | 1 => ("StageSteps$Walk", "creeps", "LStageSteps$Creeps;", true)
  | 2 => ("StageSteps$Walk", "plan", "LStageSteps$Plan;", true)
  | 3 => ("StageSteps$Walk", "rises", "[J", true)
  | 4 => ("StageSteps$Walk", "carried", "[J", true)
  | 5 => ("StageSteps$Walk", "addedIn", "[I", true)
  | 6 => ("StageSteps$Walk", "creepTo", "[I", true)
  | 7 => ("StageSteps$Walk", "creepFrom", "[[I", true)
  | 8 => ("StageSteps$Walk", "lastStage", "I", false)
  | 9 => ("StageSteps$Walk", "there", "I", false)
  | _ => ("StageSteps$Walk", "on", "I", false)
def t_Wa : Nat → FieldType := fun k => match k with
  | 0 => .object "StageSteps$Givens"
  | 1 => .object "StageSteps$Creeps"
  | 2 => .object "StageSteps$Plan"
  | 3 => .array .long
  | 4 => .array .long
  | 5 => .array .int
  | 6 => .array .int
  | 7 => .array (.array .int)
  | 8 => .int
  | 9 => .int
  | _ => .int
theorem n_Wa : ∀ a, a < 11 → ∀ b, b < 11 → a ≠ b → (T_Wa a).2.1 ≠ (T_Wa b).2.1 := by decide +kernel
theorem t_Wa_ok : ∀ k, k < 11 → parseFieldDescriptor (T_Wa k).2.2.1 = some (t_Wa k) := by decide +kernel
theorem in_Wa : ∀ w ∈ u_ws R_Wa T_Wa 11, w ∈ zw_tbl := by decide +kernel
def T_Mo : u_T := fun k => match k with
  | 0 => ("StageStepsModel", "parts", "I", true)
  | 1 => ("StageStepsModel", "weights", "[I", true)
  | 2 => ("StageStepsModel", "wanted", "[I", true)
  | 3 => ("StageStepsModel", "flexes", "[I", true)
  | 4 => ("StageStepsModel", "shares", "[I", true)
  | 5 => ("StageStepsModel", "releases", "[I", true)
  | 6 => ("StageStepsModel", "ages", "[I", true)
  | 7 => ("StageStepsModel", "creeps", "[I", true)
  | 8 => ("StageStepsModel", "creepCount", "I", false)
  | 9 => ("StageStepsModel", "afters", "[Z", true)
  | 10 => ("StageStepsModel", "days", "[I", true)
  | 11 => ("StageStepsModel", "stages", "I", false)
  | 12 => ("StageStepsModel", "kinds", "[I", true)
  | 13 => ("StageStepsModel", "which", "[I", true)
  | 14 => ("StageStepsModel", "tonnes", "[I", true)
  | 15 => ("StageStepsModel", "stageOf", "[I", true)
  | 16 => ("StageStepsModel", "acts", "I", false)
  | 17 => ("StageStepsModel", "offsets", "[J", true)
  | 18 => ("StageStepsModel", "toldEnd", "I", false)
  | 19 => ("StageStepsModel", "most", "I", false)
  | 20 => ("StageStepsModel", "ruleKinds", "[I", true)
  | 21 => ("StageStepsModel", "ruleOf", "[I", true)
  | 22 => ("StageStepsModel", "lows", "[I", true)
  | 23 => ("StageStepsModel", "highs", "[I", true)
  | 24 => ("StageStepsModel", "rules", "I", false)
  | 25 => ("StageStepsModel", "order", "[I", true)
  | 26 => ("StageStepsModel", "orderSize", "I", false)
  | 27 => ("StageStepsModel", "taken", "[I", true)
  | 28 => ("StageStepsModel", "takenSize", "I", false)
  | 29 => ("StageStepsModel", "gains", "[J", true)
  | 30 => ("StageStepsModel", "addedBy", "[I", true)
  | 31 => ("StageStepsModel", "carried", "[J", true)
  | 32 => ("StageStepsModel", "on", "[Z", true)
  | 33 => ("StageStepsModel", "carry", "[J", true)
  | 34 => ("StageStepsModel", "row", "[I", true)
  | _ => ("StageStepsModel", "used", "[Z", true)
def t_Mo : Nat → FieldType := fun k => match k with
  | 0 => .int
  | 1 => .array .int
  | 2 => .array .int
  | 3 => .array .int
  | 4 => .array .int
  | 5 => .array .int
  | 6 => .array .int
  | 7 => .array .int
  | 8 => .int
  | 9 => .array .boolean
  | 10 => .array .int
  | 11 => .int
  | 12 => .array .int
  | 13 => .array .int
  | 14 => .array .int
  | 15 => .array .int
  | 16 => .int
  | 17 => .array .long
  | 18 => .int
  | 19 => .int
  | 20 => .array .int
  | 21 => .array .int
  | 22 => .array .int
  | 23 => .array .int
  | 24 => .int
  | 25 => .array .int
  | 26 => .int
  | 27 => .array .int
  | 28 => .int
  | 29 => .array .long
  | 30 => .array .int
  | 31 => .array .long
  | 32 => .array .boolean
  | 33 => .array .long
  | 34 => .array .int
  | _ => .array .boolean
theorem n_Mo : ∀ a, a < 36 → ∀ b, b < 36 → a ≠ b → (T_Mo a).2.1 ≠ (T_Mo b).2.1 := by decide +kernel
theorem t_Mo_ok : ∀ k, k < 36 → parseFieldDescriptor (T_Mo k).2.2.1 = some (t_Mo k) := by decide +kernel
theorem in_Mo : ∀ w ∈ u_ws R_Mo T_Mo 36, w ∈ zw_tbl := by decide +kernel
abbrev vwCl : List vw_C := [(R_SS, T_SS, 9), (R_Cr, T_Cr, 3), (R_Gi, T_Gi, 7), (R_Pl, T_Pl, 11), (R_Ru, T_Ru, 5), (R_Se, T_Se, 7), (R_Wa, T_Wa, 11), (R_Mo, T_Mo, 36)]
def y_Obj_init : MethodName := ⟨"java/lang/Object", "<init>", "()V"⟩
def y_SS_init : MethodName := ⟨R_SS, "<init>", "(I)V"⟩
def y_SS_part : MethodName := ⟨R_SS, "part", "(III)Z"⟩
def y_SS_flex : MethodName := ⟨R_SS, "flex", "(IIII)Z"⟩
def y_SS_share : MethodName := ⟨R_SS, "share", "(III)Z"⟩
def y_SS_release : MethodName := ⟨R_SS, "release", "(III)Z"⟩
def y_SS_creep : MethodName := ⟨R_SS, "creep", "(II)Z"⟩
def y_SS_after : MethodName := ⟨R_SS, "after", "(II)Z"⟩
def y_SS_stage : MethodName := ⟨R_SS, "stage", "(I)J"⟩
def y_SS_add : MethodName := ⟨R_SS, "add", "(I)Z"⟩
def y_SS_load : MethodName := ⟨R_SS, "load", "(II)Z"⟩
def y_SS_support : MethodName := ⟨R_SS, "support", "(IZ)Z"⟩
def y_SS_end : MethodName := ⟨R_SS, "end", "(I)Z"⟩
def y_SS_level : MethodName := ⟨R_SS, "level", "(II)J"⟩
def y_SS_of : MethodName := ⟨R_SS, "of", "(II)J"⟩
def y_SS_carries : MethodName := ⟨R_SS, "carries", "(II)J"⟩
def y_SS_survey : MethodName := ⟨R_SS, "survey", "(III)J"⟩
def y_SS_most : MethodName := ⟨R_SS, "most", "(I)Z"⟩
def y_SS_rule : MethodName := ⟨R_SS, "rule", "(IIII)J"⟩
def y_SS_broken : MethodName := ⟨R_SS, "broken", "(I)J"⟩
def y_SS_shift : MethodName := ⟨R_SS, "shift", "(II)Z"⟩
def y_SS_redo : MethodName := ⟨R_SS, "redo", "(I)J"⟩
def y_SS_best : MethodName := ⟨R_SS, "best", "()J"⟩
def y_SS_order : MethodName := ⟨R_SS, "order", "(I)J"⟩
def y_SS_told : MethodName := ⟨R_SS, "told", "(I)J"⟩
def y_SS_check : MethodName := ⟨R_SS, "check", "()I"⟩
def y_SS_within : MethodName := ⟨R_SS, "within", "(III)Z"⟩
def y_SS_isFactor : MethodName := ⟨R_SS, "isFactor", "(I)Z"⟩
def y_SS_isSupport : MethodName := ⟨R_SS, "isSupport", "(I)Z"⟩
def y_SS_hasBit : MethodName := ⟨R_SS, "hasBit", "(II)Z"⟩
def y_SS_isThere : MethodName := ⟨R_SS, "isThere", "(II)Z"⟩
def y_SS_isRuled : MethodName := ⟨R_SS, "isRuled", "(II)Z"⟩
def y_SS_castAll : MethodName := ⟨R_SS, "castAll", "()V"⟩
def y_SS_walkTo : MethodName := ⟨R_SS, "walkTo", "(I)V"⟩
def y_SS_levelThen : MethodName := ⟨R_SS, "levelThen", "(II)J"⟩
def y_SS_heightNow : MethodName := ⟨R_SS, "heightNow", "(I)J"⟩
def y_SS_spread : MethodName := ⟨R_SS, "spread", "(JI)V"⟩
def y_SS_towardsZero : MethodName := ⟨R_SS, "towardsZero", "(JJ)J"⟩
def y_SS_firstBroken : MethodName := ⟨R_SS, "firstBroken", "(I)I"⟩
def y_SS_isBroken : MethodName := ⟨R_SS, "isBroken", "(II)Z"⟩
def y_Mo_init : MethodName := ⟨R_Mo, "<init>", "(I)V"⟩
def y_Mo_in : MethodName := ⟨R_Mo, "in", "(JJJ)Z"⟩
def y_Mo_isPart : MethodName := ⟨R_Mo, "isPart", "(I)Z"⟩
def y_Mo_isStage : MethodName := ⟨R_Mo, "isStage", "(I)Z"⟩
def y_Mo_part : MethodName := ⟨R_Mo, "part", "(III)Z"⟩
def y_Mo_flex : MethodName := ⟨R_Mo, "flex", "(IIII)Z"⟩
def y_Mo_share : MethodName := ⟨R_Mo, "share", "(III)Z"⟩
def y_Mo_release : MethodName := ⟨R_Mo, "release", "(III)Z"⟩
def y_Mo_creep : MethodName := ⟨R_Mo, "creep", "(II)Z"⟩
def y_Mo_comesAfter : MethodName := ⟨R_Mo, "comesAfter", "(II)Z"⟩
def y_Mo_actOf : MethodName := ⟨R_Mo, "actOf", "(I)I"⟩
def y_Mo_after : MethodName := ⟨R_Mo, "after", "(II)Z"⟩
def y_Mo_lastDay : MethodName := ⟨R_Mo, "lastDay", "()I"⟩
def y_Mo_lookAtEnd : MethodName := ⟨R_Mo, "lookAtEnd", "()V"⟩
def y_Mo_endDay : MethodName := ⟨R_Mo, "endDay", "()I"⟩
def y_Mo_stage : MethodName := ⟨R_Mo, "stage", "(I)J"⟩
def y_Mo_put : MethodName := ⟨R_Mo, "put", "(III)V"⟩
def y_Mo_mayPut : MethodName := ⟨R_Mo, "mayPut", "()Z"⟩
def y_Mo_add : MethodName := ⟨R_Mo, "add", "(I)Z"⟩
def y_Mo_load : MethodName := ⟨R_Mo, "load", "(II)Z"⟩
def y_Mo_isOn : MethodName := ⟨R_Mo, "isOn", "(I)Z"⟩
def y_Mo_support : MethodName := ⟨R_Mo, "support", "(IZ)Z"⟩
def y_Mo_end : MethodName := ⟨R_Mo, "end", "(I)Z"⟩
def y_Mo_creepAt : MethodName := ⟨R_Mo, "creepAt", "(I)I"⟩
def y_Mo_takePlan : MethodName := ⟨R_Mo, "takePlan", "()V"⟩
def y_Mo_loadOn : MethodName := ⟨R_Mo, "loadOn", "(IIJ)V"⟩
def y_Mo_pass : MethodName := ⟨R_Mo, "pass", "()V"⟩
def y_Mo_dayOf : MethodName := ⟨R_Mo, "dayOf", "(I)I"⟩
def y_Mo_rise : MethodName := ⟨R_Mo, "rise", "(III)J"⟩
def y_Mo_camber : MethodName := ⟨R_Mo, "camber", "(I)J"⟩
def y_Mo_cast : MethodName := ⟨R_Mo, "cast", "(I)J"⟩
def y_Mo_passPlan : MethodName := ⟨R_Mo, "passPlan", "()V"⟩
def y_Mo_isThere : MethodName := ⟨R_Mo, "isThere", "(II)Z"⟩
def y_Mo_levelAt : MethodName := ⟨R_Mo, "levelAt", "(II)J"⟩
def y_Mo_level : MethodName := ⟨R_Mo, "level", "(II)J"⟩
def y_Mo_of : MethodName := ⟨R_Mo, "of", "(II)J"⟩
def y_Mo_carriedAt : MethodName := ⟨R_Mo, "carriedAt", "(II)J"⟩
def y_Mo_carries : MethodName := ⟨R_Mo, "carries", "(II)J"⟩
def y_Mo_survey : MethodName := ⟨R_Mo, "survey", "(III)J"⟩
def y_Mo_most : MethodName := ⟨R_Mo, "most", "(I)Z"⟩
def y_Mo_rule : MethodName := ⟨R_Mo, "rule", "(IIII)J"⟩
def y_Mo_holds : MethodName := ⟨R_Mo, "holds", "(II)Z"⟩
def y_Mo_broken : MethodName := ⟨R_Mo, "broken", "(I)J"⟩
def y_Mo_shift : MethodName := ⟨R_Mo, "shift", "(II)Z"⟩
def y_Mo_redo : MethodName := ⟨R_Mo, "redo", "(I)J"⟩
def y_Mo_isAllowed : MethodName := ⟨R_Mo, "isAllowed", "()Z"⟩
def y_Mo_nextRow : MethodName := ⟨R_Mo, "nextRow", "()Z"⟩
def y_Mo_greatest : MethodName := ⟨R_Mo, "greatest", "()J"⟩
def y_Mo_best : MethodName := ⟨R_Mo, "best", "()J"⟩
def y_Mo_order : MethodName := ⟨R_Mo, "order", "(I)J"⟩
def y_Mo_told : MethodName := ⟨R_Mo, "told", "(I)J"⟩
def y_Mo_check : MethodName := ⟨R_Mo, "check", "()I"⟩
def y_Cr_init : MethodName := ⟨R_Cr, "<init>", "()V"⟩
def y_Cr_tell : MethodName := ⟨R_Cr, "tell", "(II)Z"⟩
def y_Cr_at : MethodName := ⟨R_Cr, "at", "(I)I"⟩
def y_Gi_init : MethodName := ⟨R_Gi, "<init>", "(I)V"⟩
def y_Gi_hasPart : MethodName := ⟨R_Gi, "hasPart", "(I)Z"⟩
def y_Gi_mustFollow : MethodName := ⟨R_Gi, "mustFollow", "(II)Z"⟩
def y_Gi_mayFollow : MethodName := ⟨R_Gi, "mayFollow", "(II)Z"⟩
def y_Gi_follow : MethodName := ⟨R_Gi, "follow", "(II)V"⟩
def y_Pl_init : MethodName := ⟨R_Pl, "<init>", "()V"⟩
def y_Pl_hasStage : MethodName := ⟨R_Pl, "hasStage", "(I)Z"⟩
def y_Pl_hasRoom : MethodName := ⟨R_Pl, "hasRoom", "()Z"⟩
def y_Pl_lastDay : MethodName := ⟨R_Pl, "lastDay", "()I"⟩
def y_Pl_endDay : MethodName := ⟨R_Pl, "endDay", "()I"⟩
def y_Pl_takesStage : MethodName := ⟨R_Pl, "takesStage", "(I)Z"⟩
def y_Pl_openStage : MethodName := ⟨R_Pl, "openStage", "(I)I"⟩
def y_Pl_takesPart : MethodName := ⟨R_Pl, "takesPart", "(I)Z"⟩
def y_Pl_putPart : MethodName := ⟨R_Pl, "putPart", "(I)V"⟩
def y_Pl_putAct : MethodName := ⟨R_Pl, "putAct", "(III)V"⟩
def y_Pl_placeOf : MethodName := ⟨R_Pl, "placeOf", "(I)I"⟩
def y_Pl_stageOf : MethodName := ⟨R_Pl, "stageOf", "(I)I"⟩
def y_Pl_partBits : MethodName := ⟨R_Pl, "partBits", "()I"⟩
def y_Pl_onBits : MethodName := ⟨R_Pl, "onBits", "()I"⟩
def y_Pl_canMove : MethodName := ⟨R_Pl, "canMove", "(II)Z"⟩
def y_Pl_move : MethodName := ⟨R_Pl, "move", "(II)V"⟩
def y_Pl_cutFrom : MethodName := ⟨R_Pl, "cutFrom", "(I)I"⟩
def y_Pl_forgetPassedEnd : MethodName := ⟨R_Pl, "forgetPassedEnd", "()V"⟩
def y_Ru_init : MethodName := ⟨R_Ru, "<init>", "()V"⟩
def y_Ru_put : MethodName := ⟨R_Ru, "put", "(IIII)I"⟩
def y_Ru_allows : MethodName := ⟨R_Ru, "allows", "(IJJ)Z"⟩
def y_Se_init : MethodName := ⟨R_Se, "<init>", "(LStageSteps$Givens;LStageSteps$Plan;LStageSteps$Walk;)V"⟩
def y_Se_leastGreatest : MethodName := ⟨R_Se, "leastGreatest", "()J"⟩
def y_Se_tryFrom : MethodName := ⟨R_Se, "tryFrom", "(III)V"⟩
def y_Se_keepIfLess : MethodName := ⟨R_Se, "keepIfLess", "(J)V"⟩
def y_Wa_init : MethodName := ⟨R_Wa, "<init>", "(LStageSteps$Givens;LStageSteps$Creeps;LStageSteps$Plan;)V"⟩
def y_Wa_aim : MethodName := ⟨R_Wa, "aim", "(II)V"⟩
def y_Wa_go : MethodName := ⟨R_Wa, "go", "([I)Z"⟩
def y_Wa_greatestSize : MethodName := ⟨R_Wa, "greatestSize", "()J"⟩
def y_Wa_begin : MethodName := ⟨R_Wa, "begin", "([I)V"⟩
def y_Wa_press : MethodName := ⟨R_Wa, "press", "(III)V"⟩
def y_Wa_letGo : MethodName := ⟨R_Wa, "letGo", "(II)V"⟩
def y_Wa_lift : MethodName := ⟨R_Wa, "lift", "(IIJ)V"⟩
def y_La_cell : MethodName := ⟨R_La, "cell", "([II)I"⟩
def y_Arr_fill_i : MethodName := ⟨R_Arr, "fill", "([II)V"⟩
def y_Arr_fill_l : MethodName := ⟨R_Arr, "fill", "([JJ)V"⟩
def y_Math_absl : MethodName := ⟨R_Math, "abs", "(J)J"⟩
def y_Math_maxi : MethodName := ⟨R_Math, "max", "(II)I"⟩
def y_Math_maxl : MethodName := ⟨R_Math, "max", "(JJ)J"⟩
def y_Math_mini : MethodName := ⟨R_Math, "min", "(II)I"⟩
def y_Math_minl : MethodName := ⟨R_Math, "min", "(JJ)J"⟩
def y_Sys_arraycopy : MethodName := ⟨R_Sys, "arraycopy", "(Ljava/lang/Object;ILjava/lang/Object;II)V"⟩
abbrev b_SS_init : ByteArray := prog_1_method_1_code
abbrev ws_SS_init : List Cond := .code y_SS_init b_SS_init 2 (Option.none : Option FieldType) :: zw_tbl
theorem hd_SS_init : y_SS_init.cls = R_SS ∧ y_SS_init.cls ≠ "java/lang/invoke/MethodHandle" ∧ y_SS_init.cls ≠ "java/lang/invoke/VarHandle" ∧ (parseMethodDescriptor y_SS_init.desc).map (fun d => d.parameters.length) = some 1 := by decide +kernel
abbrev b_SS_part : ByteArray := prog_1_method_2_code
abbrev ws_SS_part : List Cond := .code y_SS_part b_SS_part 4 (Option.some FieldType.boolean) :: zw_tbl
theorem hd_SS_part : y_SS_part.cls = R_SS ∧ y_SS_part.cls ≠ "java/lang/invoke/MethodHandle" ∧ y_SS_part.cls ≠ "java/lang/invoke/VarHandle" ∧ (parseMethodDescriptor y_SS_part.desc).map (fun d => d.parameters.length) = some 3 := by decide +kernel
abbrev b_SS_flex : ByteArray := prog_1_method_3_code
abbrev ws_SS_flex : List Cond := .code y_SS_flex b_SS_flex 5 (Option.some FieldType.boolean) :: zw_tbl
theorem hd_SS_flex : y_SS_flex.cls = R_SS ∧ y_SS_flex.cls ≠ "java/lang/invoke/MethodHandle" ∧ y_SS_flex.cls ≠ "java/lang/invoke/VarHandle" ∧ (parseMethodDescriptor y_SS_flex.desc).map (fun d => d.parameters.length) = some 4 := by decide +kernel
abbrev b_SS_share : ByteArray := prog_1_method_4_code
abbrev ws_SS_share : List Cond := .code y_SS_share b_SS_share 4 (Option.some FieldType.boolean) :: zw_tbl
theorem hd_SS_share : y_SS_share.cls = R_SS ∧ y_SS_share.cls ≠ "java/lang/invoke/MethodHandle" ∧ y_SS_share.cls ≠ "java/lang/invoke/VarHandle" ∧ (parseMethodDescriptor y_SS_share.desc).map (fun d => d.parameters.length) = some 3 := by decide +kernel
abbrev b_SS_release : ByteArray := prog_1_method_5_code
abbrev ws_SS_release : List Cond := .code y_SS_release b_SS_release 4 (Option.some FieldType.boolean) :: zw_tbl
theorem hd_SS_release : y_SS_release.cls = R_SS ∧ y_SS_release.cls ≠ "java/lang/invoke/MethodHandle" ∧ y_SS_release.cls ≠ "java/lang/invoke/VarHandle" ∧ (parseMethodDescriptor y_SS_release.desc).map (fun d => d.parameters.length) = some 3 := by decide +kernel
abbrev b_SS_creep : ByteArray := prog_1_method_6_code
abbrev ws_SS_creep : List Cond := .code y_SS_creep b_SS_creep 3 (Option.some FieldType.boolean) :: zw_tbl
theorem hd_SS_creep : y_SS_creep.cls = R_SS ∧ y_SS_creep.cls ≠ "java/lang/invoke/MethodHandle" ∧ y_SS_creep.cls ≠ "java/lang/invoke/VarHandle" ∧ (parseMethodDescriptor y_SS_creep.desc).map (fun d => d.parameters.length) = some 2 := by decide +kernel
abbrev b_SS_after : ByteArray := prog_1_method_7_code
abbrev ws_SS_after : List Cond := .code y_SS_after b_SS_after 5 (Option.some FieldType.boolean) :: zw_tbl
theorem hd_SS_after : y_SS_after.cls = R_SS ∧ y_SS_after.cls ≠ "java/lang/invoke/MethodHandle" ∧ y_SS_after.cls ≠ "java/lang/invoke/VarHandle" ∧ (parseMethodDescriptor y_SS_after.desc).map (fun d => d.parameters.length) = some 2 := by decide +kernel
abbrev b_SS_stage : ByteArray := prog_1_method_8_code
abbrev ws_SS_stage : List Cond := .code y_SS_stage b_SS_stage 2 (Option.some FieldType.long) :: zw_tbl
theorem hd_SS_stage : y_SS_stage.cls = R_SS ∧ y_SS_stage.cls ≠ "java/lang/invoke/MethodHandle" ∧ y_SS_stage.cls ≠ "java/lang/invoke/VarHandle" ∧ (parseMethodDescriptor y_SS_stage.desc).map (fun d => d.parameters.length) = some 1 := by decide +kernel
abbrev b_SS_add : ByteArray := prog_1_method_9_code
abbrev ws_SS_add : List Cond := .code y_SS_add b_SS_add 2 (Option.some FieldType.boolean) :: zw_tbl
theorem hd_SS_add : y_SS_add.cls = R_SS ∧ y_SS_add.cls ≠ "java/lang/invoke/MethodHandle" ∧ y_SS_add.cls ≠ "java/lang/invoke/VarHandle" ∧ (parseMethodDescriptor y_SS_add.desc).map (fun d => d.parameters.length) = some 1 := by decide +kernel
abbrev b_SS_load : ByteArray := prog_1_method_10_code
abbrev ws_SS_load : List Cond := .code y_SS_load b_SS_load 3 (Option.some FieldType.boolean) :: zw_tbl
theorem hd_SS_load : y_SS_load.cls = R_SS ∧ y_SS_load.cls ≠ "java/lang/invoke/MethodHandle" ∧ y_SS_load.cls ≠ "java/lang/invoke/VarHandle" ∧ (parseMethodDescriptor y_SS_load.desc).map (fun d => d.parameters.length) = some 2 := by decide +kernel
abbrev b_SS_support : ByteArray := prog_1_method_11_code
abbrev ws_SS_support : List Cond := .code y_SS_support b_SS_support 3 (Option.some FieldType.boolean) :: zw_tbl
theorem hd_SS_support : y_SS_support.cls = R_SS ∧ y_SS_support.cls ≠ "java/lang/invoke/MethodHandle" ∧ y_SS_support.cls ≠ "java/lang/invoke/VarHandle" ∧ (parseMethodDescriptor y_SS_support.desc).map (fun d => d.parameters.length) = some 2 := by decide +kernel
abbrev b_SS_end : ByteArray := prog_1_method_12_code
abbrev ws_SS_end : List Cond := .code y_SS_end b_SS_end 2 (Option.some FieldType.boolean) :: zw_tbl
theorem hd_SS_end : y_SS_end.cls = R_SS ∧ y_SS_end.cls ≠ "java/lang/invoke/MethodHandle" ∧ y_SS_end.cls ≠ "java/lang/invoke/VarHandle" ∧ (parseMethodDescriptor y_SS_end.desc).map (fun d => d.parameters.length) = some 1 := by decide +kernel
abbrev b_SS_level : ByteArray := prog_1_method_13_code
abbrev ws_SS_level : List Cond := .code y_SS_level b_SS_level 3 (Option.some FieldType.long) :: zw_tbl
theorem hd_SS_level : y_SS_level.cls = R_SS ∧ y_SS_level.cls ≠ "java/lang/invoke/MethodHandle" ∧ y_SS_level.cls ≠ "java/lang/invoke/VarHandle" ∧ (parseMethodDescriptor y_SS_level.desc).map (fun d => d.parameters.length) = some 2 := by decide +kernel
abbrev b_SS_of : ByteArray := prog_1_method_14_code
abbrev ws_SS_of : List Cond := .code y_SS_of b_SS_of 3 (Option.some FieldType.long) :: zw_tbl
theorem hd_SS_of : y_SS_of.cls = R_SS ∧ y_SS_of.cls ≠ "java/lang/invoke/MethodHandle" ∧ y_SS_of.cls ≠ "java/lang/invoke/VarHandle" ∧ (parseMethodDescriptor y_SS_of.desc).map (fun d => d.parameters.length) = some 2 := by decide +kernel
abbrev b_SS_carries : ByteArray := prog_1_method_15_code
abbrev ws_SS_carries : List Cond := .code y_SS_carries b_SS_carries 3 (Option.some FieldType.long) :: zw_tbl
theorem hd_SS_carries : y_SS_carries.cls = R_SS ∧ y_SS_carries.cls ≠ "java/lang/invoke/MethodHandle" ∧ y_SS_carries.cls ≠ "java/lang/invoke/VarHandle" ∧ (parseMethodDescriptor y_SS_carries.desc).map (fun d => d.parameters.length) = some 2 := by decide +kernel
abbrev b_SS_survey : ByteArray := prog_1_method_16_code
abbrev ws_SS_survey : List Cond := .code y_SS_survey b_SS_survey 6 (Option.some FieldType.long) :: zw_tbl
theorem hd_SS_survey : y_SS_survey.cls = R_SS ∧ y_SS_survey.cls ≠ "java/lang/invoke/MethodHandle" ∧ y_SS_survey.cls ≠ "java/lang/invoke/VarHandle" ∧ (parseMethodDescriptor y_SS_survey.desc).map (fun d => d.parameters.length) = some 3 := by decide +kernel
abbrev b_SS_most : ByteArray := prog_1_method_17_code
abbrev ws_SS_most : List Cond := .code y_SS_most b_SS_most 2 (Option.some FieldType.boolean) :: zw_tbl
theorem hd_SS_most : y_SS_most.cls = R_SS ∧ y_SS_most.cls ≠ "java/lang/invoke/MethodHandle" ∧ y_SS_most.cls ≠ "java/lang/invoke/VarHandle" ∧ (parseMethodDescriptor y_SS_most.desc).map (fun d => d.parameters.length) = some 1 := by decide +kernel
abbrev b_SS_rule : ByteArray := prog_1_method_18_code
abbrev ws_SS_rule : List Cond := .code y_SS_rule b_SS_rule 5 (Option.some FieldType.long) :: zw_tbl
theorem hd_SS_rule : y_SS_rule.cls = R_SS ∧ y_SS_rule.cls ≠ "java/lang/invoke/MethodHandle" ∧ y_SS_rule.cls ≠ "java/lang/invoke/VarHandle" ∧ (parseMethodDescriptor y_SS_rule.desc).map (fun d => d.parameters.length) = some 4 := by decide +kernel
abbrev b_SS_broken : ByteArray := prog_1_method_19_code
abbrev ws_SS_broken : List Cond := .code y_SS_broken b_SS_broken 4 (Option.some FieldType.long) :: zw_tbl
theorem hd_SS_broken : y_SS_broken.cls = R_SS ∧ y_SS_broken.cls ≠ "java/lang/invoke/MethodHandle" ∧ y_SS_broken.cls ≠ "java/lang/invoke/VarHandle" ∧ (parseMethodDescriptor y_SS_broken.desc).map (fun d => d.parameters.length) = some 1 := by decide +kernel
abbrev b_SS_shift : ByteArray := prog_1_method_20_code
abbrev ws_SS_shift : List Cond := .code y_SS_shift b_SS_shift 3 (Option.some FieldType.boolean) :: zw_tbl
theorem hd_SS_shift : y_SS_shift.cls = R_SS ∧ y_SS_shift.cls ≠ "java/lang/invoke/MethodHandle" ∧ y_SS_shift.cls ≠ "java/lang/invoke/VarHandle" ∧ (parseMethodDescriptor y_SS_shift.desc).map (fun d => d.parameters.length) = some 2 := by decide +kernel
abbrev b_SS_redo : ByteArray := prog_1_method_21_code
abbrev ws_SS_redo : List Cond := .code y_SS_redo b_SS_redo 3 (Option.some FieldType.long) :: zw_tbl
theorem hd_SS_redo : y_SS_redo.cls = R_SS ∧ y_SS_redo.cls ≠ "java/lang/invoke/MethodHandle" ∧ y_SS_redo.cls ≠ "java/lang/invoke/VarHandle" ∧ (parseMethodDescriptor y_SS_redo.desc).map (fun d => d.parameters.length) = some 1 := by decide +kernel
abbrev b_SS_best : ByteArray := prog_1_method_22_code
abbrev ws_SS_best : List Cond := .code y_SS_best b_SS_best 1 (Option.some FieldType.long) :: zw_tbl
theorem hd_SS_best : y_SS_best.cls = R_SS ∧ y_SS_best.cls ≠ "java/lang/invoke/MethodHandle" ∧ y_SS_best.cls ≠ "java/lang/invoke/VarHandle" ∧ (parseMethodDescriptor y_SS_best.desc).map (fun d => d.parameters.length) = some 0 := by decide +kernel
abbrev b_SS_order : ByteArray := prog_1_method_23_code
abbrev ws_SS_order : List Cond := .code y_SS_order b_SS_order 2 (Option.some FieldType.long) :: zw_tbl
theorem hd_SS_order : y_SS_order.cls = R_SS ∧ y_SS_order.cls ≠ "java/lang/invoke/MethodHandle" ∧ y_SS_order.cls ≠ "java/lang/invoke/VarHandle" ∧ (parseMethodDescriptor y_SS_order.desc).map (fun d => d.parameters.length) = some 1 := by decide +kernel
abbrev b_SS_told : ByteArray := prog_1_method_24_code
abbrev ws_SS_told : List Cond := .code y_SS_told b_SS_told 2 (Option.some FieldType.long) :: zw_tbl
theorem hd_SS_told : y_SS_told.cls = R_SS ∧ y_SS_told.cls ≠ "java/lang/invoke/MethodHandle" ∧ y_SS_told.cls ≠ "java/lang/invoke/VarHandle" ∧ (parseMethodDescriptor y_SS_told.desc).map (fun d => d.parameters.length) = some 1 := by decide +kernel
abbrev b_SS_check : ByteArray := prog_1_method_25_code
abbrev ws_SS_check : List Cond := .code y_SS_check b_SS_check 4 (Option.some FieldType.int) :: zw_tbl
theorem hd_SS_check : y_SS_check.cls = R_SS ∧ y_SS_check.cls ≠ "java/lang/invoke/MethodHandle" ∧ y_SS_check.cls ≠ "java/lang/invoke/VarHandle" ∧ (parseMethodDescriptor y_SS_check.desc).map (fun d => d.parameters.length) = some 0 := by decide +kernel
abbrev b_SS_within : ByteArray := prog_1_method_26_code
abbrev ws_SS_within : List Cond := .code y_SS_within b_SS_within 3 (Option.some FieldType.boolean) :: zw_tbl
theorem hd_SS_within : y_SS_within.cls = R_SS ∧ y_SS_within.cls ≠ "java/lang/invoke/MethodHandle" ∧ y_SS_within.cls ≠ "java/lang/invoke/VarHandle" ∧ (parseMethodDescriptor y_SS_within.desc).map (fun d => d.parameters.length) = some 3 := by decide +kernel
abbrev b_SS_isFactor : ByteArray := prog_1_method_27_code
abbrev ws_SS_isFactor : List Cond := .code y_SS_isFactor b_SS_isFactor 1 (Option.some FieldType.boolean) :: zw_tbl
theorem hd_SS_isFactor : y_SS_isFactor.cls = R_SS ∧ y_SS_isFactor.cls ≠ "java/lang/invoke/MethodHandle" ∧ y_SS_isFactor.cls ≠ "java/lang/invoke/VarHandle" ∧ (parseMethodDescriptor y_SS_isFactor.desc).map (fun d => d.parameters.length) = some 1 := by decide +kernel
abbrev b_SS_isSupport : ByteArray := prog_1_method_28_code
abbrev ws_SS_isSupport : List Cond := .code y_SS_isSupport b_SS_isSupport 1 (Option.some FieldType.boolean) :: zw_tbl
theorem hd_SS_isSupport : y_SS_isSupport.cls = R_SS ∧ y_SS_isSupport.cls ≠ "java/lang/invoke/MethodHandle" ∧ y_SS_isSupport.cls ≠ "java/lang/invoke/VarHandle" ∧ (parseMethodDescriptor y_SS_isSupport.desc).map (fun d => d.parameters.length) = some 1 := by decide +kernel
abbrev b_SS_hasBit : ByteArray := prog_1_method_29_code
abbrev ws_SS_hasBit : List Cond := .code y_SS_hasBit b_SS_hasBit 2 (Option.some FieldType.boolean) :: zw_tbl
theorem hd_SS_hasBit : y_SS_hasBit.cls = R_SS ∧ y_SS_hasBit.cls ≠ "java/lang/invoke/MethodHandle" ∧ y_SS_hasBit.cls ≠ "java/lang/invoke/VarHandle" ∧ (parseMethodDescriptor y_SS_hasBit.desc).map (fun d => d.parameters.length) = some 2 := by decide +kernel
abbrev b_SS_isThere : ByteArray := prog_1_method_30_code
abbrev ws_SS_isThere : List Cond := .code y_SS_isThere b_SS_isThere 4 (Option.some FieldType.boolean) :: zw_tbl
theorem hd_SS_isThere : y_SS_isThere.cls = R_SS ∧ y_SS_isThere.cls ≠ "java/lang/invoke/MethodHandle" ∧ y_SS_isThere.cls ≠ "java/lang/invoke/VarHandle" ∧ (parseMethodDescriptor y_SS_isThere.desc).map (fun d => d.parameters.length) = some 2 := by decide +kernel
abbrev b_SS_isRuled : ByteArray := prog_1_method_31_code
abbrev ws_SS_isRuled : List Cond := .code y_SS_isRuled b_SS_isRuled 3 (Option.some FieldType.boolean) :: zw_tbl
theorem hd_SS_isRuled : y_SS_isRuled.cls = R_SS ∧ y_SS_isRuled.cls ≠ "java/lang/invoke/MethodHandle" ∧ y_SS_isRuled.cls ≠ "java/lang/invoke/VarHandle" ∧ (parseMethodDescriptor y_SS_isRuled.desc).map (fun d => d.parameters.length) = some 2 := by decide +kernel
abbrev b_SS_castAll : ByteArray := prog_1_method_32_code
abbrev ws_SS_castAll : List Cond := .code y_SS_castAll b_SS_castAll 2 (Option.none : Option FieldType) :: zw_tbl
theorem hd_SS_castAll : y_SS_castAll.cls = R_SS ∧ y_SS_castAll.cls ≠ "java/lang/invoke/MethodHandle" ∧ y_SS_castAll.cls ≠ "java/lang/invoke/VarHandle" ∧ (parseMethodDescriptor y_SS_castAll.desc).map (fun d => d.parameters.length) = some 0 := by decide +kernel
abbrev b_SS_walkTo : ByteArray := prog_1_method_33_code
abbrev ws_SS_walkTo : List Cond := .code y_SS_walkTo b_SS_walkTo 2 (Option.none : Option FieldType) :: zw_tbl
theorem hd_SS_walkTo : y_SS_walkTo.cls = R_SS ∧ y_SS_walkTo.cls ≠ "java/lang/invoke/MethodHandle" ∧ y_SS_walkTo.cls ≠ "java/lang/invoke/VarHandle" ∧ (parseMethodDescriptor y_SS_walkTo.desc).map (fun d => d.parameters.length) = some 1 := by decide +kernel
abbrev b_SS_levelThen : ByteArray := prog_1_method_34_code
abbrev ws_SS_levelThen : List Cond := .code y_SS_levelThen b_SS_levelThen 3 (Option.some FieldType.long) :: zw_tbl
theorem hd_SS_levelThen : y_SS_levelThen.cls = R_SS ∧ y_SS_levelThen.cls ≠ "java/lang/invoke/MethodHandle" ∧ y_SS_levelThen.cls ≠ "java/lang/invoke/VarHandle" ∧ (parseMethodDescriptor y_SS_levelThen.desc).map (fun d => d.parameters.length) = some 2 := by decide +kernel
abbrev b_SS_heightNow : ByteArray := prog_1_method_35_code
abbrev ws_SS_heightNow : List Cond := .code y_SS_heightNow b_SS_heightNow 2 (Option.some FieldType.long) :: zw_tbl
theorem hd_SS_heightNow : y_SS_heightNow.cls = R_SS ∧ y_SS_heightNow.cls ≠ "java/lang/invoke/MethodHandle" ∧ y_SS_heightNow.cls ≠ "java/lang/invoke/VarHandle" ∧ (parseMethodDescriptor y_SS_heightNow.desc).map (fun d => d.parameters.length) = some 1 := by decide +kernel
abbrev b_SS_spread : ByteArray := prog_1_method_36_code
abbrev ws_SS_spread : List Cond := .code y_SS_spread b_SS_spread 7 (Option.none : Option FieldType) :: zw_tbl
theorem hd_SS_spread : y_SS_spread.cls = R_SS ∧ y_SS_spread.cls ≠ "java/lang/invoke/MethodHandle" ∧ y_SS_spread.cls ≠ "java/lang/invoke/VarHandle" ∧ (parseMethodDescriptor y_SS_spread.desc).map (fun d => d.parameters.length) = some 2 := by decide +kernel
abbrev b_SS_towardsZero : ByteArray := prog_1_method_37_code
abbrev ws_SS_towardsZero : List Cond := .code y_SS_towardsZero b_SS_towardsZero 4 (Option.some FieldType.long) :: zw_tbl
theorem hd_SS_towardsZero : y_SS_towardsZero.cls = R_SS ∧ y_SS_towardsZero.cls ≠ "java/lang/invoke/MethodHandle" ∧ y_SS_towardsZero.cls ≠ "java/lang/invoke/VarHandle" ∧ (parseMethodDescriptor y_SS_towardsZero.desc).map (fun d => d.parameters.length) = some 2 := by decide +kernel
abbrev b_SS_firstBroken : ByteArray := prog_1_method_38_code
abbrev ws_SS_firstBroken : List Cond := .code y_SS_firstBroken b_SS_firstBroken 3 (Option.some FieldType.int) :: zw_tbl
theorem hd_SS_firstBroken : y_SS_firstBroken.cls = R_SS ∧ y_SS_firstBroken.cls ≠ "java/lang/invoke/MethodHandle" ∧ y_SS_firstBroken.cls ≠ "java/lang/invoke/VarHandle" ∧ (parseMethodDescriptor y_SS_firstBroken.desc).map (fun d => d.parameters.length) = some 1 := by decide +kernel
abbrev b_SS_isBroken : ByteArray := prog_1_method_39_code
abbrev ws_SS_isBroken : List Cond := .code y_SS_isBroken b_SS_isBroken 4 (Option.some FieldType.boolean) :: zw_tbl
theorem hd_SS_isBroken : y_SS_isBroken.cls = R_SS ∧ y_SS_isBroken.cls ≠ "java/lang/invoke/MethodHandle" ∧ y_SS_isBroken.cls ≠ "java/lang/invoke/VarHandle" ∧ (parseMethodDescriptor y_SS_isBroken.desc).map (fun d => d.parameters.length) = some 2 := by decide +kernel
abbrev b_Mo_init : ByteArray := prog_9_method_1_code
abbrev ws_Mo_init : List Cond := .code y_Mo_init b_Mo_init 2 (Option.none : Option FieldType) :: zw_tbl
theorem hd_Mo_init : y_Mo_init.cls = R_Mo ∧ y_Mo_init.cls ≠ "java/lang/invoke/MethodHandle" ∧ y_Mo_init.cls ≠ "java/lang/invoke/VarHandle" ∧ (parseMethodDescriptor y_Mo_init.desc).map (fun d => d.parameters.length) = some 1 := by decide +kernel
abbrev b_Mo_in : ByteArray := prog_9_method_2_code
abbrev ws_Mo_in : List Cond := .code y_Mo_in b_Mo_in 6 (Option.some FieldType.boolean) :: zw_tbl
theorem hd_Mo_in : y_Mo_in.cls = R_Mo ∧ y_Mo_in.cls ≠ "java/lang/invoke/MethodHandle" ∧ y_Mo_in.cls ≠ "java/lang/invoke/VarHandle" ∧ (parseMethodDescriptor y_Mo_in.desc).map (fun d => d.parameters.length) = some 3 := by decide +kernel
abbrev b_Mo_isPart : ByteArray := prog_9_method_3_code
abbrev ws_Mo_isPart : List Cond := .code y_Mo_isPart b_Mo_isPart 2 (Option.some FieldType.boolean) :: zw_tbl
theorem hd_Mo_isPart : y_Mo_isPart.cls = R_Mo ∧ y_Mo_isPart.cls ≠ "java/lang/invoke/MethodHandle" ∧ y_Mo_isPart.cls ≠ "java/lang/invoke/VarHandle" ∧ (parseMethodDescriptor y_Mo_isPart.desc).map (fun d => d.parameters.length) = some 1 := by decide +kernel
abbrev b_Mo_isStage : ByteArray := prog_9_method_4_code
abbrev ws_Mo_isStage : List Cond := .code y_Mo_isStage b_Mo_isStage 2 (Option.some FieldType.boolean) :: zw_tbl
theorem hd_Mo_isStage : y_Mo_isStage.cls = R_Mo ∧ y_Mo_isStage.cls ≠ "java/lang/invoke/MethodHandle" ∧ y_Mo_isStage.cls ≠ "java/lang/invoke/VarHandle" ∧ (parseMethodDescriptor y_Mo_isStage.desc).map (fun d => d.parameters.length) = some 1 := by decide +kernel
abbrev b_Mo_part : ByteArray := prog_9_method_5_code
abbrev ws_Mo_part : List Cond := .code y_Mo_part b_Mo_part 4 (Option.some FieldType.boolean) :: zw_tbl
theorem hd_Mo_part : y_Mo_part.cls = R_Mo ∧ y_Mo_part.cls ≠ "java/lang/invoke/MethodHandle" ∧ y_Mo_part.cls ≠ "java/lang/invoke/VarHandle" ∧ (parseMethodDescriptor y_Mo_part.desc).map (fun d => d.parameters.length) = some 3 := by decide +kernel
abbrev b_Mo_flex : ByteArray := prog_9_method_6_code
abbrev ws_Mo_flex : List Cond := .code y_Mo_flex b_Mo_flex 5 (Option.some FieldType.boolean) :: zw_tbl
theorem hd_Mo_flex : y_Mo_flex.cls = R_Mo ∧ y_Mo_flex.cls ≠ "java/lang/invoke/MethodHandle" ∧ y_Mo_flex.cls ≠ "java/lang/invoke/VarHandle" ∧ (parseMethodDescriptor y_Mo_flex.desc).map (fun d => d.parameters.length) = some 4 := by decide +kernel
abbrev b_Mo_share : ByteArray := prog_9_method_7_code
abbrev ws_Mo_share : List Cond := .code y_Mo_share b_Mo_share 4 (Option.some FieldType.boolean) :: zw_tbl
theorem hd_Mo_share : y_Mo_share.cls = R_Mo ∧ y_Mo_share.cls ≠ "java/lang/invoke/MethodHandle" ∧ y_Mo_share.cls ≠ "java/lang/invoke/VarHandle" ∧ (parseMethodDescriptor y_Mo_share.desc).map (fun d => d.parameters.length) = some 3 := by decide +kernel
abbrev b_Mo_release : ByteArray := prog_9_method_8_code
abbrev ws_Mo_release : List Cond := .code y_Mo_release b_Mo_release 4 (Option.some FieldType.boolean) :: zw_tbl
theorem hd_Mo_release : y_Mo_release.cls = R_Mo ∧ y_Mo_release.cls ≠ "java/lang/invoke/MethodHandle" ∧ y_Mo_release.cls ≠ "java/lang/invoke/VarHandle" ∧ (parseMethodDescriptor y_Mo_release.desc).map (fun d => d.parameters.length) = some 3 := by decide +kernel
abbrev b_Mo_creep : ByteArray := prog_9_method_9_code
abbrev ws_Mo_creep : List Cond := .code y_Mo_creep b_Mo_creep 4 (Option.some FieldType.boolean) :: zw_tbl
theorem hd_Mo_creep : y_Mo_creep.cls = R_Mo ∧ y_Mo_creep.cls ≠ "java/lang/invoke/MethodHandle" ∧ y_Mo_creep.cls ≠ "java/lang/invoke/VarHandle" ∧ (parseMethodDescriptor y_Mo_creep.desc).map (fun d => d.parameters.length) = some 2 := by decide +kernel
abbrev b_Mo_comesAfter : ByteArray := prog_9_method_10_code
abbrev ws_Mo_comesAfter : List Cond := .code y_Mo_comesAfter b_Mo_comesAfter 5 (Option.some FieldType.boolean) :: zw_tbl
theorem hd_Mo_comesAfter : y_Mo_comesAfter.cls = R_Mo ∧ y_Mo_comesAfter.cls ≠ "java/lang/invoke/MethodHandle" ∧ y_Mo_comesAfter.cls ≠ "java/lang/invoke/VarHandle" ∧ (parseMethodDescriptor y_Mo_comesAfter.desc).map (fun d => d.parameters.length) = some 2 := by decide +kernel
abbrev b_Mo_actOf : ByteArray := prog_9_method_11_code
abbrev ws_Mo_actOf : List Cond := .code y_Mo_actOf b_Mo_actOf 4 (Option.some FieldType.int) :: zw_tbl
theorem hd_Mo_actOf : y_Mo_actOf.cls = R_Mo ∧ y_Mo_actOf.cls ≠ "java/lang/invoke/MethodHandle" ∧ y_Mo_actOf.cls ≠ "java/lang/invoke/VarHandle" ∧ (parseMethodDescriptor y_Mo_actOf.desc).map (fun d => d.parameters.length) = some 1 := by decide +kernel
abbrev b_Mo_after : ByteArray := prog_9_method_12_code
abbrev ws_Mo_after : List Cond := .code y_Mo_after b_Mo_after 5 (Option.some FieldType.boolean) :: zw_tbl
theorem hd_Mo_after : y_Mo_after.cls = R_Mo ∧ y_Mo_after.cls ≠ "java/lang/invoke/MethodHandle" ∧ y_Mo_after.cls ≠ "java/lang/invoke/VarHandle" ∧ (parseMethodDescriptor y_Mo_after.desc).map (fun d => d.parameters.length) = some 2 := by decide +kernel
abbrev b_Mo_lastDay : ByteArray := prog_9_method_13_code
abbrev ws_Mo_lastDay : List Cond := .code y_Mo_lastDay b_Mo_lastDay 1 (Option.some FieldType.int) :: zw_tbl
theorem hd_Mo_lastDay : y_Mo_lastDay.cls = R_Mo ∧ y_Mo_lastDay.cls ≠ "java/lang/invoke/MethodHandle" ∧ y_Mo_lastDay.cls ≠ "java/lang/invoke/VarHandle" ∧ (parseMethodDescriptor y_Mo_lastDay.desc).map (fun d => d.parameters.length) = some 0 := by decide +kernel
abbrev b_Mo_lookAtEnd : ByteArray := prog_9_method_14_code
abbrev ws_Mo_lookAtEnd : List Cond := .code y_Mo_lookAtEnd b_Mo_lookAtEnd 1 (Option.none : Option FieldType) :: zw_tbl
theorem hd_Mo_lookAtEnd : y_Mo_lookAtEnd.cls = R_Mo ∧ y_Mo_lookAtEnd.cls ≠ "java/lang/invoke/MethodHandle" ∧ y_Mo_lookAtEnd.cls ≠ "java/lang/invoke/VarHandle" ∧ (parseMethodDescriptor y_Mo_lookAtEnd.desc).map (fun d => d.parameters.length) = some 0 := by decide +kernel
abbrev b_Mo_endDay : ByteArray := prog_9_method_15_code
abbrev ws_Mo_endDay : List Cond := .code y_Mo_endDay b_Mo_endDay 1 (Option.some FieldType.int) :: zw_tbl
theorem hd_Mo_endDay : y_Mo_endDay.cls = R_Mo ∧ y_Mo_endDay.cls ≠ "java/lang/invoke/MethodHandle" ∧ y_Mo_endDay.cls ≠ "java/lang/invoke/VarHandle" ∧ (parseMethodDescriptor y_Mo_endDay.desc).map (fun d => d.parameters.length) = some 0 := by decide +kernel
abbrev b_Mo_stage : ByteArray := prog_9_method_16_code
abbrev ws_Mo_stage : List Cond := .code y_Mo_stage b_Mo_stage 2 (Option.some FieldType.long) :: zw_tbl
theorem hd_Mo_stage : y_Mo_stage.cls = R_Mo ∧ y_Mo_stage.cls ≠ "java/lang/invoke/MethodHandle" ∧ y_Mo_stage.cls ≠ "java/lang/invoke/VarHandle" ∧ (parseMethodDescriptor y_Mo_stage.desc).map (fun d => d.parameters.length) = some 1 := by decide +kernel
abbrev b_Mo_put : ByteArray := prog_9_method_17_code
abbrev ws_Mo_put : List Cond := .code y_Mo_put b_Mo_put 4 (Option.none : Option FieldType) :: zw_tbl
theorem hd_Mo_put : y_Mo_put.cls = R_Mo ∧ y_Mo_put.cls ≠ "java/lang/invoke/MethodHandle" ∧ y_Mo_put.cls ≠ "java/lang/invoke/VarHandle" ∧ (parseMethodDescriptor y_Mo_put.desc).map (fun d => d.parameters.length) = some 3 := by decide +kernel
abbrev b_Mo_mayPut : ByteArray := prog_9_method_18_code
abbrev ws_Mo_mayPut : List Cond := .code y_Mo_mayPut b_Mo_mayPut 1 (Option.some FieldType.boolean) :: zw_tbl
theorem hd_Mo_mayPut : y_Mo_mayPut.cls = R_Mo ∧ y_Mo_mayPut.cls ≠ "java/lang/invoke/MethodHandle" ∧ y_Mo_mayPut.cls ≠ "java/lang/invoke/VarHandle" ∧ (parseMethodDescriptor y_Mo_mayPut.desc).map (fun d => d.parameters.length) = some 0 := by decide +kernel
abbrev b_Mo_add : ByteArray := prog_9_method_19_code
abbrev ws_Mo_add : List Cond := .code y_Mo_add b_Mo_add 3 (Option.some FieldType.boolean) :: zw_tbl
theorem hd_Mo_add : y_Mo_add.cls = R_Mo ∧ y_Mo_add.cls ≠ "java/lang/invoke/MethodHandle" ∧ y_Mo_add.cls ≠ "java/lang/invoke/VarHandle" ∧ (parseMethodDescriptor y_Mo_add.desc).map (fun d => d.parameters.length) = some 1 := by decide +kernel
abbrev b_Mo_load : ByteArray := prog_9_method_20_code
abbrev ws_Mo_load : List Cond := .code y_Mo_load b_Mo_load 3 (Option.some FieldType.boolean) :: zw_tbl
theorem hd_Mo_load : y_Mo_load.cls = R_Mo ∧ y_Mo_load.cls ≠ "java/lang/invoke/MethodHandle" ∧ y_Mo_load.cls ≠ "java/lang/invoke/VarHandle" ∧ (parseMethodDescriptor y_Mo_load.desc).map (fun d => d.parameters.length) = some 2 := by decide +kernel
abbrev b_Mo_isOn : ByteArray := prog_9_method_21_code
abbrev ws_Mo_isOn : List Cond := .code y_Mo_isOn b_Mo_isOn 4 (Option.some FieldType.boolean) :: zw_tbl
theorem hd_Mo_isOn : y_Mo_isOn.cls = R_Mo ∧ y_Mo_isOn.cls ≠ "java/lang/invoke/MethodHandle" ∧ y_Mo_isOn.cls ≠ "java/lang/invoke/VarHandle" ∧ (parseMethodDescriptor y_Mo_isOn.desc).map (fun d => d.parameters.length) = some 1 := by decide +kernel
abbrev b_Mo_support : ByteArray := prog_9_method_22_code
abbrev ws_Mo_support : List Cond := .code y_Mo_support b_Mo_support 3 (Option.some FieldType.boolean) :: zw_tbl
theorem hd_Mo_support : y_Mo_support.cls = R_Mo ∧ y_Mo_support.cls ≠ "java/lang/invoke/MethodHandle" ∧ y_Mo_support.cls ≠ "java/lang/invoke/VarHandle" ∧ (parseMethodDescriptor y_Mo_support.desc).map (fun d => d.parameters.length) = some 2 := by decide +kernel
abbrev b_Mo_end : ByteArray := prog_9_method_23_code
abbrev ws_Mo_end : List Cond := .code y_Mo_end b_Mo_end 2 (Option.some FieldType.boolean) :: zw_tbl
theorem hd_Mo_end : y_Mo_end.cls = R_Mo ∧ y_Mo_end.cls ≠ "java/lang/invoke/MethodHandle" ∧ y_Mo_end.cls ≠ "java/lang/invoke/VarHandle" ∧ (parseMethodDescriptor y_Mo_end.desc).map (fun d => d.parameters.length) = some 1 := by decide +kernel
abbrev b_Mo_creepAt : ByteArray := prog_9_method_24_code
abbrev ws_Mo_creepAt : List Cond := .code y_Mo_creepAt b_Mo_creepAt 4 (Option.some FieldType.int) :: zw_tbl
theorem hd_Mo_creepAt : y_Mo_creepAt.cls = R_Mo ∧ y_Mo_creepAt.cls ≠ "java/lang/invoke/MethodHandle" ∧ y_Mo_creepAt.cls ≠ "java/lang/invoke/VarHandle" ∧ (parseMethodDescriptor y_Mo_creepAt.desc).map (fun d => d.parameters.length) = some 1 := by decide +kernel
abbrev b_Mo_takePlan : ByteArray := prog_9_method_25_code
abbrev ws_Mo_takePlan : List Cond := .code y_Mo_takePlan b_Mo_takePlan 2 (Option.none : Option FieldType) :: zw_tbl
theorem hd_Mo_takePlan : y_Mo_takePlan.cls = R_Mo ∧ y_Mo_takePlan.cls ≠ "java/lang/invoke/MethodHandle" ∧ y_Mo_takePlan.cls ≠ "java/lang/invoke/VarHandle" ∧ (parseMethodDescriptor y_Mo_takePlan.desc).map (fun d => d.parameters.length) = some 0 := by decide +kernel
abbrev b_Mo_loadOn : ByteArray := prog_9_method_26_code
abbrev ws_Mo_loadOn : List Cond := .code y_Mo_loadOn b_Mo_loadOn 7 (Option.none : Option FieldType) :: zw_tbl
theorem hd_Mo_loadOn : y_Mo_loadOn.cls = R_Mo ∧ y_Mo_loadOn.cls ≠ "java/lang/invoke/MethodHandle" ∧ y_Mo_loadOn.cls ≠ "java/lang/invoke/VarHandle" ∧ (parseMethodDescriptor y_Mo_loadOn.desc).map (fun d => d.parameters.length) = some 3 := by decide +kernel
abbrev b_Mo_pass : ByteArray := prog_9_method_27_code
abbrev ws_Mo_pass : List Cond := .code y_Mo_pass b_Mo_pass 5 (Option.none : Option FieldType) :: zw_tbl
theorem hd_Mo_pass : y_Mo_pass.cls = R_Mo ∧ y_Mo_pass.cls ≠ "java/lang/invoke/MethodHandle" ∧ y_Mo_pass.cls ≠ "java/lang/invoke/VarHandle" ∧ (parseMethodDescriptor y_Mo_pass.desc).map (fun d => d.parameters.length) = some 0 := by decide +kernel
abbrev b_Mo_dayOf : ByteArray := prog_9_method_28_code
abbrev ws_Mo_dayOf : List Cond := .code y_Mo_dayOf b_Mo_dayOf 2 (Option.some FieldType.int) :: zw_tbl
theorem hd_Mo_dayOf : y_Mo_dayOf.cls = R_Mo ∧ y_Mo_dayOf.cls ≠ "java/lang/invoke/MethodHandle" ∧ y_Mo_dayOf.cls ≠ "java/lang/invoke/VarHandle" ∧ (parseMethodDescriptor y_Mo_dayOf.desc).map (fun d => d.parameters.length) = some 1 := by decide +kernel
abbrev b_Mo_rise : ByteArray := prog_9_method_29_code
abbrev ws_Mo_rise : List Cond := .code y_Mo_rise b_Mo_rise 11 (Option.some FieldType.long) :: zw_tbl
theorem hd_Mo_rise : y_Mo_rise.cls = R_Mo ∧ y_Mo_rise.cls ≠ "java/lang/invoke/MethodHandle" ∧ y_Mo_rise.cls ≠ "java/lang/invoke/VarHandle" ∧ (parseMethodDescriptor y_Mo_rise.desc).map (fun d => d.parameters.length) = some 3 := by decide +kernel
abbrev b_Mo_camber : ByteArray := prog_9_method_30_code
abbrev ws_Mo_camber : List Cond := .code y_Mo_camber b_Mo_camber 2 (Option.some FieldType.long) :: zw_tbl
theorem hd_Mo_camber : y_Mo_camber.cls = R_Mo ∧ y_Mo_camber.cls ≠ "java/lang/invoke/MethodHandle" ∧ y_Mo_camber.cls ≠ "java/lang/invoke/VarHandle" ∧ (parseMethodDescriptor y_Mo_camber.desc).map (fun d => d.parameters.length) = some 1 := by decide +kernel
abbrev b_Mo_cast : ByteArray := prog_9_method_31_code
abbrev ws_Mo_cast : List Cond := .code y_Mo_cast b_Mo_cast 2 (Option.some FieldType.long) :: zw_tbl
theorem hd_Mo_cast : y_Mo_cast.cls = R_Mo ∧ y_Mo_cast.cls ≠ "java/lang/invoke/MethodHandle" ∧ y_Mo_cast.cls ≠ "java/lang/invoke/VarHandle" ∧ (parseMethodDescriptor y_Mo_cast.desc).map (fun d => d.parameters.length) = some 1 := by decide +kernel
abbrev b_Mo_passPlan : ByteArray := prog_9_method_32_code
abbrev ws_Mo_passPlan : List Cond := .code y_Mo_passPlan b_Mo_passPlan 1 (Option.none : Option FieldType) :: zw_tbl
theorem hd_Mo_passPlan : y_Mo_passPlan.cls = R_Mo ∧ y_Mo_passPlan.cls ≠ "java/lang/invoke/MethodHandle" ∧ y_Mo_passPlan.cls ≠ "java/lang/invoke/VarHandle" ∧ (parseMethodDescriptor y_Mo_passPlan.desc).map (fun d => d.parameters.length) = some 0 := by decide +kernel
abbrev b_Mo_isThere : ByteArray := prog_9_method_33_code
abbrev ws_Mo_isThere : List Cond := .code y_Mo_isThere b_Mo_isThere 3 (Option.some FieldType.boolean) :: zw_tbl
theorem hd_Mo_isThere : y_Mo_isThere.cls = R_Mo ∧ y_Mo_isThere.cls ≠ "java/lang/invoke/MethodHandle" ∧ y_Mo_isThere.cls ≠ "java/lang/invoke/VarHandle" ∧ (parseMethodDescriptor y_Mo_isThere.desc).map (fun d => d.parameters.length) = some 2 := by decide +kernel
abbrev b_Mo_levelAt : ByteArray := prog_9_method_34_code
abbrev ws_Mo_levelAt : List Cond := .code y_Mo_levelAt b_Mo_levelAt 3 (Option.some FieldType.long) :: zw_tbl
theorem hd_Mo_levelAt : y_Mo_levelAt.cls = R_Mo ∧ y_Mo_levelAt.cls ≠ "java/lang/invoke/MethodHandle" ∧ y_Mo_levelAt.cls ≠ "java/lang/invoke/VarHandle" ∧ (parseMethodDescriptor y_Mo_levelAt.desc).map (fun d => d.parameters.length) = some 2 := by decide +kernel
abbrev b_Mo_level : ByteArray := prog_9_method_35_code
abbrev ws_Mo_level : List Cond := .code y_Mo_level b_Mo_level 3 (Option.some FieldType.long) :: zw_tbl
theorem hd_Mo_level : y_Mo_level.cls = R_Mo ∧ y_Mo_level.cls ≠ "java/lang/invoke/MethodHandle" ∧ y_Mo_level.cls ≠ "java/lang/invoke/VarHandle" ∧ (parseMethodDescriptor y_Mo_level.desc).map (fun d => d.parameters.length) = some 2 := by decide +kernel
abbrev b_Mo_of : ByteArray := prog_9_method_36_code
abbrev ws_Mo_of : List Cond := .code y_Mo_of b_Mo_of 3 (Option.some FieldType.long) :: zw_tbl
theorem hd_Mo_of : y_Mo_of.cls = R_Mo ∧ y_Mo_of.cls ≠ "java/lang/invoke/MethodHandle" ∧ y_Mo_of.cls ≠ "java/lang/invoke/VarHandle" ∧ (parseMethodDescriptor y_Mo_of.desc).map (fun d => d.parameters.length) = some 2 := by decide +kernel
abbrev b_Mo_carriedAt : ByteArray := prog_9_method_37_code
abbrev ws_Mo_carriedAt : List Cond := .code y_Mo_carriedAt b_Mo_carriedAt 6 (Option.some FieldType.long) :: zw_tbl
theorem hd_Mo_carriedAt : y_Mo_carriedAt.cls = R_Mo ∧ y_Mo_carriedAt.cls ≠ "java/lang/invoke/MethodHandle" ∧ y_Mo_carriedAt.cls ≠ "java/lang/invoke/VarHandle" ∧ (parseMethodDescriptor y_Mo_carriedAt.desc).map (fun d => d.parameters.length) = some 2 := by decide +kernel
abbrev b_Mo_carries : ByteArray := prog_9_method_38_code
abbrev ws_Mo_carries : List Cond := .code y_Mo_carries b_Mo_carries 3 (Option.some FieldType.long) :: zw_tbl
theorem hd_Mo_carries : y_Mo_carries.cls = R_Mo ∧ y_Mo_carries.cls ≠ "java/lang/invoke/MethodHandle" ∧ y_Mo_carries.cls ≠ "java/lang/invoke/VarHandle" ∧ (parseMethodDescriptor y_Mo_carries.desc).map (fun d => d.parameters.length) = some 2 := by decide +kernel
abbrev b_Mo_survey : ByteArray := prog_9_method_39_code
abbrev ws_Mo_survey : List Cond := .code y_Mo_survey b_Mo_survey 9 (Option.some FieldType.long) :: zw_tbl
theorem hd_Mo_survey : y_Mo_survey.cls = R_Mo ∧ y_Mo_survey.cls ≠ "java/lang/invoke/MethodHandle" ∧ y_Mo_survey.cls ≠ "java/lang/invoke/VarHandle" ∧ (parseMethodDescriptor y_Mo_survey.desc).map (fun d => d.parameters.length) = some 3 := by decide +kernel
abbrev b_Mo_most : ByteArray := prog_9_method_40_code
abbrev ws_Mo_most : List Cond := .code y_Mo_most b_Mo_most 2 (Option.some FieldType.boolean) :: zw_tbl
theorem hd_Mo_most : y_Mo_most.cls = R_Mo ∧ y_Mo_most.cls ≠ "java/lang/invoke/MethodHandle" ∧ y_Mo_most.cls ≠ "java/lang/invoke/VarHandle" ∧ (parseMethodDescriptor y_Mo_most.desc).map (fun d => d.parameters.length) = some 1 := by decide +kernel
abbrev b_Mo_rule : ByteArray := prog_9_method_41_code
abbrev ws_Mo_rule : List Cond := .code y_Mo_rule b_Mo_rule 6 (Option.some FieldType.long) :: zw_tbl
theorem hd_Mo_rule : y_Mo_rule.cls = R_Mo ∧ y_Mo_rule.cls ≠ "java/lang/invoke/MethodHandle" ∧ y_Mo_rule.cls ≠ "java/lang/invoke/VarHandle" ∧ (parseMethodDescriptor y_Mo_rule.desc).map (fun d => d.parameters.length) = some 4 := by decide +kernel
abbrev b_Mo_holds : ByteArray := prog_9_method_42_code
abbrev ws_Mo_holds : List Cond := .code y_Mo_holds b_Mo_holds 6 (Option.some FieldType.boolean) :: zw_tbl
theorem hd_Mo_holds : y_Mo_holds.cls = R_Mo ∧ y_Mo_holds.cls ≠ "java/lang/invoke/MethodHandle" ∧ y_Mo_holds.cls ≠ "java/lang/invoke/VarHandle" ∧ (parseMethodDescriptor y_Mo_holds.desc).map (fun d => d.parameters.length) = some 2 := by decide +kernel
abbrev b_Mo_broken : ByteArray := prog_9_method_43_code
abbrev ws_Mo_broken : List Cond := .code y_Mo_broken b_Mo_broken 4 (Option.some FieldType.long) :: zw_tbl
theorem hd_Mo_broken : y_Mo_broken.cls = R_Mo ∧ y_Mo_broken.cls ≠ "java/lang/invoke/MethodHandle" ∧ y_Mo_broken.cls ≠ "java/lang/invoke/VarHandle" ∧ (parseMethodDescriptor y_Mo_broken.desc).map (fun d => d.parameters.length) = some 1 := by decide +kernel
abbrev b_Mo_shift : ByteArray := prog_9_method_44_code
abbrev ws_Mo_shift : List Cond := .code y_Mo_shift b_Mo_shift 8 (Option.some FieldType.boolean) :: zw_tbl
theorem hd_Mo_shift : y_Mo_shift.cls = R_Mo ∧ y_Mo_shift.cls ≠ "java/lang/invoke/MethodHandle" ∧ y_Mo_shift.cls ≠ "java/lang/invoke/VarHandle" ∧ (parseMethodDescriptor y_Mo_shift.desc).map (fun d => d.parameters.length) = some 2 := by decide +kernel
abbrev b_Mo_redo : ByteArray := prog_9_method_45_code
abbrev ws_Mo_redo : List Cond := .code y_Mo_redo b_Mo_redo 3 (Option.some FieldType.long) :: zw_tbl
theorem hd_Mo_redo : y_Mo_redo.cls = R_Mo ∧ y_Mo_redo.cls ≠ "java/lang/invoke/MethodHandle" ∧ y_Mo_redo.cls ≠ "java/lang/invoke/VarHandle" ∧ (parseMethodDescriptor y_Mo_redo.desc).map (fun d => d.parameters.length) = some 1 := by decide +kernel
abbrev b_Mo_isAllowed : ByteArray := prog_9_method_46_code
abbrev ws_Mo_isAllowed : List Cond := .code y_Mo_isAllowed b_Mo_isAllowed 5 (Option.some FieldType.boolean) :: zw_tbl
theorem hd_Mo_isAllowed : y_Mo_isAllowed.cls = R_Mo ∧ y_Mo_isAllowed.cls ≠ "java/lang/invoke/MethodHandle" ∧ y_Mo_isAllowed.cls ≠ "java/lang/invoke/VarHandle" ∧ (parseMethodDescriptor y_Mo_isAllowed.desc).map (fun d => d.parameters.length) = some 0 := by decide +kernel
abbrev b_Mo_nextRow : ByteArray := prog_9_method_47_code
abbrev ws_Mo_nextRow : List Cond := .code y_Mo_nextRow b_Mo_nextRow 6 (Option.some FieldType.boolean) :: zw_tbl
theorem hd_Mo_nextRow : y_Mo_nextRow.cls = R_Mo ∧ y_Mo_nextRow.cls ≠ "java/lang/invoke/MethodHandle" ∧ y_Mo_nextRow.cls ≠ "java/lang/invoke/VarHandle" ∧ (parseMethodDescriptor y_Mo_nextRow.desc).map (fun d => d.parameters.length) = some 0 := by decide +kernel
abbrev b_Mo_greatest : ByteArray := prog_9_method_48_code
abbrev ws_Mo_greatest : List Cond := .code y_Mo_greatest b_Mo_greatest 8 (Option.some FieldType.long) :: zw_tbl
theorem hd_Mo_greatest : y_Mo_greatest.cls = R_Mo ∧ y_Mo_greatest.cls ≠ "java/lang/invoke/MethodHandle" ∧ y_Mo_greatest.cls ≠ "java/lang/invoke/VarHandle" ∧ (parseMethodDescriptor y_Mo_greatest.desc).map (fun d => d.parameters.length) = some 0 := by decide +kernel
abbrev b_Mo_best : ByteArray := prog_9_method_49_code
abbrev ws_Mo_best : List Cond := .code y_Mo_best b_Mo_best 7 (Option.some FieldType.long) :: zw_tbl
theorem hd_Mo_best : y_Mo_best.cls = R_Mo ∧ y_Mo_best.cls ≠ "java/lang/invoke/MethodHandle" ∧ y_Mo_best.cls ≠ "java/lang/invoke/VarHandle" ∧ (parseMethodDescriptor y_Mo_best.desc).map (fun d => d.parameters.length) = some 0 := by decide +kernel
abbrev b_Mo_order : ByteArray := prog_9_method_50_code
abbrev ws_Mo_order : List Cond := .code y_Mo_order b_Mo_order 2 (Option.some FieldType.long) :: zw_tbl
theorem hd_Mo_order : y_Mo_order.cls = R_Mo ∧ y_Mo_order.cls ≠ "java/lang/invoke/MethodHandle" ∧ y_Mo_order.cls ≠ "java/lang/invoke/VarHandle" ∧ (parseMethodDescriptor y_Mo_order.desc).map (fun d => d.parameters.length) = some 1 := by decide +kernel
abbrev b_Mo_told : ByteArray := prog_9_method_51_code
abbrev ws_Mo_told : List Cond := .code y_Mo_told b_Mo_told 2 (Option.some FieldType.long) :: zw_tbl
theorem hd_Mo_told : y_Mo_told.cls = R_Mo ∧ y_Mo_told.cls ≠ "java/lang/invoke/MethodHandle" ∧ y_Mo_told.cls ≠ "java/lang/invoke/VarHandle" ∧ (parseMethodDescriptor y_Mo_told.desc).map (fun d => d.parameters.length) = some 1 := by decide +kernel
abbrev b_Mo_check : ByteArray := prog_9_method_52_code
abbrev ws_Mo_check : List Cond := .code y_Mo_check b_Mo_check 1 (Option.some FieldType.int) :: zw_tbl
theorem hd_Mo_check : y_Mo_check.cls = R_Mo ∧ y_Mo_check.cls ≠ "java/lang/invoke/MethodHandle" ∧ y_Mo_check.cls ≠ "java/lang/invoke/VarHandle" ∧ (parseMethodDescriptor y_Mo_check.desc).map (fun d => d.parameters.length) = some 0 := by decide +kernel
abbrev b_Cr_init : ByteArray := prog_2_method_1_code
abbrev ws_Cr_init : List Cond := .code y_Cr_init b_Cr_init 1 (Option.none : Option FieldType) :: zw_tbl
theorem hd_Cr_init : y_Cr_init.cls = R_Cr ∧ y_Cr_init.cls ≠ "java/lang/invoke/MethodHandle" ∧ y_Cr_init.cls ≠ "java/lang/invoke/VarHandle" ∧ (parseMethodDescriptor y_Cr_init.desc).map (fun d => d.parameters.length) = some 0 := by decide +kernel
abbrev b_Cr_tell : ByteArray := prog_2_method_2_code
abbrev ws_Cr_tell : List Cond := .code y_Cr_tell b_Cr_tell 3 (Option.some FieldType.boolean) :: zw_tbl
theorem hd_Cr_tell : y_Cr_tell.cls = R_Cr ∧ y_Cr_tell.cls ≠ "java/lang/invoke/MethodHandle" ∧ y_Cr_tell.cls ≠ "java/lang/invoke/VarHandle" ∧ (parseMethodDescriptor y_Cr_tell.desc).map (fun d => d.parameters.length) = some 2 := by decide +kernel
abbrev b_Cr_at : ByteArray := prog_2_method_3_code
abbrev ws_Cr_at : List Cond := .code y_Cr_at b_Cr_at 4 (Option.some FieldType.int) :: zw_tbl
theorem hd_Cr_at : y_Cr_at.cls = R_Cr ∧ y_Cr_at.cls ≠ "java/lang/invoke/MethodHandle" ∧ y_Cr_at.cls ≠ "java/lang/invoke/VarHandle" ∧ (parseMethodDescriptor y_Cr_at.desc).map (fun d => d.parameters.length) = some 1 := by decide +kernel
abbrev b_Gi_init : ByteArray := prog_3_method_1_code
abbrev ws_Gi_init : List Cond := .code y_Gi_init b_Gi_init 2 (Option.none : Option FieldType) :: zw_tbl
theorem hd_Gi_init : y_Gi_init.cls = R_Gi ∧ y_Gi_init.cls ≠ "java/lang/invoke/MethodHandle" ∧ y_Gi_init.cls ≠ "java/lang/invoke/VarHandle" ∧ (parseMethodDescriptor y_Gi_init.desc).map (fun d => d.parameters.length) = some 1 := by decide +kernel
abbrev b_Gi_hasPart : ByteArray := prog_3_method_2_code
abbrev ws_Gi_hasPart : List Cond := .code y_Gi_hasPart b_Gi_hasPart 2 (Option.some FieldType.boolean) :: zw_tbl
theorem hd_Gi_hasPart : y_Gi_hasPart.cls = R_Gi ∧ y_Gi_hasPart.cls ≠ "java/lang/invoke/MethodHandle" ∧ y_Gi_hasPart.cls ≠ "java/lang/invoke/VarHandle" ∧ (parseMethodDescriptor y_Gi_hasPart.desc).map (fun d => d.parameters.length) = some 1 := by decide +kernel
abbrev b_Gi_mustFollow : ByteArray := prog_3_method_3_code
abbrev ws_Gi_mustFollow : List Cond := .code y_Gi_mustFollow b_Gi_mustFollow 3 (Option.some FieldType.boolean) :: zw_tbl
theorem hd_Gi_mustFollow : y_Gi_mustFollow.cls = R_Gi ∧ y_Gi_mustFollow.cls ≠ "java/lang/invoke/MethodHandle" ∧ y_Gi_mustFollow.cls ≠ "java/lang/invoke/VarHandle" ∧ (parseMethodDescriptor y_Gi_mustFollow.desc).map (fun d => d.parameters.length) = some 2 := by decide +kernel
abbrev b_Gi_mayFollow : ByteArray := prog_3_method_4_code
abbrev ws_Gi_mayFollow : List Cond := .code y_Gi_mayFollow b_Gi_mayFollow 3 (Option.some FieldType.boolean) :: zw_tbl
theorem hd_Gi_mayFollow : y_Gi_mayFollow.cls = R_Gi ∧ y_Gi_mayFollow.cls ≠ "java/lang/invoke/MethodHandle" ∧ y_Gi_mayFollow.cls ≠ "java/lang/invoke/VarHandle" ∧ (parseMethodDescriptor y_Gi_mayFollow.desc).map (fun d => d.parameters.length) = some 2 := by decide +kernel
abbrev b_Gi_follow : ByteArray := prog_3_method_5_code
abbrev ws_Gi_follow : List Cond := .code y_Gi_follow b_Gi_follow 5 (Option.none : Option FieldType) :: zw_tbl
theorem hd_Gi_follow : y_Gi_follow.cls = R_Gi ∧ y_Gi_follow.cls ≠ "java/lang/invoke/MethodHandle" ∧ y_Gi_follow.cls ≠ "java/lang/invoke/VarHandle" ∧ (parseMethodDescriptor y_Gi_follow.desc).map (fun d => d.parameters.length) = some 2 := by decide +kernel
abbrev b_Pl_init : ByteArray := prog_4_method_1_code
abbrev ws_Pl_init : List Cond := .code y_Pl_init b_Pl_init 1 (Option.none : Option FieldType) :: zw_tbl
theorem hd_Pl_init : y_Pl_init.cls = R_Pl ∧ y_Pl_init.cls ≠ "java/lang/invoke/MethodHandle" ∧ y_Pl_init.cls ≠ "java/lang/invoke/VarHandle" ∧ (parseMethodDescriptor y_Pl_init.desc).map (fun d => d.parameters.length) = some 0 := by decide +kernel
abbrev b_Pl_hasStage : ByteArray := prog_4_method_2_code
abbrev ws_Pl_hasStage : List Cond := .code y_Pl_hasStage b_Pl_hasStage 2 (Option.some FieldType.boolean) :: zw_tbl
theorem hd_Pl_hasStage : y_Pl_hasStage.cls = R_Pl ∧ y_Pl_hasStage.cls ≠ "java/lang/invoke/MethodHandle" ∧ y_Pl_hasStage.cls ≠ "java/lang/invoke/VarHandle" ∧ (parseMethodDescriptor y_Pl_hasStage.desc).map (fun d => d.parameters.length) = some 1 := by decide +kernel
abbrev b_Pl_hasRoom : ByteArray := prog_4_method_3_code
abbrev ws_Pl_hasRoom : List Cond := .code y_Pl_hasRoom b_Pl_hasRoom 1 (Option.some FieldType.boolean) :: zw_tbl
theorem hd_Pl_hasRoom : y_Pl_hasRoom.cls = R_Pl ∧ y_Pl_hasRoom.cls ≠ "java/lang/invoke/MethodHandle" ∧ y_Pl_hasRoom.cls ≠ "java/lang/invoke/VarHandle" ∧ (parseMethodDescriptor y_Pl_hasRoom.desc).map (fun d => d.parameters.length) = some 0 := by decide +kernel
abbrev b_Pl_lastDay : ByteArray := prog_4_method_4_code
abbrev ws_Pl_lastDay : List Cond := .code y_Pl_lastDay b_Pl_lastDay 1 (Option.some FieldType.int) :: zw_tbl
theorem hd_Pl_lastDay : y_Pl_lastDay.cls = R_Pl ∧ y_Pl_lastDay.cls ≠ "java/lang/invoke/MethodHandle" ∧ y_Pl_lastDay.cls ≠ "java/lang/invoke/VarHandle" ∧ (parseMethodDescriptor y_Pl_lastDay.desc).map (fun d => d.parameters.length) = some 0 := by decide +kernel
abbrev b_Pl_endDay : ByteArray := prog_4_method_5_code
abbrev ws_Pl_endDay : List Cond := .code y_Pl_endDay b_Pl_endDay 1 (Option.some FieldType.int) :: zw_tbl
theorem hd_Pl_endDay : y_Pl_endDay.cls = R_Pl ∧ y_Pl_endDay.cls ≠ "java/lang/invoke/MethodHandle" ∧ y_Pl_endDay.cls ≠ "java/lang/invoke/VarHandle" ∧ (parseMethodDescriptor y_Pl_endDay.desc).map (fun d => d.parameters.length) = some 0 := by decide +kernel
abbrev b_Pl_takesStage : ByteArray := prog_4_method_6_code
abbrev ws_Pl_takesStage : List Cond := .code y_Pl_takesStage b_Pl_takesStage 2 (Option.some FieldType.boolean) :: zw_tbl
theorem hd_Pl_takesStage : y_Pl_takesStage.cls = R_Pl ∧ y_Pl_takesStage.cls ≠ "java/lang/invoke/MethodHandle" ∧ y_Pl_takesStage.cls ≠ "java/lang/invoke/VarHandle" ∧ (parseMethodDescriptor y_Pl_takesStage.desc).map (fun d => d.parameters.length) = some 1 := by decide +kernel
abbrev b_Pl_openStage : ByteArray := prog_4_method_7_code
abbrev ws_Pl_openStage : List Cond := .code y_Pl_openStage b_Pl_openStage 2 (Option.some FieldType.int) :: zw_tbl
theorem hd_Pl_openStage : y_Pl_openStage.cls = R_Pl ∧ y_Pl_openStage.cls ≠ "java/lang/invoke/MethodHandle" ∧ y_Pl_openStage.cls ≠ "java/lang/invoke/VarHandle" ∧ (parseMethodDescriptor y_Pl_openStage.desc).map (fun d => d.parameters.length) = some 1 := by decide +kernel
abbrev b_Pl_takesPart : ByteArray := prog_4_method_8_code
abbrev ws_Pl_takesPart : List Cond := .code y_Pl_takesPart b_Pl_takesPart 2 (Option.some FieldType.boolean) :: zw_tbl
theorem hd_Pl_takesPart : y_Pl_takesPart.cls = R_Pl ∧ y_Pl_takesPart.cls ≠ "java/lang/invoke/MethodHandle" ∧ y_Pl_takesPart.cls ≠ "java/lang/invoke/VarHandle" ∧ (parseMethodDescriptor y_Pl_takesPart.desc).map (fun d => d.parameters.length) = some 1 := by decide +kernel
abbrev b_Pl_putPart : ByteArray := prog_4_method_9_code
abbrev ws_Pl_putPart : List Cond := .code y_Pl_putPart b_Pl_putPart 2 (Option.none : Option FieldType) :: zw_tbl
theorem hd_Pl_putPart : y_Pl_putPart.cls = R_Pl ∧ y_Pl_putPart.cls ≠ "java/lang/invoke/MethodHandle" ∧ y_Pl_putPart.cls ≠ "java/lang/invoke/VarHandle" ∧ (parseMethodDescriptor y_Pl_putPart.desc).map (fun d => d.parameters.length) = some 1 := by decide +kernel
abbrev b_Pl_putAct : ByteArray := prog_4_method_10_code
abbrev ws_Pl_putAct : List Cond := .code y_Pl_putAct b_Pl_putAct 4 (Option.none : Option FieldType) :: zw_tbl
theorem hd_Pl_putAct : y_Pl_putAct.cls = R_Pl ∧ y_Pl_putAct.cls ≠ "java/lang/invoke/MethodHandle" ∧ y_Pl_putAct.cls ≠ "java/lang/invoke/VarHandle" ∧ (parseMethodDescriptor y_Pl_putAct.desc).map (fun d => d.parameters.length) = some 3 := by decide +kernel
abbrev b_Pl_placeOf : ByteArray := prog_4_method_11_code
abbrev ws_Pl_placeOf : List Cond := .code y_Pl_placeOf b_Pl_placeOf 3 (Option.some FieldType.int) :: zw_tbl
theorem hd_Pl_placeOf : y_Pl_placeOf.cls = R_Pl ∧ y_Pl_placeOf.cls ≠ "java/lang/invoke/MethodHandle" ∧ y_Pl_placeOf.cls ≠ "java/lang/invoke/VarHandle" ∧ (parseMethodDescriptor y_Pl_placeOf.desc).map (fun d => d.parameters.length) = some 1 := by decide +kernel
abbrev b_Pl_stageOf : ByteArray := prog_4_method_12_code
abbrev ws_Pl_stageOf : List Cond := .code y_Pl_stageOf b_Pl_stageOf 3 (Option.some FieldType.int) :: zw_tbl
theorem hd_Pl_stageOf : y_Pl_stageOf.cls = R_Pl ∧ y_Pl_stageOf.cls ≠ "java/lang/invoke/MethodHandle" ∧ y_Pl_stageOf.cls ≠ "java/lang/invoke/VarHandle" ∧ (parseMethodDescriptor y_Pl_stageOf.desc).map (fun d => d.parameters.length) = some 1 := by decide +kernel
abbrev b_Pl_partBits : ByteArray := prog_4_method_13_code
abbrev ws_Pl_partBits : List Cond := .code y_Pl_partBits b_Pl_partBits 3 (Option.some FieldType.int) :: zw_tbl
theorem hd_Pl_partBits : y_Pl_partBits.cls = R_Pl ∧ y_Pl_partBits.cls ≠ "java/lang/invoke/MethodHandle" ∧ y_Pl_partBits.cls ≠ "java/lang/invoke/VarHandle" ∧ (parseMethodDescriptor y_Pl_partBits.desc).map (fun d => d.parameters.length) = some 0 := by decide +kernel
abbrev b_Pl_onBits : ByteArray := prog_4_method_14_code
abbrev ws_Pl_onBits : List Cond := .code y_Pl_onBits b_Pl_onBits 3 (Option.some FieldType.int) :: zw_tbl
theorem hd_Pl_onBits : y_Pl_onBits.cls = R_Pl ∧ y_Pl_onBits.cls ≠ "java/lang/invoke/MethodHandle" ∧ y_Pl_onBits.cls ≠ "java/lang/invoke/VarHandle" ∧ (parseMethodDescriptor y_Pl_onBits.desc).map (fun d => d.parameters.length) = some 0 := by decide +kernel
abbrev b_Pl_canMove : ByteArray := prog_4_method_15_code
abbrev ws_Pl_canMove : List Cond := .code y_Pl_canMove b_Pl_canMove 5 (Option.some FieldType.boolean) :: zw_tbl
theorem hd_Pl_canMove : y_Pl_canMove.cls = R_Pl ∧ y_Pl_canMove.cls ≠ "java/lang/invoke/MethodHandle" ∧ y_Pl_canMove.cls ≠ "java/lang/invoke/VarHandle" ∧ (parseMethodDescriptor y_Pl_canMove.desc).map (fun d => d.parameters.length) = some 2 := by decide +kernel
abbrev b_Pl_move : ByteArray := prog_4_method_16_code
abbrev ws_Pl_move : List Cond := .code y_Pl_move b_Pl_move 4 (Option.none : Option FieldType) :: zw_tbl
theorem hd_Pl_move : y_Pl_move.cls = R_Pl ∧ y_Pl_move.cls ≠ "java/lang/invoke/MethodHandle" ∧ y_Pl_move.cls ≠ "java/lang/invoke/VarHandle" ∧ (parseMethodDescriptor y_Pl_move.desc).map (fun d => d.parameters.length) = some 2 := by decide +kernel
abbrev b_Pl_cutFrom : ByteArray := prog_4_method_17_code
abbrev ws_Pl_cutFrom : List Cond := .code y_Pl_cutFrom b_Pl_cutFrom 3 (Option.some FieldType.int) :: zw_tbl
theorem hd_Pl_cutFrom : y_Pl_cutFrom.cls = R_Pl ∧ y_Pl_cutFrom.cls ≠ "java/lang/invoke/MethodHandle" ∧ y_Pl_cutFrom.cls ≠ "java/lang/invoke/VarHandle" ∧ (parseMethodDescriptor y_Pl_cutFrom.desc).map (fun d => d.parameters.length) = some 1 := by decide +kernel
abbrev b_Pl_forgetPassedEnd : ByteArray := prog_4_method_18_code
abbrev ws_Pl_forgetPassedEnd : List Cond := .code y_Pl_forgetPassedEnd b_Pl_forgetPassedEnd 1 (Option.none : Option FieldType) :: zw_tbl
theorem hd_Pl_forgetPassedEnd : y_Pl_forgetPassedEnd.cls = R_Pl ∧ y_Pl_forgetPassedEnd.cls ≠ "java/lang/invoke/MethodHandle" ∧ y_Pl_forgetPassedEnd.cls ≠ "java/lang/invoke/VarHandle" ∧ (parseMethodDescriptor y_Pl_forgetPassedEnd.desc).map (fun d => d.parameters.length) = some 0 := by decide +kernel
abbrev b_Ru_init : ByteArray := prog_5_method_1_code
abbrev ws_Ru_init : List Cond := .code y_Ru_init b_Ru_init 1 (Option.none : Option FieldType) :: zw_tbl
theorem hd_Ru_init : y_Ru_init.cls = R_Ru ∧ y_Ru_init.cls ≠ "java/lang/invoke/MethodHandle" ∧ y_Ru_init.cls ≠ "java/lang/invoke/VarHandle" ∧ (parseMethodDescriptor y_Ru_init.desc).map (fun d => d.parameters.length) = some 0 := by decide +kernel
abbrev b_Ru_put : ByteArray := prog_5_method_2_code
abbrev ws_Ru_put : List Cond := .code y_Ru_put b_Ru_put 5 (Option.some FieldType.int) :: zw_tbl
theorem hd_Ru_put : y_Ru_put.cls = R_Ru ∧ y_Ru_put.cls ≠ "java/lang/invoke/MethodHandle" ∧ y_Ru_put.cls ≠ "java/lang/invoke/VarHandle" ∧ (parseMethodDescriptor y_Ru_put.desc).map (fun d => d.parameters.length) = some 4 := by decide +kernel
abbrev b_Ru_allows : ByteArray := prog_5_method_3_code
abbrev ws_Ru_allows : List Cond := .code y_Ru_allows b_Ru_allows 6 (Option.some FieldType.boolean) :: zw_tbl
theorem hd_Ru_allows : y_Ru_allows.cls = R_Ru ∧ y_Ru_allows.cls ≠ "java/lang/invoke/MethodHandle" ∧ y_Ru_allows.cls ≠ "java/lang/invoke/VarHandle" ∧ (parseMethodDescriptor y_Ru_allows.desc).map (fun d => d.parameters.length) = some 3 := by decide +kernel
abbrev b_Se_init : ByteArray := prog_6_method_1_code
abbrev ws_Se_init : List Cond := .code y_Se_init b_Se_init 4 (Option.none : Option FieldType) :: zw_tbl
theorem hd_Se_init : y_Se_init.cls = R_Se ∧ y_Se_init.cls ≠ "java/lang/invoke/MethodHandle" ∧ y_Se_init.cls ≠ "java/lang/invoke/VarHandle" ∧ (parseMethodDescriptor y_Se_init.desc).map (fun d => d.parameters.length) = some 3 := by decide +kernel
abbrev b_Se_leastGreatest : ByteArray := prog_6_method_2_code
abbrev ws_Se_leastGreatest : List Cond := .code y_Se_leastGreatest b_Se_leastGreatest 1 (Option.some FieldType.long) :: zw_tbl
theorem hd_Se_leastGreatest : y_Se_leastGreatest.cls = R_Se ∧ y_Se_leastGreatest.cls ≠ "java/lang/invoke/MethodHandle" ∧ y_Se_leastGreatest.cls ≠ "java/lang/invoke/VarHandle" ∧ (parseMethodDescriptor y_Se_leastGreatest.desc).map (fun d => d.parameters.length) = some 0 := by decide +kernel
abbrev b_Se_tryFrom : ByteArray := prog_6_method_3_code
abbrev ws_Se_tryFrom : List Cond := .code y_Se_tryFrom b_Se_tryFrom 5 (Option.none : Option FieldType) :: zw_tbl
theorem hd_Se_tryFrom : y_Se_tryFrom.cls = R_Se ∧ y_Se_tryFrom.cls ≠ "java/lang/invoke/MethodHandle" ∧ y_Se_tryFrom.cls ≠ "java/lang/invoke/VarHandle" ∧ (parseMethodDescriptor y_Se_tryFrom.desc).map (fun d => d.parameters.length) = some 3 := by decide +kernel
abbrev b_Se_keepIfLess : ByteArray := prog_6_method_4_code
abbrev ws_Se_keepIfLess : List Cond := .code y_Se_keepIfLess b_Se_keepIfLess 3 (Option.none : Option FieldType) :: zw_tbl
theorem hd_Se_keepIfLess : y_Se_keepIfLess.cls = R_Se ∧ y_Se_keepIfLess.cls ≠ "java/lang/invoke/MethodHandle" ∧ y_Se_keepIfLess.cls ≠ "java/lang/invoke/VarHandle" ∧ (parseMethodDescriptor y_Se_keepIfLess.desc).map (fun d => d.parameters.length) = some 1 := by decide +kernel
abbrev b_Wa_init : ByteArray := prog_7_method_1_code
abbrev ws_Wa_init : List Cond := .code y_Wa_init b_Wa_init 4 (Option.none : Option FieldType) :: zw_tbl
theorem hd_Wa_init : y_Wa_init.cls = R_Wa ∧ y_Wa_init.cls ≠ "java/lang/invoke/MethodHandle" ∧ y_Wa_init.cls ≠ "java/lang/invoke/VarHandle" ∧ (parseMethodDescriptor y_Wa_init.desc).map (fun d => d.parameters.length) = some 3 := by decide +kernel
abbrev b_Wa_aim : ByteArray := prog_7_method_2_code
abbrev ws_Wa_aim : List Cond := .code y_Wa_aim b_Wa_aim 5 (Option.none : Option FieldType) :: zw_tbl
theorem hd_Wa_aim : y_Wa_aim.cls = R_Wa ∧ y_Wa_aim.cls ≠ "java/lang/invoke/MethodHandle" ∧ y_Wa_aim.cls ≠ "java/lang/invoke/VarHandle" ∧ (parseMethodDescriptor y_Wa_aim.desc).map (fun d => d.parameters.length) = some 2 := by decide +kernel
abbrev b_Wa_go : ByteArray := prog_7_method_3_code
abbrev ws_Wa_go : List Cond := .code y_Wa_go b_Wa_go 6 (Option.some FieldType.boolean) :: zw_tbl
theorem hd_Wa_go : y_Wa_go.cls = R_Wa ∧ y_Wa_go.cls ≠ "java/lang/invoke/MethodHandle" ∧ y_Wa_go.cls ≠ "java/lang/invoke/VarHandle" ∧ (parseMethodDescriptor y_Wa_go.desc).map (fun d => d.parameters.length) = some 1 := by decide +kernel
abbrev b_Wa_greatestSize : ByteArray := prog_7_method_4_code
abbrev ws_Wa_greatestSize : List Cond := .code y_Wa_greatestSize b_Wa_greatestSize 4 (Option.some FieldType.long) :: zw_tbl
theorem hd_Wa_greatestSize : y_Wa_greatestSize.cls = R_Wa ∧ y_Wa_greatestSize.cls ≠ "java/lang/invoke/MethodHandle" ∧ y_Wa_greatestSize.cls ≠ "java/lang/invoke/VarHandle" ∧ (parseMethodDescriptor y_Wa_greatestSize.desc).map (fun d => d.parameters.length) = some 0 := by decide +kernel
abbrev b_Wa_begin : ByteArray := prog_7_method_5_code
abbrev ws_Wa_begin : List Cond := .code y_Wa_begin b_Wa_begin 3 (Option.none : Option FieldType) :: zw_tbl
theorem hd_Wa_begin : y_Wa_begin.cls = R_Wa ∧ y_Wa_begin.cls ≠ "java/lang/invoke/MethodHandle" ∧ y_Wa_begin.cls ≠ "java/lang/invoke/VarHandle" ∧ (parseMethodDescriptor y_Wa_begin.desc).map (fun d => d.parameters.length) = some 1 := by decide +kernel
abbrev b_Wa_press : ByteArray := prog_7_method_6_code
abbrev ws_Wa_press : List Cond := .code y_Wa_press b_Wa_press 5 (Option.none : Option FieldType) :: zw_tbl
theorem hd_Wa_press : y_Wa_press.cls = R_Wa ∧ y_Wa_press.cls ≠ "java/lang/invoke/MethodHandle" ∧ y_Wa_press.cls ≠ "java/lang/invoke/VarHandle" ∧ (parseMethodDescriptor y_Wa_press.desc).map (fun d => d.parameters.length) = some 3 := by decide +kernel
abbrev b_Wa_letGo : ByteArray := prog_7_method_7_code
abbrev ws_Wa_letGo : List Cond := .code y_Wa_letGo b_Wa_letGo 4 (Option.none : Option FieldType) :: zw_tbl
theorem hd_Wa_letGo : y_Wa_letGo.cls = R_Wa ∧ y_Wa_letGo.cls ≠ "java/lang/invoke/MethodHandle" ∧ y_Wa_letGo.cls ≠ "java/lang/invoke/VarHandle" ∧ (parseMethodDescriptor y_Wa_letGo.desc).map (fun d => d.parameters.length) = some 2 := by decide +kernel
abbrev b_Wa_lift : ByteArray := prog_7_method_8_code
abbrev ws_Wa_lift : List Cond := .code y_Wa_lift b_Wa_lift 5 (Option.none : Option FieldType) :: zw_tbl
theorem hd_Wa_lift : y_Wa_lift.cls = R_Wa ∧ y_Wa_lift.cls ≠ "java/lang/invoke/MethodHandle" ∧ y_Wa_lift.cls ≠ "java/lang/invoke/VarHandle" ∧ (parseMethodDescriptor y_Wa_lift.desc).map (fun d => d.parameters.length) = some 3 := by decide +kernel
abbrev b_La_cell : ByteArray := method_2_code
abbrev ws_La_cell : List Cond := .code y_La_cell b_La_cell 2 (Option.some FieldType.int) :: zw_tbl
theorem hd_La_cell : y_La_cell.cls = R_La ∧ y_La_cell.cls ≠ "java/lang/invoke/MethodHandle" ∧ y_La_cell.cls ≠ "java/lang/invoke/VarHandle" ∧ (parseMethodDescriptor y_La_cell.desc).map (fun d => d.parameters.length) = some 2 := by decide +kernel
abbrev b_Arr_fill_i : ByteArray := prog_12_method_103_code
abbrev ws_Arr_fill_i : List Cond := .code y_Arr_fill_i b_Arr_fill_i 4 (Option.none : Option FieldType) :: zw_tbl
theorem hd_Arr_fill_i : y_Arr_fill_i.cls = R_Arr ∧ y_Arr_fill_i.cls ≠ "java/lang/invoke/MethodHandle" ∧ y_Arr_fill_i.cls ≠ "java/lang/invoke/VarHandle" ∧ (parseMethodDescriptor y_Arr_fill_i.desc).map (fun d => d.parameters.length) = some 2 := by decide +kernel
abbrev b_Arr_fill_l : ByteArray := prog_12_method_101_code
abbrev ws_Arr_fill_l : List Cond := .code y_Arr_fill_l b_Arr_fill_l 5 (Option.none : Option FieldType) :: zw_tbl
theorem hd_Arr_fill_l : y_Arr_fill_l.cls = R_Arr ∧ y_Arr_fill_l.cls ≠ "java/lang/invoke/MethodHandle" ∧ y_Arr_fill_l.cls ≠ "java/lang/invoke/VarHandle" ∧ (parseMethodDescriptor y_Arr_fill_l.desc).map (fun d => d.parameters.length) = some 2 := by decide +kernel
def zw_nw : List (String × Nat × MethodName × String) := [(R_SS, 9, y_Cr_init, R_SS), (R_SS, 18, y_Pl_init, R_SS), (R_SS, 25, y_Ru_init, R_SS), (R_Gi, 36, y_SS_within, R_SS), (R_Cr, 22, y_SS_within, R_SS), (R_Gi, 40, y_SS_hasBit, R_SS), (R_Pl, 40, y_SS_within, R_SS), (R_Wa, 88, y_SS_hasBit, R_SS), (R_Se, 79, y_SS_hasBit, R_SS)]
