theorem nw_22 : (R_SS, 9, y_Cr_init, R_SS) ∈ zw_nw := by decide +kernel
theorem nw_39 : (R_SS, 18, y_Pl_init, R_SS) ∈ zw_nw := by decide +kernel
theorem nw_97 : (R_SS, 25, y_Ru_init, R_SS) ∈ zw_nw := by decide +kernel
theorem nw_278 : (R_Gi, 36, y_SS_within, R_SS) ∈ zw_nw := by decide +kernel
theorem nw_310 : (R_Cr, 22, y_SS_within, R_SS) ∈ zw_nw := by decide +kernel
theorem nw_319 : (R_Gi, 40, y_SS_hasBit, R_SS) ∈ zw_nw := by decide +kernel
theorem nw_339 : (R_Pl, 40, y_SS_within, R_SS) ∈ zw_nw := by decide +kernel
theorem nw_463 : (R_Wa, 88, y_SS_hasBit, R_SS) ∈ zw_nw := by decide +kernel
theorem nw_590 : (R_Se, 79, y_SS_hasBit, R_SS) ∈ zw_nw := by decide +kernel
theorem kw_s0 : Cond.selects R_Pl y_Pl_forgetPassedEnd y_Pl_forgetPassedEnd ∈ zw_tbl := List.mem_filter.mpr ⟨List.mem_of_getElem? (i := 0) (by decide +kernel), rfl⟩
theorem kw_s1 : Cond.selects R_SS y_SS_isThere y_SS_isThere ∈ zw_tbl := List.mem_filter.mpr ⟨List.mem_of_getElem? (i := 1) (by decide +kernel), rfl⟩
theorem kw_s2 : Cond.selects R_SS y_SS_levelThen y_SS_levelThen ∈ zw_tbl := List.mem_filter.mpr ⟨List.mem_of_getElem? (i := 2) (by decide +kernel), rfl⟩
theorem kw_s3 : Cond.selects R_SS y_SS_castAll y_SS_castAll ∈ zw_tbl := List.mem_filter.mpr ⟨List.mem_of_getElem? (i := 3) (by decide +kernel), rfl⟩
theorem kw_s4 : Cond.selects R_Wa y_Wa_begin y_Wa_begin ∈ zw_tbl := List.mem_filter.mpr ⟨List.mem_of_getElem? (i := 4) (by decide +kernel), rfl⟩
theorem kw_s5 : Cond.selects R_Wa y_Wa_press y_Wa_press ∈ zw_tbl := List.mem_filter.mpr ⟨List.mem_of_getElem? (i := 5) (by decide +kernel), rfl⟩
theorem kw_s6 : Cond.selects R_Wa y_Wa_lift y_Wa_lift ∈ zw_tbl := List.mem_filter.mpr ⟨List.mem_of_getElem? (i := 6) (by decide +kernel), rfl⟩
theorem kw_s7 : Cond.selects R_Wa y_Wa_letGo y_Wa_letGo ∈ zw_tbl := List.mem_filter.mpr ⟨List.mem_of_getElem? (i := 7) (by decide +kernel), rfl⟩
theorem kw_s8 : Cond.selects R_SS y_SS_walkTo y_SS_walkTo ∈ zw_tbl := List.mem_filter.mpr ⟨List.mem_of_getElem? (i := 8) (by decide +kernel), rfl⟩
theorem kw_s9 : Cond.selects R_SS y_SS_heightNow y_SS_heightNow ∈ zw_tbl := List.mem_filter.mpr ⟨List.mem_of_getElem? (i := 9) (by decide +kernel), rfl⟩
theorem kw_s10 : Cond.selects R_SS y_SS_spread y_SS_spread ∈ zw_tbl := List.mem_filter.mpr ⟨List.mem_of_getElem? (i := 10) (by decide +kernel), rfl⟩
theorem kw_s11 : Cond.selects R_SS y_SS_isRuled y_SS_isRuled ∈ zw_tbl := List.mem_filter.mpr ⟨List.mem_of_getElem? (i := 11) (by decide +kernel), rfl⟩
theorem kw_s12 : Cond.selects R_SS y_SS_firstBroken y_SS_firstBroken ∈ zw_tbl := List.mem_filter.mpr ⟨List.mem_of_getElem? (i := 12) (by decide +kernel), rfl⟩
theorem kw_s13 : Cond.selects R_SS y_SS_isBroken y_SS_isBroken ∈ zw_tbl := List.mem_filter.mpr ⟨List.mem_of_getElem? (i := 13) (by decide +kernel), rfl⟩
theorem kw_s14 : Cond.selects R_Se y_Se_tryFrom y_Se_tryFrom ∈ zw_tbl := List.mem_filter.mpr ⟨List.mem_of_getElem? (i := 14) (by decide +kernel), rfl⟩
theorem kw_s15 : Cond.selects R_Se y_Se_keepIfLess y_Se_keepIfLess ∈ zw_tbl := List.mem_filter.mpr ⟨List.mem_of_getElem? (i := 15) (by decide +kernel), rfl⟩
theorem kw_s16 : Cond.selects R_Mo y_Mo_isPart y_Mo_isPart ∈ zw_tbl := List.mem_filter.mpr ⟨List.mem_of_getElem? (i := 16) (by decide +kernel), rfl⟩
theorem kw_s17 : Cond.selects R_Mo y_Mo_comesAfter y_Mo_comesAfter ∈ zw_tbl := List.mem_filter.mpr ⟨List.mem_of_getElem? (i := 17) (by decide +kernel), rfl⟩
theorem kw_s18 : Cond.selects R_Mo y_Mo_actOf y_Mo_actOf ∈ zw_tbl := List.mem_filter.mpr ⟨List.mem_of_getElem? (i := 18) (by decide +kernel), rfl⟩
theorem kw_s19 : Cond.selects R_Mo y_Mo_lastDay y_Mo_lastDay ∈ zw_tbl := List.mem_filter.mpr ⟨List.mem_of_getElem? (i := 19) (by decide +kernel), rfl⟩
theorem kw_s20 : Cond.selects R_Mo y_Mo_lookAtEnd y_Mo_lookAtEnd ∈ zw_tbl := List.mem_filter.mpr ⟨List.mem_of_getElem? (i := 20) (by decide +kernel), rfl⟩
theorem kw_s21 : Cond.selects R_Mo y_Mo_mayPut y_Mo_mayPut ∈ zw_tbl := List.mem_filter.mpr ⟨List.mem_of_getElem? (i := 21) (by decide +kernel), rfl⟩
theorem kw_s22 : Cond.selects R_Mo y_Mo_put y_Mo_put ∈ zw_tbl := List.mem_filter.mpr ⟨List.mem_of_getElem? (i := 22) (by decide +kernel), rfl⟩
theorem kw_s23 : Cond.selects R_Mo y_Mo_isOn y_Mo_isOn ∈ zw_tbl := List.mem_filter.mpr ⟨List.mem_of_getElem? (i := 23) (by decide +kernel), rfl⟩
theorem kw_s24 : Cond.selects R_Mo y_Mo_passPlan y_Mo_passPlan ∈ zw_tbl := List.mem_filter.mpr ⟨List.mem_of_getElem? (i := 24) (by decide +kernel), rfl⟩
theorem kw_s25 : Cond.selects R_Mo y_Mo_takePlan y_Mo_takePlan ∈ zw_tbl := List.mem_filter.mpr ⟨List.mem_of_getElem? (i := 25) (by decide +kernel), rfl⟩
theorem kw_s26 : Cond.selects R_Mo y_Mo_pass y_Mo_pass ∈ zw_tbl := List.mem_filter.mpr ⟨List.mem_of_getElem? (i := 26) (by decide +kernel), rfl⟩
theorem kw_s27 : Cond.selects R_Mo y_Mo_loadOn y_Mo_loadOn ∈ zw_tbl := List.mem_filter.mpr ⟨List.mem_of_getElem? (i := 27) (by decide +kernel), rfl⟩
theorem kw_s28 : Cond.selects R_Mo y_Mo_isThere y_Mo_isThere ∈ zw_tbl := List.mem_filter.mpr ⟨List.mem_of_getElem? (i := 28) (by decide +kernel), rfl⟩
theorem kw_s29 : Cond.selects R_Mo y_Mo_isStage y_Mo_isStage ∈ zw_tbl := List.mem_filter.mpr ⟨List.mem_of_getElem? (i := 29) (by decide +kernel), rfl⟩
theorem kw_s30 : Cond.selects R_Mo y_Mo_levelAt y_Mo_levelAt ∈ zw_tbl := List.mem_filter.mpr ⟨List.mem_of_getElem? (i := 30) (by decide +kernel), rfl⟩
theorem kw_s31 : Cond.selects R_Mo y_Mo_cast y_Mo_cast ∈ zw_tbl := List.mem_filter.mpr ⟨List.mem_of_getElem? (i := 31) (by decide +kernel), rfl⟩
theorem kw_s32 : Cond.selects R_Mo y_Mo_camber y_Mo_camber ∈ zw_tbl := List.mem_filter.mpr ⟨List.mem_of_getElem? (i := 32) (by decide +kernel), rfl⟩
theorem kw_s33 : Cond.selects R_Mo y_Mo_endDay y_Mo_endDay ∈ zw_tbl := List.mem_filter.mpr ⟨List.mem_of_getElem? (i := 33) (by decide +kernel), rfl⟩
theorem kw_s34 : Cond.selects R_Mo y_Mo_rise y_Mo_rise ∈ zw_tbl := List.mem_filter.mpr ⟨List.mem_of_getElem? (i := 34) (by decide +kernel), rfl⟩
theorem kw_s35 : Cond.selects R_Mo y_Mo_dayOf y_Mo_dayOf ∈ zw_tbl := List.mem_filter.mpr ⟨List.mem_of_getElem? (i := 35) (by decide +kernel), rfl⟩
theorem kw_s36 : Cond.selects R_Mo y_Mo_creepAt y_Mo_creepAt ∈ zw_tbl := List.mem_filter.mpr ⟨List.mem_of_getElem? (i := 36) (by decide +kernel), rfl⟩
theorem kw_s37 : Cond.selects R_Mo y_Mo_carriedAt y_Mo_carriedAt ∈ zw_tbl := List.mem_filter.mpr ⟨List.mem_of_getElem? (i := 37) (by decide +kernel), rfl⟩
theorem kw_s38 : Cond.selects R_Mo y_Mo_holds y_Mo_holds ∈ zw_tbl := List.mem_filter.mpr ⟨List.mem_of_getElem? (i := 38) (by decide +kernel), rfl⟩
theorem kw_s39 : Cond.selects R_Mo y_Mo_isAllowed y_Mo_isAllowed ∈ zw_tbl := List.mem_filter.mpr ⟨List.mem_of_getElem? (i := 39) (by decide +kernel), rfl⟩
theorem kw_s40 : Cond.selects R_Mo y_Mo_greatest y_Mo_greatest ∈ zw_tbl := List.mem_filter.mpr ⟨List.mem_of_getElem? (i := 40) (by decide +kernel), rfl⟩
theorem kw_s41 : Cond.selects R_Mo y_Mo_nextRow y_Mo_nextRow ∈ zw_tbl := List.mem_filter.mpr ⟨List.mem_of_getElem? (i := 41) (by decide +kernel), rfl⟩
theorem kw_0 : Cond.initialized R_La ∈ zw_tbl := List.mem_filter.mpr ⟨List.mem_of_getElem? (i := 42) (by decide +kernel), rfl⟩
theorem kw_1 : Cond.initialized R_SS ∈ zw_tbl := List.mem_filter.mpr ⟨List.mem_of_getElem? (i := 43) (by decide +kernel), rfl⟩
theorem kw_2 : Cond.initialized R_Cr ∈ zw_tbl := List.mem_filter.mpr ⟨List.mem_of_getElem? (i := 44) (by decide +kernel), rfl⟩
theorem kw_3 : Cond.initialized R_Pl ∈ zw_tbl := List.mem_filter.mpr ⟨List.mem_of_getElem? (i := 45) (by decide +kernel), rfl⟩
theorem kw_4 : Cond.initialized R_Ru ∈ zw_tbl := List.mem_filter.mpr ⟨List.mem_of_getElem? (i := 46) (by decide +kernel), rfl⟩
theorem kw_5 : Cond.initialized R_Gi ∈ zw_tbl := List.mem_filter.mpr ⟨List.mem_of_getElem? (i := 47) (by decide +kernel), rfl⟩
theorem kw_6 : Cond.initialized R_Math ∈ zw_tbl := List.mem_filter.mpr ⟨List.mem_of_getElem? (i := 48) (by decide +kernel), rfl⟩
theorem kw_7 : Cond.initialized R_Wa ∈ zw_tbl := List.mem_filter.mpr ⟨List.mem_of_getElem? (i := 49) (by decide +kernel), rfl⟩
theorem kw_8 : Cond.initialized R_Se ∈ zw_tbl := List.mem_filter.mpr ⟨List.mem_of_getElem? (i := 50) (by decide +kernel), rfl⟩
theorem kw_9 : Cond.initialized R_Mo ∈ zw_tbl := List.mem_filter.mpr ⟨List.mem_of_getElem? (i := 51) (by decide +kernel), rfl⟩
theorem kw_10 : Cond.initialized R_Arr ∈ zw_tbl := List.mem_filter.mpr ⟨List.mem_of_getElem? (i := 52) (by decide +kernel), rfl⟩
theorem kw_11 : Cond.initialized R_Sys ∈ zw_tbl := List.mem_filter.mpr ⟨List.mem_of_getElem? (i := 53) (by decide +kernel), rfl⟩
theorem kw_12 : Cond.classLink R_La (7 : Nat) R_SS ∈ zw_tbl := List.mem_filter.mpr ⟨List.mem_of_getElem? (i := 54) (by decide +kernel), rfl⟩
theorem kw_13 : Cond.instantiable R_SS (9 : Nat) ∈ zw_tbl := List.mem_filter.mpr ⟨List.mem_of_getElem? (i := 55) (by decide +kernel), rfl⟩
theorem kw_14 : Cond.methodLink R_La (15 : Nat) y_SS_init ∈ zw_tbl := List.mem_filter.mpr ⟨List.mem_of_getElem? (i := 56) (by decide +kernel), rfl⟩
theorem kw_15 : Cond.instanceMethod y_SS_init ∈ zw_tbl := List.mem_filter.mpr ⟨List.mem_of_getElem? (i := 57) (by decide +kernel), rfl⟩
theorem kw_16 : Cond.code y_SS_init b_SS_init (2 : Nat) (Option.none : Option FieldType) ∈ zw_tbl := List.mem_filter.mpr ⟨List.mem_of_getElem? (i := 58) (by decide +kernel), rfl⟩
theorem kw_17 : Cond.methodLink R_SS (1 : Nat) y_Obj_init ∈ zw_tbl := List.mem_filter.mpr ⟨List.mem_of_getElem? (i := 59) (by decide +kernel), rfl⟩
theorem kw_18 : Cond.instanceMethod y_Obj_init ∈ zw_tbl := List.mem_filter.mpr ⟨List.mem_of_getElem? (i := 60) (by decide +kernel), rfl⟩
theorem kw_19 : Cond.code y_Obj_init object_method_1_code (1 : Nat) (Option.none : Option FieldType) ∈ zw_tbl := List.mem_filter.mpr ⟨List.mem_of_getElem? (i := 61) (by decide +kernel), rfl⟩
theorem kw_20 : Cond.classLink R_SS (7 : Nat) R_Cr ∈ zw_tbl := List.mem_filter.mpr ⟨List.mem_of_getElem? (i := 62) (by decide +kernel), rfl⟩
theorem kw_21 : Cond.instantiable R_Cr (3 : Nat) ∈ zw_tbl := List.mem_filter.mpr ⟨List.mem_of_getElem? (i := 63) (by decide +kernel), rfl⟩
theorem kw_23 : Cond.instanceMethod y_Cr_init ∈ zw_tbl := List.mem_filter.mpr ⟨List.mem_of_getElem? (i := 65) (by decide +kernel), rfl⟩
theorem kw_24 : Cond.code y_Cr_init b_Cr_init (1 : Nat) (Option.none : Option FieldType) ∈ zw_tbl := List.mem_filter.mpr ⟨List.mem_of_getElem? (i := 66) (by decide +kernel), rfl⟩
theorem kw_25 : Cond.methodLink R_Cr (3 : Nat) y_Obj_init ∈ zw_tbl := List.mem_filter.mpr ⟨List.mem_of_getElem? (i := 67) (by decide +kernel), rfl⟩
theorem kw_26 : Cond.fieldLink R_Cr (9 : Nat) "StageSteps$Creeps" "ages" "[I" ∈ zw_tbl := List.mem_filter.mpr ⟨List.mem_of_getElem? (i := 68) (by decide +kernel), rfl⟩
theorem kw_27 : Cond.fieldLink R_Cr (15 : Nat) "StageSteps$Creeps" "values" "[I" ∈ zw_tbl := List.mem_filter.mpr ⟨List.mem_of_getElem? (i := 69) (by decide +kernel), rfl⟩
theorem kw_28 : Cond.fieldLink R_Cr (18 : Nat) "StageSteps$Creeps" "count" "I" ∈ zw_tbl := List.mem_filter.mpr ⟨List.mem_of_getElem? (i := 70) (by decide +kernel), rfl⟩
theorem kw_36 : Cond.arrayClass FieldType.int ∈ zw_tbl := List.mem_filter.mpr ⟨List.mem_of_getElem? (i := 78) (by decide +kernel), rfl⟩
theorem kw_37 : Cond.classLink R_SS (16 : Nat) R_Pl ∈ zw_tbl := List.mem_filter.mpr ⟨List.mem_of_getElem? (i := 79) (by decide +kernel), rfl⟩
theorem kw_38 : Cond.instantiable R_Pl (11 : Nat) ∈ zw_tbl := List.mem_filter.mpr ⟨List.mem_of_getElem? (i := 80) (by decide +kernel), rfl⟩
theorem kw_40 : Cond.instanceMethod y_Pl_init ∈ zw_tbl := List.mem_filter.mpr ⟨List.mem_of_getElem? (i := 82) (by decide +kernel), rfl⟩
theorem kw_41 : Cond.code y_Pl_init b_Pl_init (1 : Nat) (Option.none : Option FieldType) ∈ zw_tbl := List.mem_filter.mpr ⟨List.mem_of_getElem? (i := 83) (by decide +kernel), rfl⟩
theorem kw_42 : Cond.methodLink R_Pl (3 : Nat) y_Obj_init ∈ zw_tbl := List.mem_filter.mpr ⟨List.mem_of_getElem? (i := 84) (by decide +kernel), rfl⟩
theorem kw_43 : Cond.fieldLink R_Pl (9 : Nat) "StageSteps$Plan" "days" "[I" ∈ zw_tbl := List.mem_filter.mpr ⟨List.mem_of_getElem? (i := 85) (by decide +kernel), rfl⟩
theorem kw_44 : Cond.fieldLink R_Wa (51 : Nat) "StageSteps$Plan" "days" "[I" ∈ zw_tbl := List.mem_filter.mpr ⟨List.mem_of_getElem? (i := 86) (by decide +kernel), rfl⟩
theorem kw_45 : Cond.fieldLink R_SS (261 : Nat) "StageSteps$Plan" "days" "[I" ∈ zw_tbl := List.mem_filter.mpr ⟨List.mem_of_getElem? (i := 87) (by decide +kernel), rfl⟩
theorem kw_46 : Cond.fieldLink R_Pl (15 : Nat) "StageSteps$Plan" "kinds" "[I" ∈ zw_tbl := List.mem_filter.mpr ⟨List.mem_of_getElem? (i := 88) (by decide +kernel), rfl⟩
theorem kw_47 : Cond.fieldLink R_Wa (73 : Nat) "StageSteps$Plan" "kinds" "[I" ∈ zw_tbl := List.mem_filter.mpr ⟨List.mem_of_getElem? (i := 89) (by decide +kernel), rfl⟩
theorem kw_48 : Cond.fieldLink R_Pl (18 : Nat) "StageSteps$Plan" "whats" "[I" ∈ zw_tbl := List.mem_filter.mpr ⟨List.mem_of_getElem? (i := 90) (by decide +kernel), rfl⟩
theorem kw_49 : Cond.fieldLink R_Wa (70 : Nat) "StageSteps$Plan" "whats" "[I" ∈ zw_tbl := List.mem_filter.mpr ⟨List.mem_of_getElem? (i := 91) (by decide +kernel), rfl⟩
theorem kw_50 : Cond.fieldLink R_Pl (21 : Nat) "StageSteps$Plan" "tonnes" "[I" ∈ zw_tbl := List.mem_filter.mpr ⟨List.mem_of_getElem? (i := 92) (by decide +kernel), rfl⟩
theorem kw_51 : Cond.fieldLink R_Wa (92 : Nat) "StageSteps$Plan" "tonnes" "[I" ∈ zw_tbl := List.mem_filter.mpr ⟨List.mem_of_getElem? (i := 93) (by decide +kernel), rfl⟩
theorem kw_52 : Cond.fieldLink R_Pl (24 : Nat) "StageSteps$Plan" "actStages" "[I" ∈ zw_tbl := List.mem_filter.mpr ⟨List.mem_of_getElem? (i := 94) (by decide +kernel), rfl⟩
theorem kw_53 : Cond.fieldLink R_Wa (67 : Nat) "StageSteps$Plan" "actStages" "[I" ∈ zw_tbl := List.mem_filter.mpr ⟨List.mem_of_getElem? (i := 95) (by decide +kernel), rfl⟩
theorem kw_54 : Cond.fieldLink R_Pl (27 : Nat) "StageSteps$Plan" "row" "[I" ∈ zw_tbl := List.mem_filter.mpr ⟨List.mem_of_getElem? (i := 96) (by decide +kernel), rfl⟩
theorem kw_55 : Cond.fieldLink R_SS (254 : Nat) "StageSteps$Plan" "row" "[I" ∈ zw_tbl := List.mem_filter.mpr ⟨List.mem_of_getElem? (i := 97) (by decide +kernel), rfl⟩
theorem kw_56 : Cond.fieldLink R_Pl (30 : Nat) "StageSteps$Plan" "addStages" "[I" ∈ zw_tbl := List.mem_filter.mpr ⟨List.mem_of_getElem? (i := 98) (by decide +kernel), rfl⟩
theorem kw_57 : Cond.fieldLink R_Wa (127 : Nat) "StageSteps$Plan" "addStages" "[I" ∈ zw_tbl := List.mem_filter.mpr ⟨List.mem_of_getElem? (i := 99) (by decide +kernel), rfl⟩
theorem kw_58 : Cond.fieldLink R_SS (264 : Nat) "StageSteps$Plan" "addStages" "[I" ∈ zw_tbl := List.mem_filter.mpr ⟨List.mem_of_getElem? (i := 100) (by decide +kernel), rfl⟩
theorem kw_59 : Cond.fieldLink R_Pl (37 : Nat) "StageSteps$Plan" "stages" "I" ∈ zw_tbl := List.mem_filter.mpr ⟨List.mem_of_getElem? (i := 101) (by decide +kernel), rfl⟩
theorem kw_60 : Cond.fieldLink R_Wa (46 : Nat) "StageSteps$Plan" "stages" "I" ∈ zw_tbl := List.mem_filter.mpr ⟨List.mem_of_getElem? (i := 102) (by decide +kernel), rfl⟩
theorem kw_61 : Cond.fieldLink R_Se (36 : Nat) "StageSteps$Plan" "stages" "I" ∈ zw_tbl := List.mem_filter.mpr ⟨List.mem_of_getElem? (i := 103) (by decide +kernel), rfl⟩
theorem kw_62 : Cond.fieldLink R_SS (160 : Nat) "StageSteps$Plan" "stages" "I" ∈ zw_tbl := List.mem_filter.mpr ⟨List.mem_of_getElem? (i := 104) (by decide +kernel), rfl⟩
theorem kw_63 : Cond.fieldLink R_Pl (44 : Nat) "StageSteps$Plan" "acts" "I" ∈ zw_tbl := List.mem_filter.mpr ⟨List.mem_of_getElem? (i := 105) (by decide +kernel), rfl⟩
theorem kw_64 : Cond.fieldLink R_Wa (64 : Nat) "StageSteps$Plan" "acts" "I" ∈ zw_tbl := List.mem_filter.mpr ⟨List.mem_of_getElem? (i := 106) (by decide +kernel), rfl⟩
theorem kw_65 : Cond.fieldLink R_SS (241 : Nat) "StageSteps$Plan" "acts" "I" ∈ zw_tbl := List.mem_filter.mpr ⟨List.mem_of_getElem? (i := 107) (by decide +kernel), rfl⟩
theorem kw_66 : Cond.fieldLink R_Se (59 : Nat) "StageSteps$Plan" "adds" "I" ∈ zw_tbl := List.mem_filter.mpr ⟨List.mem_of_getElem? (i := 108) (by decide +kernel), rfl⟩
theorem kw_67 : Cond.fieldLink R_Wa (124 : Nat) "StageSteps$Plan" "adds" "I" ∈ zw_tbl := List.mem_filter.mpr ⟨List.mem_of_getElem? (i := 109) (by decide +kernel), rfl⟩
theorem kw_68 : Cond.fieldLink R_Pl (64 : Nat) "StageSteps$Plan" "adds" "I" ∈ zw_tbl := List.mem_filter.mpr ⟨List.mem_of_getElem? (i := 110) (by decide +kernel), rfl⟩
theorem kw_69 : Cond.fieldLink R_SS (228 : Nat) "StageSteps$Plan" "adds" "I" ∈ zw_tbl := List.mem_filter.mpr ⟨List.mem_of_getElem? (i := 111) (by decide +kernel), rfl⟩
theorem kw_70 : Cond.fieldLink R_Pl (33 : Nat) "StageSteps$Plan" "toldEnd" "I" ∈ zw_tbl := List.mem_filter.mpr ⟨List.mem_of_getElem? (i := 112) (by decide +kernel), rfl⟩
theorem kw_71 : Cond.fieldLink R_SS (167 : Nat) "StageSteps$Plan" "toldEnd" "I" ∈ zw_tbl := List.mem_filter.mpr ⟨List.mem_of_getElem? (i := 113) (by decide +kernel), rfl⟩
theorem kw_95 : Cond.classLink R_SS (23 : Nat) R_Ru ∈ zw_tbl := List.mem_filter.mpr ⟨List.mem_of_getElem? (i := 137) (by decide +kernel), rfl⟩
theorem kw_96 : Cond.instantiable R_Ru (5 : Nat) ∈ zw_tbl := List.mem_filter.mpr ⟨List.mem_of_getElem? (i := 138) (by decide +kernel), rfl⟩
theorem kw_98 : Cond.instanceMethod y_Ru_init ∈ zw_tbl := List.mem_filter.mpr ⟨List.mem_of_getElem? (i := 140) (by decide +kernel), rfl⟩
theorem kw_99 : Cond.code y_Ru_init b_Ru_init (1 : Nat) (Option.none : Option FieldType) ∈ zw_tbl := List.mem_filter.mpr ⟨List.mem_of_getElem? (i := 141) (by decide +kernel), rfl⟩
theorem kw_100 : Cond.methodLink R_Ru (3 : Nat) y_Obj_init ∈ zw_tbl := List.mem_filter.mpr ⟨List.mem_of_getElem? (i := 142) (by decide +kernel), rfl⟩
theorem kw_101 : Cond.fieldLink R_Ru (9 : Nat) "StageSteps$Rules" "kinds" "[I" ∈ zw_tbl := List.mem_filter.mpr ⟨List.mem_of_getElem? (i := 143) (by decide +kernel), rfl⟩
theorem kw_102 : Cond.fieldLink R_SS (281 : Nat) "StageSteps$Rules" "kinds" "[I" ∈ zw_tbl := List.mem_filter.mpr ⟨List.mem_of_getElem? (i := 144) (by decide +kernel), rfl⟩
theorem kw_103 : Cond.fieldLink R_Ru (15 : Nat) "StageSteps$Rules" "ofs" "[I" ∈ zw_tbl := List.mem_filter.mpr ⟨List.mem_of_getElem? (i := 145) (by decide +kernel), rfl⟩
theorem kw_104 : Cond.fieldLink R_SS (278 : Nat) "StageSteps$Rules" "ofs" "[I" ∈ zw_tbl := List.mem_filter.mpr ⟨List.mem_of_getElem? (i := 146) (by decide +kernel), rfl⟩
theorem kw_105 : Cond.fieldLink R_Ru (18 : Nat) "StageSteps$Rules" "lows" "[I" ∈ zw_tbl := List.mem_filter.mpr ⟨List.mem_of_getElem? (i := 147) (by decide +kernel), rfl⟩
theorem kw_106 : Cond.fieldLink R_Ru (21 : Nat) "StageSteps$Rules" "highs" "[I" ∈ zw_tbl := List.mem_filter.mpr ⟨List.mem_of_getElem? (i := 148) (by decide +kernel), rfl⟩
theorem kw_107 : Cond.fieldLink R_Ru (24 : Nat) "StageSteps$Rules" "count" "I" ∈ zw_tbl := List.mem_filter.mpr ⟨List.mem_of_getElem? (i := 149) (by decide +kernel), rfl⟩
theorem kw_108 : Cond.fieldLink R_SS (206 : Nat) "StageSteps$Rules" "count" "I" ∈ zw_tbl := List.mem_filter.mpr ⟨List.mem_of_getElem? (i := 150) (by decide +kernel), rfl⟩
theorem kw_120 : Cond.classLink R_SS (41 : Nat) R_Gi ∈ zw_tbl := List.mem_filter.mpr ⟨List.mem_of_getElem? (i := 162) (by decide +kernel), rfl⟩
theorem kw_121 : Cond.instantiable R_Gi (7 : Nat) ∈ zw_tbl := List.mem_filter.mpr ⟨List.mem_of_getElem? (i := 163) (by decide +kernel), rfl⟩
theorem kw_122 : Cond.methodLink R_SS (43 : Nat) y_Math_mini ∈ zw_tbl := List.mem_filter.mpr ⟨List.mem_of_getElem? (i := 164) (by decide +kernel), rfl⟩
theorem kw_123 : Cond.static y_Math_mini ∈ zw_tbl := List.mem_filter.mpr ⟨List.mem_of_getElem? (i := 165) (by decide +kernel), rfl⟩
theorem kw_124 : Cond.code y_Math_mini prog_10_method_69_code (2 : Nat) (Option.some FieldType.int) ∈ zw_tbl := List.mem_filter.mpr ⟨List.mem_of_getElem? (i := 166) (by decide +kernel), rfl⟩
theorem kw_125 : Cond.methodLink R_SS (49 : Nat) y_Math_maxi ∈ zw_tbl := List.mem_filter.mpr ⟨List.mem_of_getElem? (i := 167) (by decide +kernel), rfl⟩
theorem kw_126 : Cond.static y_Math_maxi ∈ zw_tbl := List.mem_filter.mpr ⟨List.mem_of_getElem? (i := 168) (by decide +kernel), rfl⟩
theorem kw_127 : Cond.code y_Math_maxi prog_10_method_65_code (2 : Nat) (Option.some FieldType.int) ∈ zw_tbl := List.mem_filter.mpr ⟨List.mem_of_getElem? (i := 169) (by decide +kernel), rfl⟩
theorem kw_128 : Cond.methodLink R_SS (52 : Nat) y_Gi_init ∈ zw_tbl := List.mem_filter.mpr ⟨List.mem_of_getElem? (i := 170) (by decide +kernel), rfl⟩
theorem kw_129 : Cond.instanceMethod y_Gi_init ∈ zw_tbl := List.mem_filter.mpr ⟨List.mem_of_getElem? (i := 171) (by decide +kernel), rfl⟩
theorem kw_130 : Cond.code y_Gi_init b_Gi_init (2 : Nat) (Option.none : Option FieldType) ∈ zw_tbl := List.mem_filter.mpr ⟨List.mem_of_getElem? (i := 172) (by decide +kernel), rfl⟩
theorem kw_131 : Cond.methodLink R_Gi (3 : Nat) y_Obj_init ∈ zw_tbl := List.mem_filter.mpr ⟨List.mem_of_getElem? (i := 173) (by decide +kernel), rfl⟩
theorem kw_132 : Cond.classLink R_Gi (18 : Nat) "[[I" ∈ zw_tbl := List.mem_filter.mpr ⟨List.mem_of_getElem? (i := 174) (by decide +kernel), rfl⟩
theorem kw_134 : Cond.fieldLink R_Gi (32 : Nat) "StageSteps$Givens" "parts" "I" ∈ zw_tbl := List.mem_filter.mpr ⟨List.mem_of_getElem? (i := 176) (by decide +kernel), rfl⟩
theorem kw_135 : Cond.fieldLink R_Se (74 : Nat) "StageSteps$Givens" "parts" "I" ∈ zw_tbl := List.mem_filter.mpr ⟨List.mem_of_getElem? (i := 177) (by decide +kernel), rfl⟩
theorem kw_136 : Cond.fieldLink R_Wa (102 : Nat) "StageSteps$Givens" "parts" "I" ∈ zw_tbl := List.mem_filter.mpr ⟨List.mem_of_getElem? (i := 178) (by decide +kernel), rfl⟩
theorem kw_137 : Cond.fieldLink R_SS (222 : Nat) "StageSteps$Givens" "parts" "I" ∈ zw_tbl := List.mem_filter.mpr ⟨List.mem_of_getElem? (i := 179) (by decide +kernel), rfl⟩
theorem kw_138 : Cond.fieldLink R_Gi (9 : Nat) "StageSteps$Givens" "weights" "[I" ∈ zw_tbl := List.mem_filter.mpr ⟨List.mem_of_getElem? (i := 180) (by decide +kernel), rfl⟩
theorem kw_139 : Cond.fieldLink R_SS (87 : Nat) "StageSteps$Givens" "weights" "[I" ∈ zw_tbl := List.mem_filter.mpr ⟨List.mem_of_getElem? (i := 181) (by decide +kernel), rfl⟩
theorem kw_140 : Cond.fieldLink R_Wa (79 : Nat) "StageSteps$Givens" "weights" "[I" ∈ zw_tbl := List.mem_filter.mpr ⟨List.mem_of_getElem? (i := 182) (by decide +kernel), rfl⟩
theorem kw_141 : Cond.fieldLink R_Gi (15 : Nat) "StageSteps$Givens" "wanted" "[I" ∈ zw_tbl := List.mem_filter.mpr ⟨List.mem_of_getElem? (i := 183) (by decide +kernel), rfl⟩
theorem kw_142 : Cond.fieldLink R_SS (91 : Nat) "StageSteps$Givens" "wanted" "[I" ∈ zw_tbl := List.mem_filter.mpr ⟨List.mem_of_getElem? (i := 184) (by decide +kernel), rfl⟩
theorem kw_143 : Cond.fieldLink R_Gi (20 : Nat) "StageSteps$Givens" "flexes" "[[I" ∈ zw_tbl := List.mem_filter.mpr ⟨List.mem_of_getElem? (i := 185) (by decide +kernel), rfl⟩
theorem kw_144 : Cond.fieldLink R_SS (97 : Nat) "StageSteps$Givens" "flexes" "[[I" ∈ zw_tbl := List.mem_filter.mpr ⟨List.mem_of_getElem? (i := 186) (by decide +kernel), rfl⟩
theorem kw_145 : Cond.fieldLink R_Wa (132 : Nat) "StageSteps$Givens" "flexes" "[[I" ∈ zw_tbl := List.mem_filter.mpr ⟨List.mem_of_getElem? (i := 187) (by decide +kernel), rfl⟩
theorem kw_146 : Cond.fieldLink R_Gi (23 : Nat) "StageSteps$Givens" "shares" "[[I" ∈ zw_tbl := List.mem_filter.mpr ⟨List.mem_of_getElem? (i := 188) (by decide +kernel), rfl⟩
theorem kw_147 : Cond.fieldLink R_SS (104 : Nat) "StageSteps$Givens" "shares" "[[I" ∈ zw_tbl := List.mem_filter.mpr ⟨List.mem_of_getElem? (i := 189) (by decide +kernel), rfl⟩
theorem kw_148 : Cond.fieldLink R_Wa (139 : Nat) "StageSteps$Givens" "shares" "[[I" ∈ zw_tbl := List.mem_filter.mpr ⟨List.mem_of_getElem? (i := 190) (by decide +kernel), rfl⟩
theorem kw_149 : Cond.fieldLink R_Gi (26 : Nat) "StageSteps$Givens" "releases" "[[I" ∈ zw_tbl := List.mem_filter.mpr ⟨List.mem_of_getElem? (i := 191) (by decide +kernel), rfl⟩
theorem kw_150 : Cond.fieldLink R_SS (107 : Nat) "StageSteps$Givens" "releases" "[[I" ∈ zw_tbl := List.mem_filter.mpr ⟨List.mem_of_getElem? (i := 192) (by decide +kernel), rfl⟩
theorem kw_151 : Cond.fieldLink R_Wa (142 : Nat) "StageSteps$Givens" "releases" "[[I" ∈ zw_tbl := List.mem_filter.mpr ⟨List.mem_of_getElem? (i := 193) (by decide +kernel), rfl⟩
theorem kw_152 : Cond.fieldLink R_Gi (29 : Nat) "StageSteps$Givens" "befores" "[I" ∈ zw_tbl := List.mem_filter.mpr ⟨List.mem_of_getElem? (i := 194) (by decide +kernel), rfl⟩
theorem kw_168 : Cond.arrayClass FieldType.long ∈ zw_tbl := List.mem_filter.mpr ⟨List.mem_of_getElem? (i := 210) (by decide +kernel), rfl⟩
theorem kw_169 : Cond.classLink R_SS (59 : Nat) R_Wa ∈ zw_tbl := List.mem_filter.mpr ⟨List.mem_of_getElem? (i := 211) (by decide +kernel), rfl⟩
theorem kw_170 : Cond.instantiable R_Wa (11 : Nat) ∈ zw_tbl := List.mem_filter.mpr ⟨List.mem_of_getElem? (i := 212) (by decide +kernel), rfl⟩
theorem kw_171 : Cond.methodLink R_SS (61 : Nat) y_Wa_init ∈ zw_tbl := List.mem_filter.mpr ⟨List.mem_of_getElem? (i := 213) (by decide +kernel), rfl⟩
theorem kw_172 : Cond.instanceMethod y_Wa_init ∈ zw_tbl := List.mem_filter.mpr ⟨List.mem_of_getElem? (i := 214) (by decide +kernel), rfl⟩
theorem kw_173 : Cond.code y_Wa_init b_Wa_init (4 : Nat) (Option.none : Option FieldType) ∈ zw_tbl := List.mem_filter.mpr ⟨List.mem_of_getElem? (i := 215) (by decide +kernel), rfl⟩
theorem kw_174 : Cond.methodLink R_Wa (3 : Nat) y_Obj_init ∈ zw_tbl := List.mem_filter.mpr ⟨List.mem_of_getElem? (i := 216) (by decide +kernel), rfl⟩
theorem kw_175 : Cond.classLink R_Wa (25 : Nat) "[[I" ∈ zw_tbl := List.mem_filter.mpr ⟨List.mem_of_getElem? (i := 217) (by decide +kernel), rfl⟩
theorem kw_176 : Cond.fieldLink R_Wa (30 : Nat) "StageSteps$Walk" "givens" "LStageSteps$Givens;" ∈ zw_tbl := List.mem_filter.mpr ⟨List.mem_of_getElem? (i := 218) (by decide +kernel), rfl⟩
theorem kw_177 : Cond.fieldLink R_Wa (34 : Nat) "StageSteps$Walk" "creeps" "LStageSteps$Creeps;" ∈ zw_tbl := List.mem_filter.mpr ⟨List.mem_of_getElem? (i := 219) (by decide +kernel), rfl⟩
theorem kw_178 : Cond.fieldLink R_Wa (38 : Nat) "StageSteps$Walk" "plan" "LStageSteps$Plan;" ∈ zw_tbl := List.mem_filter.mpr ⟨List.mem_of_getElem? (i := 220) (by decide +kernel), rfl⟩
theorem kw_179 : Cond.fieldLink R_Wa (9 : Nat) "StageSteps$Walk" "rises" "[J" ∈ zw_tbl := List.mem_filter.mpr ⟨List.mem_of_getElem? (i := 221) (by decide +kernel), rfl⟩
theorem kw_180 : Cond.fieldLink R_SS (180 : Nat) "StageSteps$Walk" "rises" "[J" ∈ zw_tbl := List.mem_filter.mpr ⟨List.mem_of_getElem? (i := 222) (by decide +kernel), rfl⟩
theorem kw_181 : Cond.fieldLink R_Wa (15 : Nat) "StageSteps$Walk" "carried" "[J" ∈ zw_tbl := List.mem_filter.mpr ⟨List.mem_of_getElem? (i := 223) (by decide +kernel), rfl⟩
theorem kw_182 : Cond.fieldLink R_SS (192 : Nat) "StageSteps$Walk" "carried" "[J" ∈ zw_tbl := List.mem_filter.mpr ⟨List.mem_of_getElem? (i := 224) (by decide +kernel), rfl⟩
theorem kw_183 : Cond.fieldLink R_Wa (18 : Nat) "StageSteps$Walk" "addedIn" "[I" ∈ zw_tbl := List.mem_filter.mpr ⟨List.mem_of_getElem? (i := 225) (by decide +kernel), rfl⟩
theorem kw_184 : Cond.fieldLink R_Wa (22 : Nat) "StageSteps$Walk" "creepTo" "[I" ∈ zw_tbl := List.mem_filter.mpr ⟨List.mem_of_getElem? (i := 226) (by decide +kernel), rfl⟩
theorem kw_185 : Cond.fieldLink R_Wa (27 : Nat) "StageSteps$Walk" "creepFrom" "[[I" ∈ zw_tbl := List.mem_filter.mpr ⟨List.mem_of_getElem? (i := 227) (by decide +kernel), rfl⟩
theorem kw_186 : Cond.fieldLink R_Wa (42 : Nat) "StageSteps$Walk" "lastStage" "I" ∈ zw_tbl := List.mem_filter.mpr ⟨List.mem_of_getElem? (i := 228) (by decide +kernel), rfl⟩
theorem kw_187 : Cond.fieldLink R_Wa (76 : Nat) "StageSteps$Walk" "there" "I" ∈ zw_tbl := List.mem_filter.mpr ⟨List.mem_of_getElem? (i := 229) (by decide +kernel), rfl⟩
theorem kw_188 : Cond.fieldLink R_Wa (95 : Nat) "StageSteps$Walk" "on" "I" ∈ zw_tbl := List.mem_filter.mpr ⟨List.mem_of_getElem? (i := 230) (by decide +kernel), rfl⟩
theorem kw_212 : Cond.classLink R_SS (68 : Nat) R_Se ∈ zw_tbl := List.mem_filter.mpr ⟨List.mem_of_getElem? (i := 254) (by decide +kernel), rfl⟩
theorem kw_213 : Cond.instantiable R_Se (7 : Nat) ∈ zw_tbl := List.mem_filter.mpr ⟨List.mem_of_getElem? (i := 255) (by decide +kernel), rfl⟩
theorem kw_214 : Cond.methodLink R_SS (70 : Nat) y_Se_init ∈ zw_tbl := List.mem_filter.mpr ⟨List.mem_of_getElem? (i := 256) (by decide +kernel), rfl⟩
theorem kw_215 : Cond.instanceMethod y_Se_init ∈ zw_tbl := List.mem_filter.mpr ⟨List.mem_of_getElem? (i := 257) (by decide +kernel), rfl⟩
theorem kw_216 : Cond.code y_Se_init b_Se_init (4 : Nat) (Option.none : Option FieldType) ∈ zw_tbl := List.mem_filter.mpr ⟨List.mem_of_getElem? (i := 258) (by decide +kernel), rfl⟩
theorem kw_217 : Cond.methodLink R_Se (3 : Nat) y_Obj_init ∈ zw_tbl := List.mem_filter.mpr ⟨List.mem_of_getElem? (i := 259) (by decide +kernel), rfl⟩
theorem kw_218 : Cond.fieldLink R_Se (18 : Nat) "StageSteps$Search" "givens" "LStageSteps$Givens;" ∈ zw_tbl := List.mem_filter.mpr ⟨List.mem_of_getElem? (i := 260) (by decide +kernel), rfl⟩
theorem kw_219 : Cond.fieldLink R_Se (22 : Nat) "StageSteps$Search" "plan" "LStageSteps$Plan;" ∈ zw_tbl := List.mem_filter.mpr ⟨List.mem_of_getElem? (i := 261) (by decide +kernel), rfl⟩
theorem kw_220 : Cond.fieldLink R_Se (26 : Nat) "StageSteps$Search" "walk" "LStageSteps$Walk;" ∈ zw_tbl := List.mem_filter.mpr ⟨List.mem_of_getElem? (i := 262) (by decide +kernel), rfl⟩
theorem kw_221 : Cond.fieldLink R_Se (9 : Nat) "StageSteps$Search" "tried" "[I" ∈ zw_tbl := List.mem_filter.mpr ⟨List.mem_of_getElem? (i := 263) (by decide +kernel), rfl⟩
theorem kw_222 : Cond.fieldLink R_Se (15 : Nat) "StageSteps$Search" "found" "[I" ∈ zw_tbl := List.mem_filter.mpr ⟨List.mem_of_getElem? (i := 264) (by decide +kernel), rfl⟩
theorem kw_223 : Cond.fieldLink R_SS (238 : Nat) "StageSteps$Search" "found" "[I" ∈ zw_tbl := List.mem_filter.mpr ⟨List.mem_of_getElem? (i := 265) (by decide +kernel), rfl⟩
theorem kw_224 : Cond.fieldLink R_Se (86 : Nat) "StageSteps$Search" "foundCount" "I" ∈ zw_tbl := List.mem_filter.mpr ⟨List.mem_of_getElem? (i := 266) (by decide +kernel), rfl⟩
theorem kw_225 : Cond.fieldLink R_SS (235 : Nat) "StageSteps$Search" "foundCount" "I" ∈ zw_tbl := List.mem_filter.mpr ⟨List.mem_of_getElem? (i := 267) (by decide +kernel), rfl⟩
theorem kw_226 : Cond.fieldLink R_Se (32 : Nat) "StageSteps$Search" "least" "J" ∈ zw_tbl := List.mem_filter.mpr ⟨List.mem_of_getElem? (i := 268) (by decide +kernel), rfl⟩
theorem kw_242 : Cond.fieldLink R_SS (55 : Nat) "StageSteps" "givens" "LStageSteps$Givens;" ∈ zw_tbl := List.mem_filter.mpr ⟨List.mem_of_getElem? (i := 284) (by decide +kernel), rfl⟩
theorem kw_243 : Cond.fieldLink R_SS (10 : Nat) "StageSteps" "creeps" "LStageSteps$Creeps;" ∈ zw_tbl := List.mem_filter.mpr ⟨List.mem_of_getElem? (i := 285) (by decide +kernel), rfl⟩
theorem kw_244 : Cond.fieldLink R_SS (19 : Nat) "StageSteps" "plan" "LStageSteps$Plan;" ∈ zw_tbl := List.mem_filter.mpr ⟨List.mem_of_getElem? (i := 286) (by decide +kernel), rfl⟩
theorem kw_245 : Cond.fieldLink R_SS (26 : Nat) "StageSteps" "rules" "LStageSteps$Rules;" ∈ zw_tbl := List.mem_filter.mpr ⟨List.mem_of_getElem? (i := 287) (by decide +kernel), rfl⟩
theorem kw_246 : Cond.fieldLink R_SS (64 : Nat) "StageSteps" "walk" "LStageSteps$Walk;" ∈ zw_tbl := List.mem_filter.mpr ⟨List.mem_of_getElem? (i := 288) (by decide +kernel), rfl⟩
theorem kw_247 : Cond.fieldLink R_SS (73 : Nat) "StageSteps" "search" "LStageSteps$Search;" ∈ zw_tbl := List.mem_filter.mpr ⟨List.mem_of_getElem? (i := 289) (by decide +kernel), rfl⟩
theorem kw_248 : Cond.fieldLink R_SS (30 : Nat) "StageSteps" "offsets" "[J" ∈ zw_tbl := List.mem_filter.mpr ⟨List.mem_of_getElem? (i := 290) (by decide +kernel), rfl⟩
theorem kw_249 : Cond.fieldLink R_SS (34 : Nat) "StageSteps" "casts" "[J" ∈ zw_tbl := List.mem_filter.mpr ⟨List.mem_of_getElem? (i := 291) (by decide +kernel), rfl⟩
theorem kw_250 : Cond.fieldLink R_SS (37 : Nat) "StageSteps" "mostMillimetres" "I" ∈ zw_tbl := List.mem_filter.mpr ⟨List.mem_of_getElem? (i := 292) (by decide +kernel), rfl⟩
theorem kw_270 : Cond.methodLink R_La (21 : Nat) y_SS_part ∈ zw_tbl := List.mem_filter.mpr ⟨List.mem_of_getElem? (i := 312) (by decide +kernel), rfl⟩
theorem kw_271 : Cond.instanceMethod y_SS_part ∈ zw_tbl := List.mem_filter.mpr ⟨List.mem_of_getElem? (i := 313) (by decide +kernel), rfl⟩
theorem kw_272 : Cond.selects R_SS y_SS_part y_SS_part ∈ zw_tbl := List.mem_filter.mpr ⟨List.mem_of_getElem? (i := 314) (by decide +kernel), rfl⟩
theorem kw_273 : Cond.code y_SS_part b_SS_part (4 : Nat) (Option.some FieldType.boolean) ∈ zw_tbl := List.mem_filter.mpr ⟨List.mem_of_getElem? (i := 315) (by decide +kernel), rfl⟩
theorem kw_274 : Cond.methodLink R_SS (77 : Nat) y_Gi_hasPart ∈ zw_tbl := List.mem_filter.mpr ⟨List.mem_of_getElem? (i := 316) (by decide +kernel), rfl⟩
theorem kw_275 : Cond.instanceMethod y_Gi_hasPart ∈ zw_tbl := List.mem_filter.mpr ⟨List.mem_of_getElem? (i := 317) (by decide +kernel), rfl⟩
theorem kw_276 : Cond.selects R_Gi y_Gi_hasPart y_Gi_hasPart ∈ zw_tbl := List.mem_filter.mpr ⟨List.mem_of_getElem? (i := 318) (by decide +kernel), rfl⟩
theorem kw_277 : Cond.code y_Gi_hasPart b_Gi_hasPart (2 : Nat) (Option.some FieldType.boolean) ∈ zw_tbl := List.mem_filter.mpr ⟨List.mem_of_getElem? (i := 319) (by decide +kernel), rfl⟩
theorem kw_279 : Cond.static y_SS_within ∈ zw_tbl := List.mem_filter.mpr ⟨List.mem_of_getElem? (i := 321) (by decide +kernel), rfl⟩
theorem kw_280 : Cond.code y_SS_within b_SS_within (3 : Nat) (Option.some FieldType.boolean) ∈ zw_tbl := List.mem_filter.mpr ⟨List.mem_of_getElem? (i := 322) (by decide +kernel), rfl⟩
theorem kw_281 : Cond.methodLink R_SS (81 : Nat) y_SS_within ∈ zw_tbl := List.mem_filter.mpr ⟨List.mem_of_getElem? (i := 323) (by decide +kernel), rfl⟩
theorem kw_282 : Cond.constant R_SS (85 : Nat) (-100000 : Int32) ∈ zw_tbl := List.mem_filter.mpr ⟨List.mem_of_getElem? (i := 324) (by decide +kernel), rfl⟩
theorem kw_283 : Cond.constant R_SS (86 : Nat) (100000 : Int32) ∈ zw_tbl := List.mem_filter.mpr ⟨List.mem_of_getElem? (i := 325) (by decide +kernel), rfl⟩
theorem kw_284 : Cond.methodLink R_La (26 : Nat) y_SS_flex ∈ zw_tbl := List.mem_filter.mpr ⟨List.mem_of_getElem? (i := 326) (by decide +kernel), rfl⟩
theorem kw_285 : Cond.instanceMethod y_SS_flex ∈ zw_tbl := List.mem_filter.mpr ⟨List.mem_of_getElem? (i := 327) (by decide +kernel), rfl⟩
theorem kw_286 : Cond.selects R_SS y_SS_flex y_SS_flex ∈ zw_tbl := List.mem_filter.mpr ⟨List.mem_of_getElem? (i := 328) (by decide +kernel), rfl⟩
theorem kw_287 : Cond.code y_SS_flex b_SS_flex (5 : Nat) (Option.some FieldType.boolean) ∈ zw_tbl := List.mem_filter.mpr ⟨List.mem_of_getElem? (i := 329) (by decide +kernel), rfl⟩
theorem kw_288 : Cond.methodLink R_SS (94 : Nat) y_SS_isFactor ∈ zw_tbl := List.mem_filter.mpr ⟨List.mem_of_getElem? (i := 330) (by decide +kernel), rfl⟩
theorem kw_289 : Cond.static y_SS_isFactor ∈ zw_tbl := List.mem_filter.mpr ⟨List.mem_of_getElem? (i := 331) (by decide +kernel), rfl⟩
theorem kw_290 : Cond.code y_SS_isFactor b_SS_isFactor (1 : Nat) (Option.some FieldType.boolean) ∈ zw_tbl := List.mem_filter.mpr ⟨List.mem_of_getElem? (i := 332) (by decide +kernel), rfl⟩
theorem kw_291 : Cond.methodLink R_La (31 : Nat) y_SS_share ∈ zw_tbl := List.mem_filter.mpr ⟨List.mem_of_getElem? (i := 333) (by decide +kernel), rfl⟩
theorem kw_292 : Cond.instanceMethod y_SS_share ∈ zw_tbl := List.mem_filter.mpr ⟨List.mem_of_getElem? (i := 334) (by decide +kernel), rfl⟩
theorem kw_293 : Cond.selects R_SS y_SS_share y_SS_share ∈ zw_tbl := List.mem_filter.mpr ⟨List.mem_of_getElem? (i := 335) (by decide +kernel), rfl⟩
theorem kw_294 : Cond.code y_SS_share b_SS_share (4 : Nat) (Option.some FieldType.boolean) ∈ zw_tbl := List.mem_filter.mpr ⟨List.mem_of_getElem? (i := 336) (by decide +kernel), rfl⟩
theorem kw_295 : Cond.methodLink R_SS (101 : Nat) y_SS_isSupport ∈ zw_tbl := List.mem_filter.mpr ⟨List.mem_of_getElem? (i := 337) (by decide +kernel), rfl⟩
theorem kw_296 : Cond.static y_SS_isSupport ∈ zw_tbl := List.mem_filter.mpr ⟨List.mem_of_getElem? (i := 338) (by decide +kernel), rfl⟩
theorem kw_297 : Cond.code y_SS_isSupport b_SS_isSupport (1 : Nat) (Option.some FieldType.boolean) ∈ zw_tbl := List.mem_filter.mpr ⟨List.mem_of_getElem? (i := 339) (by decide +kernel), rfl⟩
theorem kw_298 : Cond.methodLink R_La (35 : Nat) y_SS_release ∈ zw_tbl := List.mem_filter.mpr ⟨List.mem_of_getElem? (i := 340) (by decide +kernel), rfl⟩
theorem kw_299 : Cond.instanceMethod y_SS_release ∈ zw_tbl := List.mem_filter.mpr ⟨List.mem_of_getElem? (i := 341) (by decide +kernel), rfl⟩
theorem kw_300 : Cond.selects R_SS y_SS_release y_SS_release ∈ zw_tbl := List.mem_filter.mpr ⟨List.mem_of_getElem? (i := 342) (by decide +kernel), rfl⟩
theorem kw_301 : Cond.code y_SS_release b_SS_release (4 : Nat) (Option.some FieldType.boolean) ∈ zw_tbl := List.mem_filter.mpr ⟨List.mem_of_getElem? (i := 343) (by decide +kernel), rfl⟩
theorem kw_302 : Cond.methodLink R_La (39 : Nat) y_SS_creep ∈ zw_tbl := List.mem_filter.mpr ⟨List.mem_of_getElem? (i := 344) (by decide +kernel), rfl⟩
theorem kw_303 : Cond.instanceMethod y_SS_creep ∈ zw_tbl := List.mem_filter.mpr ⟨List.mem_of_getElem? (i := 345) (by decide +kernel), rfl⟩
theorem kw_304 : Cond.selects R_SS y_SS_creep y_SS_creep ∈ zw_tbl := List.mem_filter.mpr ⟨List.mem_of_getElem? (i := 346) (by decide +kernel), rfl⟩
theorem kw_305 : Cond.code y_SS_creep b_SS_creep (3 : Nat) (Option.some FieldType.boolean) ∈ zw_tbl := List.mem_filter.mpr ⟨List.mem_of_getElem? (i := 347) (by decide +kernel), rfl⟩
theorem kw_306 : Cond.methodLink R_SS (110 : Nat) y_Cr_tell ∈ zw_tbl := List.mem_filter.mpr ⟨List.mem_of_getElem? (i := 348) (by decide +kernel), rfl⟩
theorem kw_307 : Cond.instanceMethod y_Cr_tell ∈ zw_tbl := List.mem_filter.mpr ⟨List.mem_of_getElem? (i := 349) (by decide +kernel), rfl⟩
theorem kw_308 : Cond.selects R_Cr y_Cr_tell y_Cr_tell ∈ zw_tbl := List.mem_filter.mpr ⟨List.mem_of_getElem? (i := 350) (by decide +kernel), rfl⟩
theorem kw_309 : Cond.code y_Cr_tell b_Cr_tell (3 : Nat) (Option.some FieldType.boolean) ∈ zw_tbl := List.mem_filter.mpr ⟨List.mem_of_getElem? (i := 351) (by decide +kernel), rfl⟩
theorem kw_311 : Cond.methodLink R_La (44 : Nat) y_SS_after ∈ zw_tbl := List.mem_filter.mpr ⟨List.mem_of_getElem? (i := 353) (by decide +kernel), rfl⟩
theorem kw_312 : Cond.instanceMethod y_SS_after ∈ zw_tbl := List.mem_filter.mpr ⟨List.mem_of_getElem? (i := 354) (by decide +kernel), rfl⟩
theorem kw_313 : Cond.selects R_SS y_SS_after y_SS_after ∈ zw_tbl := List.mem_filter.mpr ⟨List.mem_of_getElem? (i := 355) (by decide +kernel), rfl⟩
theorem kw_314 : Cond.code y_SS_after b_SS_after (5 : Nat) (Option.some FieldType.boolean) ∈ zw_tbl := List.mem_filter.mpr ⟨List.mem_of_getElem? (i := 356) (by decide +kernel), rfl⟩
theorem kw_315 : Cond.methodLink R_SS (114 : Nat) y_Gi_mustFollow ∈ zw_tbl := List.mem_filter.mpr ⟨List.mem_of_getElem? (i := 357) (by decide +kernel), rfl⟩
theorem kw_316 : Cond.instanceMethod y_Gi_mustFollow ∈ zw_tbl := List.mem_filter.mpr ⟨List.mem_of_getElem? (i := 358) (by decide +kernel), rfl⟩
theorem kw_317 : Cond.selects R_Gi y_Gi_mustFollow y_Gi_mustFollow ∈ zw_tbl := List.mem_filter.mpr ⟨List.mem_of_getElem? (i := 359) (by decide +kernel), rfl⟩
theorem kw_318 : Cond.code y_Gi_mustFollow b_Gi_mustFollow (3 : Nat) (Option.some FieldType.boolean) ∈ zw_tbl := List.mem_filter.mpr ⟨List.mem_of_getElem? (i := 360) (by decide +kernel), rfl⟩
theorem kw_320 : Cond.static y_SS_hasBit ∈ zw_tbl := List.mem_filter.mpr ⟨List.mem_of_getElem? (i := 362) (by decide +kernel), rfl⟩
theorem kw_321 : Cond.code y_SS_hasBit b_SS_hasBit (2 : Nat) (Option.some FieldType.boolean) ∈ zw_tbl := List.mem_filter.mpr ⟨List.mem_of_getElem? (i := 363) (by decide +kernel), rfl⟩
theorem kw_322 : Cond.methodLink R_SS (117 : Nat) y_Pl_placeOf ∈ zw_tbl := List.mem_filter.mpr ⟨List.mem_of_getElem? (i := 364) (by decide +kernel), rfl⟩
theorem kw_323 : Cond.instanceMethod y_Pl_placeOf ∈ zw_tbl := List.mem_filter.mpr ⟨List.mem_of_getElem? (i := 365) (by decide +kernel), rfl⟩
theorem kw_324 : Cond.selects R_Pl y_Pl_placeOf y_Pl_placeOf ∈ zw_tbl := List.mem_filter.mpr ⟨List.mem_of_getElem? (i := 366) (by decide +kernel), rfl⟩
theorem kw_325 : Cond.code y_Pl_placeOf b_Pl_placeOf (3 : Nat) (Option.some FieldType.int) ∈ zw_tbl := List.mem_filter.mpr ⟨List.mem_of_getElem? (i := 367) (by decide +kernel), rfl⟩
theorem kw_326 : Cond.methodLink R_SS (121 : Nat) y_Gi_follow ∈ zw_tbl := List.mem_filter.mpr ⟨List.mem_of_getElem? (i := 368) (by decide +kernel), rfl⟩
theorem kw_327 : Cond.instanceMethod y_Gi_follow ∈ zw_tbl := List.mem_filter.mpr ⟨List.mem_of_getElem? (i := 369) (by decide +kernel), rfl⟩
theorem kw_328 : Cond.selects R_Gi y_Gi_follow y_Gi_follow ∈ zw_tbl := List.mem_filter.mpr ⟨List.mem_of_getElem? (i := 370) (by decide +kernel), rfl⟩
theorem kw_329 : Cond.code y_Gi_follow b_Gi_follow (5 : Nat) (Option.none : Option FieldType) ∈ zw_tbl := List.mem_filter.mpr ⟨List.mem_of_getElem? (i := 371) (by decide +kernel), rfl⟩
theorem kw_330 : Cond.methodLink R_Gi (44 : Nat) y_Gi_mustFollow ∈ zw_tbl := List.mem_filter.mpr ⟨List.mem_of_getElem? (i := 372) (by decide +kernel), rfl⟩
theorem kw_331 : Cond.methodLink R_La (48 : Nat) y_SS_stage ∈ zw_tbl := List.mem_filter.mpr ⟨List.mem_of_getElem? (i := 373) (by decide +kernel), rfl⟩
theorem kw_332 : Cond.instanceMethod y_SS_stage ∈ zw_tbl := List.mem_filter.mpr ⟨List.mem_of_getElem? (i := 374) (by decide +kernel), rfl⟩
theorem kw_333 : Cond.selects R_SS y_SS_stage y_SS_stage ∈ zw_tbl := List.mem_filter.mpr ⟨List.mem_of_getElem? (i := 375) (by decide +kernel), rfl⟩
theorem kw_334 : Cond.code y_SS_stage b_SS_stage (2 : Nat) (Option.some FieldType.long) ∈ zw_tbl := List.mem_filter.mpr ⟨List.mem_of_getElem? (i := 376) (by decide +kernel), rfl⟩
theorem kw_335 : Cond.methodLink R_SS (125 : Nat) y_Pl_takesStage ∈ zw_tbl := List.mem_filter.mpr ⟨List.mem_of_getElem? (i := 377) (by decide +kernel), rfl⟩
theorem kw_336 : Cond.instanceMethod y_Pl_takesStage ∈ zw_tbl := List.mem_filter.mpr ⟨List.mem_of_getElem? (i := 378) (by decide +kernel), rfl⟩
theorem kw_337 : Cond.selects R_Pl y_Pl_takesStage y_Pl_takesStage ∈ zw_tbl := List.mem_filter.mpr ⟨List.mem_of_getElem? (i := 379) (by decide +kernel), rfl⟩
theorem kw_338 : Cond.code y_Pl_takesStage b_Pl_takesStage (2 : Nat) (Option.some FieldType.boolean) ∈ zw_tbl := List.mem_filter.mpr ⟨List.mem_of_getElem? (i := 380) (by decide +kernel), rfl⟩
theorem kw_340 : Cond.methodLink R_Pl (47 : Nat) y_Pl_lastDay ∈ zw_tbl := List.mem_filter.mpr ⟨List.mem_of_getElem? (i := 382) (by decide +kernel), rfl⟩
theorem kw_341 : Cond.instanceMethod y_Pl_lastDay ∈ zw_tbl := List.mem_filter.mpr ⟨List.mem_of_getElem? (i := 383) (by decide +kernel), rfl⟩
theorem kw_342 : Cond.selects R_Pl y_Pl_lastDay y_Pl_lastDay ∈ zw_tbl := List.mem_filter.mpr ⟨List.mem_of_getElem? (i := 384) (by decide +kernel), rfl⟩
theorem kw_343 : Cond.code y_Pl_lastDay b_Pl_lastDay (1 : Nat) (Option.some FieldType.int) ∈ zw_tbl := List.mem_filter.mpr ⟨List.mem_of_getElem? (i := 385) (by decide +kernel), rfl⟩
theorem kw_344 : Cond.constantLong R_SS (128 : Nat) (-1000000000000000000 : Int64) ∈ zw_tbl := List.mem_filter.mpr ⟨List.mem_of_getElem? (i := 386) (by decide +kernel), rfl⟩
theorem kw_345 : Cond.methodLink R_SS (130 : Nat) y_Pl_openStage ∈ zw_tbl := List.mem_filter.mpr ⟨List.mem_of_getElem? (i := 387) (by decide +kernel), rfl⟩
theorem kw_346 : Cond.instanceMethod y_Pl_openStage ∈ zw_tbl := List.mem_filter.mpr ⟨List.mem_of_getElem? (i := 388) (by decide +kernel), rfl⟩
theorem kw_347 : Cond.selects R_Pl y_Pl_openStage y_Pl_openStage ∈ zw_tbl := List.mem_filter.mpr ⟨List.mem_of_getElem? (i := 389) (by decide +kernel), rfl⟩
theorem kw_348 : Cond.code y_Pl_openStage b_Pl_openStage (2 : Nat) (Option.some FieldType.int) ∈ zw_tbl := List.mem_filter.mpr ⟨List.mem_of_getElem? (i := 390) (by decide +kernel), rfl⟩
theorem kw_349 : Cond.methodLink R_Pl (57 : Nat) y_Pl_forgetPassedEnd ∈ zw_tbl := List.mem_filter.mpr ⟨List.mem_of_getElem? (i := 391) (by decide +kernel), rfl⟩
theorem kw_351 : Cond.instanceMethod y_Pl_forgetPassedEnd ∈ zw_tbl := List.mem_filter.mpr ⟨List.mem_of_getElem? (i := 393) (by decide +kernel), rfl⟩
theorem kw_352 : Cond.code y_Pl_forgetPassedEnd b_Pl_forgetPassedEnd (1 : Nat) (Option.none : Option FieldType) ∈ zw_tbl := List.mem_filter.mpr ⟨List.mem_of_getElem? (i := 394) (by decide +kernel), rfl⟩
theorem kw_353 : Cond.methodLink R_La (53 : Nat) y_SS_add ∈ zw_tbl := List.mem_filter.mpr ⟨List.mem_of_getElem? (i := 395) (by decide +kernel), rfl⟩
theorem kw_354 : Cond.instanceMethod y_SS_add ∈ zw_tbl := List.mem_filter.mpr ⟨List.mem_of_getElem? (i := 396) (by decide +kernel), rfl⟩
theorem kw_355 : Cond.selects R_SS y_SS_add y_SS_add ∈ zw_tbl := List.mem_filter.mpr ⟨List.mem_of_getElem? (i := 397) (by decide +kernel), rfl⟩
theorem kw_356 : Cond.code y_SS_add b_SS_add (2 : Nat) (Option.some FieldType.boolean) ∈ zw_tbl := List.mem_filter.mpr ⟨List.mem_of_getElem? (i := 398) (by decide +kernel), rfl⟩
theorem kw_357 : Cond.methodLink R_SS (133 : Nat) y_Pl_takesPart ∈ zw_tbl := List.mem_filter.mpr ⟨List.mem_of_getElem? (i := 399) (by decide +kernel), rfl⟩
theorem kw_358 : Cond.instanceMethod y_Pl_takesPart ∈ zw_tbl := List.mem_filter.mpr ⟨List.mem_of_getElem? (i := 400) (by decide +kernel), rfl⟩
theorem kw_359 : Cond.selects R_Pl y_Pl_takesPart y_Pl_takesPart ∈ zw_tbl := List.mem_filter.mpr ⟨List.mem_of_getElem? (i := 401) (by decide +kernel), rfl⟩
theorem kw_360 : Cond.code y_Pl_takesPart b_Pl_takesPart (2 : Nat) (Option.some FieldType.boolean) ∈ zw_tbl := List.mem_filter.mpr ⟨List.mem_of_getElem? (i := 402) (by decide +kernel), rfl⟩
theorem kw_361 : Cond.methodLink R_Pl (60 : Nat) y_Pl_hasRoom ∈ zw_tbl := List.mem_filter.mpr ⟨List.mem_of_getElem? (i := 403) (by decide +kernel), rfl⟩
theorem kw_362 : Cond.instanceMethod y_Pl_hasRoom ∈ zw_tbl := List.mem_filter.mpr ⟨List.mem_of_getElem? (i := 404) (by decide +kernel), rfl⟩
theorem kw_363 : Cond.selects R_Pl y_Pl_hasRoom y_Pl_hasRoom ∈ zw_tbl := List.mem_filter.mpr ⟨List.mem_of_getElem? (i := 405) (by decide +kernel), rfl⟩
theorem kw_364 : Cond.code y_Pl_hasRoom b_Pl_hasRoom (1 : Nat) (Option.some FieldType.boolean) ∈ zw_tbl := List.mem_filter.mpr ⟨List.mem_of_getElem? (i := 406) (by decide +kernel), rfl⟩
theorem kw_365 : Cond.methodLink R_Pl (67 : Nat) y_Pl_placeOf ∈ zw_tbl := List.mem_filter.mpr ⟨List.mem_of_getElem? (i := 407) (by decide +kernel), rfl⟩
theorem kw_366 : Cond.methodLink R_SS (136 : Nat) y_Pl_partBits ∈ zw_tbl := List.mem_filter.mpr ⟨List.mem_of_getElem? (i := 408) (by decide +kernel), rfl⟩
theorem kw_367 : Cond.instanceMethod y_Pl_partBits ∈ zw_tbl := List.mem_filter.mpr ⟨List.mem_of_getElem? (i := 409) (by decide +kernel), rfl⟩
theorem kw_368 : Cond.selects R_Pl y_Pl_partBits y_Pl_partBits ∈ zw_tbl := List.mem_filter.mpr ⟨List.mem_of_getElem? (i := 410) (by decide +kernel), rfl⟩
theorem kw_369 : Cond.code y_Pl_partBits b_Pl_partBits (3 : Nat) (Option.some FieldType.int) ∈ zw_tbl := List.mem_filter.mpr ⟨List.mem_of_getElem? (i := 411) (by decide +kernel), rfl⟩
theorem kw_370 : Cond.methodLink R_SS (140 : Nat) y_Gi_mayFollow ∈ zw_tbl := List.mem_filter.mpr ⟨List.mem_of_getElem? (i := 412) (by decide +kernel), rfl⟩
theorem kw_371 : Cond.instanceMethod y_Gi_mayFollow ∈ zw_tbl := List.mem_filter.mpr ⟨List.mem_of_getElem? (i := 413) (by decide +kernel), rfl⟩
theorem kw_372 : Cond.selects R_Gi y_Gi_mayFollow y_Gi_mayFollow ∈ zw_tbl := List.mem_filter.mpr ⟨List.mem_of_getElem? (i := 414) (by decide +kernel), rfl⟩
theorem kw_373 : Cond.code y_Gi_mayFollow b_Gi_mayFollow (3 : Nat) (Option.some FieldType.boolean) ∈ zw_tbl := List.mem_filter.mpr ⟨List.mem_of_getElem? (i := 415) (by decide +kernel), rfl⟩
theorem kw_374 : Cond.methodLink R_SS (143 : Nat) y_Pl_putPart ∈ zw_tbl := List.mem_filter.mpr ⟨List.mem_of_getElem? (i := 416) (by decide +kernel), rfl⟩
theorem kw_375 : Cond.instanceMethod y_Pl_putPart ∈ zw_tbl := List.mem_filter.mpr ⟨List.mem_of_getElem? (i := 417) (by decide +kernel), rfl⟩
theorem kw_376 : Cond.selects R_Pl y_Pl_putPart y_Pl_putPart ∈ zw_tbl := List.mem_filter.mpr ⟨List.mem_of_getElem? (i := 418) (by decide +kernel), rfl⟩
theorem kw_377 : Cond.code y_Pl_putPart b_Pl_putPart (2 : Nat) (Option.none : Option FieldType) ∈ zw_tbl := List.mem_filter.mpr ⟨List.mem_of_getElem? (i := 419) (by decide +kernel), rfl⟩
theorem kw_378 : Cond.methodLink R_Pl (71 : Nat) y_Pl_putAct ∈ zw_tbl := List.mem_filter.mpr ⟨List.mem_of_getElem? (i := 420) (by decide +kernel), rfl⟩
theorem kw_379 : Cond.instanceMethod y_Pl_putAct ∈ zw_tbl := List.mem_filter.mpr ⟨List.mem_of_getElem? (i := 421) (by decide +kernel), rfl⟩
theorem kw_380 : Cond.selects R_Pl y_Pl_putAct y_Pl_putAct ∈ zw_tbl := List.mem_filter.mpr ⟨List.mem_of_getElem? (i := 422) (by decide +kernel), rfl⟩
theorem kw_381 : Cond.code y_Pl_putAct b_Pl_putAct (4 : Nat) (Option.none : Option FieldType) ∈ zw_tbl := List.mem_filter.mpr ⟨List.mem_of_getElem? (i := 423) (by decide +kernel), rfl⟩
theorem kw_382 : Cond.methodLink R_La (58 : Nat) y_SS_load ∈ zw_tbl := List.mem_filter.mpr ⟨List.mem_of_getElem? (i := 424) (by decide +kernel), rfl⟩
theorem kw_383 : Cond.instanceMethod y_SS_load ∈ zw_tbl := List.mem_filter.mpr ⟨List.mem_of_getElem? (i := 425) (by decide +kernel), rfl⟩
theorem kw_384 : Cond.selects R_SS y_SS_load y_SS_load ∈ zw_tbl := List.mem_filter.mpr ⟨List.mem_of_getElem? (i := 426) (by decide +kernel), rfl⟩
theorem kw_385 : Cond.code y_SS_load b_SS_load (3 : Nat) (Option.some FieldType.boolean) ∈ zw_tbl := List.mem_filter.mpr ⟨List.mem_of_getElem? (i := 427) (by decide +kernel), rfl⟩
theorem kw_386 : Cond.methodLink R_SS (146 : Nat) y_Pl_hasRoom ∈ zw_tbl := List.mem_filter.mpr ⟨List.mem_of_getElem? (i := 428) (by decide +kernel), rfl⟩
theorem kw_387 : Cond.methodLink R_SS (150 : Nat) y_Pl_putAct ∈ zw_tbl := List.mem_filter.mpr ⟨List.mem_of_getElem? (i := 429) (by decide +kernel), rfl⟩
theorem kw_388 : Cond.methodLink R_La (62 : Nat) y_SS_support ∈ zw_tbl := List.mem_filter.mpr ⟨List.mem_of_getElem? (i := 430) (by decide +kernel), rfl⟩
theorem kw_389 : Cond.instanceMethod y_SS_support ∈ zw_tbl := List.mem_filter.mpr ⟨List.mem_of_getElem? (i := 431) (by decide +kernel), rfl⟩
theorem kw_390 : Cond.selects R_SS y_SS_support y_SS_support ∈ zw_tbl := List.mem_filter.mpr ⟨List.mem_of_getElem? (i := 432) (by decide +kernel), rfl⟩
theorem kw_391 : Cond.code y_SS_support b_SS_support (3 : Nat) (Option.some FieldType.boolean) ∈ zw_tbl := List.mem_filter.mpr ⟨List.mem_of_getElem? (i := 433) (by decide +kernel), rfl⟩
theorem kw_392 : Cond.methodLink R_SS (154 : Nat) y_Pl_onBits ∈ zw_tbl := List.mem_filter.mpr ⟨List.mem_of_getElem? (i := 434) (by decide +kernel), rfl⟩
theorem kw_393 : Cond.instanceMethod y_Pl_onBits ∈ zw_tbl := List.mem_filter.mpr ⟨List.mem_of_getElem? (i := 435) (by decide +kernel), rfl⟩
theorem kw_394 : Cond.selects R_Pl y_Pl_onBits y_Pl_onBits ∈ zw_tbl := List.mem_filter.mpr ⟨List.mem_of_getElem? (i := 436) (by decide +kernel), rfl⟩
theorem kw_395 : Cond.code y_Pl_onBits b_Pl_onBits (3 : Nat) (Option.some FieldType.int) ∈ zw_tbl := List.mem_filter.mpr ⟨List.mem_of_getElem? (i := 437) (by decide +kernel), rfl⟩
theorem kw_396 : Cond.methodLink R_SS (157 : Nat) y_SS_hasBit ∈ zw_tbl := List.mem_filter.mpr ⟨List.mem_of_getElem? (i := 438) (by decide +kernel), rfl⟩
theorem kw_397 : Cond.methodLink R_La (67 : Nat) y_SS_end ∈ zw_tbl := List.mem_filter.mpr ⟨List.mem_of_getElem? (i := 439) (by decide +kernel), rfl⟩
theorem kw_398 : Cond.instanceMethod y_SS_end ∈ zw_tbl := List.mem_filter.mpr ⟨List.mem_of_getElem? (i := 440) (by decide +kernel), rfl⟩
theorem kw_399 : Cond.selects R_SS y_SS_end y_SS_end ∈ zw_tbl := List.mem_filter.mpr ⟨List.mem_of_getElem? (i := 441) (by decide +kernel), rfl⟩
theorem kw_400 : Cond.code y_SS_end b_SS_end (2 : Nat) (Option.some FieldType.boolean) ∈ zw_tbl := List.mem_filter.mpr ⟨List.mem_of_getElem? (i := 442) (by decide +kernel), rfl⟩
theorem kw_401 : Cond.methodLink R_SS (163 : Nat) y_Pl_lastDay ∈ zw_tbl := List.mem_filter.mpr ⟨List.mem_of_getElem? (i := 443) (by decide +kernel), rfl⟩
theorem kw_402 : Cond.constant R_SS (166 : Nat) (40000 : Int32) ∈ zw_tbl := List.mem_filter.mpr ⟨List.mem_of_getElem? (i := 444) (by decide +kernel), rfl⟩
theorem kw_403 : Cond.methodLink R_La (71 : Nat) y_SS_level ∈ zw_tbl := List.mem_filter.mpr ⟨List.mem_of_getElem? (i := 445) (by decide +kernel), rfl⟩
theorem kw_404 : Cond.instanceMethod y_SS_level ∈ zw_tbl := List.mem_filter.mpr ⟨List.mem_of_getElem? (i := 446) (by decide +kernel), rfl⟩
theorem kw_405 : Cond.selects R_SS y_SS_level y_SS_level ∈ zw_tbl := List.mem_filter.mpr ⟨List.mem_of_getElem? (i := 447) (by decide +kernel), rfl⟩
theorem kw_406 : Cond.code y_SS_level b_SS_level (3 : Nat) (Option.some FieldType.long) ∈ zw_tbl := List.mem_filter.mpr ⟨List.mem_of_getElem? (i := 448) (by decide +kernel), rfl⟩
theorem kw_407 : Cond.methodLink R_SS (170 : Nat) y_SS_isThere ∈ zw_tbl := List.mem_filter.mpr ⟨List.mem_of_getElem? (i := 449) (by decide +kernel), rfl⟩
theorem kw_409 : Cond.instanceMethod y_SS_isThere ∈ zw_tbl := List.mem_filter.mpr ⟨List.mem_of_getElem? (i := 451) (by decide +kernel), rfl⟩
theorem kw_410 : Cond.code y_SS_isThere b_SS_isThere (4 : Nat) (Option.some FieldType.boolean) ∈ zw_tbl := List.mem_filter.mpr ⟨List.mem_of_getElem? (i := 452) (by decide +kernel), rfl⟩
theorem kw_411 : Cond.methodLink R_SS (186 : Nat) y_Pl_hasStage ∈ zw_tbl := List.mem_filter.mpr ⟨List.mem_of_getElem? (i := 453) (by decide +kernel), rfl⟩
theorem kw_412 : Cond.instanceMethod y_Pl_hasStage ∈ zw_tbl := List.mem_filter.mpr ⟨List.mem_of_getElem? (i := 454) (by decide +kernel), rfl⟩
theorem kw_413 : Cond.selects R_Pl y_Pl_hasStage y_Pl_hasStage ∈ zw_tbl := List.mem_filter.mpr ⟨List.mem_of_getElem? (i := 455) (by decide +kernel), rfl⟩
theorem kw_414 : Cond.code y_Pl_hasStage b_Pl_hasStage (2 : Nat) (Option.some FieldType.boolean) ∈ zw_tbl := List.mem_filter.mpr ⟨List.mem_of_getElem? (i := 456) (by decide +kernel), rfl⟩
theorem kw_415 : Cond.methodLink R_SS (183 : Nat) y_Pl_stageOf ∈ zw_tbl := List.mem_filter.mpr ⟨List.mem_of_getElem? (i := 457) (by decide +kernel), rfl⟩
theorem kw_416 : Cond.instanceMethod y_Pl_stageOf ∈ zw_tbl := List.mem_filter.mpr ⟨List.mem_of_getElem? (i := 458) (by decide +kernel), rfl⟩
theorem kw_417 : Cond.selects R_Pl y_Pl_stageOf y_Pl_stageOf ∈ zw_tbl := List.mem_filter.mpr ⟨List.mem_of_getElem? (i := 459) (by decide +kernel), rfl⟩
theorem kw_418 : Cond.code y_Pl_stageOf b_Pl_stageOf (3 : Nat) (Option.some FieldType.int) ∈ zw_tbl := List.mem_filter.mpr ⟨List.mem_of_getElem? (i := 460) (by decide +kernel), rfl⟩
theorem kw_419 : Cond.methodLink R_SS (173 : Nat) y_SS_levelThen ∈ zw_tbl := List.mem_filter.mpr ⟨List.mem_of_getElem? (i := 461) (by decide +kernel), rfl⟩
theorem kw_421 : Cond.instanceMethod y_SS_levelThen ∈ zw_tbl := List.mem_filter.mpr ⟨List.mem_of_getElem? (i := 463) (by decide +kernel), rfl⟩
theorem kw_422 : Cond.code y_SS_levelThen b_SS_levelThen (3 : Nat) (Option.some FieldType.long) ∈ zw_tbl := List.mem_filter.mpr ⟨List.mem_of_getElem? (i := 464) (by decide +kernel), rfl⟩
theorem kw_423 : Cond.methodLink R_SS (177 : Nat) y_SS_castAll ∈ zw_tbl := List.mem_filter.mpr ⟨List.mem_of_getElem? (i := 465) (by decide +kernel), rfl⟩
theorem kw_425 : Cond.instanceMethod y_SS_castAll ∈ zw_tbl := List.mem_filter.mpr ⟨List.mem_of_getElem? (i := 467) (by decide +kernel), rfl⟩
theorem kw_426 : Cond.code y_SS_castAll b_SS_castAll (2 : Nat) (Option.none : Option FieldType) ∈ zw_tbl := List.mem_filter.mpr ⟨List.mem_of_getElem? (i := 468) (by decide +kernel), rfl⟩
theorem kw_427 : Cond.methodLink R_SS (244 : Nat) y_Pl_endDay ∈ zw_tbl := List.mem_filter.mpr ⟨List.mem_of_getElem? (i := 469) (by decide +kernel), rfl⟩
theorem kw_428 : Cond.instanceMethod y_Pl_endDay ∈ zw_tbl := List.mem_filter.mpr ⟨List.mem_of_getElem? (i := 470) (by decide +kernel), rfl⟩
theorem kw_429 : Cond.selects R_Pl y_Pl_endDay y_Pl_endDay ∈ zw_tbl := List.mem_filter.mpr ⟨List.mem_of_getElem? (i := 471) (by decide +kernel), rfl⟩
theorem kw_430 : Cond.code y_Pl_endDay b_Pl_endDay (1 : Nat) (Option.some FieldType.int) ∈ zw_tbl := List.mem_filter.mpr ⟨List.mem_of_getElem? (i := 472) (by decide +kernel), rfl⟩
theorem kw_431 : Cond.methodLink R_Pl (51 : Nat) y_Math_maxi ∈ zw_tbl := List.mem_filter.mpr ⟨List.mem_of_getElem? (i := 473) (by decide +kernel), rfl⟩
theorem kw_432 : Cond.methodLink R_SS (251 : Nat) y_Wa_aim ∈ zw_tbl := List.mem_filter.mpr ⟨List.mem_of_getElem? (i := 474) (by decide +kernel), rfl⟩
theorem kw_433 : Cond.instanceMethod y_Wa_aim ∈ zw_tbl := List.mem_filter.mpr ⟨List.mem_of_getElem? (i := 475) (by decide +kernel), rfl⟩
theorem kw_434 : Cond.selects R_Wa y_Wa_aim y_Wa_aim ∈ zw_tbl := List.mem_filter.mpr ⟨List.mem_of_getElem? (i := 476) (by decide +kernel), rfl⟩
theorem kw_435 : Cond.code y_Wa_aim b_Wa_aim (5 : Nat) (Option.none : Option FieldType) ∈ zw_tbl := List.mem_filter.mpr ⟨List.mem_of_getElem? (i := 477) (by decide +kernel), rfl⟩
theorem kw_436 : Cond.methodLink R_Wa (54 : Nat) y_Cr_at ∈ zw_tbl := List.mem_filter.mpr ⟨List.mem_of_getElem? (i := 478) (by decide +kernel), rfl⟩
theorem kw_437 : Cond.instanceMethod y_Cr_at ∈ zw_tbl := List.mem_filter.mpr ⟨List.mem_of_getElem? (i := 479) (by decide +kernel), rfl⟩
theorem kw_438 : Cond.selects R_Cr y_Cr_at y_Cr_at ∈ zw_tbl := List.mem_filter.mpr ⟨List.mem_of_getElem? (i := 480) (by decide +kernel), rfl⟩
theorem kw_439 : Cond.code y_Cr_at b_Cr_at (4 : Nat) (Option.some FieldType.int) ∈ zw_tbl := List.mem_filter.mpr ⟨List.mem_of_getElem? (i := 481) (by decide +kernel), rfl⟩
theorem kw_440 : Cond.methodLink R_SS (257 : Nat) y_Wa_go ∈ zw_tbl := List.mem_filter.mpr ⟨List.mem_of_getElem? (i := 482) (by decide +kernel), rfl⟩
theorem kw_441 : Cond.instanceMethod y_Wa_go ∈ zw_tbl := List.mem_filter.mpr ⟨List.mem_of_getElem? (i := 483) (by decide +kernel), rfl⟩
theorem kw_442 : Cond.selects R_Wa y_Wa_go y_Wa_go ∈ zw_tbl := List.mem_filter.mpr ⟨List.mem_of_getElem? (i := 484) (by decide +kernel), rfl⟩
theorem kw_443 : Cond.code y_Wa_go b_Wa_go (6 : Nat) (Option.some FieldType.boolean) ∈ zw_tbl := List.mem_filter.mpr ⟨List.mem_of_getElem? (i := 485) (by decide +kernel), rfl⟩
theorem kw_444 : Cond.methodLink R_Wa (60 : Nat) y_Wa_begin ∈ zw_tbl := List.mem_filter.mpr ⟨List.mem_of_getElem? (i := 486) (by decide +kernel), rfl⟩
theorem kw_446 : Cond.instanceMethod y_Wa_begin ∈ zw_tbl := List.mem_filter.mpr ⟨List.mem_of_getElem? (i := 488) (by decide +kernel), rfl⟩
theorem kw_447 : Cond.code y_Wa_begin b_Wa_begin (3 : Nat) (Option.none : Option FieldType) ∈ zw_tbl := List.mem_filter.mpr ⟨List.mem_of_getElem? (i := 489) (by decide +kernel), rfl⟩
theorem kw_448 : Cond.methodLink R_Wa (115 : Nat) y_Arr_fill_l ∈ zw_tbl := List.mem_filter.mpr ⟨List.mem_of_getElem? (i := 490) (by decide +kernel), rfl⟩
theorem kw_449 : Cond.static y_Arr_fill_l ∈ zw_tbl := List.mem_filter.mpr ⟨List.mem_of_getElem? (i := 491) (by decide +kernel), rfl⟩
theorem kw_450 : Cond.code y_Arr_fill_l b_Arr_fill_l (5 : Nat) (Option.none : Option FieldType) ∈ zw_tbl := List.mem_filter.mpr ⟨List.mem_of_getElem? (i := 492) (by decide +kernel), rfl⟩
theorem kw_451 : Cond.methodLink R_Wa (121 : Nat) y_Arr_fill_i ∈ zw_tbl := List.mem_filter.mpr ⟨List.mem_of_getElem? (i := 493) (by decide +kernel), rfl⟩
theorem kw_452 : Cond.static y_Arr_fill_i ∈ zw_tbl := List.mem_filter.mpr ⟨List.mem_of_getElem? (i := 494) (by decide +kernel), rfl⟩
theorem kw_453 : Cond.code y_Arr_fill_i b_Arr_fill_i (4 : Nat) (Option.none : Option FieldType) ∈ zw_tbl := List.mem_filter.mpr ⟨List.mem_of_getElem? (i := 495) (by decide +kernel), rfl⟩
theorem kw_454 : Cond.methodLink R_Wa (84 : Nat) y_Wa_press ∈ zw_tbl := List.mem_filter.mpr ⟨List.mem_of_getElem? (i := 496) (by decide +kernel), rfl⟩
theorem kw_456 : Cond.instanceMethod y_Wa_press ∈ zw_tbl := List.mem_filter.mpr ⟨List.mem_of_getElem? (i := 498) (by decide +kernel), rfl⟩
theorem kw_457 : Cond.code y_Wa_press b_Wa_press (5 : Nat) (Option.none : Option FieldType) ∈ zw_tbl := List.mem_filter.mpr ⟨List.mem_of_getElem? (i := 499) (by decide +kernel), rfl⟩
theorem kw_458 : Cond.constantLong R_Wa (130 : Nat) (1000 : Int64) ∈ zw_tbl := List.mem_filter.mpr ⟨List.mem_of_getElem? (i := 500) (by decide +kernel), rfl⟩
theorem kw_459 : Cond.methodLink R_Wa (135 : Nat) y_Wa_lift ∈ zw_tbl := List.mem_filter.mpr ⟨List.mem_of_getElem? (i := 501) (by decide +kernel), rfl⟩
theorem kw_461 : Cond.instanceMethod y_Wa_lift ∈ zw_tbl := List.mem_filter.mpr ⟨List.mem_of_getElem? (i := 503) (by decide +kernel), rfl⟩
theorem kw_462 : Cond.code y_Wa_lift b_Wa_lift (5 : Nat) (Option.none : Option FieldType) ∈ zw_tbl := List.mem_filter.mpr ⟨List.mem_of_getElem? (i := 504) (by decide +kernel), rfl⟩
theorem kw_464 : Cond.methodLink R_Wa (98 : Nat) y_Wa_letGo ∈ zw_tbl := List.mem_filter.mpr ⟨List.mem_of_getElem? (i := 506) (by decide +kernel), rfl⟩
theorem kw_466 : Cond.instanceMethod y_Wa_letGo ∈ zw_tbl := List.mem_filter.mpr ⟨List.mem_of_getElem? (i := 508) (by decide +kernel), rfl⟩
theorem kw_467 : Cond.code y_Wa_letGo b_Wa_letGo (4 : Nat) (Option.none : Option FieldType) ∈ zw_tbl := List.mem_filter.mpr ⟨List.mem_of_getElem? (i := 509) (by decide +kernel), rfl⟩
theorem kw_468 : Cond.constantLong R_SS (197 : Nat) (1000000000 : Int64) ∈ zw_tbl := List.mem_filter.mpr ⟨List.mem_of_getElem? (i := 510) (by decide +kernel), rfl⟩
theorem kw_469 : Cond.methodLink R_SS (189 : Nat) y_SS_walkTo ∈ zw_tbl := List.mem_filter.mpr ⟨List.mem_of_getElem? (i := 511) (by decide +kernel), rfl⟩
theorem kw_471 : Cond.instanceMethod y_SS_walkTo ∈ zw_tbl := List.mem_filter.mpr ⟨List.mem_of_getElem? (i := 513) (by decide +kernel), rfl⟩
theorem kw_472 : Cond.code y_SS_walkTo b_SS_walkTo (2 : Nat) (Option.none : Option FieldType) ∈ zw_tbl := List.mem_filter.mpr ⟨List.mem_of_getElem? (i := 514) (by decide +kernel), rfl⟩
theorem kw_473 : Cond.methodLink R_SS (247 : Nat) y_SS_heightNow ∈ zw_tbl := List.mem_filter.mpr ⟨List.mem_of_getElem? (i := 515) (by decide +kernel), rfl⟩
theorem kw_475 : Cond.instanceMethod y_SS_heightNow ∈ zw_tbl := List.mem_filter.mpr ⟨List.mem_of_getElem? (i := 517) (by decide +kernel), rfl⟩
theorem kw_476 : Cond.code y_SS_heightNow b_SS_heightNow (2 : Nat) (Option.some FieldType.long) ∈ zw_tbl := List.mem_filter.mpr ⟨List.mem_of_getElem? (i := 518) (by decide +kernel), rfl⟩
theorem kw_477 : Cond.methodLink R_La (76 : Nat) y_SS_of ∈ zw_tbl := List.mem_filter.mpr ⟨List.mem_of_getElem? (i := 519) (by decide +kernel), rfl⟩
theorem kw_478 : Cond.instanceMethod y_SS_of ∈ zw_tbl := List.mem_filter.mpr ⟨List.mem_of_getElem? (i := 520) (by decide +kernel), rfl⟩
theorem kw_479 : Cond.selects R_SS y_SS_of y_SS_of ∈ zw_tbl := List.mem_filter.mpr ⟨List.mem_of_getElem? (i := 521) (by decide +kernel), rfl⟩
theorem kw_480 : Cond.code y_SS_of b_SS_of (3 : Nat) (Option.some FieldType.long) ∈ zw_tbl := List.mem_filter.mpr ⟨List.mem_of_getElem? (i := 522) (by decide +kernel), rfl⟩
theorem kw_481 : Cond.methodLink R_La (80 : Nat) y_SS_carries ∈ zw_tbl := List.mem_filter.mpr ⟨List.mem_of_getElem? (i := 523) (by decide +kernel), rfl⟩
theorem kw_482 : Cond.instanceMethod y_SS_carries ∈ zw_tbl := List.mem_filter.mpr ⟨List.mem_of_getElem? (i := 524) (by decide +kernel), rfl⟩
theorem kw_483 : Cond.selects R_SS y_SS_carries y_SS_carries ∈ zw_tbl := List.mem_filter.mpr ⟨List.mem_of_getElem? (i := 525) (by decide +kernel), rfl⟩
theorem kw_484 : Cond.code y_SS_carries b_SS_carries (3 : Nat) (Option.some FieldType.long) ∈ zw_tbl := List.mem_filter.mpr ⟨List.mem_of_getElem? (i := 526) (by decide +kernel), rfl⟩
theorem kw_485 : Cond.methodLink R_La (84 : Nat) y_SS_survey ∈ zw_tbl := List.mem_filter.mpr ⟨List.mem_of_getElem? (i := 527) (by decide +kernel), rfl⟩
theorem kw_486 : Cond.instanceMethod y_SS_survey ∈ zw_tbl := List.mem_filter.mpr ⟨List.mem_of_getElem? (i := 528) (by decide +kernel), rfl⟩
theorem kw_487 : Cond.selects R_SS y_SS_survey y_SS_survey ∈ zw_tbl := List.mem_filter.mpr ⟨List.mem_of_getElem? (i := 529) (by decide +kernel), rfl⟩
theorem kw_488 : Cond.code y_SS_survey b_SS_survey (6 : Nat) (Option.some FieldType.long) ∈ zw_tbl := List.mem_filter.mpr ⟨List.mem_of_getElem? (i := 530) (by decide +kernel), rfl⟩
theorem kw_489 : Cond.constant R_SS (195 : Nat) (-1000000 : Int32) ∈ zw_tbl := List.mem_filter.mpr ⟨List.mem_of_getElem? (i := 531) (by decide +kernel), rfl⟩
theorem kw_490 : Cond.constant R_SS (196 : Nat) (1000000 : Int32) ∈ zw_tbl := List.mem_filter.mpr ⟨List.mem_of_getElem? (i := 532) (by decide +kernel), rfl⟩
theorem kw_491 : Cond.methodLink R_SS (199 : Nat) y_SS_spread ∈ zw_tbl := List.mem_filter.mpr ⟨List.mem_of_getElem? (i := 533) (by decide +kernel), rfl⟩
theorem kw_493 : Cond.instanceMethod y_SS_spread ∈ zw_tbl := List.mem_filter.mpr ⟨List.mem_of_getElem? (i := 535) (by decide +kernel), rfl⟩
theorem kw_494 : Cond.code y_SS_spread b_SS_spread (7 : Nat) (Option.none : Option FieldType) ∈ zw_tbl := List.mem_filter.mpr ⟨List.mem_of_getElem? (i := 536) (by decide +kernel), rfl⟩
theorem kw_495 : Cond.methodLink R_SS (267 : Nat) y_SS_towardsZero ∈ zw_tbl := List.mem_filter.mpr ⟨List.mem_of_getElem? (i := 537) (by decide +kernel), rfl⟩
theorem kw_496 : Cond.static y_SS_towardsZero ∈ zw_tbl := List.mem_filter.mpr ⟨List.mem_of_getElem? (i := 538) (by decide +kernel), rfl⟩
theorem kw_497 : Cond.code y_SS_towardsZero b_SS_towardsZero (4 : Nat) (Option.some FieldType.long) ∈ zw_tbl := List.mem_filter.mpr ⟨List.mem_of_getElem? (i := 539) (by decide +kernel), rfl⟩
theorem kw_498 : Cond.methodLink R_SS (271 : Nat) y_Math_minl ∈ zw_tbl := List.mem_filter.mpr ⟨List.mem_of_getElem? (i := 540) (by decide +kernel), rfl⟩
theorem kw_499 : Cond.static y_Math_minl ∈ zw_tbl := List.mem_filter.mpr ⟨List.mem_of_getElem? (i := 541) (by decide +kernel), rfl⟩
theorem kw_500 : Cond.code y_Math_minl prog_10_method_70_code (4 : Nat) (Option.some FieldType.long) ∈ zw_tbl := List.mem_filter.mpr ⟨List.mem_of_getElem? (i := 542) (by decide +kernel), rfl⟩
theorem kw_501 : Cond.methodLink R_SS (273 : Nat) y_Math_maxl ∈ zw_tbl := List.mem_filter.mpr ⟨List.mem_of_getElem? (i := 543) (by decide +kernel), rfl⟩
theorem kw_502 : Cond.static y_Math_maxl ∈ zw_tbl := List.mem_filter.mpr ⟨List.mem_of_getElem? (i := 544) (by decide +kernel), rfl⟩
theorem kw_503 : Cond.code y_Math_maxl prog_10_method_66_code (4 : Nat) (Option.some FieldType.long) ∈ zw_tbl := List.mem_filter.mpr ⟨List.mem_of_getElem? (i := 545) (by decide +kernel), rfl⟩
theorem kw_504 : Cond.methodLink R_La (89 : Nat) y_SS_most ∈ zw_tbl := List.mem_filter.mpr ⟨List.mem_of_getElem? (i := 546) (by decide +kernel), rfl⟩
theorem kw_505 : Cond.instanceMethod y_SS_most ∈ zw_tbl := List.mem_filter.mpr ⟨List.mem_of_getElem? (i := 547) (by decide +kernel), rfl⟩
theorem kw_506 : Cond.selects R_SS y_SS_most y_SS_most ∈ zw_tbl := List.mem_filter.mpr ⟨List.mem_of_getElem? (i := 548) (by decide +kernel), rfl⟩
theorem kw_507 : Cond.code y_SS_most b_SS_most (2 : Nat) (Option.some FieldType.boolean) ∈ zw_tbl := List.mem_filter.mpr ⟨List.mem_of_getElem? (i := 549) (by decide +kernel), rfl⟩
theorem kw_508 : Cond.methodLink R_La (93 : Nat) y_SS_rule ∈ zw_tbl := List.mem_filter.mpr ⟨List.mem_of_getElem? (i := 550) (by decide +kernel), rfl⟩
theorem kw_509 : Cond.instanceMethod y_SS_rule ∈ zw_tbl := List.mem_filter.mpr ⟨List.mem_of_getElem? (i := 551) (by decide +kernel), rfl⟩
theorem kw_510 : Cond.selects R_SS y_SS_rule y_SS_rule ∈ zw_tbl := List.mem_filter.mpr ⟨List.mem_of_getElem? (i := 552) (by decide +kernel), rfl⟩
theorem kw_511 : Cond.code y_SS_rule b_SS_rule (5 : Nat) (Option.some FieldType.long) ∈ zw_tbl := List.mem_filter.mpr ⟨List.mem_of_getElem? (i := 553) (by decide +kernel), rfl⟩
theorem kw_512 : Cond.methodLink R_SS (203 : Nat) y_SS_isRuled ∈ zw_tbl := List.mem_filter.mpr ⟨List.mem_of_getElem? (i := 554) (by decide +kernel), rfl⟩
theorem kw_514 : Cond.instanceMethod y_SS_isRuled ∈ zw_tbl := List.mem_filter.mpr ⟨List.mem_of_getElem? (i := 556) (by decide +kernel), rfl⟩
theorem kw_515 : Cond.code y_SS_isRuled b_SS_isRuled (3 : Nat) (Option.some FieldType.boolean) ∈ zw_tbl := List.mem_filter.mpr ⟨List.mem_of_getElem? (i := 557) (by decide +kernel), rfl⟩
theorem kw_516 : Cond.methodLink R_SS (209 : Nat) y_Ru_put ∈ zw_tbl := List.mem_filter.mpr ⟨List.mem_of_getElem? (i := 558) (by decide +kernel), rfl⟩
theorem kw_517 : Cond.instanceMethod y_Ru_put ∈ zw_tbl := List.mem_filter.mpr ⟨List.mem_of_getElem? (i := 559) (by decide +kernel), rfl⟩
theorem kw_518 : Cond.selects R_Ru y_Ru_put y_Ru_put ∈ zw_tbl := List.mem_filter.mpr ⟨List.mem_of_getElem? (i := 560) (by decide +kernel), rfl⟩
theorem kw_519 : Cond.code y_Ru_put b_Ru_put (5 : Nat) (Option.some FieldType.int) ∈ zw_tbl := List.mem_filter.mpr ⟨List.mem_of_getElem? (i := 561) (by decide +kernel), rfl⟩
theorem kw_520 : Cond.methodLink R_La (98 : Nat) y_SS_broken ∈ zw_tbl := List.mem_filter.mpr ⟨List.mem_of_getElem? (i := 562) (by decide +kernel), rfl⟩
theorem kw_521 : Cond.instanceMethod y_SS_broken ∈ zw_tbl := List.mem_filter.mpr ⟨List.mem_of_getElem? (i := 563) (by decide +kernel), rfl⟩
theorem kw_522 : Cond.selects R_SS y_SS_broken y_SS_broken ∈ zw_tbl := List.mem_filter.mpr ⟨List.mem_of_getElem? (i := 564) (by decide +kernel), rfl⟩
theorem kw_523 : Cond.code y_SS_broken b_SS_broken (4 : Nat) (Option.some FieldType.long) ∈ zw_tbl := List.mem_filter.mpr ⟨List.mem_of_getElem? (i := 565) (by decide +kernel), rfl⟩
theorem kw_524 : Cond.methodLink R_SS (213 : Nat) y_SS_firstBroken ∈ zw_tbl := List.mem_filter.mpr ⟨List.mem_of_getElem? (i := 566) (by decide +kernel), rfl⟩
theorem kw_526 : Cond.instanceMethod y_SS_firstBroken ∈ zw_tbl := List.mem_filter.mpr ⟨List.mem_of_getElem? (i := 568) (by decide +kernel), rfl⟩
theorem kw_527 : Cond.code y_SS_firstBroken b_SS_firstBroken (3 : Nat) (Option.some FieldType.int) ∈ zw_tbl := List.mem_filter.mpr ⟨List.mem_of_getElem? (i := 569) (by decide +kernel), rfl⟩
theorem kw_528 : Cond.methodLink R_SS (275 : Nat) y_SS_isBroken ∈ zw_tbl := List.mem_filter.mpr ⟨List.mem_of_getElem? (i := 570) (by decide +kernel), rfl⟩
theorem kw_530 : Cond.instanceMethod y_SS_isBroken ∈ zw_tbl := List.mem_filter.mpr ⟨List.mem_of_getElem? (i := 572) (by decide +kernel), rfl⟩
theorem kw_531 : Cond.code y_SS_isBroken b_SS_isBroken (4 : Nat) (Option.some FieldType.boolean) ∈ zw_tbl := List.mem_filter.mpr ⟨List.mem_of_getElem? (i := 573) (by decide +kernel), rfl⟩
theorem kw_532 : Cond.methodLink R_SS (284 : Nat) y_Ru_allows ∈ zw_tbl := List.mem_filter.mpr ⟨List.mem_of_getElem? (i := 574) (by decide +kernel), rfl⟩
theorem kw_533 : Cond.instanceMethod y_Ru_allows ∈ zw_tbl := List.mem_filter.mpr ⟨List.mem_of_getElem? (i := 575) (by decide +kernel), rfl⟩
theorem kw_534 : Cond.selects R_Ru y_Ru_allows y_Ru_allows ∈ zw_tbl := List.mem_filter.mpr ⟨List.mem_of_getElem? (i := 576) (by decide +kernel), rfl⟩
theorem kw_535 : Cond.code y_Ru_allows b_Ru_allows (6 : Nat) (Option.some FieldType.boolean) ∈ zw_tbl := List.mem_filter.mpr ⟨List.mem_of_getElem? (i := 577) (by decide +kernel), rfl⟩
theorem kw_536 : Cond.constantLong R_SS (288 : Nat) (1000 : Int64) ∈ zw_tbl := List.mem_filter.mpr ⟨List.mem_of_getElem? (i := 578) (by decide +kernel), rfl⟩
theorem kw_537 : Cond.methodLink R_La (102 : Nat) y_SS_shift ∈ zw_tbl := List.mem_filter.mpr ⟨List.mem_of_getElem? (i := 579) (by decide +kernel), rfl⟩
theorem kw_538 : Cond.instanceMethod y_SS_shift ∈ zw_tbl := List.mem_filter.mpr ⟨List.mem_of_getElem? (i := 580) (by decide +kernel), rfl⟩
theorem kw_539 : Cond.selects R_SS y_SS_shift y_SS_shift ∈ zw_tbl := List.mem_filter.mpr ⟨List.mem_of_getElem? (i := 581) (by decide +kernel), rfl⟩
theorem kw_540 : Cond.code y_SS_shift b_SS_shift (3 : Nat) (Option.some FieldType.boolean) ∈ zw_tbl := List.mem_filter.mpr ⟨List.mem_of_getElem? (i := 582) (by decide +kernel), rfl⟩
theorem kw_541 : Cond.methodLink R_SS (216 : Nat) y_Pl_canMove ∈ zw_tbl := List.mem_filter.mpr ⟨List.mem_of_getElem? (i := 583) (by decide +kernel), rfl⟩
theorem kw_542 : Cond.instanceMethod y_Pl_canMove ∈ zw_tbl := List.mem_filter.mpr ⟨List.mem_of_getElem? (i := 584) (by decide +kernel), rfl⟩
theorem kw_543 : Cond.selects R_Pl y_Pl_canMove y_Pl_canMove ∈ zw_tbl := List.mem_filter.mpr ⟨List.mem_of_getElem? (i := 585) (by decide +kernel), rfl⟩
theorem kw_544 : Cond.code y_Pl_canMove b_Pl_canMove (5 : Nat) (Option.some FieldType.boolean) ∈ zw_tbl := List.mem_filter.mpr ⟨List.mem_of_getElem? (i := 586) (by decide +kernel), rfl⟩
theorem kw_545 : Cond.methodLink R_Pl (75 : Nat) y_Pl_hasStage ∈ zw_tbl := List.mem_filter.mpr ⟨List.mem_of_getElem? (i := 587) (by decide +kernel), rfl⟩
theorem kw_546 : Cond.methodLink R_SS (219 : Nat) y_Pl_move ∈ zw_tbl := List.mem_filter.mpr ⟨List.mem_of_getElem? (i := 588) (by decide +kernel), rfl⟩
theorem kw_547 : Cond.instanceMethod y_Pl_move ∈ zw_tbl := List.mem_filter.mpr ⟨List.mem_of_getElem? (i := 589) (by decide +kernel), rfl⟩
theorem kw_548 : Cond.selects R_Pl y_Pl_move y_Pl_move ∈ zw_tbl := List.mem_filter.mpr ⟨List.mem_of_getElem? (i := 590) (by decide +kernel), rfl⟩
theorem kw_549 : Cond.code y_Pl_move b_Pl_move (4 : Nat) (Option.none : Option FieldType) ∈ zw_tbl := List.mem_filter.mpr ⟨List.mem_of_getElem? (i := 591) (by decide +kernel), rfl⟩
theorem kw_550 : Cond.methodLink R_La (106 : Nat) y_SS_redo ∈ zw_tbl := List.mem_filter.mpr ⟨List.mem_of_getElem? (i := 592) (by decide +kernel), rfl⟩
theorem kw_551 : Cond.instanceMethod y_SS_redo ∈ zw_tbl := List.mem_filter.mpr ⟨List.mem_of_getElem? (i := 593) (by decide +kernel), rfl⟩
theorem kw_552 : Cond.selects R_SS y_SS_redo y_SS_redo ∈ zw_tbl := List.mem_filter.mpr ⟨List.mem_of_getElem? (i := 594) (by decide +kernel), rfl⟩
theorem kw_553 : Cond.code y_SS_redo b_SS_redo (3 : Nat) (Option.some FieldType.long) ∈ zw_tbl := List.mem_filter.mpr ⟨List.mem_of_getElem? (i := 595) (by decide +kernel), rfl⟩
theorem kw_554 : Cond.methodLink R_SS (225 : Nat) y_Pl_cutFrom ∈ zw_tbl := List.mem_filter.mpr ⟨List.mem_of_getElem? (i := 596) (by decide +kernel), rfl⟩
theorem kw_555 : Cond.instanceMethod y_Pl_cutFrom ∈ zw_tbl := List.mem_filter.mpr ⟨List.mem_of_getElem? (i := 597) (by decide +kernel), rfl⟩
theorem kw_556 : Cond.selects R_Pl y_Pl_cutFrom y_Pl_cutFrom ∈ zw_tbl := List.mem_filter.mpr ⟨List.mem_of_getElem? (i := 598) (by decide +kernel), rfl⟩
theorem kw_557 : Cond.code y_Pl_cutFrom b_Pl_cutFrom (3 : Nat) (Option.some FieldType.int) ∈ zw_tbl := List.mem_filter.mpr ⟨List.mem_of_getElem? (i := 599) (by decide +kernel), rfl⟩
theorem kw_558 : Cond.methodLink R_La (110 : Nat) y_SS_best ∈ zw_tbl := List.mem_filter.mpr ⟨List.mem_of_getElem? (i := 600) (by decide +kernel), rfl⟩
theorem kw_559 : Cond.instanceMethod y_SS_best ∈ zw_tbl := List.mem_filter.mpr ⟨List.mem_of_getElem? (i := 601) (by decide +kernel), rfl⟩
theorem kw_560 : Cond.selects R_SS y_SS_best y_SS_best ∈ zw_tbl := List.mem_filter.mpr ⟨List.mem_of_getElem? (i := 602) (by decide +kernel), rfl⟩
theorem kw_561 : Cond.code y_SS_best b_SS_best (1 : Nat) (Option.some FieldType.long) ∈ zw_tbl := List.mem_filter.mpr ⟨List.mem_of_getElem? (i := 603) (by decide +kernel), rfl⟩
theorem kw_562 : Cond.methodLink R_SS (231 : Nat) y_Se_leastGreatest ∈ zw_tbl := List.mem_filter.mpr ⟨List.mem_of_getElem? (i := 604) (by decide +kernel), rfl⟩
theorem kw_563 : Cond.instanceMethod y_Se_leastGreatest ∈ zw_tbl := List.mem_filter.mpr ⟨List.mem_of_getElem? (i := 605) (by decide +kernel), rfl⟩
theorem kw_564 : Cond.selects R_Se y_Se_leastGreatest y_Se_leastGreatest ∈ zw_tbl := List.mem_filter.mpr ⟨List.mem_of_getElem? (i := 606) (by decide +kernel), rfl⟩
theorem kw_565 : Cond.code y_Se_leastGreatest b_Se_leastGreatest (1 : Nat) (Option.some FieldType.long) ∈ zw_tbl := List.mem_filter.mpr ⟨List.mem_of_getElem? (i := 607) (by decide +kernel), rfl⟩
theorem kw_566 : Cond.constantLong R_Se (30 : Nat) (-1 : Int64) ∈ zw_tbl := List.mem_filter.mpr ⟨List.mem_of_getElem? (i := 608) (by decide +kernel), rfl⟩
theorem kw_567 : Cond.methodLink R_Se (42 : Nat) y_Pl_endDay ∈ zw_tbl := List.mem_filter.mpr ⟨List.mem_of_getElem? (i := 609) (by decide +kernel), rfl⟩
theorem kw_568 : Cond.methodLink R_Se (46 : Nat) y_Wa_aim ∈ zw_tbl := List.mem_filter.mpr ⟨List.mem_of_getElem? (i := 610) (by decide +kernel), rfl⟩
theorem kw_569 : Cond.methodLink R_Se (52 : Nat) y_Pl_partBits ∈ zw_tbl := List.mem_filter.mpr ⟨List.mem_of_getElem? (i := 611) (by decide +kernel), rfl⟩
theorem kw_570 : Cond.methodLink R_Se (55 : Nat) y_Se_tryFrom ∈ zw_tbl := List.mem_filter.mpr ⟨List.mem_of_getElem? (i := 612) (by decide +kernel), rfl⟩
theorem kw_572 : Cond.instanceMethod y_Se_tryFrom ∈ zw_tbl := List.mem_filter.mpr ⟨List.mem_of_getElem? (i := 614) (by decide +kernel), rfl⟩
theorem kw_573 : Cond.code y_Se_tryFrom b_Se_tryFrom (5 : Nat) (Option.none : Option FieldType) ∈ zw_tbl := List.mem_filter.mpr ⟨List.mem_of_getElem? (i := 615) (by decide +kernel), rfl⟩
theorem kw_574 : Cond.methodLink R_Se (62 : Nat) y_Wa_go ∈ zw_tbl := List.mem_filter.mpr ⟨List.mem_of_getElem? (i := 616) (by decide +kernel), rfl⟩
theorem kw_575 : Cond.methodLink R_Se (66 : Nat) y_Wa_greatestSize ∈ zw_tbl := List.mem_filter.mpr ⟨List.mem_of_getElem? (i := 617) (by decide +kernel), rfl⟩
theorem kw_576 : Cond.instanceMethod y_Wa_greatestSize ∈ zw_tbl := List.mem_filter.mpr ⟨List.mem_of_getElem? (i := 618) (by decide +kernel), rfl⟩
theorem kw_577 : Cond.selects R_Wa y_Wa_greatestSize y_Wa_greatestSize ∈ zw_tbl := List.mem_filter.mpr ⟨List.mem_of_getElem? (i := 619) (by decide +kernel), rfl⟩
theorem kw_578 : Cond.code y_Wa_greatestSize b_Wa_greatestSize (4 : Nat) (Option.some FieldType.long) ∈ zw_tbl := List.mem_filter.mpr ⟨List.mem_of_getElem? (i := 620) (by decide +kernel), rfl⟩
theorem kw_579 : Cond.methodLink R_Wa (105 : Nat) y_Math_absl ∈ zw_tbl := List.mem_filter.mpr ⟨List.mem_of_getElem? (i := 621) (by decide +kernel), rfl⟩
theorem kw_580 : Cond.static y_Math_absl ∈ zw_tbl := List.mem_filter.mpr ⟨List.mem_of_getElem? (i := 622) (by decide +kernel), rfl⟩
theorem kw_581 : Cond.code y_Math_absl prog_10_method_61_code (2 : Nat) (Option.some FieldType.long) ∈ zw_tbl := List.mem_filter.mpr ⟨List.mem_of_getElem? (i := 623) (by decide +kernel), rfl⟩
theorem kw_582 : Cond.methodLink R_Wa (111 : Nat) y_Math_maxl ∈ zw_tbl := List.mem_filter.mpr ⟨List.mem_of_getElem? (i := 624) (by decide +kernel), rfl⟩
theorem kw_583 : Cond.methodLink R_Se (70 : Nat) y_Se_keepIfLess ∈ zw_tbl := List.mem_filter.mpr ⟨List.mem_of_getElem? (i := 625) (by decide +kernel), rfl⟩
theorem kw_585 : Cond.instanceMethod y_Se_keepIfLess ∈ zw_tbl := List.mem_filter.mpr ⟨List.mem_of_getElem? (i := 627) (by decide +kernel), rfl⟩
theorem kw_586 : Cond.code y_Se_keepIfLess b_Se_keepIfLess (3 : Nat) (Option.none : Option FieldType) ∈ zw_tbl := List.mem_filter.mpr ⟨List.mem_of_getElem? (i := 628) (by decide +kernel), rfl⟩
theorem kw_587 : Cond.methodLink R_Se (89 : Nat) y_Sys_arraycopy ∈ zw_tbl := List.mem_filter.mpr ⟨List.mem_of_getElem? (i := 629) (by decide +kernel), rfl⟩
theorem kw_588 : Cond.static y_Sys_arraycopy ∈ zw_tbl := List.mem_filter.mpr ⟨List.mem_of_getElem? (i := 630) (by decide +kernel), rfl⟩
theorem kw_589 : Cond.native y_Sys_arraycopy ∈ zw_tbl := List.mem_filter.mpr ⟨List.mem_of_getElem? (i := 631) (by decide +kernel), rfl⟩
theorem kw_591 : Cond.methodLink R_Se (83 : Nat) y_Gi_mayFollow ∈ zw_tbl := List.mem_filter.mpr ⟨List.mem_of_getElem? (i := 633) (by decide +kernel), rfl⟩
theorem kw_592 : Cond.methodLink R_La (115 : Nat) y_SS_order ∈ zw_tbl := List.mem_filter.mpr ⟨List.mem_of_getElem? (i := 634) (by decide +kernel), rfl⟩
theorem kw_593 : Cond.instanceMethod y_SS_order ∈ zw_tbl := List.mem_filter.mpr ⟨List.mem_of_getElem? (i := 635) (by decide +kernel), rfl⟩
theorem kw_594 : Cond.selects R_SS y_SS_order y_SS_order ∈ zw_tbl := List.mem_filter.mpr ⟨List.mem_of_getElem? (i := 636) (by decide +kernel), rfl⟩
theorem kw_595 : Cond.code y_SS_order b_SS_order (2 : Nat) (Option.some FieldType.long) ∈ zw_tbl := List.mem_filter.mpr ⟨List.mem_of_getElem? (i := 637) (by decide +kernel), rfl⟩
theorem kw_596 : Cond.methodLink R_La (119 : Nat) y_SS_told ∈ zw_tbl := List.mem_filter.mpr ⟨List.mem_of_getElem? (i := 638) (by decide +kernel), rfl⟩
theorem kw_597 : Cond.instanceMethod y_SS_told ∈ zw_tbl := List.mem_filter.mpr ⟨List.mem_of_getElem? (i := 639) (by decide +kernel), rfl⟩
theorem kw_598 : Cond.selects R_SS y_SS_told y_SS_told ∈ zw_tbl := List.mem_filter.mpr ⟨List.mem_of_getElem? (i := 640) (by decide +kernel), rfl⟩
theorem kw_599 : Cond.code y_SS_told b_SS_told (2 : Nat) (Option.some FieldType.long) ∈ zw_tbl := List.mem_filter.mpr ⟨List.mem_of_getElem? (i := 641) (by decide +kernel), rfl⟩
theorem kw_600 : Cond.methodLink R_La (123 : Nat) y_SS_check ∈ zw_tbl := List.mem_filter.mpr ⟨List.mem_of_getElem? (i := 642) (by decide +kernel), rfl⟩
theorem kw_601 : Cond.instanceMethod y_SS_check ∈ zw_tbl := List.mem_filter.mpr ⟨List.mem_of_getElem? (i := 643) (by decide +kernel), rfl⟩
theorem kw_602 : Cond.selects R_SS y_SS_check y_SS_check ∈ zw_tbl := List.mem_filter.mpr ⟨List.mem_of_getElem? (i := 644) (by decide +kernel), rfl⟩
theorem kw_603 : Cond.code y_SS_check b_SS_check (4 : Nat) (Option.some FieldType.int) ∈ zw_tbl := List.mem_filter.mpr ⟨List.mem_of_getElem? (i := 645) (by decide +kernel), rfl⟩
theorem kw_604 : Cond.methodLink R_La (9 : Nat) y_La_cell ∈ zw_tbl := List.mem_filter.mpr ⟨List.mem_of_getElem? (i := 646) (by decide +kernel), rfl⟩
theorem kw_605 : Cond.static y_La_cell ∈ zw_tbl := List.mem_filter.mpr ⟨List.mem_of_getElem? (i := 647) (by decide +kernel), rfl⟩
theorem kw_606 : Cond.code y_La_cell b_La_cell (2 : Nat) (Option.some FieldType.int) ∈ zw_tbl := List.mem_filter.mpr ⟨List.mem_of_getElem? (i := 648) (by decide +kernel), rfl⟩
theorem kw_607 : Cond.classLink R_La (18 : Nat) R_Mo ∈ zw_tbl := List.mem_filter.mpr ⟨List.mem_of_getElem? (i := 649) (by decide +kernel), rfl⟩
theorem kw_608 : Cond.instantiable R_Mo (36 : Nat) ∈ zw_tbl := List.mem_filter.mpr ⟨List.mem_of_getElem? (i := 650) (by decide +kernel), rfl⟩
theorem kw_609 : Cond.methodLink R_La (20 : Nat) y_Mo_init ∈ zw_tbl := List.mem_filter.mpr ⟨List.mem_of_getElem? (i := 651) (by decide +kernel), rfl⟩
theorem kw_610 : Cond.instanceMethod y_Mo_init ∈ zw_tbl := List.mem_filter.mpr ⟨List.mem_of_getElem? (i := 652) (by decide +kernel), rfl⟩
theorem kw_611 : Cond.code y_Mo_init b_Mo_init (2 : Nat) (Option.none : Option FieldType) ∈ zw_tbl := List.mem_filter.mpr ⟨List.mem_of_getElem? (i := 653) (by decide +kernel), rfl⟩
theorem kw_612 : Cond.methodLink R_Mo (1 : Nat) y_Obj_init ∈ zw_tbl := List.mem_filter.mpr ⟨List.mem_of_getElem? (i := 654) (by decide +kernel), rfl⟩
theorem kw_613 : Cond.fieldLink R_Mo (100 : Nat) "StageStepsModel" "parts" "I" ∈ zw_tbl := List.mem_filter.mpr ⟨List.mem_of_getElem? (i := 655) (by decide +kernel), rfl⟩
theorem kw_614 : Cond.fieldLink R_Mo (7 : Nat) "StageStepsModel" "weights" "[I" ∈ zw_tbl := List.mem_filter.mpr ⟨List.mem_of_getElem? (i := 656) (by decide +kernel), rfl⟩
theorem kw_615 : Cond.fieldLink R_Mo (13 : Nat) "StageStepsModel" "wanted" "[I" ∈ zw_tbl := List.mem_filter.mpr ⟨List.mem_of_getElem? (i := 657) (by decide +kernel), rfl⟩
theorem kw_616 : Cond.fieldLink R_Mo (16 : Nat) "StageStepsModel" "flexes" "[I" ∈ zw_tbl := List.mem_filter.mpr ⟨List.mem_of_getElem? (i := 658) (by decide +kernel), rfl⟩
theorem kw_617 : Cond.fieldLink R_Mo (19 : Nat) "StageStepsModel" "shares" "[I" ∈ zw_tbl := List.mem_filter.mpr ⟨List.mem_of_getElem? (i := 659) (by decide +kernel), rfl⟩
theorem kw_618 : Cond.fieldLink R_Mo (22 : Nat) "StageStepsModel" "releases" "[I" ∈ zw_tbl := List.mem_filter.mpr ⟨List.mem_of_getElem? (i := 660) (by decide +kernel), rfl⟩
theorem kw_619 : Cond.fieldLink R_Mo (25 : Nat) "StageStepsModel" "ages" "[I" ∈ zw_tbl := List.mem_filter.mpr ⟨List.mem_of_getElem? (i := 661) (by decide +kernel), rfl⟩
theorem kw_620 : Cond.fieldLink R_Mo (28 : Nat) "StageStepsModel" "creeps" "[I" ∈ zw_tbl := List.mem_filter.mpr ⟨List.mem_of_getElem? (i := 662) (by decide +kernel), rfl⟩
theorem kw_621 : Cond.fieldLink R_Mo (126 : Nat) "StageStepsModel" "creepCount" "I" ∈ zw_tbl := List.mem_filter.mpr ⟨List.mem_of_getElem? (i := 663) (by decide +kernel), rfl⟩
theorem kw_622 : Cond.fieldLink R_Mo (31 : Nat) "StageStepsModel" "afters" "[Z" ∈ zw_tbl := List.mem_filter.mpr ⟨List.mem_of_getElem? (i := 664) (by decide +kernel), rfl⟩
theorem kw_623 : Cond.fieldLink R_Mo (35 : Nat) "StageStepsModel" "days" "[I" ∈ zw_tbl := List.mem_filter.mpr ⟨List.mem_of_getElem? (i := 665) (by decide +kernel), rfl⟩
theorem kw_624 : Cond.fieldLink R_Mo (107 : Nat) "StageStepsModel" "stages" "I" ∈ zw_tbl := List.mem_filter.mpr ⟨List.mem_of_getElem? (i := 666) (by decide +kernel), rfl⟩
theorem kw_625 : Cond.fieldLink R_Mo (38 : Nat) "StageStepsModel" "kinds" "[I" ∈ zw_tbl := List.mem_filter.mpr ⟨List.mem_of_getElem? (i := 667) (by decide +kernel), rfl⟩
theorem kw_626 : Cond.fieldLink R_Mo (41 : Nat) "StageStepsModel" "which" "[I" ∈ zw_tbl := List.mem_filter.mpr ⟨List.mem_of_getElem? (i := 668) (by decide +kernel), rfl⟩
theorem kw_627 : Cond.fieldLink R_Mo (44 : Nat) "StageStepsModel" "tonnes" "[I" ∈ zw_tbl := List.mem_filter.mpr ⟨List.mem_of_getElem? (i := 669) (by decide +kernel), rfl⟩
theorem kw_628 : Cond.fieldLink R_Mo (47 : Nat) "StageStepsModel" "stageOf" "[I" ∈ zw_tbl := List.mem_filter.mpr ⟨List.mem_of_getElem? (i := 670) (by decide +kernel), rfl⟩
theorem kw_629 : Cond.fieldLink R_Mo (133 : Nat) "StageStepsModel" "acts" "I" ∈ zw_tbl := List.mem_filter.mpr ⟨List.mem_of_getElem? (i := 671) (by decide +kernel), rfl⟩
theorem kw_630 : Cond.fieldLink R_Mo (50 : Nat) "StageStepsModel" "offsets" "[J" ∈ zw_tbl := List.mem_filter.mpr ⟨List.mem_of_getElem? (i := 672) (by decide +kernel), rfl⟩
theorem kw_631 : Cond.fieldLink R_Mo (54 : Nat) "StageStepsModel" "toldEnd" "I" ∈ zw_tbl := List.mem_filter.mpr ⟨List.mem_of_getElem? (i := 673) (by decide +kernel), rfl⟩
theorem kw_632 : Cond.fieldLink R_Mo (58 : Nat) "StageStepsModel" "most" "I" ∈ zw_tbl := List.mem_filter.mpr ⟨List.mem_of_getElem? (i := 674) (by decide +kernel), rfl⟩
theorem kw_633 : Cond.fieldLink R_Mo (61 : Nat) "StageStepsModel" "ruleKinds" "[I" ∈ zw_tbl := List.mem_filter.mpr ⟨List.mem_of_getElem? (i := 675) (by decide +kernel), rfl⟩
theorem kw_634 : Cond.fieldLink R_Mo (64 : Nat) "StageStepsModel" "ruleOf" "[I" ∈ zw_tbl := List.mem_filter.mpr ⟨List.mem_of_getElem? (i := 676) (by decide +kernel), rfl⟩
theorem kw_635 : Cond.fieldLink R_Mo (67 : Nat) "StageStepsModel" "lows" "[I" ∈ zw_tbl := List.mem_filter.mpr ⟨List.mem_of_getElem? (i := 677) (by decide +kernel), rfl⟩
theorem kw_636 : Cond.fieldLink R_Mo (70 : Nat) "StageStepsModel" "highs" "[I" ∈ zw_tbl := List.mem_filter.mpr ⟨List.mem_of_getElem? (i := 678) (by decide +kernel), rfl⟩
theorem kw_637 : Cond.fieldLink R_Mo (222 : Nat) "StageStepsModel" "rules" "I" ∈ zw_tbl := List.mem_filter.mpr ⟨List.mem_of_getElem? (i := 679) (by decide +kernel), rfl⟩
theorem kw_638 : Cond.fieldLink R_Mo (73 : Nat) "StageStepsModel" "order" "[I" ∈ zw_tbl := List.mem_filter.mpr ⟨List.mem_of_getElem? (i := 680) (by decide +kernel), rfl⟩
theorem kw_639 : Cond.fieldLink R_Mo (240 : Nat) "StageStepsModel" "orderSize" "I" ∈ zw_tbl := List.mem_filter.mpr ⟨List.mem_of_getElem? (i := 681) (by decide +kernel), rfl⟩
theorem kw_640 : Cond.fieldLink R_Mo (76 : Nat) "StageStepsModel" "taken" "[I" ∈ zw_tbl := List.mem_filter.mpr ⟨List.mem_of_getElem? (i := 682) (by decide +kernel), rfl⟩
theorem kw_641 : Cond.fieldLink R_Mo (165 : Nat) "StageStepsModel" "takenSize" "I" ∈ zw_tbl := List.mem_filter.mpr ⟨List.mem_of_getElem? (i := 683) (by decide +kernel), rfl⟩
theorem kw_642 : Cond.fieldLink R_Mo (79 : Nat) "StageStepsModel" "gains" "[J" ∈ zw_tbl := List.mem_filter.mpr ⟨List.mem_of_getElem? (i := 684) (by decide +kernel), rfl⟩
theorem kw_643 : Cond.fieldLink R_Mo (82 : Nat) "StageStepsModel" "addedBy" "[I" ∈ zw_tbl := List.mem_filter.mpr ⟨List.mem_of_getElem? (i := 685) (by decide +kernel), rfl⟩
theorem kw_644 : Cond.fieldLink R_Mo (85 : Nat) "StageStepsModel" "carried" "[J" ∈ zw_tbl := List.mem_filter.mpr ⟨List.mem_of_getElem? (i := 686) (by decide +kernel), rfl⟩
theorem kw_645 : Cond.fieldLink R_Mo (88 : Nat) "StageStepsModel" "on" "[Z" ∈ zw_tbl := List.mem_filter.mpr ⟨List.mem_of_getElem? (i := 687) (by decide +kernel), rfl⟩
theorem kw_646 : Cond.fieldLink R_Mo (91 : Nat) "StageStepsModel" "carry" "[J" ∈ zw_tbl := List.mem_filter.mpr ⟨List.mem_of_getElem? (i := 688) (by decide +kernel), rfl⟩
theorem kw_647 : Cond.fieldLink R_Mo (94 : Nat) "StageStepsModel" "row" "[I" ∈ zw_tbl := List.mem_filter.mpr ⟨List.mem_of_getElem? (i := 689) (by decide +kernel), rfl⟩
theorem kw_648 : Cond.fieldLink R_Mo (97 : Nat) "StageStepsModel" "used" "[Z" ∈ zw_tbl := List.mem_filter.mpr ⟨List.mem_of_getElem? (i := 690) (by decide +kernel), rfl⟩
theorem kw_722 : Cond.arrayClass FieldType.boolean ∈ zw_tbl := List.mem_filter.mpr ⟨List.mem_of_getElem? (i := 764) (by decide +kernel), rfl⟩
theorem kw_723 : Cond.methodLink R_La (25 : Nat) y_Mo_part ∈ zw_tbl := List.mem_filter.mpr ⟨List.mem_of_getElem? (i := 765) (by decide +kernel), rfl⟩
theorem kw_724 : Cond.instanceMethod y_Mo_part ∈ zw_tbl := List.mem_filter.mpr ⟨List.mem_of_getElem? (i := 766) (by decide +kernel), rfl⟩
theorem kw_725 : Cond.selects R_Mo y_Mo_part y_Mo_part ∈ zw_tbl := List.mem_filter.mpr ⟨List.mem_of_getElem? (i := 767) (by decide +kernel), rfl⟩
theorem kw_726 : Cond.code y_Mo_part b_Mo_part (4 : Nat) (Option.some FieldType.boolean) ∈ zw_tbl := List.mem_filter.mpr ⟨List.mem_of_getElem? (i := 768) (by decide +kernel), rfl⟩
theorem kw_727 : Cond.methodLink R_Mo (110 : Nat) y_Mo_isPart ∈ zw_tbl := List.mem_filter.mpr ⟨List.mem_of_getElem? (i := 769) (by decide +kernel), rfl⟩
theorem kw_729 : Cond.instanceMethod y_Mo_isPart ∈ zw_tbl := List.mem_filter.mpr ⟨List.mem_of_getElem? (i := 771) (by decide +kernel), rfl⟩
theorem kw_730 : Cond.code y_Mo_isPart b_Mo_isPart (2 : Nat) (Option.some FieldType.boolean) ∈ zw_tbl := List.mem_filter.mpr ⟨List.mem_of_getElem? (i := 772) (by decide +kernel), rfl⟩
theorem kw_731 : Cond.methodLink R_Mo (103 : Nat) y_Mo_in ∈ zw_tbl := List.mem_filter.mpr ⟨List.mem_of_getElem? (i := 773) (by decide +kernel), rfl⟩
theorem kw_732 : Cond.static y_Mo_in ∈ zw_tbl := List.mem_filter.mpr ⟨List.mem_of_getElem? (i := 774) (by decide +kernel), rfl⟩
theorem kw_733 : Cond.code y_Mo_in b_Mo_in (6 : Nat) (Option.some FieldType.boolean) ∈ zw_tbl := List.mem_filter.mpr ⟨List.mem_of_getElem? (i := 775) (by decide +kernel), rfl⟩
theorem kw_734 : Cond.constantLong R_Mo (114 : Nat) (1000 : Int64) ∈ zw_tbl := List.mem_filter.mpr ⟨List.mem_of_getElem? (i := 776) (by decide +kernel), rfl⟩
theorem kw_735 : Cond.constantLong R_Mo (116 : Nat) (-100000 : Int64) ∈ zw_tbl := List.mem_filter.mpr ⟨List.mem_of_getElem? (i := 777) (by decide +kernel), rfl⟩
theorem kw_736 : Cond.constantLong R_Mo (118 : Nat) (100000 : Int64) ∈ zw_tbl := List.mem_filter.mpr ⟨List.mem_of_getElem? (i := 778) (by decide +kernel), rfl⟩
theorem kw_737 : Cond.methodLink R_La (30 : Nat) y_Mo_flex ∈ zw_tbl := List.mem_filter.mpr ⟨List.mem_of_getElem? (i := 779) (by decide +kernel), rfl⟩
theorem kw_738 : Cond.instanceMethod y_Mo_flex ∈ zw_tbl := List.mem_filter.mpr ⟨List.mem_of_getElem? (i := 780) (by decide +kernel), rfl⟩
theorem kw_739 : Cond.selects R_Mo y_Mo_flex y_Mo_flex ∈ zw_tbl := List.mem_filter.mpr ⟨List.mem_of_getElem? (i := 781) (by decide +kernel), rfl⟩
theorem kw_740 : Cond.code y_Mo_flex b_Mo_flex (5 : Nat) (Option.some FieldType.boolean) ∈ zw_tbl := List.mem_filter.mpr ⟨List.mem_of_getElem? (i := 782) (by decide +kernel), rfl⟩
theorem kw_741 : Cond.constantLong R_Mo (120 : Nat) (7 : Int64) ∈ zw_tbl := List.mem_filter.mpr ⟨List.mem_of_getElem? (i := 783) (by decide +kernel), rfl⟩
theorem kw_742 : Cond.constantLong R_Mo (122 : Nat) (-1000 : Int64) ∈ zw_tbl := List.mem_filter.mpr ⟨List.mem_of_getElem? (i := 784) (by decide +kernel), rfl⟩
theorem kw_743 : Cond.methodLink R_La (34 : Nat) y_Mo_share ∈ zw_tbl := List.mem_filter.mpr ⟨List.mem_of_getElem? (i := 785) (by decide +kernel), rfl⟩
theorem kw_744 : Cond.instanceMethod y_Mo_share ∈ zw_tbl := List.mem_filter.mpr ⟨List.mem_of_getElem? (i := 786) (by decide +kernel), rfl⟩
theorem kw_745 : Cond.selects R_Mo y_Mo_share y_Mo_share ∈ zw_tbl := List.mem_filter.mpr ⟨List.mem_of_getElem? (i := 787) (by decide +kernel), rfl⟩
theorem kw_746 : Cond.code y_Mo_share b_Mo_share (4 : Nat) (Option.some FieldType.boolean) ∈ zw_tbl := List.mem_filter.mpr ⟨List.mem_of_getElem? (i := 788) (by decide +kernel), rfl⟩
theorem kw_747 : Cond.constantLong R_Mo (124 : Nat) (2 : Int64) ∈ zw_tbl := List.mem_filter.mpr ⟨List.mem_of_getElem? (i := 789) (by decide +kernel), rfl⟩
theorem kw_748 : Cond.methodLink R_La (38 : Nat) y_Mo_release ∈ zw_tbl := List.mem_filter.mpr ⟨List.mem_of_getElem? (i := 790) (by decide +kernel), rfl⟩
theorem kw_749 : Cond.instanceMethod y_Mo_release ∈ zw_tbl := List.mem_filter.mpr ⟨List.mem_of_getElem? (i := 791) (by decide +kernel), rfl⟩
theorem kw_750 : Cond.selects R_Mo y_Mo_release y_Mo_release ∈ zw_tbl := List.mem_filter.mpr ⟨List.mem_of_getElem? (i := 792) (by decide +kernel), rfl⟩
theorem kw_751 : Cond.code y_Mo_release b_Mo_release (4 : Nat) (Option.some FieldType.boolean) ∈ zw_tbl := List.mem_filter.mpr ⟨List.mem_of_getElem? (i := 793) (by decide +kernel), rfl⟩
theorem kw_752 : Cond.methodLink R_La (43 : Nat) y_Mo_creep ∈ zw_tbl := List.mem_filter.mpr ⟨List.mem_of_getElem? (i := 794) (by decide +kernel), rfl⟩
theorem kw_753 : Cond.instanceMethod y_Mo_creep ∈ zw_tbl := List.mem_filter.mpr ⟨List.mem_of_getElem? (i := 795) (by decide +kernel), rfl⟩
theorem kw_754 : Cond.selects R_Mo y_Mo_creep y_Mo_creep ∈ zw_tbl := List.mem_filter.mpr ⟨List.mem_of_getElem? (i := 796) (by decide +kernel), rfl⟩
theorem kw_755 : Cond.code y_Mo_creep b_Mo_creep (4 : Nat) (Option.some FieldType.boolean) ∈ zw_tbl := List.mem_filter.mpr ⟨List.mem_of_getElem? (i := 797) (by decide +kernel), rfl⟩
theorem kw_756 : Cond.constantLong R_Mo (129 : Nat) (20000 : Int64) ∈ zw_tbl := List.mem_filter.mpr ⟨List.mem_of_getElem? (i := 798) (by decide +kernel), rfl⟩
theorem kw_757 : Cond.constantLong R_Mo (131 : Nat) (5000 : Int64) ∈ zw_tbl := List.mem_filter.mpr ⟨List.mem_of_getElem? (i := 799) (by decide +kernel), rfl⟩
theorem kw_758 : Cond.methodLink R_La (47 : Nat) y_Mo_after ∈ zw_tbl := List.mem_filter.mpr ⟨List.mem_of_getElem? (i := 800) (by decide +kernel), rfl⟩
theorem kw_759 : Cond.instanceMethod y_Mo_after ∈ zw_tbl := List.mem_filter.mpr ⟨List.mem_of_getElem? (i := 801) (by decide +kernel), rfl⟩
theorem kw_760 : Cond.selects R_Mo y_Mo_after y_Mo_after ∈ zw_tbl := List.mem_filter.mpr ⟨List.mem_of_getElem? (i := 802) (by decide +kernel), rfl⟩
theorem kw_761 : Cond.code y_Mo_after b_Mo_after (5 : Nat) (Option.some FieldType.boolean) ∈ zw_tbl := List.mem_filter.mpr ⟨List.mem_of_getElem? (i := 803) (by decide +kernel), rfl⟩
theorem kw_762 : Cond.methodLink R_Mo (136 : Nat) y_Mo_comesAfter ∈ zw_tbl := List.mem_filter.mpr ⟨List.mem_of_getElem? (i := 804) (by decide +kernel), rfl⟩
theorem kw_764 : Cond.instanceMethod y_Mo_comesAfter ∈ zw_tbl := List.mem_filter.mpr ⟨List.mem_of_getElem? (i := 806) (by decide +kernel), rfl⟩
theorem kw_765 : Cond.code y_Mo_comesAfter b_Mo_comesAfter (5 : Nat) (Option.some FieldType.boolean) ∈ zw_tbl := List.mem_filter.mpr ⟨List.mem_of_getElem? (i := 807) (by decide +kernel), rfl⟩
theorem kw_766 : Cond.methodLink R_Mo (140 : Nat) y_Mo_actOf ∈ zw_tbl := List.mem_filter.mpr ⟨List.mem_of_getElem? (i := 808) (by decide +kernel), rfl⟩
theorem kw_768 : Cond.instanceMethod y_Mo_actOf ∈ zw_tbl := List.mem_filter.mpr ⟨List.mem_of_getElem? (i := 810) (by decide +kernel), rfl⟩
theorem kw_769 : Cond.code y_Mo_actOf b_Mo_actOf (4 : Nat) (Option.some FieldType.int) ∈ zw_tbl := List.mem_filter.mpr ⟨List.mem_of_getElem? (i := 811) (by decide +kernel), rfl⟩
theorem kw_770 : Cond.methodLink R_La (52 : Nat) y_Mo_stage ∈ zw_tbl := List.mem_filter.mpr ⟨List.mem_of_getElem? (i := 812) (by decide +kernel), rfl⟩
theorem kw_771 : Cond.instanceMethod y_Mo_stage ∈ zw_tbl := List.mem_filter.mpr ⟨List.mem_of_getElem? (i := 813) (by decide +kernel), rfl⟩
theorem kw_772 : Cond.selects R_Mo y_Mo_stage y_Mo_stage ∈ zw_tbl := List.mem_filter.mpr ⟨List.mem_of_getElem? (i := 814) (by decide +kernel), rfl⟩
theorem kw_773 : Cond.code y_Mo_stage b_Mo_stage (2 : Nat) (Option.some FieldType.long) ∈ zw_tbl := List.mem_filter.mpr ⟨List.mem_of_getElem? (i := 815) (by decide +kernel), rfl⟩
theorem kw_774 : Cond.methodLink R_Mo (144 : Nat) y_Mo_lastDay ∈ zw_tbl := List.mem_filter.mpr ⟨List.mem_of_getElem? (i := 816) (by decide +kernel), rfl⟩
theorem kw_776 : Cond.instanceMethod y_Mo_lastDay ∈ zw_tbl := List.mem_filter.mpr ⟨List.mem_of_getElem? (i := 818) (by decide +kernel), rfl⟩
theorem kw_777 : Cond.code y_Mo_lastDay b_Mo_lastDay (1 : Nat) (Option.some FieldType.int) ∈ zw_tbl := List.mem_filter.mpr ⟨List.mem_of_getElem? (i := 819) (by decide +kernel), rfl⟩
theorem kw_778 : Cond.constantLong R_Mo (148 : Nat) (-1000000000000000000 : Int64) ∈ zw_tbl := List.mem_filter.mpr ⟨List.mem_of_getElem? (i := 820) (by decide +kernel), rfl⟩
theorem kw_779 : Cond.methodLink R_Mo (150 : Nat) y_Mo_lookAtEnd ∈ zw_tbl := List.mem_filter.mpr ⟨List.mem_of_getElem? (i := 821) (by decide +kernel), rfl⟩
theorem kw_781 : Cond.instanceMethod y_Mo_lookAtEnd ∈ zw_tbl := List.mem_filter.mpr ⟨List.mem_of_getElem? (i := 823) (by decide +kernel), rfl⟩
theorem kw_782 : Cond.code y_Mo_lookAtEnd b_Mo_lookAtEnd (1 : Nat) (Option.none : Option FieldType) ∈ zw_tbl := List.mem_filter.mpr ⟨List.mem_of_getElem? (i := 824) (by decide +kernel), rfl⟩
theorem kw_783 : Cond.methodLink R_La (57 : Nat) y_Mo_add ∈ zw_tbl := List.mem_filter.mpr ⟨List.mem_of_getElem? (i := 825) (by decide +kernel), rfl⟩
theorem kw_784 : Cond.instanceMethod y_Mo_add ∈ zw_tbl := List.mem_filter.mpr ⟨List.mem_of_getElem? (i := 826) (by decide +kernel), rfl⟩
theorem kw_785 : Cond.selects R_Mo y_Mo_add y_Mo_add ∈ zw_tbl := List.mem_filter.mpr ⟨List.mem_of_getElem? (i := 827) (by decide +kernel), rfl⟩
theorem kw_786 : Cond.code y_Mo_add b_Mo_add (3 : Nat) (Option.some FieldType.boolean) ∈ zw_tbl := List.mem_filter.mpr ⟨List.mem_of_getElem? (i := 828) (by decide +kernel), rfl⟩
theorem kw_787 : Cond.methodLink R_Mo (153 : Nat) y_Mo_mayPut ∈ zw_tbl := List.mem_filter.mpr ⟨List.mem_of_getElem? (i := 829) (by decide +kernel), rfl⟩
theorem kw_789 : Cond.instanceMethod y_Mo_mayPut ∈ zw_tbl := List.mem_filter.mpr ⟨List.mem_of_getElem? (i := 831) (by decide +kernel), rfl⟩
theorem kw_790 : Cond.code y_Mo_mayPut b_Mo_mayPut (1 : Nat) (Option.some FieldType.boolean) ∈ zw_tbl := List.mem_filter.mpr ⟨List.mem_of_getElem? (i := 832) (by decide +kernel), rfl⟩
theorem kw_791 : Cond.methodLink R_Mo (157 : Nat) y_Mo_put ∈ zw_tbl := List.mem_filter.mpr ⟨List.mem_of_getElem? (i := 833) (by decide +kernel), rfl⟩
theorem kw_793 : Cond.instanceMethod y_Mo_put ∈ zw_tbl := List.mem_filter.mpr ⟨List.mem_of_getElem? (i := 835) (by decide +kernel), rfl⟩
theorem kw_794 : Cond.code y_Mo_put b_Mo_put (4 : Nat) (Option.none : Option FieldType) ∈ zw_tbl := List.mem_filter.mpr ⟨List.mem_of_getElem? (i := 836) (by decide +kernel), rfl⟩
theorem kw_795 : Cond.methodLink R_La (61 : Nat) y_Mo_load ∈ zw_tbl := List.mem_filter.mpr ⟨List.mem_of_getElem? (i := 837) (by decide +kernel), rfl⟩
theorem kw_796 : Cond.instanceMethod y_Mo_load ∈ zw_tbl := List.mem_filter.mpr ⟨List.mem_of_getElem? (i := 838) (by decide +kernel), rfl⟩
theorem kw_797 : Cond.selects R_Mo y_Mo_load y_Mo_load ∈ zw_tbl := List.mem_filter.mpr ⟨List.mem_of_getElem? (i := 839) (by decide +kernel), rfl⟩
theorem kw_798 : Cond.code y_Mo_load b_Mo_load (3 : Nat) (Option.some FieldType.boolean) ∈ zw_tbl := List.mem_filter.mpr ⟨List.mem_of_getElem? (i := 840) (by decide +kernel), rfl⟩
theorem kw_799 : Cond.methodLink R_La (66 : Nat) y_Mo_support ∈ zw_tbl := List.mem_filter.mpr ⟨List.mem_of_getElem? (i := 841) (by decide +kernel), rfl⟩
theorem kw_800 : Cond.instanceMethod y_Mo_support ∈ zw_tbl := List.mem_filter.mpr ⟨List.mem_of_getElem? (i := 842) (by decide +kernel), rfl⟩
theorem kw_801 : Cond.selects R_Mo y_Mo_support y_Mo_support ∈ zw_tbl := List.mem_filter.mpr ⟨List.mem_of_getElem? (i := 843) (by decide +kernel), rfl⟩
theorem kw_802 : Cond.code y_Mo_support b_Mo_support (3 : Nat) (Option.some FieldType.boolean) ∈ zw_tbl := List.mem_filter.mpr ⟨List.mem_of_getElem? (i := 844) (by decide +kernel), rfl⟩
theorem kw_803 : Cond.methodLink R_Mo (161 : Nat) y_Mo_isOn ∈ zw_tbl := List.mem_filter.mpr ⟨List.mem_of_getElem? (i := 845) (by decide +kernel), rfl⟩
theorem kw_805 : Cond.instanceMethod y_Mo_isOn ∈ zw_tbl := List.mem_filter.mpr ⟨List.mem_of_getElem? (i := 847) (by decide +kernel), rfl⟩
theorem kw_806 : Cond.code y_Mo_isOn b_Mo_isOn (4 : Nat) (Option.some FieldType.boolean) ∈ zw_tbl := List.mem_filter.mpr ⟨List.mem_of_getElem? (i := 848) (by decide +kernel), rfl⟩
theorem kw_807 : Cond.methodLink R_La (70 : Nat) y_Mo_end ∈ zw_tbl := List.mem_filter.mpr ⟨List.mem_of_getElem? (i := 849) (by decide +kernel), rfl⟩
theorem kw_808 : Cond.instanceMethod y_Mo_end ∈ zw_tbl := List.mem_filter.mpr ⟨List.mem_of_getElem? (i := 850) (by decide +kernel), rfl⟩
theorem kw_809 : Cond.selects R_Mo y_Mo_end y_Mo_end ∈ zw_tbl := List.mem_filter.mpr ⟨List.mem_of_getElem? (i := 851) (by decide +kernel), rfl⟩
theorem kw_810 : Cond.code y_Mo_end b_Mo_end (2 : Nat) (Option.some FieldType.boolean) ∈ zw_tbl := List.mem_filter.mpr ⟨List.mem_of_getElem? (i := 852) (by decide +kernel), rfl⟩
theorem kw_811 : Cond.constant R_Mo (164 : Nat) (40000 : Int32) ∈ zw_tbl := List.mem_filter.mpr ⟨List.mem_of_getElem? (i := 853) (by decide +kernel), rfl⟩
theorem kw_812 : Cond.methodLink R_La (75 : Nat) y_Mo_level ∈ zw_tbl := List.mem_filter.mpr ⟨List.mem_of_getElem? (i := 854) (by decide +kernel), rfl⟩
theorem kw_813 : Cond.instanceMethod y_Mo_level ∈ zw_tbl := List.mem_filter.mpr ⟨List.mem_of_getElem? (i := 855) (by decide +kernel), rfl⟩
theorem kw_814 : Cond.selects R_Mo y_Mo_level y_Mo_level ∈ zw_tbl := List.mem_filter.mpr ⟨List.mem_of_getElem? (i := 856) (by decide +kernel), rfl⟩
theorem kw_815 : Cond.code y_Mo_level b_Mo_level (3 : Nat) (Option.some FieldType.long) ∈ zw_tbl := List.mem_filter.mpr ⟨List.mem_of_getElem? (i := 857) (by decide +kernel), rfl⟩
theorem kw_816 : Cond.methodLink R_Mo (203 : Nat) y_Mo_passPlan ∈ zw_tbl := List.mem_filter.mpr ⟨List.mem_of_getElem? (i := 858) (by decide +kernel), rfl⟩
theorem kw_818 : Cond.instanceMethod y_Mo_passPlan ∈ zw_tbl := List.mem_filter.mpr ⟨List.mem_of_getElem? (i := 860) (by decide +kernel), rfl⟩
theorem kw_819 : Cond.code y_Mo_passPlan b_Mo_passPlan (1 : Nat) (Option.none : Option FieldType) ∈ zw_tbl := List.mem_filter.mpr ⟨List.mem_of_getElem? (i := 861) (by decide +kernel), rfl⟩
theorem kw_820 : Cond.methodLink R_Mo (191 : Nat) y_Mo_takePlan ∈ zw_tbl := List.mem_filter.mpr ⟨List.mem_of_getElem? (i := 862) (by decide +kernel), rfl⟩
theorem kw_822 : Cond.instanceMethod y_Mo_takePlan ∈ zw_tbl := List.mem_filter.mpr ⟨List.mem_of_getElem? (i := 864) (by decide +kernel), rfl⟩
theorem kw_823 : Cond.code y_Mo_takePlan b_Mo_takePlan (2 : Nat) (Option.none : Option FieldType) ∈ zw_tbl := List.mem_filter.mpr ⟨List.mem_of_getElem? (i := 865) (by decide +kernel), rfl⟩
theorem kw_824 : Cond.methodLink R_Mo (194 : Nat) y_Mo_pass ∈ zw_tbl := List.mem_filter.mpr ⟨List.mem_of_getElem? (i := 866) (by decide +kernel), rfl⟩
theorem kw_826 : Cond.instanceMethod y_Mo_pass ∈ zw_tbl := List.mem_filter.mpr ⟨List.mem_of_getElem? (i := 868) (by decide +kernel), rfl⟩
theorem kw_827 : Cond.code y_Mo_pass b_Mo_pass (5 : Nat) (Option.none : Option FieldType) ∈ zw_tbl := List.mem_filter.mpr ⟨List.mem_of_getElem? (i := 869) (by decide +kernel), rfl⟩
theorem kw_828 : Cond.methodLink R_Mo (168 : Nat) y_Mo_loadOn ∈ zw_tbl := List.mem_filter.mpr ⟨List.mem_of_getElem? (i := 870) (by decide +kernel), rfl⟩
theorem kw_830 : Cond.instanceMethod y_Mo_loadOn ∈ zw_tbl := List.mem_filter.mpr ⟨List.mem_of_getElem? (i := 872) (by decide +kernel), rfl⟩
theorem kw_831 : Cond.code y_Mo_loadOn b_Mo_loadOn (7 : Nat) (Option.none : Option FieldType) ∈ zw_tbl := List.mem_filter.mpr ⟨List.mem_of_getElem? (i := 873) (by decide +kernel), rfl⟩
theorem kw_832 : Cond.methodLink R_Mo (206 : Nat) y_Mo_isThere ∈ zw_tbl := List.mem_filter.mpr ⟨List.mem_of_getElem? (i := 874) (by decide +kernel), rfl⟩
theorem kw_834 : Cond.instanceMethod y_Mo_isThere ∈ zw_tbl := List.mem_filter.mpr ⟨List.mem_of_getElem? (i := 876) (by decide +kernel), rfl⟩
theorem kw_835 : Cond.code y_Mo_isThere b_Mo_isThere (3 : Nat) (Option.some FieldType.boolean) ∈ zw_tbl := List.mem_filter.mpr ⟨List.mem_of_getElem? (i := 877) (by decide +kernel), rfl⟩
theorem kw_836 : Cond.methodLink R_Mo (197 : Nat) y_Mo_isStage ∈ zw_tbl := List.mem_filter.mpr ⟨List.mem_of_getElem? (i := 878) (by decide +kernel), rfl⟩
theorem kw_838 : Cond.instanceMethod y_Mo_isStage ∈ zw_tbl := List.mem_filter.mpr ⟨List.mem_of_getElem? (i := 880) (by decide +kernel), rfl⟩
theorem kw_839 : Cond.code y_Mo_isStage b_Mo_isStage (2 : Nat) (Option.some FieldType.boolean) ∈ zw_tbl := List.mem_filter.mpr ⟨List.mem_of_getElem? (i := 881) (by decide +kernel), rfl⟩
theorem kw_840 : Cond.methodLink R_Mo (209 : Nat) y_Mo_levelAt ∈ zw_tbl := List.mem_filter.mpr ⟨List.mem_of_getElem? (i := 882) (by decide +kernel), rfl⟩
theorem kw_842 : Cond.instanceMethod y_Mo_levelAt ∈ zw_tbl := List.mem_filter.mpr ⟨List.mem_of_getElem? (i := 884) (by decide +kernel), rfl⟩
theorem kw_843 : Cond.code y_Mo_levelAt b_Mo_levelAt (3 : Nat) (Option.some FieldType.long) ∈ zw_tbl := List.mem_filter.mpr ⟨List.mem_of_getElem? (i := 885) (by decide +kernel), rfl⟩
theorem kw_844 : Cond.methodLink R_Mo (200 : Nat) y_Mo_cast ∈ zw_tbl := List.mem_filter.mpr ⟨List.mem_of_getElem? (i := 886) (by decide +kernel), rfl⟩
theorem kw_846 : Cond.instanceMethod y_Mo_cast ∈ zw_tbl := List.mem_filter.mpr ⟨List.mem_of_getElem? (i := 888) (by decide +kernel), rfl⟩
theorem kw_847 : Cond.code y_Mo_cast b_Mo_cast (2 : Nat) (Option.some FieldType.long) ∈ zw_tbl := List.mem_filter.mpr ⟨List.mem_of_getElem? (i := 889) (by decide +kernel), rfl⟩
theorem kw_848 : Cond.constantLong R_Mo (185 : Nat) (1000000000 : Int64) ∈ zw_tbl := List.mem_filter.mpr ⟨List.mem_of_getElem? (i := 890) (by decide +kernel), rfl⟩
theorem kw_849 : Cond.methodLink R_Mo (187 : Nat) y_Mo_camber ∈ zw_tbl := List.mem_filter.mpr ⟨List.mem_of_getElem? (i := 891) (by decide +kernel), rfl⟩
theorem kw_851 : Cond.instanceMethod y_Mo_camber ∈ zw_tbl := List.mem_filter.mpr ⟨List.mem_of_getElem? (i := 893) (by decide +kernel), rfl⟩
theorem kw_852 : Cond.code y_Mo_camber b_Mo_camber (2 : Nat) (Option.some FieldType.long) ∈ zw_tbl := List.mem_filter.mpr ⟨List.mem_of_getElem? (i := 894) (by decide +kernel), rfl⟩
theorem kw_853 : Cond.methodLink R_Mo (178 : Nat) y_Mo_endDay ∈ zw_tbl := List.mem_filter.mpr ⟨List.mem_of_getElem? (i := 895) (by decide +kernel), rfl⟩
theorem kw_855 : Cond.instanceMethod y_Mo_endDay ∈ zw_tbl := List.mem_filter.mpr ⟨List.mem_of_getElem? (i := 897) (by decide +kernel), rfl⟩
theorem kw_856 : Cond.code y_Mo_endDay b_Mo_endDay (1 : Nat) (Option.some FieldType.int) ∈ zw_tbl := List.mem_filter.mpr ⟨List.mem_of_getElem? (i := 898) (by decide +kernel), rfl⟩
theorem kw_857 : Cond.methodLink R_Mo (181 : Nat) y_Mo_rise ∈ zw_tbl := List.mem_filter.mpr ⟨List.mem_of_getElem? (i := 899) (by decide +kernel), rfl⟩
theorem kw_859 : Cond.instanceMethod y_Mo_rise ∈ zw_tbl := List.mem_filter.mpr ⟨List.mem_of_getElem? (i := 901) (by decide +kernel), rfl⟩
theorem kw_860 : Cond.code y_Mo_rise b_Mo_rise (11 : Nat) (Option.some FieldType.long) ∈ zw_tbl := List.mem_filter.mpr ⟨List.mem_of_getElem? (i := 902) (by decide +kernel), rfl⟩
theorem kw_861 : Cond.methodLink R_Mo (172 : Nat) y_Mo_dayOf ∈ zw_tbl := List.mem_filter.mpr ⟨List.mem_of_getElem? (i := 903) (by decide +kernel), rfl⟩
theorem kw_863 : Cond.instanceMethod y_Mo_dayOf ∈ zw_tbl := List.mem_filter.mpr ⟨List.mem_of_getElem? (i := 905) (by decide +kernel), rfl⟩
theorem kw_864 : Cond.code y_Mo_dayOf b_Mo_dayOf (2 : Nat) (Option.some FieldType.int) ∈ zw_tbl := List.mem_filter.mpr ⟨List.mem_of_getElem? (i := 906) (by decide +kernel), rfl⟩
theorem kw_865 : Cond.methodLink R_Mo (175 : Nat) y_Mo_creepAt ∈ zw_tbl := List.mem_filter.mpr ⟨List.mem_of_getElem? (i := 907) (by decide +kernel), rfl⟩
theorem kw_867 : Cond.instanceMethod y_Mo_creepAt ∈ zw_tbl := List.mem_filter.mpr ⟨List.mem_of_getElem? (i := 909) (by decide +kernel), rfl⟩
theorem kw_868 : Cond.code y_Mo_creepAt b_Mo_creepAt (4 : Nat) (Option.some FieldType.int) ∈ zw_tbl := List.mem_filter.mpr ⟨List.mem_of_getElem? (i := 910) (by decide +kernel), rfl⟩
theorem kw_869 : Cond.methodLink R_La (79 : Nat) y_Mo_of ∈ zw_tbl := List.mem_filter.mpr ⟨List.mem_of_getElem? (i := 911) (by decide +kernel), rfl⟩
theorem kw_870 : Cond.instanceMethod y_Mo_of ∈ zw_tbl := List.mem_filter.mpr ⟨List.mem_of_getElem? (i := 912) (by decide +kernel), rfl⟩
theorem kw_871 : Cond.selects R_Mo y_Mo_of y_Mo_of ∈ zw_tbl := List.mem_filter.mpr ⟨List.mem_of_getElem? (i := 913) (by decide +kernel), rfl⟩
theorem kw_872 : Cond.code y_Mo_of b_Mo_of (3 : Nat) (Option.some FieldType.long) ∈ zw_tbl := List.mem_filter.mpr ⟨List.mem_of_getElem? (i := 914) (by decide +kernel), rfl⟩
theorem kw_873 : Cond.constantLong R_Mo (213 : Nat) (4 : Int64) ∈ zw_tbl := List.mem_filter.mpr ⟨List.mem_of_getElem? (i := 915) (by decide +kernel), rfl⟩
theorem kw_874 : Cond.methodLink R_La (83 : Nat) y_Mo_carries ∈ zw_tbl := List.mem_filter.mpr ⟨List.mem_of_getElem? (i := 916) (by decide +kernel), rfl⟩
theorem kw_875 : Cond.instanceMethod y_Mo_carries ∈ zw_tbl := List.mem_filter.mpr ⟨List.mem_of_getElem? (i := 917) (by decide +kernel), rfl⟩
theorem kw_876 : Cond.selects R_Mo y_Mo_carries y_Mo_carries ∈ zw_tbl := List.mem_filter.mpr ⟨List.mem_of_getElem? (i := 918) (by decide +kernel), rfl⟩
theorem kw_877 : Cond.code y_Mo_carries b_Mo_carries (3 : Nat) (Option.some FieldType.long) ∈ zw_tbl := List.mem_filter.mpr ⟨List.mem_of_getElem? (i := 919) (by decide +kernel), rfl⟩
theorem kw_878 : Cond.methodLink R_Mo (215 : Nat) y_Mo_carriedAt ∈ zw_tbl := List.mem_filter.mpr ⟨List.mem_of_getElem? (i := 920) (by decide +kernel), rfl⟩
theorem kw_880 : Cond.instanceMethod y_Mo_carriedAt ∈ zw_tbl := List.mem_filter.mpr ⟨List.mem_of_getElem? (i := 922) (by decide +kernel), rfl⟩
theorem kw_881 : Cond.code y_Mo_carriedAt b_Mo_carriedAt (6 : Nat) (Option.some FieldType.long) ∈ zw_tbl := List.mem_filter.mpr ⟨List.mem_of_getElem? (i := 923) (by decide +kernel), rfl⟩
theorem kw_882 : Cond.methodLink R_La (88 : Nat) y_Mo_survey ∈ zw_tbl := List.mem_filter.mpr ⟨List.mem_of_getElem? (i := 924) (by decide +kernel), rfl⟩
theorem kw_883 : Cond.instanceMethod y_Mo_survey ∈ zw_tbl := List.mem_filter.mpr ⟨List.mem_of_getElem? (i := 925) (by decide +kernel), rfl⟩
theorem kw_884 : Cond.selects R_Mo y_Mo_survey y_Mo_survey ∈ zw_tbl := List.mem_filter.mpr ⟨List.mem_of_getElem? (i := 926) (by decide +kernel), rfl⟩
theorem kw_885 : Cond.code y_Mo_survey b_Mo_survey (9 : Nat) (Option.some FieldType.long) ∈ zw_tbl := List.mem_filter.mpr ⟨List.mem_of_getElem? (i := 927) (by decide +kernel), rfl⟩
theorem kw_886 : Cond.constantLong R_Mo (218 : Nat) (-1000000 : Int64) ∈ zw_tbl := List.mem_filter.mpr ⟨List.mem_of_getElem? (i := 928) (by decide +kernel), rfl⟩
theorem kw_887 : Cond.constantLong R_Mo (220 : Nat) (1000000 : Int64) ∈ zw_tbl := List.mem_filter.mpr ⟨List.mem_of_getElem? (i := 929) (by decide +kernel), rfl⟩
theorem kw_888 : Cond.methodLink R_La (92 : Nat) y_Mo_most ∈ zw_tbl := List.mem_filter.mpr ⟨List.mem_of_getElem? (i := 930) (by decide +kernel), rfl⟩
theorem kw_889 : Cond.instanceMethod y_Mo_most ∈ zw_tbl := List.mem_filter.mpr ⟨List.mem_of_getElem? (i := 931) (by decide +kernel), rfl⟩
theorem kw_890 : Cond.selects R_Mo y_Mo_most y_Mo_most ∈ zw_tbl := List.mem_filter.mpr ⟨List.mem_of_getElem? (i := 932) (by decide +kernel), rfl⟩
theorem kw_891 : Cond.code y_Mo_most b_Mo_most (2 : Nat) (Option.some FieldType.boolean) ∈ zw_tbl := List.mem_filter.mpr ⟨List.mem_of_getElem? (i := 933) (by decide +kernel), rfl⟩
theorem kw_892 : Cond.methodLink R_La (97 : Nat) y_Mo_rule ∈ zw_tbl := List.mem_filter.mpr ⟨List.mem_of_getElem? (i := 934) (by decide +kernel), rfl⟩
theorem kw_893 : Cond.instanceMethod y_Mo_rule ∈ zw_tbl := List.mem_filter.mpr ⟨List.mem_of_getElem? (i := 935) (by decide +kernel), rfl⟩
theorem kw_894 : Cond.selects R_Mo y_Mo_rule y_Mo_rule ∈ zw_tbl := List.mem_filter.mpr ⟨List.mem_of_getElem? (i := 936) (by decide +kernel), rfl⟩
theorem kw_895 : Cond.code y_Mo_rule b_Mo_rule (6 : Nat) (Option.some FieldType.long) ∈ zw_tbl := List.mem_filter.mpr ⟨List.mem_of_getElem? (i := 937) (by decide +kernel), rfl⟩
theorem kw_896 : Cond.methodLink R_La (101 : Nat) y_Mo_broken ∈ zw_tbl := List.mem_filter.mpr ⟨List.mem_of_getElem? (i := 938) (by decide +kernel), rfl⟩
theorem kw_897 : Cond.instanceMethod y_Mo_broken ∈ zw_tbl := List.mem_filter.mpr ⟨List.mem_of_getElem? (i := 939) (by decide +kernel), rfl⟩
theorem kw_898 : Cond.selects R_Mo y_Mo_broken y_Mo_broken ∈ zw_tbl := List.mem_filter.mpr ⟨List.mem_of_getElem? (i := 940) (by decide +kernel), rfl⟩
theorem kw_899 : Cond.code y_Mo_broken b_Mo_broken (4 : Nat) (Option.some FieldType.long) ∈ zw_tbl := List.mem_filter.mpr ⟨List.mem_of_getElem? (i := 941) (by decide +kernel), rfl⟩
theorem kw_900 : Cond.methodLink R_Mo (225 : Nat) y_Mo_holds ∈ zw_tbl := List.mem_filter.mpr ⟨List.mem_of_getElem? (i := 942) (by decide +kernel), rfl⟩
theorem kw_902 : Cond.instanceMethod y_Mo_holds ∈ zw_tbl := List.mem_filter.mpr ⟨List.mem_of_getElem? (i := 944) (by decide +kernel), rfl⟩
theorem kw_903 : Cond.code y_Mo_holds b_Mo_holds (6 : Nat) (Option.some FieldType.boolean) ∈ zw_tbl := List.mem_filter.mpr ⟨List.mem_of_getElem? (i := 945) (by decide +kernel), rfl⟩
theorem kw_904 : Cond.methodLink R_La (105 : Nat) y_Mo_shift ∈ zw_tbl := List.mem_filter.mpr ⟨List.mem_of_getElem? (i := 946) (by decide +kernel), rfl⟩
theorem kw_905 : Cond.instanceMethod y_Mo_shift ∈ zw_tbl := List.mem_filter.mpr ⟨List.mem_of_getElem? (i := 947) (by decide +kernel), rfl⟩
theorem kw_906 : Cond.selects R_Mo y_Mo_shift y_Mo_shift ∈ zw_tbl := List.mem_filter.mpr ⟨List.mem_of_getElem? (i := 948) (by decide +kernel), rfl⟩
theorem kw_907 : Cond.code y_Mo_shift b_Mo_shift (8 : Nat) (Option.some FieldType.boolean) ∈ zw_tbl := List.mem_filter.mpr ⟨List.mem_of_getElem? (i := 949) (by decide +kernel), rfl⟩
theorem kw_908 : Cond.methodLink R_La (109 : Nat) y_Mo_redo ∈ zw_tbl := List.mem_filter.mpr ⟨List.mem_of_getElem? (i := 950) (by decide +kernel), rfl⟩
theorem kw_909 : Cond.instanceMethod y_Mo_redo ∈ zw_tbl := List.mem_filter.mpr ⟨List.mem_of_getElem? (i := 951) (by decide +kernel), rfl⟩
theorem kw_910 : Cond.selects R_Mo y_Mo_redo y_Mo_redo ∈ zw_tbl := List.mem_filter.mpr ⟨List.mem_of_getElem? (i := 952) (by decide +kernel), rfl⟩
theorem kw_911 : Cond.code y_Mo_redo b_Mo_redo (3 : Nat) (Option.some FieldType.long) ∈ zw_tbl := List.mem_filter.mpr ⟨List.mem_of_getElem? (i := 953) (by decide +kernel), rfl⟩
theorem kw_912 : Cond.methodLink R_La (114 : Nat) y_Mo_best ∈ zw_tbl := List.mem_filter.mpr ⟨List.mem_of_getElem? (i := 954) (by decide +kernel), rfl⟩
theorem kw_913 : Cond.instanceMethod y_Mo_best ∈ zw_tbl := List.mem_filter.mpr ⟨List.mem_of_getElem? (i := 955) (by decide +kernel), rfl⟩
theorem kw_914 : Cond.selects R_Mo y_Mo_best y_Mo_best ∈ zw_tbl := List.mem_filter.mpr ⟨List.mem_of_getElem? (i := 956) (by decide +kernel), rfl⟩
theorem kw_915 : Cond.code y_Mo_best b_Mo_best (7 : Nat) (Option.some FieldType.long) ∈ zw_tbl := List.mem_filter.mpr ⟨List.mem_of_getElem? (i := 957) (by decide +kernel), rfl⟩
theorem kw_916 : Cond.constantLong R_Mo (228 : Nat) (-1 : Int64) ∈ zw_tbl := List.mem_filter.mpr ⟨List.mem_of_getElem? (i := 958) (by decide +kernel), rfl⟩
theorem kw_917 : Cond.methodLink R_Mo (230 : Nat) y_Mo_isAllowed ∈ zw_tbl := List.mem_filter.mpr ⟨List.mem_of_getElem? (i := 959) (by decide +kernel), rfl⟩
theorem kw_919 : Cond.instanceMethod y_Mo_isAllowed ∈ zw_tbl := List.mem_filter.mpr ⟨List.mem_of_getElem? (i := 961) (by decide +kernel), rfl⟩
theorem kw_920 : Cond.code y_Mo_isAllowed b_Mo_isAllowed (5 : Nat) (Option.some FieldType.boolean) ∈ zw_tbl := List.mem_filter.mpr ⟨List.mem_of_getElem? (i := 962) (by decide +kernel), rfl⟩
theorem kw_921 : Cond.methodLink R_Mo (233 : Nat) y_Mo_greatest ∈ zw_tbl := List.mem_filter.mpr ⟨List.mem_of_getElem? (i := 963) (by decide +kernel), rfl⟩
theorem kw_923 : Cond.instanceMethod y_Mo_greatest ∈ zw_tbl := List.mem_filter.mpr ⟨List.mem_of_getElem? (i := 965) (by decide +kernel), rfl⟩
theorem kw_924 : Cond.code y_Mo_greatest b_Mo_greatest (8 : Nat) (Option.some FieldType.long) ∈ zw_tbl := List.mem_filter.mpr ⟨List.mem_of_getElem? (i := 966) (by decide +kernel), rfl⟩
theorem kw_925 : Cond.methodLink R_Mo (237 : Nat) y_Mo_nextRow ∈ zw_tbl := List.mem_filter.mpr ⟨List.mem_of_getElem? (i := 967) (by decide +kernel), rfl⟩
theorem kw_927 : Cond.instanceMethod y_Mo_nextRow ∈ zw_tbl := List.mem_filter.mpr ⟨List.mem_of_getElem? (i := 969) (by decide +kernel), rfl⟩
theorem kw_928 : Cond.code y_Mo_nextRow b_Mo_nextRow (6 : Nat) (Option.some FieldType.boolean) ∈ zw_tbl := List.mem_filter.mpr ⟨List.mem_of_getElem? (i := 970) (by decide +kernel), rfl⟩
theorem kw_929 : Cond.methodLink R_La (118 : Nat) y_Mo_order ∈ zw_tbl := List.mem_filter.mpr ⟨List.mem_of_getElem? (i := 971) (by decide +kernel), rfl⟩
theorem kw_930 : Cond.instanceMethod y_Mo_order ∈ zw_tbl := List.mem_filter.mpr ⟨List.mem_of_getElem? (i := 972) (by decide +kernel), rfl⟩
theorem kw_931 : Cond.selects R_Mo y_Mo_order y_Mo_order ∈ zw_tbl := List.mem_filter.mpr ⟨List.mem_of_getElem? (i := 973) (by decide +kernel), rfl⟩
theorem kw_932 : Cond.code y_Mo_order b_Mo_order (2 : Nat) (Option.some FieldType.long) ∈ zw_tbl := List.mem_filter.mpr ⟨List.mem_of_getElem? (i := 974) (by decide +kernel), rfl⟩
theorem kw_933 : Cond.methodLink R_La (122 : Nat) y_Mo_told ∈ zw_tbl := List.mem_filter.mpr ⟨List.mem_of_getElem? (i := 975) (by decide +kernel), rfl⟩
theorem kw_934 : Cond.instanceMethod y_Mo_told ∈ zw_tbl := List.mem_filter.mpr ⟨List.mem_of_getElem? (i := 976) (by decide +kernel), rfl⟩
theorem kw_935 : Cond.selects R_Mo y_Mo_told y_Mo_told ∈ zw_tbl := List.mem_filter.mpr ⟨List.mem_of_getElem? (i := 977) (by decide +kernel), rfl⟩
theorem kw_936 : Cond.code y_Mo_told b_Mo_told (2 : Nat) (Option.some FieldType.long) ∈ zw_tbl := List.mem_filter.mpr ⟨List.mem_of_getElem? (i := 978) (by decide +kernel), rfl⟩
theorem kw_937 : Cond.methodLink R_La (127 : Nat) y_Mo_check ∈ zw_tbl := List.mem_filter.mpr ⟨List.mem_of_getElem? (i := 979) (by decide +kernel), rfl⟩
theorem kw_938 : Cond.instanceMethod y_Mo_check ∈ zw_tbl := List.mem_filter.mpr ⟨List.mem_of_getElem? (i := 980) (by decide +kernel), rfl⟩
theorem kw_939 : Cond.selects R_Mo y_Mo_check y_Mo_check ∈ zw_tbl := List.mem_filter.mpr ⟨List.mem_of_getElem? (i := 981) (by decide +kernel), rfl⟩
theorem kw_940 : Cond.code y_Mo_check b_Mo_check (1 : Nat) (Option.some FieldType.int) ∈ zw_tbl := List.mem_filter.mpr ⟨List.mem_of_getElem? (i := 982) (by decide +kernel), rfl⟩
