section
-- ===== PART A: goes FIRST, ahead of the names: the tables' words, and 'selects' of the private methods out of them =====
/-- a private method of a class that the tables say can be made, by its rows of tables_1 -/
def lw_okq (q : MethodName × Nat) : Prop := (q.1.cls ≠ "java/lang/invoke/MethodHandle" ∧ q.1.cls ≠ "java/lang/invoke/VarHandle") ∧ Cond.instantiable q.1.cls q.2 ∈ tables_1 ∧ Cond.privateMethod q.1 ∈ tables_1 ∧ Cond.instanceMethod q.1 ∈ tables_1
theorem lw_p0 : lw_okq (⟨"StageSteps$Plan", "forgetPassedEnd", "()V"⟩, 11) := ⟨⟨by decide +kernel, by decide +kernel⟩, List.mem_of_getElem? (i := 38) (by decide +kernel), List.mem_of_getElem? (i := 350) (by decide +kernel), List.mem_of_getElem? (i := 351) (by decide +kernel)⟩
theorem lw_p1 : lw_okq (⟨"StageSteps", "isThere", "(II)Z"⟩, 9) := ⟨⟨by decide +kernel, by decide +kernel⟩, List.mem_of_getElem? (i := 13) (by decide +kernel), List.mem_of_getElem? (i := 408) (by decide +kernel), List.mem_of_getElem? (i := 409) (by decide +kernel)⟩
theorem lw_p2 : lw_okq (⟨"StageSteps", "levelThen", "(II)J"⟩, 9) := ⟨⟨by decide +kernel, by decide +kernel⟩, List.mem_of_getElem? (i := 13) (by decide +kernel), List.mem_of_getElem? (i := 420) (by decide +kernel), List.mem_of_getElem? (i := 421) (by decide +kernel)⟩
theorem lw_p3 : lw_okq (⟨"StageSteps", "castAll", "()V"⟩, 9) := ⟨⟨by decide +kernel, by decide +kernel⟩, List.mem_of_getElem? (i := 13) (by decide +kernel), List.mem_of_getElem? (i := 424) (by decide +kernel), List.mem_of_getElem? (i := 425) (by decide +kernel)⟩
theorem lw_p4 : lw_okq (⟨"StageSteps$Walk", "begin", "([I)V"⟩, 11) := ⟨⟨by decide +kernel, by decide +kernel⟩, List.mem_of_getElem? (i := 170) (by decide +kernel), List.mem_of_getElem? (i := 445) (by decide +kernel), List.mem_of_getElem? (i := 446) (by decide +kernel)⟩
theorem lw_p5 : lw_okq (⟨"StageSteps$Walk", "comeIn", "(II)V"⟩, 11) := ⟨⟨by decide +kernel, by decide +kernel⟩, List.mem_of_getElem? (i := 170) (by decide +kernel), List.mem_of_getElem? (i := 455) (by decide +kernel), List.mem_of_getElem? (i := 456) (by decide +kernel)⟩
theorem lw_p6 : lw_okq (⟨"StageSteps$Walk", "press", "(III)V"⟩, 11) := ⟨⟨by decide +kernel, by decide +kernel⟩, List.mem_of_getElem? (i := 170) (by decide +kernel), List.mem_of_getElem? (i := 459) (by decide +kernel), List.mem_of_getElem? (i := 460) (by decide +kernel)⟩
theorem lw_p7 : lw_okq (⟨"StageSteps$Walk", "lift", "(IIJ)V"⟩, 11) := ⟨⟨by decide +kernel, by decide +kernel⟩, List.mem_of_getElem? (i := 170) (by decide +kernel), List.mem_of_getElem? (i := 464) (by decide +kernel), List.mem_of_getElem? (i := 465) (by decide +kernel)⟩
theorem lw_p8 : lw_okq (⟨"StageSteps$Walk", "letGo", "(II)V"⟩, 11) := ⟨⟨by decide +kernel, by decide +kernel⟩, List.mem_of_getElem? (i := 170) (by decide +kernel), List.mem_of_getElem? (i := 469) (by decide +kernel), List.mem_of_getElem? (i := 470) (by decide +kernel)⟩
theorem lw_p9 : lw_okq (⟨"StageSteps", "walkTo", "(I)V"⟩, 9) := ⟨⟨by decide +kernel, by decide +kernel⟩, List.mem_of_getElem? (i := 13) (by decide +kernel), List.mem_of_getElem? (i := 474) (by decide +kernel), List.mem_of_getElem? (i := 475) (by decide +kernel)⟩
theorem lw_p10 : lw_okq (⟨"StageSteps", "heightNow", "(I)J"⟩, 9) := ⟨⟨by decide +kernel, by decide +kernel⟩, List.mem_of_getElem? (i := 13) (by decide +kernel), List.mem_of_getElem? (i := 478) (by decide +kernel), List.mem_of_getElem? (i := 479) (by decide +kernel)⟩
theorem lw_p11 : lw_okq (⟨"StageSteps", "spread", "(JI)V"⟩, 9) := ⟨⟨by decide +kernel, by decide +kernel⟩, List.mem_of_getElem? (i := 13) (by decide +kernel), List.mem_of_getElem? (i := 496) (by decide +kernel), List.mem_of_getElem? (i := 497) (by decide +kernel)⟩
theorem lw_p12 : lw_okq (⟨"StageSteps", "isRuled", "(II)Z"⟩, 9) := ⟨⟨by decide +kernel, by decide +kernel⟩, List.mem_of_getElem? (i := 13) (by decide +kernel), List.mem_of_getElem? (i := 517) (by decide +kernel), List.mem_of_getElem? (i := 518) (by decide +kernel)⟩
theorem lw_p13 : lw_okq (⟨"StageSteps", "firstBroken", "(I)I"⟩, 9) := ⟨⟨by decide +kernel, by decide +kernel⟩, List.mem_of_getElem? (i := 13) (by decide +kernel), List.mem_of_getElem? (i := 529) (by decide +kernel), List.mem_of_getElem? (i := 530) (by decide +kernel)⟩
theorem lw_p14 : lw_okq (⟨"StageSteps", "isBroken", "(II)Z"⟩, 9) := ⟨⟨by decide +kernel, by decide +kernel⟩, List.mem_of_getElem? (i := 13) (by decide +kernel), List.mem_of_getElem? (i := 533) (by decide +kernel), List.mem_of_getElem? (i := 534) (by decide +kernel)⟩
theorem lw_p15 : lw_okq (⟨"StageSteps$Search", "tryFrom", "(III)V"⟩, 7) := ⟨⟨by decide +kernel, by decide +kernel⟩, List.mem_of_getElem? (i := 213) (by decide +kernel), List.mem_of_getElem? (i := 575) (by decide +kernel), List.mem_of_getElem? (i := 576) (by decide +kernel)⟩
def lw_privs_1 : List (MethodName × Nat) := [(⟨"StageSteps$Plan", "forgetPassedEnd", "()V"⟩, 11), (⟨"StageSteps", "isThere", "(II)Z"⟩, 9), (⟨"StageSteps", "levelThen", "(II)J"⟩, 9), (⟨"StageSteps", "castAll", "()V"⟩, 9), (⟨"StageSteps$Walk", "begin", "([I)V"⟩, 11), (⟨"StageSteps$Walk", "comeIn", "(II)V"⟩, 11), (⟨"StageSteps$Walk", "press", "(III)V"⟩, 11), (⟨"StageSteps$Walk", "lift", "(IIJ)V"⟩, 11), (⟨"StageSteps$Walk", "letGo", "(II)V"⟩, 11), (⟨"StageSteps", "walkTo", "(I)V"⟩, 9), (⟨"StageSteps", "heightNow", "(I)J"⟩, 9), (⟨"StageSteps", "spread", "(JI)V"⟩, 9), (⟨"StageSteps", "isRuled", "(II)Z"⟩, 9), (⟨"StageSteps", "firstBroken", "(I)I"⟩, 9), (⟨"StageSteps", "isBroken", "(II)Z"⟩, 9), (⟨"StageSteps$Search", "tryFrom", "(III)V"⟩, 7)]
theorem lw_r1 : ∀ q ∈ lw_privs_1, lw_okq q := List.forall_mem_cons.mpr ⟨lw_p0, List.forall_mem_cons.mpr ⟨lw_p1, List.forall_mem_cons.mpr ⟨lw_p2, List.forall_mem_cons.mpr ⟨lw_p3, List.forall_mem_cons.mpr ⟨lw_p4, List.forall_mem_cons.mpr ⟨lw_p5, List.forall_mem_cons.mpr ⟨lw_p6, List.forall_mem_cons.mpr ⟨lw_p7, List.forall_mem_cons.mpr ⟨lw_p8, List.forall_mem_cons.mpr ⟨lw_p9, List.forall_mem_cons.mpr ⟨lw_p10, List.forall_mem_cons.mpr ⟨lw_p11, List.forall_mem_cons.mpr ⟨lw_p12, List.forall_mem_cons.mpr ⟨lw_p13, List.forall_mem_cons.mpr ⟨lw_p14, List.forall_mem_cons.mpr ⟨lw_p15, fun _ h => absurd h List.not_mem_nil⟩⟩⟩⟩⟩⟩⟩⟩⟩⟩⟩⟩⟩⟩⟩⟩
theorem lw_p16 : lw_okq (⟨"StageSteps$Search", "weigh", "()V"⟩, 7) := ⟨⟨by decide +kernel, by decide +kernel⟩, List.mem_of_getElem? (i := 213) (by decide +kernel), List.mem_of_getElem? (i := 579) (by decide +kernel), List.mem_of_getElem? (i := 580) (by decide +kernel)⟩
theorem lw_p17 : lw_okq (⟨"StageStepsModel", "isPart", "(I)Z"⟩, 36) := ⟨⟨by decide +kernel, by decide +kernel⟩, List.mem_of_getElem? (i := 612) (by decide +kernel), List.mem_of_getElem? (i := 732) (by decide +kernel), List.mem_of_getElem? (i := 733) (by decide +kernel)⟩
theorem lw_p18 : lw_okq (⟨"StageStepsModel", "comesAfter", "(II)Z"⟩, 36) := ⟨⟨by decide +kernel, by decide +kernel⟩, List.mem_of_getElem? (i := 612) (by decide +kernel), List.mem_of_getElem? (i := 767) (by decide +kernel), List.mem_of_getElem? (i := 768) (by decide +kernel)⟩
theorem lw_p19 : lw_okq (⟨"StageStepsModel", "actOf", "(I)I"⟩, 36) := ⟨⟨by decide +kernel, by decide +kernel⟩, List.mem_of_getElem? (i := 612) (by decide +kernel), List.mem_of_getElem? (i := 771) (by decide +kernel), List.mem_of_getElem? (i := 772) (by decide +kernel)⟩
theorem lw_p20 : lw_okq (⟨"StageStepsModel", "lastDay", "()I"⟩, 36) := ⟨⟨by decide +kernel, by decide +kernel⟩, List.mem_of_getElem? (i := 612) (by decide +kernel), List.mem_of_getElem? (i := 779) (by decide +kernel), List.mem_of_getElem? (i := 780) (by decide +kernel)⟩
theorem lw_p21 : lw_okq (⟨"StageStepsModel", "lookAtEnd", "()V"⟩, 36) := ⟨⟨by decide +kernel, by decide +kernel⟩, List.mem_of_getElem? (i := 612) (by decide +kernel), List.mem_of_getElem? (i := 784) (by decide +kernel), List.mem_of_getElem? (i := 785) (by decide +kernel)⟩
theorem lw_p22 : lw_okq (⟨"StageStepsModel", "mayPut", "()Z"⟩, 36) := ⟨⟨by decide +kernel, by decide +kernel⟩, List.mem_of_getElem? (i := 612) (by decide +kernel), List.mem_of_getElem? (i := 792) (by decide +kernel), List.mem_of_getElem? (i := 793) (by decide +kernel)⟩
theorem lw_p23 : lw_okq (⟨"StageStepsModel", "put", "(III)V"⟩, 36) := ⟨⟨by decide +kernel, by decide +kernel⟩, List.mem_of_getElem? (i := 612) (by decide +kernel), List.mem_of_getElem? (i := 796) (by decide +kernel), List.mem_of_getElem? (i := 797) (by decide +kernel)⟩
theorem lw_p24 : lw_okq (⟨"StageStepsModel", "isOn", "(I)Z"⟩, 36) := ⟨⟨by decide +kernel, by decide +kernel⟩, List.mem_of_getElem? (i := 612) (by decide +kernel), List.mem_of_getElem? (i := 808) (by decide +kernel), List.mem_of_getElem? (i := 809) (by decide +kernel)⟩
theorem lw_p25 : lw_okq (⟨"StageStepsModel", "passPlan", "()V"⟩, 36) := ⟨⟨by decide +kernel, by decide +kernel⟩, List.mem_of_getElem? (i := 612) (by decide +kernel), List.mem_of_getElem? (i := 821) (by decide +kernel), List.mem_of_getElem? (i := 822) (by decide +kernel)⟩
theorem lw_p26 : lw_okq (⟨"StageStepsModel", "takePlan", "()V"⟩, 36) := ⟨⟨by decide +kernel, by decide +kernel⟩, List.mem_of_getElem? (i := 612) (by decide +kernel), List.mem_of_getElem? (i := 825) (by decide +kernel), List.mem_of_getElem? (i := 826) (by decide +kernel)⟩
theorem lw_p27 : lw_okq (⟨"StageStepsModel", "pass", "()V"⟩, 36) := ⟨⟨by decide +kernel, by decide +kernel⟩, List.mem_of_getElem? (i := 612) (by decide +kernel), List.mem_of_getElem? (i := 829) (by decide +kernel), List.mem_of_getElem? (i := 830) (by decide +kernel)⟩
theorem lw_p28 : lw_okq (⟨"StageStepsModel", "loadOn", "(IIJ)V"⟩, 36) := ⟨⟨by decide +kernel, by decide +kernel⟩, List.mem_of_getElem? (i := 612) (by decide +kernel), List.mem_of_getElem? (i := 833) (by decide +kernel), List.mem_of_getElem? (i := 834) (by decide +kernel)⟩
theorem lw_p29 : lw_okq (⟨"StageStepsModel", "isThere", "(II)Z"⟩, 36) := ⟨⟨by decide +kernel, by decide +kernel⟩, List.mem_of_getElem? (i := 612) (by decide +kernel), List.mem_of_getElem? (i := 837) (by decide +kernel), List.mem_of_getElem? (i := 838) (by decide +kernel)⟩
theorem lw_p30 : lw_okq (⟨"StageStepsModel", "isStage", "(I)Z"⟩, 36) := ⟨⟨by decide +kernel, by decide +kernel⟩, List.mem_of_getElem? (i := 612) (by decide +kernel), List.mem_of_getElem? (i := 841) (by decide +kernel), List.mem_of_getElem? (i := 842) (by decide +kernel)⟩
theorem lw_p31 : lw_okq (⟨"StageStepsModel", "levelAt", "(II)J"⟩, 36) := ⟨⟨by decide +kernel, by decide +kernel⟩, List.mem_of_getElem? (i := 612) (by decide +kernel), List.mem_of_getElem? (i := 845) (by decide +kernel), List.mem_of_getElem? (i := 846) (by decide +kernel)⟩
def lw_privs_2 : List (MethodName × Nat) := [(⟨"StageSteps$Search", "weigh", "()V"⟩, 7), (⟨"StageStepsModel", "isPart", "(I)Z"⟩, 36), (⟨"StageStepsModel", "comesAfter", "(II)Z"⟩, 36), (⟨"StageStepsModel", "actOf", "(I)I"⟩, 36), (⟨"StageStepsModel", "lastDay", "()I"⟩, 36), (⟨"StageStepsModel", "lookAtEnd", "()V"⟩, 36), (⟨"StageStepsModel", "mayPut", "()Z"⟩, 36), (⟨"StageStepsModel", "put", "(III)V"⟩, 36), (⟨"StageStepsModel", "isOn", "(I)Z"⟩, 36), (⟨"StageStepsModel", "passPlan", "()V"⟩, 36), (⟨"StageStepsModel", "takePlan", "()V"⟩, 36), (⟨"StageStepsModel", "pass", "()V"⟩, 36), (⟨"StageStepsModel", "loadOn", "(IIJ)V"⟩, 36), (⟨"StageStepsModel", "isThere", "(II)Z"⟩, 36), (⟨"StageStepsModel", "isStage", "(I)Z"⟩, 36), (⟨"StageStepsModel", "levelAt", "(II)J"⟩, 36)]
theorem lw_r2 : ∀ q ∈ lw_privs_2, lw_okq q := List.forall_mem_cons.mpr ⟨lw_p16, List.forall_mem_cons.mpr ⟨lw_p17, List.forall_mem_cons.mpr ⟨lw_p18, List.forall_mem_cons.mpr ⟨lw_p19, List.forall_mem_cons.mpr ⟨lw_p20, List.forall_mem_cons.mpr ⟨lw_p21, List.forall_mem_cons.mpr ⟨lw_p22, List.forall_mem_cons.mpr ⟨lw_p23, List.forall_mem_cons.mpr ⟨lw_p24, List.forall_mem_cons.mpr ⟨lw_p25, List.forall_mem_cons.mpr ⟨lw_p26, List.forall_mem_cons.mpr ⟨lw_p27, List.forall_mem_cons.mpr ⟨lw_p28, List.forall_mem_cons.mpr ⟨lw_p29, List.forall_mem_cons.mpr ⟨lw_p30, List.forall_mem_cons.mpr ⟨lw_p31, fun _ h => absurd h List.not_mem_nil⟩⟩⟩⟩⟩⟩⟩⟩⟩⟩⟩⟩⟩⟩⟩⟩
theorem lw_p32 : lw_okq (⟨"StageStepsModel", "cast", "(I)J"⟩, 36) := ⟨⟨by decide +kernel, by decide +kernel⟩, List.mem_of_getElem? (i := 612) (by decide +kernel), List.mem_of_getElem? (i := 849) (by decide +kernel), List.mem_of_getElem? (i := 850) (by decide +kernel)⟩
theorem lw_p33 : lw_okq (⟨"StageStepsModel", "camber", "(I)J"⟩, 36) := ⟨⟨by decide +kernel, by decide +kernel⟩, List.mem_of_getElem? (i := 612) (by decide +kernel), List.mem_of_getElem? (i := 854) (by decide +kernel), List.mem_of_getElem? (i := 855) (by decide +kernel)⟩
theorem lw_p34 : lw_okq (⟨"StageStepsModel", "endDay", "()I"⟩, 36) := ⟨⟨by decide +kernel, by decide +kernel⟩, List.mem_of_getElem? (i := 612) (by decide +kernel), List.mem_of_getElem? (i := 858) (by decide +kernel), List.mem_of_getElem? (i := 859) (by decide +kernel)⟩
theorem lw_p35 : lw_okq (⟨"StageStepsModel", "rise", "(III)J"⟩, 36) := ⟨⟨by decide +kernel, by decide +kernel⟩, List.mem_of_getElem? (i := 612) (by decide +kernel), List.mem_of_getElem? (i := 862) (by decide +kernel), List.mem_of_getElem? (i := 863) (by decide +kernel)⟩
theorem lw_p36 : lw_okq (⟨"StageStepsModel", "dayOf", "(I)I"⟩, 36) := ⟨⟨by decide +kernel, by decide +kernel⟩, List.mem_of_getElem? (i := 612) (by decide +kernel), List.mem_of_getElem? (i := 866) (by decide +kernel), List.mem_of_getElem? (i := 867) (by decide +kernel)⟩
theorem lw_p37 : lw_okq (⟨"StageStepsModel", "creepAt", "(I)I"⟩, 36) := ⟨⟨by decide +kernel, by decide +kernel⟩, List.mem_of_getElem? (i := 612) (by decide +kernel), List.mem_of_getElem? (i := 870) (by decide +kernel), List.mem_of_getElem? (i := 871) (by decide +kernel)⟩
theorem lw_p38 : lw_okq (⟨"StageStepsModel", "carriedAt", "(II)J"⟩, 36) := ⟨⟨by decide +kernel, by decide +kernel⟩, List.mem_of_getElem? (i := 612) (by decide +kernel), List.mem_of_getElem? (i := 883) (by decide +kernel), List.mem_of_getElem? (i := 884) (by decide +kernel)⟩
theorem lw_p39 : lw_okq (⟨"StageStepsModel", "holds", "(II)Z"⟩, 36) := ⟨⟨by decide +kernel, by decide +kernel⟩, List.mem_of_getElem? (i := 612) (by decide +kernel), List.mem_of_getElem? (i := 905) (by decide +kernel), List.mem_of_getElem? (i := 906) (by decide +kernel)⟩
theorem lw_p40 : lw_okq (⟨"StageStepsModel", "isAllowed", "()Z"⟩, 36) := ⟨⟨by decide +kernel, by decide +kernel⟩, List.mem_of_getElem? (i := 612) (by decide +kernel), List.mem_of_getElem? (i := 922) (by decide +kernel), List.mem_of_getElem? (i := 923) (by decide +kernel)⟩
theorem lw_p41 : lw_okq (⟨"StageStepsModel", "greatest", "()J"⟩, 36) := ⟨⟨by decide +kernel, by decide +kernel⟩, List.mem_of_getElem? (i := 612) (by decide +kernel), List.mem_of_getElem? (i := 926) (by decide +kernel), List.mem_of_getElem? (i := 927) (by decide +kernel)⟩
theorem lw_p42 : lw_okq (⟨"StageStepsModel", "nextRow", "()Z"⟩, 36) := ⟨⟨by decide +kernel, by decide +kernel⟩, List.mem_of_getElem? (i := 612) (by decide +kernel), List.mem_of_getElem? (i := 930) (by decide +kernel), List.mem_of_getElem? (i := 931) (by decide +kernel)⟩
def lw_privs_3 : List (MethodName × Nat) := [(⟨"StageStepsModel", "cast", "(I)J"⟩, 36), (⟨"StageStepsModel", "camber", "(I)J"⟩, 36), (⟨"StageStepsModel", "endDay", "()I"⟩, 36), (⟨"StageStepsModel", "rise", "(III)J"⟩, 36), (⟨"StageStepsModel", "dayOf", "(I)I"⟩, 36), (⟨"StageStepsModel", "creepAt", "(I)I"⟩, 36), (⟨"StageStepsModel", "carriedAt", "(II)J"⟩, 36), (⟨"StageStepsModel", "holds", "(II)Z"⟩, 36), (⟨"StageStepsModel", "isAllowed", "()Z"⟩, 36), (⟨"StageStepsModel", "greatest", "()J"⟩, 36), (⟨"StageStepsModel", "nextRow", "()Z"⟩, 36)]
theorem lw_r3 : ∀ q ∈ lw_privs_3, lw_okq q := List.forall_mem_cons.mpr ⟨lw_p32, List.forall_mem_cons.mpr ⟨lw_p33, List.forall_mem_cons.mpr ⟨lw_p34, List.forall_mem_cons.mpr ⟨lw_p35, List.forall_mem_cons.mpr ⟨lw_p36, List.forall_mem_cons.mpr ⟨lw_p37, List.forall_mem_cons.mpr ⟨lw_p38, List.forall_mem_cons.mpr ⟨lw_p39, List.forall_mem_cons.mpr ⟨lw_p40, List.forall_mem_cons.mpr ⟨lw_p41, List.forall_mem_cons.mpr ⟨lw_p42, fun _ h => absurd h List.not_mem_nil⟩⟩⟩⟩⟩⟩⟩⟩⟩⟩⟩
def lw_privs : List (MethodName × Nat) := lw_privs_1 ++ (lw_privs_2 ++ (lw_privs_3))
def lw_tbl : List Cond := k2_sels lw_privs ++ tables_1
theorem lw_privs_ok : ∀ q ∈ lw_privs, lw_okq q := by
  show ∀ q ∈ lw_privs_1 ++ (lw_privs_2 ++ (lw_privs_3)), lw_okq q
  exact List.forall_mem_append.mpr ⟨lw_r1, List.forall_mem_append.mpr ⟨lw_r2, lw_r3⟩⟩
/-! ===== BEGIN words of one list among another's, by their places ===== -/
theorem goodIn_r {big : List Cond} (ws : List Cond) (ps : List Nat) (hp : ws = ps.filterMap (fun i => big[i]?)) (h : ws.all goodWord = true) : GoodIn big ws := by
  intro w hw
  have h1 := List.all_eq_true.mp h w hw
  rw [hp] at hw
  obtain ⟨i, -, hi⟩ := List.mem_filterMap.mp hw
  have hm : w ∈ big := by first | exact List.mem_of_getElem? hi | exact List.getElem?_mem hi
  exact ⟨hm, good_of_word h1⟩
theorem goodIn_app {big a b : List Cond} (ha : GoodIn big a) (hb : GoodIn big b) : GoodIn big (a ++ b) := fun w h => (List.mem_append.mp h).elim (ha w) (hb w)
theorem goodIn_ca {big a b : List Cond} {c : Cond} (ha : GoodIn big (c :: a)) (hb : GoodIn big b) : GoodIn big (c :: (a ++ b)) := fun w h => (List.mem_cons.mp h).elim (fun e => ha w (List.mem_cons.mpr (Or.inl e))) (fun h => (List.mem_append.mp h).elim (fun h => ha w (List.mem_cons.mpr (Or.inr h))) (hb w))
theorem goodIn_sub {big ws : List Cond} (hm : ∀ w ∈ ws, w ∈ big) (h : ws.all goodWord = true) : GoodIn big ws := fun w hw => ⟨hm w hw, good_of_word (List.all_eq_true.mp h w hw)⟩
/-! ===== END ===== -/

def va_AOA (ty : FieldType) (U : State) : Prop := (Cond.arrayOver (.array ty)).before #[] U = true
theorem va_AOA.of {ty : FieldType} {A : Array Value} {U : State} (h : (Cond.arrayOver (.array ty)).before A U = true) : va_AOA ty U := h
theorem va_AOA.use {ty : FieldType} {A : Array Value} {U : State} (h : va_AOA ty U) : (Cond.arrayOver (.array ty)).before A U = true := h
/-! ===== BEGIN new T[n][m]: the outer array a place, the inner ones among the pooled ===== -/
/-- f, but v at every address of l -/
def vr_up {α : Type} (f : Nat → α) (l : List Nat) (v : α) : Nat → α := fun a => if a ∈ l then v else f a
theorem vr_up_in {α : Type} {f : Nat → α} {l : List Nat} {v : α} {a : Nat} (h : a ∈ l) : vr_up f l v a = v := if_pos h
theorem vr_up_ne {α : Type} {f : Nat → α} {l : List Nat} {v : α} {a : Nat} (h : a ∉ l) : vr_up f l v a = f a := if_neg h
theorem vr_rows {L l : List Nat} {f : Nat → va_E} {e : va_E} (h : ∀ a, a ∈ l → a ∉ L) : va_pl L f ++ l.map (fun a => (a, e)) = va_pl (L ++ l) (vr_up f l e) := by
  unfold va_pl
  rw [List.map_append]
  congr 1
  · apply List.map_congr_left
    intro a ha
    rw [vr_up_ne (fun q => h a q ha)]
  · apply List.map_congr_left
    intro a ha
    rw [vr_up_in ha]
theorem vr_lay {X rows : va_W} {x : Nat × va_E} {pl : va_W} {D : va_G} {cl : List vw_C} {H : Heap} (hP : va_P D cl (((X ++ pl) ++ [x]) ++ rows) H) : va_P D cl ((X ++ [x]) ++ (pl ++ rows)) H := by
  rw [List.append_assoc (X ++ pl)] at hP
  have h := va_P.swap hP
  rw [← List.append_assoc X] at h
  have h2 := va_P.swap h
  rw [List.append_assoc (X ++ [x])] at h2
  exact h2
theorem vr_layD {X rows : va_W} {x : Nat × va_E} {pl : va_W} {A : Nat → Prop} (hD : va_D A (((X ++ pl) ++ [x]) ++ rows)) : va_D A ((X ++ [x]) ++ (pl ++ rows)) := by
  rw [List.append_assoc (X ++ pl)] at hD
  have h := va_D.swap hD
  rw [← List.append_assoc X] at h
  have h2 := va_D.swap h
  rw [List.append_assoc (X ++ [x])] at h2
  exact h2
theorem vr_outer (c : ClassId) (N h0 : Nat) : ∀ i : Nat, Jvm.Free.Multi.outerC c N h0 i = arrV c N (fun j => va_rf (if j < i then some (h0 + 1 + j) else none))
  | 0 => by
    show ({ cls := c, slots := Array.replicate N .null, vm := .none } : Cell) = _
    rw [arrV_new]
    refine congrArg (arrV c N) (funext fun j => ?_)
    simp [va_rf]
  | i + 1 => by
    show (Jvm.Free.Multi.outerC c N h0 i).setSlot i (.ref (h0 + 1 + i)) = _
    rw [vr_outer c N h0 i, arrV_store]
    refine congrArg (arrV c N) (funext fun j => ?_)
    by_cases e : j = i
    · subst e
      simp [updV, va_rf]
    · by_cases h : j < i
      · simp [updV, e, h, Nat.lt_succ_of_lt h]
      · simp [updV, e, h, show ¬ j < i + 1 by omega]
section VGM
variable {p : Program} {l : Launch} {e : Env} {R : Room} {s : State} {m : MethodId} {args : Array Value} {below : List Frame} {meth : Method} {c : Code} {H : Heap} {locs : List Loc} {cells slots : Nat} {Q : State → Prop}
variable {cc : ByteArray} {pc : Nat} {ls : Array Slot} {rest : List Value} {D : va_G} {cl : List vw_C} {A : Nat → Prop} {a : Nat} {tys : List (ClassId × FieldType)} {ws : va_W} {H0 : Heap}
theorem va_mna {X : va_W} {L : List Nat} {f : Nat → va_E} {cc : ByteArray} (hexec : p.tables.exec = Jvm.exec) (hb : c.code = cc) {own : String} {index : Nat} {ty : FieldType} {cy : ClassId} (hown : s.vm.findClass own = some m.cls) (hclink : (Cond.classLink own index ("[" ++ (FieldType.array ty).toString)).before args s = true) (hover : va_AOA ty s) (harr : (Cond.arrayClass ty).before args s = true) (hcy : s.vm.findClass (FieldType.array ty).toString = some cy)
    (hK : va_K D cl tys s) (hP : va_P D cl (X ++ va_pl L f) H) (hD : va_D A (X ++ va_pl L f)) (hS : va_S A H0 H locs) (hA : ∀ q, H0.size ≤ q → A q) {n k : Int32} {N' K' : Nat} {z : vp_A} (hn : ¬ n < 0) (hk : ¬ k < 0) (hN : n.toNatClampNeg = N') (hM : k.toNatClampNeg = K')
    (hb1 : N' * 4 ≤ 536870912) (hb2 : K' * componentBytes ty ≤ 536870912) (hb3 : K' ≤ 536870912) (hdf : fits ty (defaultValue ty) = true) (hdd : (defaultValue ty).isDefault = true) (hcells : cells + (1 + N') ≤ R.cells) (hslots : slots + (N' + N' * K') ≤ R.slots) (hz : ∀ c : ClassId, Jvm.Free.Multi.innerC c K' (defaultValue ty) = vp_cell c z) (hdg : decode cc pc = .ok (.multianewarray index 2, 4))
    (kk : ∀ (q : Nat) (r : Nat → Nat) (cA : ClassId) (H1 : Heap), (∀ i j : Nat, i < N' → j < N' → r i = r j → i = j) → (∀ i : Nat, i < N' → r i ∉ L) → va_K D cl (tys ++ [(cA, .array ty)]) s →
      va_P D cl ((X ++ [(q, .inl (cA, N', .inr (.inr (.inr (.inr (fun i => if i < N' then some (r i) else none))))))]) ++ va_pl (L ++ (List.range N').map r) (vr_up f ((List.range N').map r) (.inl (cy, z)))) H1 → va_D A ((X ++ [(q, .inl (cA, N', .inr (.inr (.inr (.inr (fun i => if i < N' then some (r i) else none))))))]) ++ va_pl (L ++ (List.range N').map r) (vr_up f ((List.range N').map r) (.inl (cy, z)))) → va_S A H0 H1 locs →
      W p l e R s m args below meth c H1 locs (cells + 1 + N') (slots + N' + N' * K') Q (F0 m (pc + 4) ls (.ref q :: rest))) : W p l e R s m args below meth c H locs cells slots Q (F0 m pc ls (.int k :: .int n :: rest)) := by
  subst hN
  subst hM
  intro T hT Xs
  obtain ⟨vm₁, cA, comp, -, fA, fC, hO, -, X', step⟩ := Xs.multianewarray2F hexec hown hclink (va_AOA.use hover) harr (g := F0 m pc ls (.int k :: .int n :: rest)) rfl (by rw [hb]; exact hdg) rfl hn hk hb1 hb2 hb3 hdf hdd hcells hslots
  have ec : some cy = some comp := hcy.symm.trans fC
  cases ec
  generalize hF : Jvm.Free.Multi.fill (T.setVm vm₁) cA cy n.toNatClampNeg k.toNatClampNeg (defaultValue ty) n.toNatClampNeg = F at X' step
  have hTh : (T.setVm vm₁).heap = H := hT
  obtain ⟨f1, f2, -, -⟩ := Jvm.Free.Multi.fill_facts (T.setVm vm₁) cA cy n.toNatClampNeg k.toNatClampNeg (defaultValue ty) n.toNatClampNeg
  rw [hF, hTh] at f1 f2
  have hold : ∀ x : Nat, x < H.size → F.heap[x]? = H[x]? := fun x hx => by
    have := Jvm.Free.Multi.fill_old (T.setVm vm₁) cA cy n.toNatClampNeg k.toNatClampNeg (defaultValue ty) (a := x) (by rw [hTh]; exact hx) n.toNatClampNeg
    rw [hF, hTh] at this
    exact this
  have hrow : ∀ j : Nat, j < n.toNatClampNeg → F.heap[H.size + 1 + j]? = some (vp_cell cy z) := fun j hj => by
    have := Jvm.Free.Multi.fill_inner (T.setVm vm₁) cA cy n.toNatClampNeg k.toNatClampNeg (defaultValue ty) n.toNatClampNeg j hj
    rw [hF, hTh, hz] at this
    exact this
  have hout : Jvm.Free.Multi.outerC cA n.toNatClampNeg H.size n.toNatClampNeg = vp_cell cA (n.toNatClampNeg, .inr (.inr (.inr (.inr (fun i => if i < n.toNatClampNeg then some (H.size + 1 + i) else none))))) := by
    rw [vp_cell_q]
    exact vr_outer cA n.toNatClampNeg H.size n.toNatClampNeg
  rw [hout] at f2
  have hlt : ∀ a, a ∈ L → a < H.size := fun a ha => by
    obtain ⟨k9, hk9⟩ := va_pl_get (X := X) (f := f) ha
    exact (hP k9 _ hk9).lt
  have hnl : ∀ i : Nat, i < n.toNatClampNeg → H.size + 1 + i ∉ L := fun i _ h => by
    have := hlt _ h
    omega
  have hnm : ∀ a, a ∈ (List.range n.toNatClampNeg).map (fun i => H.size + 1 + i) → a ∉ L := fun a ha h => by
    obtain ⟨i, -, rfl⟩ := List.mem_map.mp ha
    have := hlt _ h
    omega
  have hP0 : va_P D cl (X ++ va_pl L f) F.heap := hP.kept (fun k9 x hx => hold x.1 ((hP k9 x hx).lt))
  have hP1 : va_P D cl ((X ++ va_pl L f) ++ [(H.size, .inl (cA, n.toNatClampNeg, .inr (.inr (.inr (.inr (fun i => if i < n.toNatClampNeg then some (H.size + 1 + i) else none))))))]) F.heap := hP0.app (fun k9 x hx => by
    have h0 : k9 < 1 := (List.getElem?_eq_some_iff.mp hx).1
    rw [show k9 = 0 by omega] at hx
    cases hx
    exact f2)
  have hP2 : va_P D cl (((X ++ va_pl L f) ++ [(H.size, .inl (cA, n.toNatClampNeg, .inr (.inr (.inr (.inr (fun i => if i < n.toNatClampNeg then some (H.size + 1 + i) else none))))))]) ++ ((List.range n.toNatClampNeg).map (fun i => H.size + 1 + i)).map (fun a => (a, .inl (cy, z)))) F.heap := hP1.app (fun k9 x hx => by
    obtain ⟨a, ha, rfl⟩ := List.mem_map.mp (List.mem_of_getElem? hx)
    obtain ⟨i, hi, rfl⟩ := List.mem_map.mp ha
    exact hrow i (List.mem_range.mp hi))
  have hD2 : va_D A (((X ++ va_pl L f) ++ [(H.size, .inl (cA, n.toNatClampNeg, .inr (.inr (.inr (.inr (fun i => if i < n.toNatClampNeg then some (H.size + 1 + i) else none))))))]) ++ ((List.range n.toNatClampNeg).map (fun i => H.size + 1 + i)).map (fun a => (a, .inl (cy, z)))) := by
    have hD1 := hD.push (e := .inl (cA, n.toNatClampNeg, .inr (.inr (.inr (.inr (fun i => if i < n.toNatClampNeg then some (H.size + 1 + i) else none)))))) hP rfl (hA _ hS.1)
    generalize hW1 : (X ++ va_pl L f) ++ [(H.size, .inl (cA, n.toNatClampNeg, .inr (.inr (.inr (.inr (fun i => if i < n.toNatClampNeg then some (H.size + 1 + i) else none))))))] = W1 at hD1 hP1 ⊢
    have hle : ∀ (k9 : Nat) (x : Nat × va_E), W1[k9]? = some x → x.1 ≤ H.size := fun k9 x hx => by
      rw [← hW1] at hx
      by_cases hl : k9 < (X ++ va_pl L f).length
      · rw [List.getElem?_append_left hl] at hx
        exact Nat.le_of_lt ((hP k9 x hx).lt)
      · rw [List.getElem?_append_right (by omega)] at hx
        have h0 : k9 - (X ++ va_pl L f).length < 1 := (List.getElem?_eq_some_iff.mp hx).1
        rw [show k9 - (X ++ va_pl L f).length = 0 by omega] at hx
        cases hx
        exact Nat.le_refl _
    have hr : ∀ (k9 : Nat) (x : Nat × va_E), (((List.range n.toNatClampNeg).map (fun i => H.size + 1 + i)).map (fun a => ((a, .inl (cy, z)) : Nat × va_E)))[k9]? = some x → x.1 = H.size + 1 + k9 := fun k9 x hx => by
      rw [List.getElem?_map, List.getElem?_map] at hx
      by_cases h9 : k9 < n.toNatClampNeg
      · rw [List.getElem?_range h9] at hx
        cases hx
        rfl
      · have hn0 : (List.range n.toNatClampNeg)[k9]? = none := List.getElem?_eq_none (by rw [List.length_range]; omega)
        rw [hn0] at hx
        cases hx
    refine ⟨fun i j x y hi hj hxy => ?_, fun k9 x hx => ?_⟩
    · by_cases h1 : i < W1.length <;> by_cases h2 : j < W1.length
      · rw [List.getElem?_append_left h1] at hi
        rw [List.getElem?_append_left h2] at hj
        exact hD1.1 i j x y hi hj hxy
      · rw [List.getElem?_append_left h1] at hi
        rw [List.getElem?_append_right (by omega)] at hj
        have := hle _ _ hi
        have := hr _ _ hj
        omega
      · rw [List.getElem?_append_right (by omega)] at hi
        rw [List.getElem?_append_left h2] at hj
        have := hle _ _ hj
        have := hr _ _ hi
        omega
      · rw [List.getElem?_append_right (by omega)] at hi hj
        have := hr _ _ hi
        have := hr _ _ hj
        omega
    · by_cases h1 : k9 < W1.length
      · rw [List.getElem?_append_left h1] at hx
        exact hD1.2 k9 x hx
      · rw [List.getElem?_append_right (by omega)] at hx
        have := hr _ _ hx
        exact hA _ (by have := hS.1; omega)
  have hAr : ArrOfT s cA (.array ty) := fun N9 z9 => by
    obtain ⟨-, k9, hk9, cm9, hkk9⟩ := (hO 0 0 0).1
    exact ⟨(fun q hq => by cases hq), k9, hk9, cm9, hkk9⟩
  have hK2 : va_K D cl (tys ++ [(cA, .array ty)]) s := ⟨hK.1, fun k9 x hx => by
    by_cases hl : k9 < tys.length
    · rw [List.getElem?_append_left hl] at hx
      exact hK.2 k9 x hx
    · rw [List.getElem?_append_right (by omega)] at hx
      have h0 : k9 - tys.length < 1 := (List.getElem?_eq_some_iff.mp hx).1
      rw [show k9 - tys.length = 0 by omega] at hx
      cases hx
      exact ⟨hAr, fA⟩⟩
  obtain ⟨t, a1, b1⟩ := kk H.size (fun i => H.size + 1 + i) cA F.heap (fun i j _ _ h => by have h9 : H.size + 1 + i = H.size + 1 + j := h; omega) hnl hK2 (by rw [← vr_rows hnm]; exact vr_lay hP2) (by rw [← vr_rows hnm]; exact vr_layD hD2) ⟨by rw [f1]; have := hS.1; omega, fun x h1 h2 => (hold x (Nat.lt_of_lt_of_le h1 hS.1)).trans (hS.2.1 x h1 h2), hS.2.2⟩ F rfl X'
  refine ⟨t, step t ?_, b1⟩
  have e : T.heap.size = H.size := by rw [hT]
  rw [e]
  exact a1
end VGM
/-! ===== END ===== -/
end
section
abbrev zw_tbl : List Cond := lw_tbl.filter goodWord
def R_La : String := "StageStepsLaw"
def R_SS : String := "StageSteps"
def R_Cr : String := "StageSteps$Creeps"
def R_Gi : String := "StageSteps$Givens"
def R_Pl : String := "StageSteps$Plan"
def R_Ru : String := "StageSteps$Rules"
def R_Se : String := "StageSteps$Search"
def R_Wa : String := "StageSteps$Walk"
def R_Mo : String := "StageStepsModel"
def R_Math : String := "java/lang/Math"
def R_Sys : String := "java/lang/System"
def R_Arr : String := "java/util/Arrays"
def R_Obj : String := "java/lang/Object"
def T_SS : u_T := fun k => match k with
  | 0 => ("StageSteps", "givens", "LStageSteps$Givens;", true)
  | 1 => ("StageSteps", "creeps", "LStageSteps$Creeps;", true)
  | 2 => ("StageSteps", "plan", "LStageSteps$Plan;", true)
  | 3 => ("StageSteps", "rules", "LStageSteps$Rules;", true)
  | 4 => ("StageSteps", "walk", "LStageSteps$Walk;", true)
  | 5 => ("StageSteps", "search", "LStageSteps$Search;", true)
  | 6 => ("StageSteps", "offsets", "[J", true)
  | 7 => ("StageSteps", "casts", "[J", true)
  | _ => ("StageSteps", "mostMillimetres", "I", false)
def t_SS : Nat → FieldType := fun k => match k with
  | 0 => .object "StageSteps$Givens"
  | 1 => .object "StageSteps$Creeps"
  | 2 => .object "StageSteps$Plan"
  | 3 => .object "StageSteps$Rules"
  | 4 => .object "StageSteps$Walk"
  | 5 => .object "StageSteps$Search"
  | 6 => .array .long
  | 7 => .array .long
  | _ => .int
theorem n_SS : ∀ a, a < 9 → ∀ b, b < 9 → a ≠ b → (T_SS a).2.1 ≠ (T_SS b).2.1 := by decide +kernel
theorem t_SS_ok : ∀ k, k < 9 → parseFieldDescriptor (T_SS k).2.2.1 = some (t_SS k) := by decide +kernel
theorem in_SS : ∀ w ∈ u_ws R_SS T_SS 9, w ∈ zw_tbl := by decide +kernel
def T_Cr : u_T := fun k => match k with
  | 0 => ("StageSteps$Creeps", "ages", "[I", true)
  | 1 => ("StageSteps$Creeps", "values", "[I", true)
  | _ => ("StageSteps$Creeps", "count", "I", false)
def t_Cr : Nat → FieldType := fun k => match k with
  | 0 => .array .int
  | 1 => .array .int
  | _ => .int
theorem n_Cr : ∀ a, a < 3 → ∀ b, b < 3 → a ≠ b → (T_Cr a).2.1 ≠ (T_Cr b).2.1 := by decide +kernel
theorem t_Cr_ok : ∀ k, k < 3 → parseFieldDescriptor (T_Cr k).2.2.1 = some (t_Cr k) := by decide +kernel
theorem in_Cr : ∀ w ∈ u_ws R_Cr T_Cr 3, w ∈ zw_tbl := by decide +kernel
def T_Gi : u_T := fun k => match k with
  | 0 => ("StageSteps$Givens", "parts", "I", true)
  | 1 => ("StageSteps$Givens", "weights", "[I", true)
  | 2 => ("StageSteps$Givens", "wanted", "[I", true)
  | 3 => ("StageSteps$Givens", "flexes", "[[I", true)
  | 4 => ("StageSteps$Givens", "shares", "[[I", true)
  | 5 => ("StageSteps$Givens", "releases", "[[I", true)
  | _ => ("StageSteps$Givens", "befores", "[I", true)
def t_Gi : Nat → FieldType := fun k => match k with
  | 0 => .int
  | 1 => .array .int
  | 2 => .array .int
  | 3 => .array (.array .int)
  | 4 => .array (.array .int)
  | 5 => .array (.array .int)
  | _ => .array .int
theorem n_Gi : ∀ a, a < 7 → ∀ b, b < 7 → a ≠ b → (T_Gi a).2.1 ≠ (T_Gi b).2.1 := by decide +kernel
theorem t_Gi_ok : ∀ k, k < 7 → parseFieldDescriptor (T_Gi k).2.2.1 = some (t_Gi k) := by decide +kernel
theorem in_Gi : ∀ w ∈ u_ws R_Gi T_Gi 7, w ∈ zw_tbl := by decide +kernel
def T_Pl : u_T := fun k => match k with
  | 0 => ("StageSteps$Plan", "days", "[I", true)
  | 1 => ("StageSteps$Plan", "kinds", "[I", true)
  | 2 => ("StageSteps$Plan", "whats", "[I", true)
  | 3 => ("StageSteps$Plan", "tonnes", "[I", true)
  | 4 => ("StageSteps$Plan", "actStages", "[I", true)
  | 5 => ("StageSteps$Plan", "row", "[I", true)
  | 6 => ("StageSteps$Plan", "addStages", "[I", true)
  | 7 => ("StageSteps$Plan", "stages", "I", false)
  | 8 => ("StageSteps$Plan", "acts", "I", false)
  | 9 => ("StageSteps$Plan", "adds", "I", false)
  | _ => ("StageSteps$Plan", "toldEnd", "I", false)
def t_Pl : Nat → FieldType := fun k => match k with
  | 0 => .array .int
  | 1 => .array .int
  | 2 => .array .int
  | 3 => .array .int
  | 4 => .array .int
  | 5 => .array .int
  | 6 => .array .int
  | 7 => .int
  | 8 => .int
  | 9 => .int
  | _ => .int
theorem n_Pl : ∀ a, a < 11 → ∀ b, b < 11 → a ≠ b → (T_Pl a).2.1 ≠ (T_Pl b).2.1 := by decide +kernel
theorem t_Pl_ok : ∀ k, k < 11 → parseFieldDescriptor (T_Pl k).2.2.1 = some (t_Pl k) := by decide +kernel
theorem in_Pl : ∀ w ∈ u_ws R_Pl T_Pl 11, w ∈ zw_tbl := by decide +kernel
def T_Ru : u_T := fun k => match k with
  | 0 => ("StageSteps$Rules", "kinds", "[I", true)
  | 1 => ("StageSteps$Rules", "ofs", "[I", true)
  | 2 => ("StageSteps$Rules", "lows", "[I", true)
  | 3 => ("StageSteps$Rules", "highs", "[I", true)
  | _ => ("StageSteps$Rules", "count", "I", false)
def t_Ru : Nat → FieldType := fun k => match k with
  | 0 => .array .int
  | 1 => .array .int
  | 2 => .array .int
  | 3 => .array .int
  | _ => .int
theorem n_Ru : ∀ a, a < 5 → ∀ b, b < 5 → a ≠ b → (T_Ru a).2.1 ≠ (T_Ru b).2.1 := by decide +kernel
theorem t_Ru_ok : ∀ k, k < 5 → parseFieldDescriptor (T_Ru k).2.2.1 = some (t_Ru k) := by decide +kernel
theorem in_Ru : ∀ w ∈ u_ws R_Ru T_Ru 5, w ∈ zw_tbl := by decide +kernel
def T_Se : u_T := fun k => match k with
  | 0 => ("StageSteps$Search", "givens", "LStageSteps$Givens;", true)
  | 1 => ("StageSteps$Search", "plan", "LStageSteps$Plan;", true)
  | 2 => ("StageSteps$Search", "walk", "LStageSteps$Walk;", true)
  | 3 => ("StageSteps$Search", "tried", "[I", true)
  | 4 => ("StageSteps$Search", "found", "[I", true)
  | 5 => ("StageSteps$Search", "foundCount", "I", false)
  | _ => ("StageSteps$Search", "least", "J", false)
def t_Se : Nat → FieldType := fun k => match k with
  | 0 => .object "StageSteps$Givens"
  | 1 => .object "StageSteps$Plan"
  | 2 => .object "StageSteps$Walk"
  | 3 => .array .int
  | 4 => .array .int
  | 5 => .int
  | _ => .long
theorem n_Se : ∀ a, a < 7 → ∀ b, b < 7 → a ≠ b → (T_Se a).2.1 ≠ (T_Se b).2.1 := by decide +kernel
theorem t_Se_ok : ∀ k, k < 7 → parseFieldDescriptor (T_Se k).2.2.1 = some (t_Se k) := by decide +kernel
theorem in_Se : ∀ w ∈ u_ws R_Se T_Se 7, w ∈ zw_tbl := by decide +kernel
def T_Wa : u_T := fun k => match k with
  | 0 => ("StageSteps$Walk", "givens", "LStageSteps$Givens;", true)
  | 1 => ("StageSteps$Walk", "creeps", "LStageSteps$Creeps;", true)
  | 2 => ("StageSteps$Walk", "plan", "LStageSteps$Plan;", true)
  | 3 => ("StageSteps$Walk", "rises", "[J", true)
  | 4 => ("StageSteps$Walk", "carried", "[J", true)
  | 5 => ("StageSteps$Walk", "addedIn", "[I", true)
  | 6 => ("StageSteps$Walk", "creepTo", "[I", true)
  | 7 => ("StageSteps$Walk", "creepFrom", "[[I", true)
  | 8 => ("StageSteps$Walk", "lastStage", "I", false)
  | 9 => ("StageSteps$Walk", "there", "I", false)
  | _ => ("StageSteps$Walk", "on", "I", false)
def t_Wa : Nat → FieldType := fun k => match k with
  | 0 => .object "StageSteps$Givens"
  | 1 => .object "StageSteps$Creeps"
  | 2 => .object "StageSteps$Plan"
  | 3 => .array .long
  | 4 => .array .long
  | 5 => .array .int
  | 6 => .array .int
  | 7 => .array (.array .int)
  | 8 => .int
  | 9 => .int
  | _ => .int
theorem n_Wa : ∀ a, a < 11 → ∀ b, b < 11 → a ≠ b → (T_Wa a).2.1 ≠ (T_Wa b).2.1 := by decide +kernel
theorem t_Wa_ok : ∀ k, k < 11 → parseFieldDescriptor (T_Wa k).2.2.1 = some (t_Wa k) := by decide +kernel
theorem in_Wa : ∀ w ∈ u_ws R_Wa T_Wa 11, w ∈ zw_tbl := by decide +kernel
def T_Mo : u_T := fun k => match k with
  | 0 => ("StageStepsModel", "parts", "I", true)
  | 1 => ("StageStepsModel", "weights", "[I", true)
  | 2 => ("StageStepsModel", "wanted", "[I", true)
  | 3 => ("StageStepsModel", "flexes", "[I", true)
  | 4 => ("StageStepsModel", "shares", "[I", true)
  | 5 => ("StageStepsModel", "releases", "[I", true)
  | 6 => ("StageStepsModel", "ages", "[I", true)
  | 7 => ("StageStepsModel", "creeps", "[I", true)
  | 8 => ("StageStepsModel", "creepCount", "I", false)
  | 9 => ("StageStepsModel", "afters", "[Z", true)
  | 10 => ("StageStepsModel", "days", "[I", true)
  | 11 => ("StageStepsModel", "stages", "I", false)
  | 12 => ("StageStepsModel", "kinds", "[I", true)
  | 13 => ("StageStepsModel", "which", "[I", true)
  | 14 => ("StageStepsModel", "tonnes", "[I", true)
  | 15 => ("StageStepsModel", "stageOf", "[I", true)
  | 16 => ("StageStepsModel", "acts", "I", false)
  | 17 => ("StageStepsModel", "offsets", "[J", true)
  | 18 => ("StageStepsModel", "toldEnd", "I", false)
  | 19 => ("StageStepsModel", "most", "I", false)
  | 20 => ("StageStepsModel", "ruleKinds", "[I", true)
  | 21 => ("StageStepsModel", "ruleOf", "[I", true)
  | 22 => ("StageStepsModel", "lows", "[I", true)
  | 23 => ("StageStepsModel", "highs", "[I", true)
  | 24 => ("StageStepsModel", "rules", "I", false)
  | 25 => ("StageStepsModel", "order", "[I", true)
  | 26 => ("StageStepsModel", "orderSize", "I", false)
  | 27 => ("StageStepsModel", "taken", "[I", true)
  | 28 => ("StageStepsModel", "takenSize", "I", false)
  | 29 => ("StageStepsModel", "gains", "[J", true)
  | 30 => ("StageStepsModel", "addedBy", "[I", true)
  | 31 => ("StageStepsModel", "carried", "[J", true)
  | 32 => ("StageStepsModel", "on", "[Z", true)
  | 33 => ("StageStepsModel", "carry", "[J", true)
  | 34 => ("StageStepsModel", "row", "[I", true)
  | _ => ("StageStepsModel", "used", "[Z", true)
def t_Mo : Nat → FieldType := fun k => match k with
  | 0 => .int
  | 1 => .array .int
  | 2 => .array .int
  | 3 => .array .int
  | 4 => .array .int
  | 5 => .array .int
  | 6 => .array .int
  | 7 => .array .int
  | 8 => .int
  | 9 => .array .boolean
  | 10 => .array .int
  | 11 => .int
  | 12 => .array .int
  | 13 => .array .int
  | 14 => .array .int
  | 15 => .array .int
  | 16 => .int
  | 17 => .array .long
  | 18 => .int
  | 19 => .int
  | 20 => .array .int
  | 21 => .array .int
  | 22 => .array .int
  | 23 => .array .int
  | 24 => .int
  | 25 => .array .int
  | 26 => .int
  | 27 => .array .int
  | 28 => .int
  | 29 => .array .long
  | 30 => .array .int
  | 31 => .array .long
  | 32 => .array .boolean
  | 33 => .array .long
  | 34 => .array .int
  | _ => .array .boolean
theorem n_Mo : ∀ a, a < 36 → ∀ b, b < 36 → a ≠ b → (T_Mo a).2.1 ≠ (T_Mo b).2.1 := by decide +kernel
theorem t_Mo_ok : ∀ k, k < 36 → parseFieldDescriptor (T_Mo k).2.2.1 = some (t_Mo k) := by decide +kernel
theorem in_Mo : ∀ w ∈ u_ws R_Mo T_Mo 36, w ∈ zw_tbl := by decide +kernel
abbrev vwCl : List vw_C := [(R_SS, T_SS, 9), (R_Cr, T_Cr, 3), (R_Gi, T_Gi, 7), (R_Pl, T_Pl, 11), (R_Ru, T_Ru, 5), (R_Se, T_Se, 7), (R_Wa, T_Wa, 11), (R_Mo, T_Mo, 36)]
def y_Obj_init : MethodName := ⟨"java/lang/Object", "<init>", "()V"⟩
def y_SS_init : MethodName := ⟨R_SS, "<init>", "(I)V"⟩
def y_SS_part : MethodName := ⟨R_SS, "part", "(III)Z"⟩
def y_SS_flex : MethodName := ⟨R_SS, "flex", "(IIII)Z"⟩
def y_SS_share : MethodName := ⟨R_SS, "share", "(III)Z"⟩
def y_SS_release : MethodName := ⟨R_SS, "release", "(III)Z"⟩
def y_SS_creep : MethodName := ⟨R_SS, "creep", "(II)Z"⟩
def y_SS_after : MethodName := ⟨R_SS, "after", "(II)Z"⟩
def y_SS_stage : MethodName := ⟨R_SS, "stage", "(I)J"⟩
def y_SS_add : MethodName := ⟨R_SS, "add", "(I)Z"⟩
def y_SS_load : MethodName := ⟨R_SS, "load", "(II)Z"⟩
def y_SS_support : MethodName := ⟨R_SS, "support", "(IZ)Z"⟩
def y_SS_end : MethodName := ⟨R_SS, "end", "(I)Z"⟩
def y_SS_level : MethodName := ⟨R_SS, "level", "(II)J"⟩
def y_SS_of : MethodName := ⟨R_SS, "of", "(II)J"⟩
def y_SS_carries : MethodName := ⟨R_SS, "carries", "(II)J"⟩
def y_SS_survey : MethodName := ⟨R_SS, "survey", "(III)J"⟩
def y_SS_most : MethodName := ⟨R_SS, "most", "(I)Z"⟩
def y_SS_rule : MethodName := ⟨R_SS, "rule", "(IIII)J"⟩
def y_SS_broken : MethodName := ⟨R_SS, "broken", "(I)J"⟩
def y_SS_shift : MethodName := ⟨R_SS, "shift", "(II)Z"⟩
def y_SS_redo : MethodName := ⟨R_SS, "redo", "(I)J"⟩
def y_SS_best : MethodName := ⟨R_SS, "best", "()J"⟩
def y_SS_order : MethodName := ⟨R_SS, "order", "(I)J"⟩
def y_SS_told : MethodName := ⟨R_SS, "told", "(I)J"⟩
def y_SS_check : MethodName := ⟨R_SS, "check", "()I"⟩
def y_SS_within : MethodName := ⟨R_SS, "within", "(III)Z"⟩
def y_SS_isFactor : MethodName := ⟨R_SS, "isFactor", "(I)Z"⟩
def y_SS_isSupport : MethodName := ⟨R_SS, "isSupport", "(I)Z"⟩
def y_SS_hasBit : MethodName := ⟨R_SS, "hasBit", "(II)Z"⟩
def y_SS_isThere : MethodName := ⟨R_SS, "isThere", "(II)Z"⟩
def y_SS_isRuled : MethodName := ⟨R_SS, "isRuled", "(II)Z"⟩
def y_SS_castAll : MethodName := ⟨R_SS, "castAll", "()V"⟩
def y_SS_walkTo : MethodName := ⟨R_SS, "walkTo", "(I)V"⟩
def y_SS_levelThen : MethodName := ⟨R_SS, "levelThen", "(II)J"⟩
def y_SS_heightNow : MethodName := ⟨R_SS, "heightNow", "(I)J"⟩
def y_SS_spread : MethodName := ⟨R_SS, "spread", "(JI)V"⟩
def y_SS_towardsZero : MethodName := ⟨R_SS, "towardsZero", "(JJ)J"⟩
def y_SS_firstBroken : MethodName := ⟨R_SS, "firstBroken", "(I)I"⟩
def y_SS_isBroken : MethodName := ⟨R_SS, "isBroken", "(II)Z"⟩
def y_Mo_init : MethodName := ⟨R_Mo, "<init>", "(I)V"⟩
def y_Mo_in : MethodName := ⟨R_Mo, "in", "(JJJ)Z"⟩
def y_Mo_isPart : MethodName := ⟨R_Mo, "isPart", "(I)Z"⟩
def y_Mo_isStage : MethodName := ⟨R_Mo, "isStage", "(I)Z"⟩
def y_Mo_part : MethodName := ⟨R_Mo, "part", "(III)Z"⟩
def y_Mo_flex : MethodName := ⟨R_Mo, "flex", "(IIII)Z"⟩
def y_Mo_share : MethodName := ⟨R_Mo, "share", "(III)Z"⟩
def y_Mo_release : MethodName := ⟨R_Mo, "release", "(III)Z"⟩
def y_Mo_creep : MethodName := ⟨R_Mo, "creep", "(II)Z"⟩
def y_Mo_comesAfter : MethodName := ⟨R_Mo, "comesAfter", "(II)Z"⟩
def y_Mo_actOf : MethodName := ⟨R_Mo, "actOf", "(I)I"⟩
def y_Mo_after : MethodName := ⟨R_Mo, "after", "(II)Z"⟩
def y_Mo_lastDay : MethodName := ⟨R_Mo, "lastDay", "()I"⟩
def y_Mo_lookAtEnd : MethodName := ⟨R_Mo, "lookAtEnd", "()V"⟩
def y_Mo_endDay : MethodName := ⟨R_Mo, "endDay", "()I"⟩
def y_Mo_stage : MethodName := ⟨R_Mo, "stage", "(I)J"⟩
def y_Mo_put : MethodName := ⟨R_Mo, "put", "(III)V"⟩
def y_Mo_mayPut : MethodName := ⟨R_Mo, "mayPut", "()Z"⟩
def y_Mo_add : MethodName := ⟨R_Mo, "add", "(I)Z"⟩
def y_Mo_load : MethodName := ⟨R_Mo, "load", "(II)Z"⟩
def y_Mo_isOn : MethodName := ⟨R_Mo, "isOn", "(I)Z"⟩
def y_Mo_support : MethodName := ⟨R_Mo, "support", "(IZ)Z"⟩
def y_Mo_end : MethodName := ⟨R_Mo, "end", "(I)Z"⟩
def y_Mo_creepAt : MethodName := ⟨R_Mo, "creepAt", "(I)I"⟩
def y_Mo_takePlan : MethodName := ⟨R_Mo, "takePlan", "()V"⟩
def y_Mo_loadOn : MethodName := ⟨R_Mo, "loadOn", "(IIJ)V"⟩
def y_Mo_pass : MethodName := ⟨R_Mo, "pass", "()V"⟩
def y_Mo_dayOf : MethodName := ⟨R_Mo, "dayOf", "(I)I"⟩
def y_Mo_rise : MethodName := ⟨R_Mo, "rise", "(III)J"⟩
def y_Mo_camber : MethodName := ⟨R_Mo, "camber", "(I)J"⟩
def y_Mo_cast : MethodName := ⟨R_Mo, "cast", "(I)J"⟩
def y_Mo_passPlan : MethodName := ⟨R_Mo, "passPlan", "()V"⟩
def y_Mo_isThere : MethodName := ⟨R_Mo, "isThere", "(II)Z"⟩
def y_Mo_levelAt : MethodName := ⟨R_Mo, "levelAt", "(II)J"⟩
def y_Mo_level : MethodName := ⟨R_Mo, "level", "(II)J"⟩
def y_Mo_of : MethodName := ⟨R_Mo, "of", "(II)J"⟩
def y_Mo_carriedAt : MethodName := ⟨R_Mo, "carriedAt", "(II)J"⟩
def y_Mo_carries : MethodName := ⟨R_Mo, "carries", "(II)J"⟩
def y_Mo_survey : MethodName := ⟨R_Mo, "survey", "(III)J"⟩
def y_Mo_most : MethodName := ⟨R_Mo, "most", "(I)Z"⟩
def y_Mo_rule : MethodName := ⟨R_Mo, "rule", "(IIII)J"⟩
def y_Mo_holds : MethodName := ⟨R_Mo, "holds", "(II)Z"⟩
def y_Mo_broken : MethodName := ⟨R_Mo, "broken", "(I)J"⟩
def y_Mo_shift : MethodName := ⟨R_Mo, "shift", "(II)Z"⟩
def y_Mo_redo : MethodName := ⟨R_Mo, "redo", "(I)J"⟩
def y_Mo_isAllowed : MethodName := ⟨R_Mo, "isAllowed", "()Z"⟩
def y_Mo_nextRow : MethodName := ⟨R_Mo, "nextRow", "()Z"⟩
def y_Mo_greatest : MethodName := ⟨R_Mo, "greatest", "()J"⟩
def y_Mo_best : MethodName := ⟨R_Mo, "best", "()J"⟩
def y_Mo_order : MethodName := ⟨R_Mo, "order", "(I)J"⟩
def y_Mo_told : MethodName := ⟨R_Mo, "told", "(I)J"⟩
def y_Mo_check : MethodName := ⟨R_Mo, "check", "()I"⟩
def y_Cr_init : MethodName := ⟨R_Cr, "<init>", "()V"⟩
def y_Cr_tell : MethodName := ⟨R_Cr, "tell", "(II)Z"⟩
def y_Cr_at : MethodName := ⟨R_Cr, "at", "(I)I"⟩
def y_Gi_init : MethodName := ⟨R_Gi, "<init>", "(I)V"⟩
def y_Gi_hasPart : MethodName := ⟨R_Gi, "hasPart", "(I)Z"⟩
def y_Gi_mustFollow : MethodName := ⟨R_Gi, "mustFollow", "(II)Z"⟩
def y_Gi_mayFollow : MethodName := ⟨R_Gi, "mayFollow", "(II)Z"⟩
def y_Gi_follow : MethodName := ⟨R_Gi, "follow", "(II)V"⟩
def y_Pl_init : MethodName := ⟨R_Pl, "<init>", "()V"⟩
def y_Pl_hasStage : MethodName := ⟨R_Pl, "hasStage", "(I)Z"⟩
def y_Pl_hasRoom : MethodName := ⟨R_Pl, "hasRoom", "()Z"⟩
def y_Pl_lastDay : MethodName := ⟨R_Pl, "lastDay", "()I"⟩
def y_Pl_endDay : MethodName := ⟨R_Pl, "endDay", "()I"⟩
def y_Pl_takesStage : MethodName := ⟨R_Pl, "takesStage", "(I)Z"⟩
def y_Pl_openStage : MethodName := ⟨R_Pl, "openStage", "(I)I"⟩
def y_Pl_takesPart : MethodName := ⟨R_Pl, "takesPart", "(I)Z"⟩
def y_Pl_putPart : MethodName := ⟨R_Pl, "putPart", "(I)V"⟩
def y_Pl_putAct : MethodName := ⟨R_Pl, "putAct", "(III)V"⟩
def y_Pl_placeOf : MethodName := ⟨R_Pl, "placeOf", "(I)I"⟩
def y_Pl_stageOf : MethodName := ⟨R_Pl, "stageOf", "(I)I"⟩
def y_Pl_partBits : MethodName := ⟨R_Pl, "partBits", "()I"⟩
def y_Pl_onBits : MethodName := ⟨R_Pl, "onBits", "()I"⟩
def y_Pl_canMove : MethodName := ⟨R_Pl, "canMove", "(II)Z"⟩
def y_Pl_move : MethodName := ⟨R_Pl, "move", "(II)V"⟩
def y_Pl_cutFrom : MethodName := ⟨R_Pl, "cutFrom", "(I)I"⟩
def y_Pl_forgetPassedEnd : MethodName := ⟨R_Pl, "forgetPassedEnd", "()V"⟩
def y_Ru_init : MethodName := ⟨R_Ru, "<init>", "()V"⟩
def y_Ru_put : MethodName := ⟨R_Ru, "put", "(IIII)I"⟩
def y_Ru_allows : MethodName := ⟨R_Ru, "allows", "(IJJ)Z"⟩
def y_Se_init : MethodName := ⟨R_Se, "<init>", "(LStageSteps$Givens;LStageSteps$Plan;LStageSteps$Walk;)V"⟩
def y_Se_leastGreatest : MethodName := ⟨R_Se, "leastGreatest", "()J"⟩
def y_Se_tryFrom : MethodName := ⟨R_Se, "tryFrom", "(III)V"⟩
def y_Se_weigh : MethodName := ⟨R_Se, "weigh", "()V"⟩
def y_Wa_init : MethodName := ⟨R_Wa, "<init>", "(LStageSteps$Givens;LStageSteps$Creeps;LStageSteps$Plan;)V"⟩
def y_Wa_aim : MethodName := ⟨R_Wa, "aim", "(II)V"⟩
def y_Wa_go : MethodName := ⟨R_Wa, "go", "([I)Z"⟩
def y_Wa_greatestSize : MethodName := ⟨R_Wa, "greatestSize", "()J"⟩
def y_Wa_begin : MethodName := ⟨R_Wa, "begin", "([I)V"⟩
def y_Wa_comeIn : MethodName := ⟨R_Wa, "comeIn", "(II)V"⟩
def y_Wa_press : MethodName := ⟨R_Wa, "press", "(III)V"⟩
def y_Wa_letGo : MethodName := ⟨R_Wa, "letGo", "(II)V"⟩
def y_Wa_lift : MethodName := ⟨R_Wa, "lift", "(IIJ)V"⟩
def y_La_cell : MethodName := ⟨R_La, "cell", "([II)I"⟩
def y_Arr_fill_i : MethodName := ⟨R_Arr, "fill", "([II)V"⟩
def y_Arr_fill_l : MethodName := ⟨R_Arr, "fill", "([JJ)V"⟩
def y_Math_absl : MethodName := ⟨R_Math, "abs", "(J)J"⟩
def y_Math_maxi : MethodName := ⟨R_Math, "max", "(II)I"⟩
def y_Math_maxl : MethodName := ⟨R_Math, "max", "(JJ)J"⟩
def y_Math_mini : MethodName := ⟨R_Math, "min", "(II)I"⟩
def y_Math_minl : MethodName := ⟨R_Math, "min", "(JJ)J"⟩
def y_Sys_arraycopy : MethodName := ⟨R_Sys, "arraycopy", "(Ljava/lang/Object;ILjava/lang/Object;II)V"⟩
abbrev b_SS_init : ByteArray := prog_1_method_1_code
abbrev ws_SS_init : List Cond := .code y_SS_init b_SS_init 2 (Option.none : Option FieldType) :: zw_tbl
theorem hd_SS_init : y_SS_init.cls = R_SS ∧ y_SS_init.cls ≠ "java/lang/invoke/MethodHandle" ∧ y_SS_init.cls ≠ "java/lang/invoke/VarHandle" ∧ (parseMethodDescriptor y_SS_init.desc).map (fun d => d.parameters.length) = some 1 := by decide +kernel
abbrev b_SS_part : ByteArray := prog_1_method_2_code
abbrev ws_SS_part : List Cond := .code y_SS_part b_SS_part 4 (Option.some FieldType.boolean) :: zw_tbl
theorem hd_SS_part : y_SS_part.cls = R_SS ∧ y_SS_part.cls ≠ "java/lang/invoke/MethodHandle" ∧ y_SS_part.cls ≠ "java/lang/invoke/VarHandle" ∧ (parseMethodDescriptor y_SS_part.desc).map (fun d => d.parameters.length) = some 3 := by decide +kernel
abbrev b_SS_flex : ByteArray := prog_1_method_3_code
abbrev ws_SS_flex : List Cond := .code y_SS_flex b_SS_flex 5 (Option.some FieldType.boolean) :: zw_tbl
theorem hd_SS_flex : y_SS_flex.cls = R_SS ∧ y_SS_flex.cls ≠ "java/lang/invoke/MethodHandle" ∧ y_SS_flex.cls ≠ "java/lang/invoke/VarHandle" ∧ (parseMethodDescriptor y_SS_flex.desc).map (fun d => d.parameters.length) = some 4 := by decide +kernel
abbrev b_SS_share : ByteArray := prog_1_method_4_code
abbrev ws_SS_share : List Cond := .code y_SS_share b_SS_share 4 (Option.some FieldType.boolean) :: zw_tbl
theorem hd_SS_share : y_SS_share.cls = R_SS ∧ y_SS_share.cls ≠ "java/lang/invoke/MethodHandle" ∧ y_SS_share.cls ≠ "java/lang/invoke/VarHandle" ∧ (parseMethodDescriptor y_SS_share.desc).map (fun d => d.parameters.length) = some 3 := by decide +kernel
abbrev b_SS_release : ByteArray := prog_1_method_5_code
abbrev ws_SS_release : List Cond := .code y_SS_release b_SS_release 4 (Option.some FieldType.boolean) :: zw_tbl
theorem hd_SS_release : y_SS_release.cls = R_SS ∧ y_SS_release.cls ≠ "java/lang/invoke/MethodHandle" ∧ y_SS_release.cls ≠ "java/lang/invoke/VarHandle" ∧ (parseMethodDescriptor y_SS_release.desc).map (fun d => d.parameters.length) = some 3 := by decide +kernel
abbrev b_SS_creep : ByteArray := prog_1_method_6_code
abbrev ws_SS_creep : List Cond := .code y_SS_creep b_SS_creep 3 (Option.some FieldType.boolean) :: zw_tbl
theorem hd_SS_creep : y_SS_creep.cls = R_SS ∧ y_SS_creep.cls ≠ "java/lang/invoke/MethodHandle" ∧ y_SS_creep.cls ≠ "java/lang/invoke/VarHandle" ∧ (parseMethodDescriptor y_SS_creep.desc).map (fun d => d.parameters.length) = some 2 := by decide +kernel
abbrev b_SS_after : ByteArray := prog_1_method_7_code
abbrev ws_SS_after : List Cond := .code y_SS_after b_SS_after 5 (Option.some FieldType.boolean) :: zw_tbl
theorem hd_SS_after : y_SS_after.cls = R_SS ∧ y_SS_after.cls ≠ "java/lang/invoke/MethodHandle" ∧ y_SS_after.cls ≠ "java/lang/invoke/VarHandle" ∧ (parseMethodDescriptor y_SS_after.desc).map (fun d => d.parameters.length) = some 2 := by decide +kernel
abbrev b_SS_stage : ByteArray := prog_1_method_8_code
abbrev ws_SS_stage : List Cond := .code y_SS_stage b_SS_stage 2 (Option.some FieldType.long) :: zw_tbl
theorem hd_SS_stage : y_SS_stage.cls = R_SS ∧ y_SS_stage.cls ≠ "java/lang/invoke/MethodHandle" ∧ y_SS_stage.cls ≠ "java/lang/invoke/VarHandle" ∧ (parseMethodDescriptor y_SS_stage.desc).map (fun d => d.parameters.length) = some 1 := by decide +kernel
abbrev b_SS_add : ByteArray := prog_1_method_9_code
abbrev ws_SS_add : List Cond := .code y_SS_add b_SS_add 2 (Option.some FieldType.boolean) :: zw_tbl
theorem hd_SS_add : y_SS_add.cls = R_SS ∧ y_SS_add.cls ≠ "java/lang/invoke/MethodHandle" ∧ y_SS_add.cls ≠ "java/lang/invoke/VarHandle" ∧ (parseMethodDescriptor y_SS_add.desc).map (fun d => d.parameters.length) = some 1 := by decide +kernel
abbrev b_SS_load : ByteArray := prog_1_method_10_code
abbrev ws_SS_load : List Cond := .code y_SS_load b_SS_load 3 (Option.some FieldType.boolean) :: zw_tbl
theorem hd_SS_load : y_SS_load.cls = R_SS ∧ y_SS_load.cls ≠ "java/lang/invoke/MethodHandle" ∧ y_SS_load.cls ≠ "java/lang/invoke/VarHandle" ∧ (parseMethodDescriptor y_SS_load.desc).map (fun d => d.parameters.length) = some 2 := by decide +kernel
abbrev b_SS_support : ByteArray := prog_1_method_11_code
abbrev ws_SS_support : List Cond := .code y_SS_support b_SS_support 3 (Option.some FieldType.boolean) :: zw_tbl
theorem hd_SS_support : y_SS_support.cls = R_SS ∧ y_SS_support.cls ≠ "java/lang/invoke/MethodHandle" ∧ y_SS_support.cls ≠ "java/lang/invoke/VarHandle" ∧ (parseMethodDescriptor y_SS_support.desc).map (fun d => d.parameters.length) = some 2 := by decide +kernel
abbrev b_SS_end : ByteArray := prog_1_method_12_code
abbrev ws_SS_end : List Cond := .code y_SS_end b_SS_end 2 (Option.some FieldType.boolean) :: zw_tbl
theorem hd_SS_end : y_SS_end.cls = R_SS ∧ y_SS_end.cls ≠ "java/lang/invoke/MethodHandle" ∧ y_SS_end.cls ≠ "java/lang/invoke/VarHandle" ∧ (parseMethodDescriptor y_SS_end.desc).map (fun d => d.parameters.length) = some 1 := by decide +kernel
abbrev b_SS_level : ByteArray := prog_1_method_13_code
abbrev ws_SS_level : List Cond := .code y_SS_level b_SS_level 3 (Option.some FieldType.long) :: zw_tbl
theorem hd_SS_level : y_SS_level.cls = R_SS ∧ y_SS_level.cls ≠ "java/lang/invoke/MethodHandle" ∧ y_SS_level.cls ≠ "java/lang/invoke/VarHandle" ∧ (parseMethodDescriptor y_SS_level.desc).map (fun d => d.parameters.length) = some 2 := by decide +kernel
abbrev b_SS_of : ByteArray := prog_1_method_14_code
abbrev ws_SS_of : List Cond := .code y_SS_of b_SS_of 3 (Option.some FieldType.long) :: zw_tbl
theorem hd_SS_of : y_SS_of.cls = R_SS ∧ y_SS_of.cls ≠ "java/lang/invoke/MethodHandle" ∧ y_SS_of.cls ≠ "java/lang/invoke/VarHandle" ∧ (parseMethodDescriptor y_SS_of.desc).map (fun d => d.parameters.length) = some 2 := by decide +kernel
abbrev b_SS_carries : ByteArray := prog_1_method_15_code
abbrev ws_SS_carries : List Cond := .code y_SS_carries b_SS_carries 3 (Option.some FieldType.long) :: zw_tbl
theorem hd_SS_carries : y_SS_carries.cls = R_SS ∧ y_SS_carries.cls ≠ "java/lang/invoke/MethodHandle" ∧ y_SS_carries.cls ≠ "java/lang/invoke/VarHandle" ∧ (parseMethodDescriptor y_SS_carries.desc).map (fun d => d.parameters.length) = some 2 := by decide +kernel
abbrev b_SS_survey : ByteArray := prog_1_method_16_code
abbrev ws_SS_survey : List Cond := .code y_SS_survey b_SS_survey 6 (Option.some FieldType.long) :: zw_tbl
theorem hd_SS_survey : y_SS_survey.cls = R_SS ∧ y_SS_survey.cls ≠ "java/lang/invoke/MethodHandle" ∧ y_SS_survey.cls ≠ "java/lang/invoke/VarHandle" ∧ (parseMethodDescriptor y_SS_survey.desc).map (fun d => d.parameters.length) = some 3 := by decide +kernel
abbrev b_SS_most : ByteArray := prog_1_method_17_code
abbrev ws_SS_most : List Cond := .code y_SS_most b_SS_most 2 (Option.some FieldType.boolean) :: zw_tbl
theorem hd_SS_most : y_SS_most.cls = R_SS ∧ y_SS_most.cls ≠ "java/lang/invoke/MethodHandle" ∧ y_SS_most.cls ≠ "java/lang/invoke/VarHandle" ∧ (parseMethodDescriptor y_SS_most.desc).map (fun d => d.parameters.length) = some 1 := by decide +kernel
abbrev b_SS_rule : ByteArray := prog_1_method_18_code
abbrev ws_SS_rule : List Cond := .code y_SS_rule b_SS_rule 5 (Option.some FieldType.long) :: zw_tbl
theorem hd_SS_rule : y_SS_rule.cls = R_SS ∧ y_SS_rule.cls ≠ "java/lang/invoke/MethodHandle" ∧ y_SS_rule.cls ≠ "java/lang/invoke/VarHandle" ∧ (parseMethodDescriptor y_SS_rule.desc).map (fun d => d.parameters.length) = some 4 := by decide +kernel
abbrev b_SS_broken : ByteArray := prog_1_method_19_code
abbrev ws_SS_broken : List Cond := .code y_SS_broken b_SS_broken 4 (Option.some FieldType.long) :: zw_tbl
theorem hd_SS_broken : y_SS_broken.cls = R_SS ∧ y_SS_broken.cls ≠ "java/lang/invoke/MethodHandle" ∧ y_SS_broken.cls ≠ "java/lang/invoke/VarHandle" ∧ (parseMethodDescriptor y_SS_broken.desc).map (fun d => d.parameters.length) = some 1 := by decide +kernel
abbrev b_SS_shift : ByteArray := prog_1_method_20_code
abbrev ws_SS_shift : List Cond := .code y_SS_shift b_SS_shift 3 (Option.some FieldType.boolean) :: zw_tbl
theorem hd_SS_shift : y_SS_shift.cls = R_SS ∧ y_SS_shift.cls ≠ "java/lang/invoke/MethodHandle" ∧ y_SS_shift.cls ≠ "java/lang/invoke/VarHandle" ∧ (parseMethodDescriptor y_SS_shift.desc).map (fun d => d.parameters.length) = some 2 := by decide +kernel
abbrev b_SS_redo : ByteArray := prog_1_method_21_code
abbrev ws_SS_redo : List Cond := .code y_SS_redo b_SS_redo 3 (Option.some FieldType.long) :: zw_tbl
theorem hd_SS_redo : y_SS_redo.cls = R_SS ∧ y_SS_redo.cls ≠ "java/lang/invoke/MethodHandle" ∧ y_SS_redo.cls ≠ "java/lang/invoke/VarHandle" ∧ (parseMethodDescriptor y_SS_redo.desc).map (fun d => d.parameters.length) = some 1 := by decide +kernel
abbrev b_SS_best : ByteArray := prog_1_method_22_code
abbrev ws_SS_best : List Cond := .code y_SS_best b_SS_best 1 (Option.some FieldType.long) :: zw_tbl
theorem hd_SS_best : y_SS_best.cls = R_SS ∧ y_SS_best.cls ≠ "java/lang/invoke/MethodHandle" ∧ y_SS_best.cls ≠ "java/lang/invoke/VarHandle" ∧ (parseMethodDescriptor y_SS_best.desc).map (fun d => d.parameters.length) = some 0 := by decide +kernel
abbrev b_SS_order : ByteArray := prog_1_method_23_code
abbrev ws_SS_order : List Cond := .code y_SS_order b_SS_order 2 (Option.some FieldType.long) :: zw_tbl
theorem hd_SS_order : y_SS_order.cls = R_SS ∧ y_SS_order.cls ≠ "java/lang/invoke/MethodHandle" ∧ y_SS_order.cls ≠ "java/lang/invoke/VarHandle" ∧ (parseMethodDescriptor y_SS_order.desc).map (fun d => d.parameters.length) = some 1 := by decide +kernel
abbrev b_SS_told : ByteArray := prog_1_method_24_code
abbrev ws_SS_told : List Cond := .code y_SS_told b_SS_told 2 (Option.some FieldType.long) :: zw_tbl
theorem hd_SS_told : y_SS_told.cls = R_SS ∧ y_SS_told.cls ≠ "java/lang/invoke/MethodHandle" ∧ y_SS_told.cls ≠ "java/lang/invoke/VarHandle" ∧ (parseMethodDescriptor y_SS_told.desc).map (fun d => d.parameters.length) = some 1 := by decide +kernel
abbrev b_SS_check : ByteArray := prog_1_method_25_code
abbrev ws_SS_check : List Cond := .code y_SS_check b_SS_check 4 (Option.some FieldType.int) :: zw_tbl
theorem hd_SS_check : y_SS_check.cls = R_SS ∧ y_SS_check.cls ≠ "java/lang/invoke/MethodHandle" ∧ y_SS_check.cls ≠ "java/lang/invoke/VarHandle" ∧ (parseMethodDescriptor y_SS_check.desc).map (fun d => d.parameters.length) = some 0 := by decide +kernel
abbrev b_SS_within : ByteArray := prog_1_method_26_code
abbrev ws_SS_within : List Cond := .code y_SS_within b_SS_within 3 (Option.some FieldType.boolean) :: zw_tbl
theorem hd_SS_within : y_SS_within.cls = R_SS ∧ y_SS_within.cls ≠ "java/lang/invoke/MethodHandle" ∧ y_SS_within.cls ≠ "java/lang/invoke/VarHandle" ∧ (parseMethodDescriptor y_SS_within.desc).map (fun d => d.parameters.length) = some 3 := by decide +kernel
abbrev b_SS_isFactor : ByteArray := prog_1_method_27_code
abbrev ws_SS_isFactor : List Cond := .code y_SS_isFactor b_SS_isFactor 1 (Option.some FieldType.boolean) :: zw_tbl
theorem hd_SS_isFactor : y_SS_isFactor.cls = R_SS ∧ y_SS_isFactor.cls ≠ "java/lang/invoke/MethodHandle" ∧ y_SS_isFactor.cls ≠ "java/lang/invoke/VarHandle" ∧ (parseMethodDescriptor y_SS_isFactor.desc).map (fun d => d.parameters.length) = some 1 := by decide +kernel
abbrev b_SS_isSupport : ByteArray := prog_1_method_28_code
abbrev ws_SS_isSupport : List Cond := .code y_SS_isSupport b_SS_isSupport 1 (Option.some FieldType.boolean) :: zw_tbl
theorem hd_SS_isSupport : y_SS_isSupport.cls = R_SS ∧ y_SS_isSupport.cls ≠ "java/lang/invoke/MethodHandle" ∧ y_SS_isSupport.cls ≠ "java/lang/invoke/VarHandle" ∧ (parseMethodDescriptor y_SS_isSupport.desc).map (fun d => d.parameters.length) = some 1 := by decide +kernel
abbrev b_SS_hasBit : ByteArray := prog_1_method_29_code
abbrev ws_SS_hasBit : List Cond := .code y_SS_hasBit b_SS_hasBit 2 (Option.some FieldType.boolean) :: zw_tbl
theorem hd_SS_hasBit : y_SS_hasBit.cls = R_SS ∧ y_SS_hasBit.cls ≠ "java/lang/invoke/MethodHandle" ∧ y_SS_hasBit.cls ≠ "java/lang/invoke/VarHandle" ∧ (parseMethodDescriptor y_SS_hasBit.desc).map (fun d => d.parameters.length) = some 2 := by decide +kernel
abbrev b_SS_isThere : ByteArray := prog_1_method_30_code
abbrev ws_SS_isThere : List Cond := .code y_SS_isThere b_SS_isThere 4 (Option.some FieldType.boolean) :: zw_tbl
theorem hd_SS_isThere : y_SS_isThere.cls = R_SS ∧ y_SS_isThere.cls ≠ "java/lang/invoke/MethodHandle" ∧ y_SS_isThere.cls ≠ "java/lang/invoke/VarHandle" ∧ (parseMethodDescriptor y_SS_isThere.desc).map (fun d => d.parameters.length) = some 2 := by decide +kernel
abbrev b_SS_isRuled : ByteArray := prog_1_method_31_code
abbrev ws_SS_isRuled : List Cond := .code y_SS_isRuled b_SS_isRuled 3 (Option.some FieldType.boolean) :: zw_tbl
theorem hd_SS_isRuled : y_SS_isRuled.cls = R_SS ∧ y_SS_isRuled.cls ≠ "java/lang/invoke/MethodHandle" ∧ y_SS_isRuled.cls ≠ "java/lang/invoke/VarHandle" ∧ (parseMethodDescriptor y_SS_isRuled.desc).map (fun d => d.parameters.length) = some 2 := by decide +kernel
abbrev b_SS_castAll : ByteArray := prog_1_method_32_code
abbrev ws_SS_castAll : List Cond := .code y_SS_castAll b_SS_castAll 2 (Option.none : Option FieldType) :: zw_tbl
theorem hd_SS_castAll : y_SS_castAll.cls = R_SS ∧ y_SS_castAll.cls ≠ "java/lang/invoke/MethodHandle" ∧ y_SS_castAll.cls ≠ "java/lang/invoke/VarHandle" ∧ (parseMethodDescriptor y_SS_castAll.desc).map (fun d => d.parameters.length) = some 0 := by decide +kernel
abbrev b_SS_walkTo : ByteArray := prog_1_method_33_code
abbrev ws_SS_walkTo : List Cond := .code y_SS_walkTo b_SS_walkTo 2 (Option.none : Option FieldType) :: zw_tbl
theorem hd_SS_walkTo : y_SS_walkTo.cls = R_SS ∧ y_SS_walkTo.cls ≠ "java/lang/invoke/MethodHandle" ∧ y_SS_walkTo.cls ≠ "java/lang/invoke/VarHandle" ∧ (parseMethodDescriptor y_SS_walkTo.desc).map (fun d => d.parameters.length) = some 1 := by decide +kernel
abbrev b_SS_levelThen : ByteArray := prog_1_method_34_code
abbrev ws_SS_levelThen : List Cond := .code y_SS_levelThen b_SS_levelThen 3 (Option.some FieldType.long) :: zw_tbl
theorem hd_SS_levelThen : y_SS_levelThen.cls = R_SS ∧ y_SS_levelThen.cls ≠ "java/lang/invoke/MethodHandle" ∧ y_SS_levelThen.cls ≠ "java/lang/invoke/VarHandle" ∧ (parseMethodDescriptor y_SS_levelThen.desc).map (fun d => d.parameters.length) = some 2 := by decide +kernel
abbrev b_SS_heightNow : ByteArray := prog_1_method_35_code
abbrev ws_SS_heightNow : List Cond := .code y_SS_heightNow b_SS_heightNow 2 (Option.some FieldType.long) :: zw_tbl
theorem hd_SS_heightNow : y_SS_heightNow.cls = R_SS ∧ y_SS_heightNow.cls ≠ "java/lang/invoke/MethodHandle" ∧ y_SS_heightNow.cls ≠ "java/lang/invoke/VarHandle" ∧ (parseMethodDescriptor y_SS_heightNow.desc).map (fun d => d.parameters.length) = some 1 := by decide +kernel
abbrev b_SS_spread : ByteArray := prog_1_method_36_code
abbrev ws_SS_spread : List Cond := .code y_SS_spread b_SS_spread 7 (Option.none : Option FieldType) :: zw_tbl
theorem hd_SS_spread : y_SS_spread.cls = R_SS ∧ y_SS_spread.cls ≠ "java/lang/invoke/MethodHandle" ∧ y_SS_spread.cls ≠ "java/lang/invoke/VarHandle" ∧ (parseMethodDescriptor y_SS_spread.desc).map (fun d => d.parameters.length) = some 2 := by decide +kernel
abbrev b_SS_towardsZero : ByteArray := prog_1_method_37_code
abbrev ws_SS_towardsZero : List Cond := .code y_SS_towardsZero b_SS_towardsZero 4 (Option.some FieldType.long) :: zw_tbl
theorem hd_SS_towardsZero : y_SS_towardsZero.cls = R_SS ∧ y_SS_towardsZero.cls ≠ "java/lang/invoke/MethodHandle" ∧ y_SS_towardsZero.cls ≠ "java/lang/invoke/VarHandle" ∧ (parseMethodDescriptor y_SS_towardsZero.desc).map (fun d => d.parameters.length) = some 2 := by decide +kernel
abbrev b_SS_firstBroken : ByteArray := prog_1_method_38_code
abbrev ws_SS_firstBroken : List Cond := .code y_SS_firstBroken b_SS_firstBroken 3 (Option.some FieldType.int) :: zw_tbl
theorem hd_SS_firstBroken : y_SS_firstBroken.cls = R_SS ∧ y_SS_firstBroken.cls ≠ "java/lang/invoke/MethodHandle" ∧ y_SS_firstBroken.cls ≠ "java/lang/invoke/VarHandle" ∧ (parseMethodDescriptor y_SS_firstBroken.desc).map (fun d => d.parameters.length) = some 1 := by decide +kernel
abbrev b_SS_isBroken : ByteArray := prog_1_method_39_code
abbrev ws_SS_isBroken : List Cond := .code y_SS_isBroken b_SS_isBroken 4 (Option.some FieldType.boolean) :: zw_tbl
theorem hd_SS_isBroken : y_SS_isBroken.cls = R_SS ∧ y_SS_isBroken.cls ≠ "java/lang/invoke/MethodHandle" ∧ y_SS_isBroken.cls ≠ "java/lang/invoke/VarHandle" ∧ (parseMethodDescriptor y_SS_isBroken.desc).map (fun d => d.parameters.length) = some 2 := by decide +kernel
abbrev b_Mo_init : ByteArray := prog_9_method_1_code
abbrev ws_Mo_init : List Cond := .code y_Mo_init b_Mo_init 2 (Option.none : Option FieldType) :: zw_tbl
theorem hd_Mo_init : y_Mo_init.cls = R_Mo ∧ y_Mo_init.cls ≠ "java/lang/invoke/MethodHandle" ∧ y_Mo_init.cls ≠ "java/lang/invoke/VarHandle" ∧ (parseMethodDescriptor y_Mo_init.desc).map (fun d => d.parameters.length) = some 1 := by decide +kernel
abbrev b_Mo_in : ByteArray := prog_9_method_2_code
abbrev ws_Mo_in : List Cond := .code y_Mo_in b_Mo_in 6 (Option.some FieldType.boolean) :: zw_tbl
theorem hd_Mo_in : y_Mo_in.cls = R_Mo ∧ y_Mo_in.cls ≠ "java/lang/invoke/MethodHandle" ∧ y_Mo_in.cls ≠ "java/lang/invoke/VarHandle" ∧ (parseMethodDescriptor y_Mo_in.desc).map (fun d => d.parameters.length) = some 3 := by decide +kernel
abbrev b_Mo_isPart : ByteArray := prog_9_method_3_code
abbrev ws_Mo_isPart : List Cond := .code y_Mo_isPart b_Mo_isPart 2 (Option.some FieldType.boolean) :: zw_tbl
theorem hd_Mo_isPart : y_Mo_isPart.cls = R_Mo ∧ y_Mo_isPart.cls ≠ "java/lang/invoke/MethodHandle" ∧ y_Mo_isPart.cls ≠ "java/lang/invoke/VarHandle" ∧ (parseMethodDescriptor y_Mo_isPart.desc).map (fun d => d.parameters.length) = some 1 := by decide +kernel
abbrev b_Mo_isStage : ByteArray := prog_9_method_4_code
abbrev ws_Mo_isStage : List Cond := .code y_Mo_isStage b_Mo_isStage 2 (Option.some FieldType.boolean) :: zw_tbl
theorem hd_Mo_isStage : y_Mo_isStage.cls = R_Mo ∧ y_Mo_isStage.cls ≠ "java/lang/invoke/MethodHandle" ∧ y_Mo_isStage.cls ≠ "java/lang/invoke/VarHandle" ∧ (parseMethodDescriptor y_Mo_isStage.desc).map (fun d => d.parameters.length) = some 1 := by decide +kernel
abbrev b_Mo_part : ByteArray := prog_9_method_5_code
abbrev ws_Mo_part : List Cond := .code y_Mo_part b_Mo_part 4 (Option.some FieldType.boolean) :: zw_tbl
theorem hd_Mo_part : y_Mo_part.cls = R_Mo ∧ y_Mo_part.cls ≠ "java/lang/invoke/MethodHandle" ∧ y_Mo_part.cls ≠ "java/lang/invoke/VarHandle" ∧ (parseMethodDescriptor y_Mo_part.desc).map (fun d => d.parameters.length) = some 3 := by decide +kernel
abbrev b_Mo_flex : ByteArray := prog_9_method_6_code
abbrev ws_Mo_flex : List Cond := .code y_Mo_flex b_Mo_flex 5 (Option.some FieldType.boolean) :: zw_tbl
theorem hd_Mo_flex : y_Mo_flex.cls = R_Mo ∧ y_Mo_flex.cls ≠ "java/lang/invoke/MethodHandle" ∧ y_Mo_flex.cls ≠ "java/lang/invoke/VarHandle" ∧ (parseMethodDescriptor y_Mo_flex.desc).map (fun d => d.parameters.length) = some 4 := by decide +kernel
abbrev b_Mo_share : ByteArray := prog_9_method_7_code
abbrev ws_Mo_share : List Cond := .code y_Mo_share b_Mo_share 4 (Option.some FieldType.boolean) :: zw_tbl
theorem hd_Mo_share : y_Mo_share.cls = R_Mo ∧ y_Mo_share.cls ≠ "java/lang/invoke/MethodHandle" ∧ y_Mo_share.cls ≠ "java/lang/invoke/VarHandle" ∧ (parseMethodDescriptor y_Mo_share.desc).map (fun d => d.parameters.length) = some 3 := by decide +kernel
abbrev b_Mo_release : ByteArray := prog_9_method_8_code
abbrev ws_Mo_release : List Cond := .code y_Mo_release b_Mo_release 4 (Option.some FieldType.boolean) :: zw_tbl
theorem hd_Mo_release : y_Mo_release.cls = R_Mo ∧ y_Mo_release.cls ≠ "java/lang/invoke/MethodHandle" ∧ y_Mo_release.cls ≠ "java/lang/invoke/VarHandle" ∧ (parseMethodDescriptor y_Mo_release.desc).map (fun d => d.parameters.length) = some 3 := by decide +kernel
abbrev b_Mo_creep : ByteArray := prog_9_method_9_code
abbrev ws_Mo_creep : List Cond := .code y_Mo_creep b_Mo_creep 4 (Option.some FieldType.boolean) :: zw_tbl
theorem hd_Mo_creep : y_Mo_creep.cls = R_Mo ∧ y_Mo_creep.cls ≠ "java/lang/invoke/MethodHandle" ∧ y_Mo_creep.cls ≠ "java/lang/invoke/VarHandle" ∧ (parseMethodDescriptor y_Mo_creep.desc).map (fun d => d.parameters.length) = some 2 := by decide +kernel
abbrev b_Mo_comesAfter : ByteArray := prog_9_method_10_code
abbrev ws_Mo_comesAfter : List Cond := .code y_Mo_comesAfter b_Mo_comesAfter 5 (Option.some FieldType.boolean) :: zw_tbl
theorem hd_Mo_comesAfter : y_Mo_comesAfter.cls = R_Mo ∧ y_Mo_comesAfter.cls ≠ "java/lang/invoke/MethodHandle" ∧ y_Mo_comesAfter.cls ≠ "java/lang/invoke/VarHandle" ∧ (parseMethodDescriptor y_Mo_comesAfter.desc).map (fun d => d.parameters.length) = some 2 := by decide +kernel
abbrev b_Mo_actOf : ByteArray := prog_9_method_11_code
abbrev ws_Mo_actOf : List Cond := .code y_Mo_actOf b_Mo_actOf 4 (Option.some FieldType.int) :: zw_tbl
theorem hd_Mo_actOf : y_Mo_actOf.cls = R_Mo ∧ y_Mo_actOf.cls ≠ "java/lang/invoke/MethodHandle" ∧ y_Mo_actOf.cls ≠ "java/lang/invoke/VarHandle" ∧ (parseMethodDescriptor y_Mo_actOf.desc).map (fun d => d.parameters.length) = some 1 := by decide +kernel
abbrev b_Mo_after : ByteArray := prog_9_method_12_code
abbrev ws_Mo_after : List Cond := .code y_Mo_after b_Mo_after 5 (Option.some FieldType.boolean) :: zw_tbl
theorem hd_Mo_after : y_Mo_after.cls = R_Mo ∧ y_Mo_after.cls ≠ "java/lang/invoke/MethodHandle" ∧ y_Mo_after.cls ≠ "java/lang/invoke/VarHandle" ∧ (parseMethodDescriptor y_Mo_after.desc).map (fun d => d.parameters.length) = some 2 := by decide +kernel
abbrev b_Mo_lastDay : ByteArray := prog_9_method_13_code
abbrev ws_Mo_lastDay : List Cond := .code y_Mo_lastDay b_Mo_lastDay 1 (Option.some FieldType.int) :: zw_tbl
theorem hd_Mo_lastDay : y_Mo_lastDay.cls = R_Mo ∧ y_Mo_lastDay.cls ≠ "java/lang/invoke/MethodHandle" ∧ y_Mo_lastDay.cls ≠ "java/lang/invoke/VarHandle" ∧ (parseMethodDescriptor y_Mo_lastDay.desc).map (fun d => d.parameters.length) = some 0 := by decide +kernel
abbrev b_Mo_lookAtEnd : ByteArray := prog_9_method_14_code
abbrev ws_Mo_lookAtEnd : List Cond := .code y_Mo_lookAtEnd b_Mo_lookAtEnd 1 (Option.none : Option FieldType) :: zw_tbl
theorem hd_Mo_lookAtEnd : y_Mo_lookAtEnd.cls = R_Mo ∧ y_Mo_lookAtEnd.cls ≠ "java/lang/invoke/MethodHandle" ∧ y_Mo_lookAtEnd.cls ≠ "java/lang/invoke/VarHandle" ∧ (parseMethodDescriptor y_Mo_lookAtEnd.desc).map (fun d => d.parameters.length) = some 0 := by decide +kernel
abbrev b_Mo_endDay : ByteArray := prog_9_method_15_code
abbrev ws_Mo_endDay : List Cond := .code y_Mo_endDay b_Mo_endDay 1 (Option.some FieldType.int) :: zw_tbl
theorem hd_Mo_endDay : y_Mo_endDay.cls = R_Mo ∧ y_Mo_endDay.cls ≠ "java/lang/invoke/MethodHandle" ∧ y_Mo_endDay.cls ≠ "java/lang/invoke/VarHandle" ∧ (parseMethodDescriptor y_Mo_endDay.desc).map (fun d => d.parameters.length) = some 0 := by decide +kernel
abbrev b_Mo_stage : ByteArray := prog_9_method_16_code
abbrev ws_Mo_stage : List Cond := .code y_Mo_stage b_Mo_stage 2 (Option.some FieldType.long) :: zw_tbl
theorem hd_Mo_stage : y_Mo_stage.cls = R_Mo ∧ y_Mo_stage.cls ≠ "java/lang/invoke/MethodHandle" ∧ y_Mo_stage.cls ≠ "java/lang/invoke/VarHandle" ∧ (parseMethodDescriptor y_Mo_stage.desc).map (fun d => d.parameters.length) = some 1 := by decide +kernel
abbrev b_Mo_put : ByteArray := prog_9_method_17_code
abbrev ws_Mo_put : List Cond := .code y_Mo_put b_Mo_put 4 (Option.none : Option FieldType) :: zw_tbl
theorem hd_Mo_put : y_Mo_put.cls = R_Mo ∧ y_Mo_put.cls ≠ "java/lang/invoke/MethodHandle" ∧ y_Mo_put.cls ≠ "java/lang/invoke/VarHandle" ∧ (parseMethodDescriptor y_Mo_put.desc).map (fun d => d.parameters.length) = some 3 := by decide +kernel
abbrev b_Mo_mayPut : ByteArray := prog_9_method_18_code
abbrev ws_Mo_mayPut : List Cond := .code y_Mo_mayPut b_Mo_mayPut 1 (Option.some FieldType.boolean) :: zw_tbl
theorem hd_Mo_mayPut : y_Mo_mayPut.cls = R_Mo ∧ y_Mo_mayPut.cls ≠ "java/lang/invoke/MethodHandle" ∧ y_Mo_mayPut.cls ≠ "java/lang/invoke/VarHandle" ∧ (parseMethodDescriptor y_Mo_mayPut.desc).map (fun d => d.parameters.length) = some 0 := by decide +kernel
abbrev b_Mo_add : ByteArray := prog_9_method_19_code
abbrev ws_Mo_add : List Cond := .code y_Mo_add b_Mo_add 3 (Option.some FieldType.boolean) :: zw_tbl
theorem hd_Mo_add : y_Mo_add.cls = R_Mo ∧ y_Mo_add.cls ≠ "java/lang/invoke/MethodHandle" ∧ y_Mo_add.cls ≠ "java/lang/invoke/VarHandle" ∧ (parseMethodDescriptor y_Mo_add.desc).map (fun d => d.parameters.length) = some 1 := by decide +kernel
abbrev b_Mo_load : ByteArray := prog_9_method_20_code
abbrev ws_Mo_load : List Cond := .code y_Mo_load b_Mo_load 3 (Option.some FieldType.boolean) :: zw_tbl
theorem hd_Mo_load : y_Mo_load.cls = R_Mo ∧ y_Mo_load.cls ≠ "java/lang/invoke/MethodHandle" ∧ y_Mo_load.cls ≠ "java/lang/invoke/VarHandle" ∧ (parseMethodDescriptor y_Mo_load.desc).map (fun d => d.parameters.length) = some 2 := by decide +kernel
abbrev b_Mo_isOn : ByteArray := prog_9_method_21_code
abbrev ws_Mo_isOn : List Cond := .code y_Mo_isOn b_Mo_isOn 4 (Option.some FieldType.boolean) :: zw_tbl
theorem hd_Mo_isOn : y_Mo_isOn.cls = R_Mo ∧ y_Mo_isOn.cls ≠ "java/lang/invoke/MethodHandle" ∧ y_Mo_isOn.cls ≠ "java/lang/invoke/VarHandle" ∧ (parseMethodDescriptor y_Mo_isOn.desc).map (fun d => d.parameters.length) = some 1 := by decide +kernel
abbrev b_Mo_support : ByteArray := prog_9_method_22_code
abbrev ws_Mo_support : List Cond := .code y_Mo_support b_Mo_support 3 (Option.some FieldType.boolean) :: zw_tbl
theorem hd_Mo_support : y_Mo_support.cls = R_Mo ∧ y_Mo_support.cls ≠ "java/lang/invoke/MethodHandle" ∧ y_Mo_support.cls ≠ "java/lang/invoke/VarHandle" ∧ (parseMethodDescriptor y_Mo_support.desc).map (fun d => d.parameters.length) = some 2 := by decide +kernel
abbrev b_Mo_end : ByteArray := prog_9_method_23_code
abbrev ws_Mo_end : List Cond := .code y_Mo_end b_Mo_end 2 (Option.some FieldType.boolean) :: zw_tbl
theorem hd_Mo_end : y_Mo_end.cls = R_Mo ∧ y_Mo_end.cls ≠ "java/lang/invoke/MethodHandle" ∧ y_Mo_end.cls ≠ "java/lang/invoke/VarHandle" ∧ (parseMethodDescriptor y_Mo_end.desc).map (fun d => d.parameters.length) = some 1 := by decide +kernel
abbrev b_Mo_creepAt : ByteArray := prog_9_method_24_code
abbrev ws_Mo_creepAt : List Cond := .code y_Mo_creepAt b_Mo_creepAt 4 (Option.some FieldType.int) :: zw_tbl
theorem hd_Mo_creepAt : y_Mo_creepAt.cls = R_Mo ∧ y_Mo_creepAt.cls ≠ "java/lang/invoke/MethodHandle" ∧ y_Mo_creepAt.cls ≠ "java/lang/invoke/VarHandle" ∧ (parseMethodDescriptor y_Mo_creepAt.desc).map (fun d => d.parameters.length) = some 1 := by decide +kernel
abbrev b_Mo_takePlan : ByteArray := prog_9_method_25_code
abbrev ws_Mo_takePlan : List Cond := .code y_Mo_takePlan b_Mo_takePlan 2 (Option.none : Option FieldType) :: zw_tbl
theorem hd_Mo_takePlan : y_Mo_takePlan.cls = R_Mo ∧ y_Mo_takePlan.cls ≠ "java/lang/invoke/MethodHandle" ∧ y_Mo_takePlan.cls ≠ "java/lang/invoke/VarHandle" ∧ (parseMethodDescriptor y_Mo_takePlan.desc).map (fun d => d.parameters.length) = some 0 := by decide +kernel
abbrev b_Mo_loadOn : ByteArray := prog_9_method_26_code
abbrev ws_Mo_loadOn : List Cond := .code y_Mo_loadOn b_Mo_loadOn 7 (Option.none : Option FieldType) :: zw_tbl
theorem hd_Mo_loadOn : y_Mo_loadOn.cls = R_Mo ∧ y_Mo_loadOn.cls ≠ "java/lang/invoke/MethodHandle" ∧ y_Mo_loadOn.cls ≠ "java/lang/invoke/VarHandle" ∧ (parseMethodDescriptor y_Mo_loadOn.desc).map (fun d => d.parameters.length) = some 3 := by decide +kernel
abbrev b_Mo_pass : ByteArray := prog_9_method_27_code
abbrev ws_Mo_pass : List Cond := .code y_Mo_pass b_Mo_pass 5 (Option.none : Option FieldType) :: zw_tbl
theorem hd_Mo_pass : y_Mo_pass.cls = R_Mo ∧ y_Mo_pass.cls ≠ "java/lang/invoke/MethodHandle" ∧ y_Mo_pass.cls ≠ "java/lang/invoke/VarHandle" ∧ (parseMethodDescriptor y_Mo_pass.desc).map (fun d => d.parameters.length) = some 0 := by decide +kernel
abbrev b_Mo_dayOf : ByteArray := prog_9_method_28_code
abbrev ws_Mo_dayOf : List Cond := .code y_Mo_dayOf b_Mo_dayOf 2 (Option.some FieldType.int) :: zw_tbl
theorem hd_Mo_dayOf : y_Mo_dayOf.cls = R_Mo ∧ y_Mo_dayOf.cls ≠ "java/lang/invoke/MethodHandle" ∧ y_Mo_dayOf.cls ≠ "java/lang/invoke/VarHandle" ∧ (parseMethodDescriptor y_Mo_dayOf.desc).map (fun d => d.parameters.length) = some 1 := by decide +kernel
abbrev b_Mo_rise : ByteArray := prog_9_method_29_code
abbrev ws_Mo_rise : List Cond := .code y_Mo_rise b_Mo_rise 11 (Option.some FieldType.long) :: zw_tbl
theorem hd_Mo_rise : y_Mo_rise.cls = R_Mo ∧ y_Mo_rise.cls ≠ "java/lang/invoke/MethodHandle" ∧ y_Mo_rise.cls ≠ "java/lang/invoke/VarHandle" ∧ (parseMethodDescriptor y_Mo_rise.desc).map (fun d => d.parameters.length) = some 3 := by decide +kernel
abbrev b_Mo_camber : ByteArray := prog_9_method_30_code
abbrev ws_Mo_camber : List Cond := .code y_Mo_camber b_Mo_camber 2 (Option.some FieldType.long) :: zw_tbl
theorem hd_Mo_camber : y_Mo_camber.cls = R_Mo ∧ y_Mo_camber.cls ≠ "java/lang/invoke/MethodHandle" ∧ y_Mo_camber.cls ≠ "java/lang/invoke/VarHandle" ∧ (parseMethodDescriptor y_Mo_camber.desc).map (fun d => d.parameters.length) = some 1 := by decide +kernel
abbrev b_Mo_cast : ByteArray := prog_9_method_31_code
abbrev ws_Mo_cast : List Cond := .code y_Mo_cast b_Mo_cast 2 (Option.some FieldType.long) :: zw_tbl
theorem hd_Mo_cast : y_Mo_cast.cls = R_Mo ∧ y_Mo_cast.cls ≠ "java/lang/invoke/MethodHandle" ∧ y_Mo_cast.cls ≠ "java/lang/invoke/VarHandle" ∧ (parseMethodDescriptor y_Mo_cast.desc).map (fun d => d.parameters.length) = some 1 := by decide +kernel
abbrev b_Mo_passPlan : ByteArray := prog_9_method_32_code
abbrev ws_Mo_passPlan : List Cond := .code y_Mo_passPlan b_Mo_passPlan 1 (Option.none : Option FieldType) :: zw_tbl
theorem hd_Mo_passPlan : y_Mo_passPlan.cls = R_Mo ∧ y_Mo_passPlan.cls ≠ "java/lang/invoke/MethodHandle" ∧ y_Mo_passPlan.cls ≠ "java/lang/invoke/VarHandle" ∧ (parseMethodDescriptor y_Mo_passPlan.desc).map (fun d => d.parameters.length) = some 0 := by decide +kernel
abbrev b_Mo_isThere : ByteArray := prog_9_method_33_code
abbrev ws_Mo_isThere : List Cond := .code y_Mo_isThere b_Mo_isThere 3 (Option.some FieldType.boolean) :: zw_tbl
theorem hd_Mo_isThere : y_Mo_isThere.cls = R_Mo ∧ y_Mo_isThere.cls ≠ "java/lang/invoke/MethodHandle" ∧ y_Mo_isThere.cls ≠ "java/lang/invoke/VarHandle" ∧ (parseMethodDescriptor y_Mo_isThere.desc).map (fun d => d.parameters.length) = some 2 := by decide +kernel
abbrev b_Mo_levelAt : ByteArray := prog_9_method_34_code
abbrev ws_Mo_levelAt : List Cond := .code y_Mo_levelAt b_Mo_levelAt 3 (Option.some FieldType.long) :: zw_tbl
theorem hd_Mo_levelAt : y_Mo_levelAt.cls = R_Mo ∧ y_Mo_levelAt.cls ≠ "java/lang/invoke/MethodHandle" ∧ y_Mo_levelAt.cls ≠ "java/lang/invoke/VarHandle" ∧ (parseMethodDescriptor y_Mo_levelAt.desc).map (fun d => d.parameters.length) = some 2 := by decide +kernel
abbrev b_Mo_level : ByteArray := prog_9_method_35_code
abbrev ws_Mo_level : List Cond := .code y_Mo_level b_Mo_level 3 (Option.some FieldType.long) :: zw_tbl
theorem hd_Mo_level : y_Mo_level.cls = R_Mo ∧ y_Mo_level.cls ≠ "java/lang/invoke/MethodHandle" ∧ y_Mo_level.cls ≠ "java/lang/invoke/VarHandle" ∧ (parseMethodDescriptor y_Mo_level.desc).map (fun d => d.parameters.length) = some 2 := by decide +kernel
abbrev b_Mo_of : ByteArray := prog_9_method_36_code
abbrev ws_Mo_of : List Cond := .code y_Mo_of b_Mo_of 3 (Option.some FieldType.long) :: zw_tbl
theorem hd_Mo_of : y_Mo_of.cls = R_Mo ∧ y_Mo_of.cls ≠ "java/lang/invoke/MethodHandle" ∧ y_Mo_of.cls ≠ "java/lang/invoke/VarHandle" ∧ (parseMethodDescriptor y_Mo_of.desc).map (fun d => d.parameters.length) = some 2 := by decide +kernel
abbrev b_Mo_carriedAt : ByteArray := prog_9_method_37_code
abbrev ws_Mo_carriedAt : List Cond := .code y_Mo_carriedAt b_Mo_carriedAt 6 (Option.some FieldType.long) :: zw_tbl
theorem hd_Mo_carriedAt : y_Mo_carriedAt.cls = R_Mo ∧ y_Mo_carriedAt.cls ≠ "java/lang/invoke/MethodHandle" ∧ y_Mo_carriedAt.cls ≠ "java/lang/invoke/VarHandle" ∧ (parseMethodDescriptor y_Mo_carriedAt.desc).map (fun d => d.parameters.length) = some 2 := by decide +kernel
abbrev b_Mo_carries : ByteArray := prog_9_method_38_code
abbrev ws_Mo_carries : List Cond := .code y_Mo_carries b_Mo_carries 3 (Option.some FieldType.long) :: zw_tbl
theorem hd_Mo_carries : y_Mo_carries.cls = R_Mo ∧ y_Mo_carries.cls ≠ "java/lang/invoke/MethodHandle" ∧ y_Mo_carries.cls ≠ "java/lang/invoke/VarHandle" ∧ (parseMethodDescriptor y_Mo_carries.desc).map (fun d => d.parameters.length) = some 2 := by decide +kernel
abbrev b_Mo_survey : ByteArray := prog_9_method_39_code
abbrev ws_Mo_survey : List Cond := .code y_Mo_survey b_Mo_survey 9 (Option.some FieldType.long) :: zw_tbl
theorem hd_Mo_survey : y_Mo_survey.cls = R_Mo ∧ y_Mo_survey.cls ≠ "java/lang/invoke/MethodHandle" ∧ y_Mo_survey.cls ≠ "java/lang/invoke/VarHandle" ∧ (parseMethodDescriptor y_Mo_survey.desc).map (fun d => d.parameters.length) = some 3 := by decide +kernel
abbrev b_Mo_most : ByteArray := prog_9_method_40_code
abbrev ws_Mo_most : List Cond := .code y_Mo_most b_Mo_most 2 (Option.some FieldType.boolean) :: zw_tbl
theorem hd_Mo_most : y_Mo_most.cls = R_Mo ∧ y_Mo_most.cls ≠ "java/lang/invoke/MethodHandle" ∧ y_Mo_most.cls ≠ "java/lang/invoke/VarHandle" ∧ (parseMethodDescriptor y_Mo_most.desc).map (fun d => d.parameters.length) = some 1 := by decide +kernel
abbrev b_Mo_rule : ByteArray := prog_9_method_41_code
abbrev ws_Mo_rule : List Cond := .code y_Mo_rule b_Mo_rule 6 (Option.some FieldType.long) :: zw_tbl
theorem hd_Mo_rule : y_Mo_rule.cls = R_Mo ∧ y_Mo_rule.cls ≠ "java/lang/invoke/MethodHandle" ∧ y_Mo_rule.cls ≠ "java/lang/invoke/VarHandle" ∧ (parseMethodDescriptor y_Mo_rule.desc).map (fun d => d.parameters.length) = some 4 := by decide +kernel
abbrev b_Mo_holds : ByteArray := prog_9_method_42_code
abbrev ws_Mo_holds : List Cond := .code y_Mo_holds b_Mo_holds 6 (Option.some FieldType.boolean) :: zw_tbl
theorem hd_Mo_holds : y_Mo_holds.cls = R_Mo ∧ y_Mo_holds.cls ≠ "java/lang/invoke/MethodHandle" ∧ y_Mo_holds.cls ≠ "java/lang/invoke/VarHandle" ∧ (parseMethodDescriptor y_Mo_holds.desc).map (fun d => d.parameters.length) = some 2 := by decide +kernel
abbrev b_Mo_broken : ByteArray := prog_9_method_43_code
abbrev ws_Mo_broken : List Cond := .code y_Mo_broken b_Mo_broken 4 (Option.some FieldType.long) :: zw_tbl
theorem hd_Mo_broken : y_Mo_broken.cls = R_Mo ∧ y_Mo_broken.cls ≠ "java/lang/invoke/MethodHandle" ∧ y_Mo_broken.cls ≠ "java/lang/invoke/VarHandle" ∧ (parseMethodDescriptor y_Mo_broken.desc).map (fun d => d.parameters.length) = some 1 := by decide +kernel
abbrev b_Mo_shift : ByteArray := prog_9_method_44_code
abbrev ws_Mo_shift : List Cond := .code y_Mo_shift b_Mo_shift 8 (Option.some FieldType.boolean) :: zw_tbl
theorem hd_Mo_shift : y_Mo_shift.cls = R_Mo ∧ y_Mo_shift.cls ≠ "java/lang/invoke/MethodHandle" ∧ y_Mo_shift.cls ≠ "java/lang/invoke/VarHandle" ∧ (parseMethodDescriptor y_Mo_shift.desc).map (fun d => d.parameters.length) = some 2 := by decide +kernel
abbrev b_Mo_redo : ByteArray := prog_9_method_45_code
abbrev ws_Mo_redo : List Cond := .code y_Mo_redo b_Mo_redo 3 (Option.some FieldType.long) :: zw_tbl
theorem hd_Mo_redo : y_Mo_redo.cls = R_Mo ∧ y_Mo_redo.cls ≠ "java/lang/invoke/MethodHandle" ∧ y_Mo_redo.cls ≠ "java/lang/invoke/VarHandle" ∧ (parseMethodDescriptor y_Mo_redo.desc).map (fun d => d.parameters.length) = some 1 := by decide +kernel
abbrev b_Mo_isAllowed : ByteArray := prog_9_method_46_code
abbrev ws_Mo_isAllowed : List Cond := .code y_Mo_isAllowed b_Mo_isAllowed 5 (Option.some FieldType.boolean) :: zw_tbl
theorem hd_Mo_isAllowed : y_Mo_isAllowed.cls = R_Mo ∧ y_Mo_isAllowed.cls ≠ "java/lang/invoke/MethodHandle" ∧ y_Mo_isAllowed.cls ≠ "java/lang/invoke/VarHandle" ∧ (parseMethodDescriptor y_Mo_isAllowed.desc).map (fun d => d.parameters.length) = some 0 := by decide +kernel
abbrev b_Mo_nextRow : ByteArray := prog_9_method_47_code
abbrev ws_Mo_nextRow : List Cond := .code y_Mo_nextRow b_Mo_nextRow 6 (Option.some FieldType.boolean) :: zw_tbl
theorem hd_Mo_nextRow : y_Mo_nextRow.cls = R_Mo ∧ y_Mo_nextRow.cls ≠ "java/lang/invoke/MethodHandle" ∧ y_Mo_nextRow.cls ≠ "java/lang/invoke/VarHandle" ∧ (parseMethodDescriptor y_Mo_nextRow.desc).map (fun d => d.parameters.length) = some 0 := by decide +kernel
abbrev b_Mo_greatest : ByteArray := prog_9_method_48_code
abbrev ws_Mo_greatest : List Cond := .code y_Mo_greatest b_Mo_greatest 8 (Option.some FieldType.long) :: zw_tbl
theorem hd_Mo_greatest : y_Mo_greatest.cls = R_Mo ∧ y_Mo_greatest.cls ≠ "java/lang/invoke/MethodHandle" ∧ y_Mo_greatest.cls ≠ "java/lang/invoke/VarHandle" ∧ (parseMethodDescriptor y_Mo_greatest.desc).map (fun d => d.parameters.length) = some 0 := by decide +kernel
abbrev b_Mo_best : ByteArray := prog_9_method_49_code
abbrev ws_Mo_best : List Cond := .code y_Mo_best b_Mo_best 7 (Option.some FieldType.long) :: zw_tbl
theorem hd_Mo_best : y_Mo_best.cls = R_Mo ∧ y_Mo_best.cls ≠ "java/lang/invoke/MethodHandle" ∧ y_Mo_best.cls ≠ "java/lang/invoke/VarHandle" ∧ (parseMethodDescriptor y_Mo_best.desc).map (fun d => d.parameters.length) = some 0 := by decide +kernel
abbrev b_Mo_order : ByteArray := prog_9_method_50_code
abbrev ws_Mo_order : List Cond := .code y_Mo_order b_Mo_order 2 (Option.some FieldType.long) :: zw_tbl
theorem hd_Mo_order : y_Mo_order.cls = R_Mo ∧ y_Mo_order.cls ≠ "java/lang/invoke/MethodHandle" ∧ y_Mo_order.cls ≠ "java/lang/invoke/VarHandle" ∧ (parseMethodDescriptor y_Mo_order.desc).map (fun d => d.parameters.length) = some 1 := by decide +kernel
abbrev b_Mo_told : ByteArray := prog_9_method_51_code
abbrev ws_Mo_told : List Cond := .code y_Mo_told b_Mo_told 2 (Option.some FieldType.long) :: zw_tbl
theorem hd_Mo_told : y_Mo_told.cls = R_Mo ∧ y_Mo_told.cls ≠ "java/lang/invoke/MethodHandle" ∧ y_Mo_told.cls ≠ "java/lang/invoke/VarHandle" ∧ (parseMethodDescriptor y_Mo_told.desc).map (fun d => d.parameters.length) = some 1 := by decide +kernel
abbrev b_Mo_check : ByteArray := prog_9_method_52_code
abbrev ws_Mo_check : List Cond := .code y_Mo_check b_Mo_check 1 (Option.some FieldType.int) :: zw_tbl
theorem hd_Mo_check : y_Mo_check.cls = R_Mo ∧ y_Mo_check.cls ≠ "java/lang/invoke/MethodHandle" ∧ y_Mo_check.cls ≠ "java/lang/invoke/VarHandle" ∧ (parseMethodDescriptor y_Mo_check.desc).map (fun d => d.parameters.length) = some 0 := by decide +kernel
abbrev b_Cr_init : ByteArray := prog_2_method_1_code
abbrev ws_Cr_init : List Cond := .code y_Cr_init b_Cr_init 1 (Option.none : Option FieldType) :: zw_tbl
theorem hd_Cr_init : y_Cr_init.cls = R_Cr ∧ y_Cr_init.cls ≠ "java/lang/invoke/MethodHandle" ∧ y_Cr_init.cls ≠ "java/lang/invoke/VarHandle" ∧ (parseMethodDescriptor y_Cr_init.desc).map (fun d => d.parameters.length) = some 0 := by decide +kernel
abbrev b_Cr_tell : ByteArray := prog_2_method_2_code
abbrev ws_Cr_tell : List Cond := .code y_Cr_tell b_Cr_tell 3 (Option.some FieldType.boolean) :: zw_tbl
theorem hd_Cr_tell : y_Cr_tell.cls = R_Cr ∧ y_Cr_tell.cls ≠ "java/lang/invoke/MethodHandle" ∧ y_Cr_tell.cls ≠ "java/lang/invoke/VarHandle" ∧ (parseMethodDescriptor y_Cr_tell.desc).map (fun d => d.parameters.length) = some 2 := by decide +kernel
abbrev b_Cr_at : ByteArray := prog_2_method_3_code
abbrev ws_Cr_at : List Cond := .code y_Cr_at b_Cr_at 4 (Option.some FieldType.int) :: zw_tbl
theorem hd_Cr_at : y_Cr_at.cls = R_Cr ∧ y_Cr_at.cls ≠ "java/lang/invoke/MethodHandle" ∧ y_Cr_at.cls ≠ "java/lang/invoke/VarHandle" ∧ (parseMethodDescriptor y_Cr_at.desc).map (fun d => d.parameters.length) = some 1 := by decide +kernel
abbrev b_Gi_init : ByteArray := prog_3_method_1_code
abbrev ws_Gi_init : List Cond := .code y_Gi_init b_Gi_init 2 (Option.none : Option FieldType) :: zw_tbl
theorem hd_Gi_init : y_Gi_init.cls = R_Gi ∧ y_Gi_init.cls ≠ "java/lang/invoke/MethodHandle" ∧ y_Gi_init.cls ≠ "java/lang/invoke/VarHandle" ∧ (parseMethodDescriptor y_Gi_init.desc).map (fun d => d.parameters.length) = some 1 := by decide +kernel
abbrev b_Gi_hasPart : ByteArray := prog_3_method_2_code
abbrev ws_Gi_hasPart : List Cond := .code y_Gi_hasPart b_Gi_hasPart 2 (Option.some FieldType.boolean) :: zw_tbl
theorem hd_Gi_hasPart : y_Gi_hasPart.cls = R_Gi ∧ y_Gi_hasPart.cls ≠ "java/lang/invoke/MethodHandle" ∧ y_Gi_hasPart.cls ≠ "java/lang/invoke/VarHandle" ∧ (parseMethodDescriptor y_Gi_hasPart.desc).map (fun d => d.parameters.length) = some 1 := by decide +kernel
abbrev b_Gi_mustFollow : ByteArray := prog_3_method_3_code
abbrev ws_Gi_mustFollow : List Cond := .code y_Gi_mustFollow b_Gi_mustFollow 3 (Option.some FieldType.boolean) :: zw_tbl
theorem hd_Gi_mustFollow : y_Gi_mustFollow.cls = R_Gi ∧ y_Gi_mustFollow.cls ≠ "java/lang/invoke/MethodHandle" ∧ y_Gi_mustFollow.cls ≠ "java/lang/invoke/VarHandle" ∧ (parseMethodDescriptor y_Gi_mustFollow.desc).map (fun d => d.parameters.length) = some 2 := by decide +kernel
abbrev b_Gi_mayFollow : ByteArray := prog_3_method_4_code
abbrev ws_Gi_mayFollow : List Cond := .code y_Gi_mayFollow b_Gi_mayFollow 3 (Option.some FieldType.boolean) :: zw_tbl
theorem hd_Gi_mayFollow : y_Gi_mayFollow.cls = R_Gi ∧ y_Gi_mayFollow.cls ≠ "java/lang/invoke/MethodHandle" ∧ y_Gi_mayFollow.cls ≠ "java/lang/invoke/VarHandle" ∧ (parseMethodDescriptor y_Gi_mayFollow.desc).map (fun d => d.parameters.length) = some 2 := by decide +kernel
abbrev b_Gi_follow : ByteArray := prog_3_method_5_code
abbrev ws_Gi_follow : List Cond := .code y_Gi_follow b_Gi_follow 5 (Option.none : Option FieldType) :: zw_tbl
theorem hd_Gi_follow : y_Gi_follow.cls = R_Gi ∧ y_Gi_follow.cls ≠ "java/lang/invoke/MethodHandle" ∧ y_Gi_follow.cls ≠ "java/lang/invoke/VarHandle" ∧ (parseMethodDescriptor y_Gi_follow.desc).map (fun d => d.parameters.length) = some 2 := by decide +kernel
abbrev b_Pl_init : ByteArray := prog_4_method_1_code
abbrev ws_Pl_init : List Cond := .code y_Pl_init b_Pl_init 1 (Option.none : Option FieldType) :: zw_tbl
theorem hd_Pl_init : y_Pl_init.cls = R_Pl ∧ y_Pl_init.cls ≠ "java/lang/invoke/MethodHandle" ∧ y_Pl_init.cls ≠ "java/lang/invoke/VarHandle" ∧ (parseMethodDescriptor y_Pl_init.desc).map (fun d => d.parameters.length) = some 0 := by decide +kernel
abbrev b_Pl_hasStage : ByteArray := prog_4_method_2_code
abbrev ws_Pl_hasStage : List Cond := .code y_Pl_hasStage b_Pl_hasStage 2 (Option.some FieldType.boolean) :: zw_tbl
theorem hd_Pl_hasStage : y_Pl_hasStage.cls = R_Pl ∧ y_Pl_hasStage.cls ≠ "java/lang/invoke/MethodHandle" ∧ y_Pl_hasStage.cls ≠ "java/lang/invoke/VarHandle" ∧ (parseMethodDescriptor y_Pl_hasStage.desc).map (fun d => d.parameters.length) = some 1 := by decide +kernel
abbrev b_Pl_hasRoom : ByteArray := prog_4_method_3_code
abbrev ws_Pl_hasRoom : List Cond := .code y_Pl_hasRoom b_Pl_hasRoom 1 (Option.some FieldType.boolean) :: zw_tbl
theorem hd_Pl_hasRoom : y_Pl_hasRoom.cls = R_Pl ∧ y_Pl_hasRoom.cls ≠ "java/lang/invoke/MethodHandle" ∧ y_Pl_hasRoom.cls ≠ "java/lang/invoke/VarHandle" ∧ (parseMethodDescriptor y_Pl_hasRoom.desc).map (fun d => d.parameters.length) = some 0 := by decide +kernel
abbrev b_Pl_lastDay : ByteArray := prog_4_method_4_code
abbrev ws_Pl_lastDay : List Cond := .code y_Pl_lastDay b_Pl_lastDay 1 (Option.some FieldType.int) :: zw_tbl
theorem hd_Pl_lastDay : y_Pl_lastDay.cls = R_Pl ∧ y_Pl_lastDay.cls ≠ "java/lang/invoke/MethodHandle" ∧ y_Pl_lastDay.cls ≠ "java/lang/invoke/VarHandle" ∧ (parseMethodDescriptor y_Pl_lastDay.desc).map (fun d => d.parameters.length) = some 0 := by decide +kernel
abbrev b_Pl_endDay : ByteArray := prog_4_method_5_code
abbrev ws_Pl_endDay : List Cond := .code y_Pl_endDay b_Pl_endDay 1 (Option.some FieldType.int) :: zw_tbl
theorem hd_Pl_endDay : y_Pl_endDay.cls = R_Pl ∧ y_Pl_endDay.cls ≠ "java/lang/invoke/MethodHandle" ∧ y_Pl_endDay.cls ≠ "java/lang/invoke/VarHandle" ∧ (parseMethodDescriptor y_Pl_endDay.desc).map (fun d => d.parameters.length) = some 0 := by decide +kernel
abbrev b_Pl_takesStage : ByteArray := prog_4_method_6_code
abbrev ws_Pl_takesStage : List Cond := .code y_Pl_takesStage b_Pl_takesStage 2 (Option.some FieldType.boolean) :: zw_tbl
theorem hd_Pl_takesStage : y_Pl_takesStage.cls = R_Pl ∧ y_Pl_takesStage.cls ≠ "java/lang/invoke/MethodHandle" ∧ y_Pl_takesStage.cls ≠ "java/lang/invoke/VarHandle" ∧ (parseMethodDescriptor y_Pl_takesStage.desc).map (fun d => d.parameters.length) = some 1 := by decide +kernel
abbrev b_Pl_openStage : ByteArray := prog_4_method_7_code
abbrev ws_Pl_openStage : List Cond := .code y_Pl_openStage b_Pl_openStage 2 (Option.some FieldType.int) :: zw_tbl
theorem hd_Pl_openStage : y_Pl_openStage.cls = R_Pl ∧ y_Pl_openStage.cls ≠ "java/lang/invoke/MethodHandle" ∧ y_Pl_openStage.cls ≠ "java/lang/invoke/VarHandle" ∧ (parseMethodDescriptor y_Pl_openStage.desc).map (fun d => d.parameters.length) = some 1 := by decide +kernel
abbrev b_Pl_takesPart : ByteArray := prog_4_method_8_code
abbrev ws_Pl_takesPart : List Cond := .code y_Pl_takesPart b_Pl_takesPart 2 (Option.some FieldType.boolean) :: zw_tbl
theorem hd_Pl_takesPart : y_Pl_takesPart.cls = R_Pl ∧ y_Pl_takesPart.cls ≠ "java/lang/invoke/MethodHandle" ∧ y_Pl_takesPart.cls ≠ "java/lang/invoke/VarHandle" ∧ (parseMethodDescriptor y_Pl_takesPart.desc).map (fun d => d.parameters.length) = some 1 := by decide +kernel
abbrev b_Pl_putPart : ByteArray := prog_4_method_9_code
abbrev ws_Pl_putPart : List Cond := .code y_Pl_putPart b_Pl_putPart 2 (Option.none : Option FieldType) :: zw_tbl
theorem hd_Pl_putPart : y_Pl_putPart.cls = R_Pl ∧ y_Pl_putPart.cls ≠ "java/lang/invoke/MethodHandle" ∧ y_Pl_putPart.cls ≠ "java/lang/invoke/VarHandle" ∧ (parseMethodDescriptor y_Pl_putPart.desc).map (fun d => d.parameters.length) = some 1 := by decide +kernel
abbrev b_Pl_putAct : ByteArray := prog_4_method_10_code
abbrev ws_Pl_putAct : List Cond := .code y_Pl_putAct b_Pl_putAct 4 (Option.none : Option FieldType) :: zw_tbl
theorem hd_Pl_putAct : y_Pl_putAct.cls = R_Pl ∧ y_Pl_putAct.cls ≠ "java/lang/invoke/MethodHandle" ∧ y_Pl_putAct.cls ≠ "java/lang/invoke/VarHandle" ∧ (parseMethodDescriptor y_Pl_putAct.desc).map (fun d => d.parameters.length) = some 3 := by decide +kernel
abbrev b_Pl_placeOf : ByteArray := prog_4_method_11_code
abbrev ws_Pl_placeOf : List Cond := .code y_Pl_placeOf b_Pl_placeOf 3 (Option.some FieldType.int) :: zw_tbl
theorem hd_Pl_placeOf : y_Pl_placeOf.cls = R_Pl ∧ y_Pl_placeOf.cls ≠ "java/lang/invoke/MethodHandle" ∧ y_Pl_placeOf.cls ≠ "java/lang/invoke/VarHandle" ∧ (parseMethodDescriptor y_Pl_placeOf.desc).map (fun d => d.parameters.length) = some 1 := by decide +kernel
abbrev b_Pl_stageOf : ByteArray := prog_4_method_12_code
abbrev ws_Pl_stageOf : List Cond := .code y_Pl_stageOf b_Pl_stageOf 3 (Option.some FieldType.int) :: zw_tbl
theorem hd_Pl_stageOf : y_Pl_stageOf.cls = R_Pl ∧ y_Pl_stageOf.cls ≠ "java/lang/invoke/MethodHandle" ∧ y_Pl_stageOf.cls ≠ "java/lang/invoke/VarHandle" ∧ (parseMethodDescriptor y_Pl_stageOf.desc).map (fun d => d.parameters.length) = some 1 := by decide +kernel
abbrev b_Pl_partBits : ByteArray := prog_4_method_13_code
abbrev ws_Pl_partBits : List Cond := .code y_Pl_partBits b_Pl_partBits 3 (Option.some FieldType.int) :: zw_tbl
theorem hd_Pl_partBits : y_Pl_partBits.cls = R_Pl ∧ y_Pl_partBits.cls ≠ "java/lang/invoke/MethodHandle" ∧ y_Pl_partBits.cls ≠ "java/lang/invoke/VarHandle" ∧ (parseMethodDescriptor y_Pl_partBits.desc).map (fun d => d.parameters.length) = some 0 := by decide +kernel
abbrev b_Pl_onBits : ByteArray := prog_4_method_14_code
abbrev ws_Pl_onBits : List Cond := .code y_Pl_onBits b_Pl_onBits 3 (Option.some FieldType.int) :: zw_tbl
theorem hd_Pl_onBits : y_Pl_onBits.cls = R_Pl ∧ y_Pl_onBits.cls ≠ "java/lang/invoke/MethodHandle" ∧ y_Pl_onBits.cls ≠ "java/lang/invoke/VarHandle" ∧ (parseMethodDescriptor y_Pl_onBits.desc).map (fun d => d.parameters.length) = some 0 := by decide +kernel
abbrev b_Pl_canMove : ByteArray := prog_4_method_15_code
abbrev ws_Pl_canMove : List Cond := .code y_Pl_canMove b_Pl_canMove 5 (Option.some FieldType.boolean) :: zw_tbl
theorem hd_Pl_canMove : y_Pl_canMove.cls = R_Pl ∧ y_Pl_canMove.cls ≠ "java/lang/invoke/MethodHandle" ∧ y_Pl_canMove.cls ≠ "java/lang/invoke/VarHandle" ∧ (parseMethodDescriptor y_Pl_canMove.desc).map (fun d => d.parameters.length) = some 2 := by decide +kernel
abbrev b_Pl_move : ByteArray := prog_4_method_16_code
abbrev ws_Pl_move : List Cond := .code y_Pl_move b_Pl_move 4 (Option.none : Option FieldType) :: zw_tbl
theorem hd_Pl_move : y_Pl_move.cls = R_Pl ∧ y_Pl_move.cls ≠ "java/lang/invoke/MethodHandle" ∧ y_Pl_move.cls ≠ "java/lang/invoke/VarHandle" ∧ (parseMethodDescriptor y_Pl_move.desc).map (fun d => d.parameters.length) = some 2 := by decide +kernel
abbrev b_Pl_cutFrom : ByteArray := prog_4_method_17_code
abbrev ws_Pl_cutFrom : List Cond := .code y_Pl_cutFrom b_Pl_cutFrom 3 (Option.some FieldType.int) :: zw_tbl
theorem hd_Pl_cutFrom : y_Pl_cutFrom.cls = R_Pl ∧ y_Pl_cutFrom.cls ≠ "java/lang/invoke/MethodHandle" ∧ y_Pl_cutFrom.cls ≠ "java/lang/invoke/VarHandle" ∧ (parseMethodDescriptor y_Pl_cutFrom.desc).map (fun d => d.parameters.length) = some 1 := by decide +kernel
abbrev b_Pl_forgetPassedEnd : ByteArray := prog_4_method_18_code
abbrev ws_Pl_forgetPassedEnd : List Cond := .code y_Pl_forgetPassedEnd b_Pl_forgetPassedEnd 1 (Option.none : Option FieldType) :: zw_tbl
theorem hd_Pl_forgetPassedEnd : y_Pl_forgetPassedEnd.cls = R_Pl ∧ y_Pl_forgetPassedEnd.cls ≠ "java/lang/invoke/MethodHandle" ∧ y_Pl_forgetPassedEnd.cls ≠ "java/lang/invoke/VarHandle" ∧ (parseMethodDescriptor y_Pl_forgetPassedEnd.desc).map (fun d => d.parameters.length) = some 0 := by decide +kernel
abbrev b_Ru_init : ByteArray := prog_5_method_1_code
abbrev ws_Ru_init : List Cond := .code y_Ru_init b_Ru_init 1 (Option.none : Option FieldType) :: zw_tbl
theorem hd_Ru_init : y_Ru_init.cls = R_Ru ∧ y_Ru_init.cls ≠ "java/lang/invoke/MethodHandle" ∧ y_Ru_init.cls ≠ "java/lang/invoke/VarHandle" ∧ (parseMethodDescriptor y_Ru_init.desc).map (fun d => d.parameters.length) = some 0 := by decide +kernel
abbrev b_Ru_put : ByteArray := prog_5_method_2_code
abbrev ws_Ru_put : List Cond := .code y_Ru_put b_Ru_put 5 (Option.some FieldType.int) :: zw_tbl
theorem hd_Ru_put : y_Ru_put.cls = R_Ru ∧ y_Ru_put.cls ≠ "java/lang/invoke/MethodHandle" ∧ y_Ru_put.cls ≠ "java/lang/invoke/VarHandle" ∧ (parseMethodDescriptor y_Ru_put.desc).map (fun d => d.parameters.length) = some 4 := by decide +kernel
abbrev b_Ru_allows : ByteArray := prog_5_method_3_code
abbrev ws_Ru_allows : List Cond := .code y_Ru_allows b_Ru_allows 6 (Option.some FieldType.boolean) :: zw_tbl
theorem hd_Ru_allows : y_Ru_allows.cls = R_Ru ∧ y_Ru_allows.cls ≠ "java/lang/invoke/MethodHandle" ∧ y_Ru_allows.cls ≠ "java/lang/invoke/VarHandle" ∧ (parseMethodDescriptor y_Ru_allows.desc).map (fun d => d.parameters.length) = some 3 := by decide +kernel
abbrev b_Se_init : ByteArray := prog_6_method_1_code
abbrev ws_Se_init : List Cond := .code y_Se_init b_Se_init 4 (Option.none : Option FieldType) :: zw_tbl
theorem hd_Se_init : y_Se_init.cls = R_Se ∧ y_Se_init.cls ≠ "java/lang/invoke/MethodHandle" ∧ y_Se_init.cls ≠ "java/lang/invoke/VarHandle" ∧ (parseMethodDescriptor y_Se_init.desc).map (fun d => d.parameters.length) = some 3 := by decide +kernel
abbrev b_Se_leastGreatest : ByteArray := prog_6_method_2_code
abbrev ws_Se_leastGreatest : List Cond := .code y_Se_leastGreatest b_Se_leastGreatest 1 (Option.some FieldType.long) :: zw_tbl
theorem hd_Se_leastGreatest : y_Se_leastGreatest.cls = R_Se ∧ y_Se_leastGreatest.cls ≠ "java/lang/invoke/MethodHandle" ∧ y_Se_leastGreatest.cls ≠ "java/lang/invoke/VarHandle" ∧ (parseMethodDescriptor y_Se_leastGreatest.desc).map (fun d => d.parameters.length) = some 0 := by decide +kernel
abbrev b_Se_tryFrom : ByteArray := prog_6_method_3_code
abbrev ws_Se_tryFrom : List Cond := .code y_Se_tryFrom b_Se_tryFrom 5 (Option.none : Option FieldType) :: zw_tbl
theorem hd_Se_tryFrom : y_Se_tryFrom.cls = R_Se ∧ y_Se_tryFrom.cls ≠ "java/lang/invoke/MethodHandle" ∧ y_Se_tryFrom.cls ≠ "java/lang/invoke/VarHandle" ∧ (parseMethodDescriptor y_Se_tryFrom.desc).map (fun d => d.parameters.length) = some 3 := by decide +kernel
abbrev b_Se_weigh : ByteArray := prog_6_method_4_code
abbrev ws_Se_weigh : List Cond := .code y_Se_weigh b_Se_weigh 3 (Option.none : Option FieldType) :: zw_tbl
theorem hd_Se_weigh : y_Se_weigh.cls = R_Se ∧ y_Se_weigh.cls ≠ "java/lang/invoke/MethodHandle" ∧ y_Se_weigh.cls ≠ "java/lang/invoke/VarHandle" ∧ (parseMethodDescriptor y_Se_weigh.desc).map (fun d => d.parameters.length) = some 0 := by decide +kernel
abbrev b_Wa_init : ByteArray := prog_7_method_1_code
abbrev ws_Wa_init : List Cond := .code y_Wa_init b_Wa_init 4 (Option.none : Option FieldType) :: zw_tbl
theorem hd_Wa_init : y_Wa_init.cls = R_Wa ∧ y_Wa_init.cls ≠ "java/lang/invoke/MethodHandle" ∧ y_Wa_init.cls ≠ "java/lang/invoke/VarHandle" ∧ (parseMethodDescriptor y_Wa_init.desc).map (fun d => d.parameters.length) = some 3 := by decide +kernel
abbrev b_Wa_aim : ByteArray := prog_7_method_2_code
abbrev ws_Wa_aim : List Cond := .code y_Wa_aim b_Wa_aim 5 (Option.none : Option FieldType) :: zw_tbl
theorem hd_Wa_aim : y_Wa_aim.cls = R_Wa ∧ y_Wa_aim.cls ≠ "java/lang/invoke/MethodHandle" ∧ y_Wa_aim.cls ≠ "java/lang/invoke/VarHandle" ∧ (parseMethodDescriptor y_Wa_aim.desc).map (fun d => d.parameters.length) = some 2 := by decide +kernel
abbrev b_Wa_go : ByteArray := prog_7_method_3_code
abbrev ws_Wa_go : List Cond := .code y_Wa_go b_Wa_go 6 (Option.some FieldType.boolean) :: zw_tbl
theorem hd_Wa_go : y_Wa_go.cls = R_Wa ∧ y_Wa_go.cls ≠ "java/lang/invoke/MethodHandle" ∧ y_Wa_go.cls ≠ "java/lang/invoke/VarHandle" ∧ (parseMethodDescriptor y_Wa_go.desc).map (fun d => d.parameters.length) = some 1 := by decide +kernel
abbrev b_Wa_greatestSize : ByteArray := prog_7_method_4_code
abbrev ws_Wa_greatestSize : List Cond := .code y_Wa_greatestSize b_Wa_greatestSize 4 (Option.some FieldType.long) :: zw_tbl
theorem hd_Wa_greatestSize : y_Wa_greatestSize.cls = R_Wa ∧ y_Wa_greatestSize.cls ≠ "java/lang/invoke/MethodHandle" ∧ y_Wa_greatestSize.cls ≠ "java/lang/invoke/VarHandle" ∧ (parseMethodDescriptor y_Wa_greatestSize.desc).map (fun d => d.parameters.length) = some 0 := by decide +kernel
abbrev b_Wa_begin : ByteArray := prog_7_method_5_code
abbrev ws_Wa_begin : List Cond := .code y_Wa_begin b_Wa_begin 3 (Option.none : Option FieldType) :: zw_tbl
theorem hd_Wa_begin : y_Wa_begin.cls = R_Wa ∧ y_Wa_begin.cls ≠ "java/lang/invoke/MethodHandle" ∧ y_Wa_begin.cls ≠ "java/lang/invoke/VarHandle" ∧ (parseMethodDescriptor y_Wa_begin.desc).map (fun d => d.parameters.length) = some 1 := by decide +kernel
abbrev b_Wa_comeIn : ByteArray := prog_7_method_6_code
abbrev ws_Wa_comeIn : List Cond := .code y_Wa_comeIn b_Wa_comeIn 3 (Option.none : Option FieldType) :: zw_tbl
theorem hd_Wa_comeIn : y_Wa_comeIn.cls = R_Wa ∧ y_Wa_comeIn.cls ≠ "java/lang/invoke/MethodHandle" ∧ y_Wa_comeIn.cls ≠ "java/lang/invoke/VarHandle" ∧ (parseMethodDescriptor y_Wa_comeIn.desc).map (fun d => d.parameters.length) = some 2 := by decide +kernel
abbrev b_Wa_press : ByteArray := prog_7_method_7_code
abbrev ws_Wa_press : List Cond := .code y_Wa_press b_Wa_press 5 (Option.none : Option FieldType) :: zw_tbl
theorem hd_Wa_press : y_Wa_press.cls = R_Wa ∧ y_Wa_press.cls ≠ "java/lang/invoke/MethodHandle" ∧ y_Wa_press.cls ≠ "java/lang/invoke/VarHandle" ∧ (parseMethodDescriptor y_Wa_press.desc).map (fun d => d.parameters.length) = some 3 := by decide +kernel
abbrev b_Wa_letGo : ByteArray := prog_7_method_8_code
abbrev ws_Wa_letGo : List Cond := .code y_Wa_letGo b_Wa_letGo 4 (Option.none : Option FieldType) :: zw_tbl
theorem hd_Wa_letGo : y_Wa_letGo.cls = R_Wa ∧ y_Wa_letGo.cls ≠ "java/lang/invoke/MethodHandle" ∧ y_Wa_letGo.cls ≠ "java/lang/invoke/VarHandle" ∧ (parseMethodDescriptor y_Wa_letGo.desc).map (fun d => d.parameters.length) = some 2 := by decide +kernel
abbrev b_Wa_lift : ByteArray := prog_7_method_9_code
abbrev ws_Wa_lift : List Cond := .code y_Wa_lift b_Wa_lift 5 (Option.none : Option FieldType) :: zw_tbl
theorem hd_Wa_lift : y_Wa_lift.cls = R_Wa ∧ y_Wa_lift.cls ≠ "java/lang/invoke/MethodHandle" ∧ y_Wa_lift.cls ≠ "java/lang/invoke/VarHandle" ∧ (parseMethodDescriptor y_Wa_lift.desc).map (fun d => d.parameters.length) = some 3 := by decide +kernel
abbrev b_La_cell : ByteArray := method_2_code
abbrev ws_La_cell : List Cond := .code y_La_cell b_La_cell 2 (Option.some FieldType.int) :: zw_tbl
theorem hd_La_cell : y_La_cell.cls = R_La ∧ y_La_cell.cls ≠ "java/lang/invoke/MethodHandle" ∧ y_La_cell.cls ≠ "java/lang/invoke/VarHandle" ∧ (parseMethodDescriptor y_La_cell.desc).map (fun d => d.parameters.length) = some 2 := by decide +kernel
abbrev b_Arr_fill_i : ByteArray := prog_12_method_103_code
abbrev ws_Arr_fill_i : List Cond := .code y_Arr_fill_i b_Arr_fill_i 4 (Option.none : Option FieldType) :: zw_tbl
theorem hd_Arr_fill_i : y_Arr_fill_i.cls = R_Arr ∧ y_Arr_fill_i.cls ≠ "java/lang/invoke/MethodHandle" ∧ y_Arr_fill_i.cls ≠ "java/lang/invoke/VarHandle" ∧ (parseMethodDescriptor y_Arr_fill_i.desc).map (fun d => d.parameters.length) = some 2 := by decide +kernel
abbrev b_Arr_fill_l : ByteArray := prog_12_method_101_code
abbrev ws_Arr_fill_l : List Cond := .code y_Arr_fill_l b_Arr_fill_l 5 (Option.none : Option FieldType) :: zw_tbl
theorem hd_Arr_fill_l : y_Arr_fill_l.cls = R_Arr ∧ y_Arr_fill_l.cls ≠ "java/lang/invoke/MethodHandle" ∧ y_Arr_fill_l.cls ≠ "java/lang/invoke/VarHandle" ∧ (parseMethodDescriptor y_Arr_fill_l.desc).map (fun d => d.parameters.length) = some 2 := by decide +kernel
def zw_nw : List (String × Nat × MethodName × String) := [(R_SS, 9, y_Cr_init, R_SS), (R_SS, 18, y_Pl_init, R_SS), (R_SS, 25, y_Ru_init, R_SS), (R_Gi, 36, y_SS_within, R_SS), (R_Cr, 22, y_SS_within, R_SS), (R_Gi, 40, y_SS_hasBit, R_SS), (R_Pl, 40, y_SS_within, R_SS), (R_Wa, 83, y_SS_hasBit, R_SS), (R_Se, 70, y_SS_hasBit, R_SS)]
end
section
theorem nw_22 : (R_SS, 9, y_Cr_init, R_SS) ∈ zw_nw := by decide +kernel
theorem nw_39 : (R_SS, 18, y_Pl_init, R_SS) ∈ zw_nw := by decide +kernel
theorem nw_97 : (R_SS, 25, y_Ru_init, R_SS) ∈ zw_nw := by decide +kernel
theorem nw_278 : (R_Gi, 36, y_SS_within, R_SS) ∈ zw_nw := by decide +kernel
theorem nw_310 : (R_Cr, 22, y_SS_within, R_SS) ∈ zw_nw := by decide +kernel
theorem nw_319 : (R_Gi, 40, y_SS_hasBit, R_SS) ∈ zw_nw := by decide +kernel
theorem nw_339 : (R_Pl, 40, y_SS_within, R_SS) ∈ zw_nw := by decide +kernel
theorem nw_467 : (R_Wa, 83, y_SS_hasBit, R_SS) ∈ zw_nw := by decide +kernel
theorem nw_594 : (R_Se, 70, y_SS_hasBit, R_SS) ∈ zw_nw := by decide +kernel
theorem kw_s0 : Cond.selects R_Pl y_Pl_forgetPassedEnd y_Pl_forgetPassedEnd ∈ zw_tbl := List.mem_filter.mpr ⟨List.mem_of_getElem? (i := 0) (by decide +kernel), rfl⟩
theorem kw_s1 : Cond.selects R_SS y_SS_isThere y_SS_isThere ∈ zw_tbl := List.mem_filter.mpr ⟨List.mem_of_getElem? (i := 1) (by decide +kernel), rfl⟩
theorem kw_s2 : Cond.selects R_SS y_SS_levelThen y_SS_levelThen ∈ zw_tbl := List.mem_filter.mpr ⟨List.mem_of_getElem? (i := 2) (by decide +kernel), rfl⟩
theorem kw_s3 : Cond.selects R_SS y_SS_castAll y_SS_castAll ∈ zw_tbl := List.mem_filter.mpr ⟨List.mem_of_getElem? (i := 3) (by decide +kernel), rfl⟩
theorem kw_s4 : Cond.selects R_Wa y_Wa_begin y_Wa_begin ∈ zw_tbl := List.mem_filter.mpr ⟨List.mem_of_getElem? (i := 4) (by decide +kernel), rfl⟩
theorem kw_s5 : Cond.selects R_Wa y_Wa_comeIn y_Wa_comeIn ∈ zw_tbl := List.mem_filter.mpr ⟨List.mem_of_getElem? (i := 5) (by decide +kernel), rfl⟩
theorem kw_s6 : Cond.selects R_Wa y_Wa_press y_Wa_press ∈ zw_tbl := List.mem_filter.mpr ⟨List.mem_of_getElem? (i := 6) (by decide +kernel), rfl⟩
theorem kw_s7 : Cond.selects R_Wa y_Wa_lift y_Wa_lift ∈ zw_tbl := List.mem_filter.mpr ⟨List.mem_of_getElem? (i := 7) (by decide +kernel), rfl⟩
theorem kw_s8 : Cond.selects R_Wa y_Wa_letGo y_Wa_letGo ∈ zw_tbl := List.mem_filter.mpr ⟨List.mem_of_getElem? (i := 8) (by decide +kernel), rfl⟩
theorem kw_s9 : Cond.selects R_SS y_SS_walkTo y_SS_walkTo ∈ zw_tbl := List.mem_filter.mpr ⟨List.mem_of_getElem? (i := 9) (by decide +kernel), rfl⟩
theorem kw_s10 : Cond.selects R_SS y_SS_heightNow y_SS_heightNow ∈ zw_tbl := List.mem_filter.mpr ⟨List.mem_of_getElem? (i := 10) (by decide +kernel), rfl⟩
theorem kw_s11 : Cond.selects R_SS y_SS_spread y_SS_spread ∈ zw_tbl := List.mem_filter.mpr ⟨List.mem_of_getElem? (i := 11) (by decide +kernel), rfl⟩
theorem kw_s12 : Cond.selects R_SS y_SS_isRuled y_SS_isRuled ∈ zw_tbl := List.mem_filter.mpr ⟨List.mem_of_getElem? (i := 12) (by decide +kernel), rfl⟩
theorem kw_s13 : Cond.selects R_SS y_SS_firstBroken y_SS_firstBroken ∈ zw_tbl := List.mem_filter.mpr ⟨List.mem_of_getElem? (i := 13) (by decide +kernel), rfl⟩
theorem kw_s14 : Cond.selects R_SS y_SS_isBroken y_SS_isBroken ∈ zw_tbl := List.mem_filter.mpr ⟨List.mem_of_getElem? (i := 14) (by decide +kernel), rfl⟩
theorem kw_s15 : Cond.selects R_Se y_Se_tryFrom y_Se_tryFrom ∈ zw_tbl := List.mem_filter.mpr ⟨List.mem_of_getElem? (i := 15) (by decide +kernel), rfl⟩
theorem kw_s16 : Cond.selects R_Se y_Se_weigh y_Se_weigh ∈ zw_tbl := List.mem_filter.mpr ⟨List.mem_of_getElem? (i := 16) (by decide +kernel), rfl⟩
theorem kw_s17 : Cond.selects R_Mo y_Mo_isPart y_Mo_isPart ∈ zw_tbl := List.mem_filter.mpr ⟨List.mem_of_getElem? (i := 17) (by decide +kernel), rfl⟩
theorem kw_s18 : Cond.selects R_Mo y_Mo_comesAfter y_Mo_comesAfter ∈ zw_tbl := List.mem_filter.mpr ⟨List.mem_of_getElem? (i := 18) (by decide +kernel), rfl⟩
theorem kw_s19 : Cond.selects R_Mo y_Mo_actOf y_Mo_actOf ∈ zw_tbl := List.mem_filter.mpr ⟨List.mem_of_getElem? (i := 19) (by decide +kernel), rfl⟩
theorem kw_s20 : Cond.selects R_Mo y_Mo_lastDay y_Mo_lastDay ∈ zw_tbl := List.mem_filter.mpr ⟨List.mem_of_getElem? (i := 20) (by decide +kernel), rfl⟩
theorem kw_s21 : Cond.selects R_Mo y_Mo_lookAtEnd y_Mo_lookAtEnd ∈ zw_tbl := List.mem_filter.mpr ⟨List.mem_of_getElem? (i := 21) (by decide +kernel), rfl⟩
theorem kw_s22 : Cond.selects R_Mo y_Mo_mayPut y_Mo_mayPut ∈ zw_tbl := List.mem_filter.mpr ⟨List.mem_of_getElem? (i := 22) (by decide +kernel), rfl⟩
theorem kw_s23 : Cond.selects R_Mo y_Mo_put y_Mo_put ∈ zw_tbl := List.mem_filter.mpr ⟨List.mem_of_getElem? (i := 23) (by decide +kernel), rfl⟩
theorem kw_s24 : Cond.selects R_Mo y_Mo_isOn y_Mo_isOn ∈ zw_tbl := List.mem_filter.mpr ⟨List.mem_of_getElem? (i := 24) (by decide +kernel), rfl⟩
theorem kw_s25 : Cond.selects R_Mo y_Mo_passPlan y_Mo_passPlan ∈ zw_tbl := List.mem_filter.mpr ⟨List.mem_of_getElem? (i := 25) (by decide +kernel), rfl⟩
theorem kw_s26 : Cond.selects R_Mo y_Mo_takePlan y_Mo_takePlan ∈ zw_tbl := List.mem_filter.mpr ⟨List.mem_of_getElem? (i := 26) (by decide +kernel), rfl⟩
theorem kw_s27 : Cond.selects R_Mo y_Mo_pass y_Mo_pass ∈ zw_tbl := List.mem_filter.mpr ⟨List.mem_of_getElem? (i := 27) (by decide +kernel), rfl⟩
theorem kw_s28 : Cond.selects R_Mo y_Mo_loadOn y_Mo_loadOn ∈ zw_tbl := List.mem_filter.mpr ⟨List.mem_of_getElem? (i := 28) (by decide +kernel), rfl⟩
theorem kw_s29 : Cond.selects R_Mo y_Mo_isThere y_Mo_isThere ∈ zw_tbl := List.mem_filter.mpr ⟨List.mem_of_getElem? (i := 29) (by decide +kernel), rfl⟩
theorem kw_s30 : Cond.selects R_Mo y_Mo_isStage y_Mo_isStage ∈ zw_tbl := List.mem_filter.mpr ⟨List.mem_of_getElem? (i := 30) (by decide +kernel), rfl⟩
theorem kw_s31 : Cond.selects R_Mo y_Mo_levelAt y_Mo_levelAt ∈ zw_tbl := List.mem_filter.mpr ⟨List.mem_of_getElem? (i := 31) (by decide +kernel), rfl⟩
theorem kw_s32 : Cond.selects R_Mo y_Mo_cast y_Mo_cast ∈ zw_tbl := List.mem_filter.mpr ⟨List.mem_of_getElem? (i := 32) (by decide +kernel), rfl⟩
theorem kw_s33 : Cond.selects R_Mo y_Mo_camber y_Mo_camber ∈ zw_tbl := List.mem_filter.mpr ⟨List.mem_of_getElem? (i := 33) (by decide +kernel), rfl⟩
theorem kw_s34 : Cond.selects R_Mo y_Mo_endDay y_Mo_endDay ∈ zw_tbl := List.mem_filter.mpr ⟨List.mem_of_getElem? (i := 34) (by decide +kernel), rfl⟩
theorem kw_s35 : Cond.selects R_Mo y_Mo_rise y_Mo_rise ∈ zw_tbl := List.mem_filter.mpr ⟨List.mem_of_getElem? (i := 35) (by decide +kernel), rfl⟩
theorem kw_s36 : Cond.selects R_Mo y_Mo_dayOf y_Mo_dayOf ∈ zw_tbl := List.mem_filter.mpr ⟨List.mem_of_getElem? (i := 36) (by decide +kernel), rfl⟩
theorem kw_s37 : Cond.selects R_Mo y_Mo_creepAt y_Mo_creepAt ∈ zw_tbl := List.mem_filter.mpr ⟨List.mem_of_getElem? (i := 37) (by decide +kernel), rfl⟩
theorem kw_s38 : Cond.selects R_Mo y_Mo_carriedAt y_Mo_carriedAt ∈ zw_tbl := List.mem_filter.mpr ⟨List.mem_of_getElem? (i := 38) (by decide +kernel), rfl⟩
theorem kw_s39 : Cond.selects R_Mo y_Mo_holds y_Mo_holds ∈ zw_tbl := List.mem_filter.mpr ⟨List.mem_of_getElem? (i := 39) (by decide +kernel), rfl⟩
theorem kw_s40 : Cond.selects R_Mo y_Mo_isAllowed y_Mo_isAllowed ∈ zw_tbl := List.mem_filter.mpr ⟨List.mem_of_getElem? (i := 40) (by decide +kernel), rfl⟩
theorem kw_s41 : Cond.selects R_Mo y_Mo_greatest y_Mo_greatest ∈ zw_tbl := List.mem_filter.mpr ⟨List.mem_of_getElem? (i := 41) (by decide +kernel), rfl⟩
theorem kw_s42 : Cond.selects R_Mo y_Mo_nextRow y_Mo_nextRow ∈ zw_tbl := List.mem_filter.mpr ⟨List.mem_of_getElem? (i := 42) (by decide +kernel), rfl⟩
theorem kw_1 : Cond.initialized R_SS ∈ zw_tbl := List.mem_filter.mpr ⟨List.mem_of_getElem? (i := 44) (by decide +kernel), rfl⟩
theorem kw_2 : Cond.initialized R_Cr ∈ zw_tbl := List.mem_filter.mpr ⟨List.mem_of_getElem? (i := 45) (by decide +kernel), rfl⟩
theorem kw_3 : Cond.initialized R_Pl ∈ zw_tbl := List.mem_filter.mpr ⟨List.mem_of_getElem? (i := 46) (by decide +kernel), rfl⟩
theorem kw_4 : Cond.initialized R_Ru ∈ zw_tbl := List.mem_filter.mpr ⟨List.mem_of_getElem? (i := 47) (by decide +kernel), rfl⟩
theorem kw_5 : Cond.initialized R_Gi ∈ zw_tbl := List.mem_filter.mpr ⟨List.mem_of_getElem? (i := 48) (by decide +kernel), rfl⟩
theorem kw_6 : Cond.initialized R_Math ∈ zw_tbl := List.mem_filter.mpr ⟨List.mem_of_getElem? (i := 49) (by decide +kernel), rfl⟩
theorem kw_7 : Cond.initialized R_Wa ∈ zw_tbl := List.mem_filter.mpr ⟨List.mem_of_getElem? (i := 50) (by decide +kernel), rfl⟩
theorem kw_8 : Cond.initialized R_Se ∈ zw_tbl := List.mem_filter.mpr ⟨List.mem_of_getElem? (i := 51) (by decide +kernel), rfl⟩
theorem kw_9 : Cond.initialized R_Mo ∈ zw_tbl := List.mem_filter.mpr ⟨List.mem_of_getElem? (i := 52) (by decide +kernel), rfl⟩
theorem kw_10 : Cond.initialized R_Arr ∈ zw_tbl := List.mem_filter.mpr ⟨List.mem_of_getElem? (i := 53) (by decide +kernel), rfl⟩
theorem kw_11 : Cond.initialized R_Sys ∈ zw_tbl := List.mem_filter.mpr ⟨List.mem_of_getElem? (i := 54) (by decide +kernel), rfl⟩
theorem kw_26 : Cond.fieldLink R_Cr (9 : Nat) "StageSteps$Creeps" "ages" "[I" ∈ zw_tbl := List.mem_filter.mpr ⟨List.mem_of_getElem? (i := 69) (by decide +kernel), rfl⟩
theorem kw_27 : Cond.fieldLink R_Cr (15 : Nat) "StageSteps$Creeps" "values" "[I" ∈ zw_tbl := List.mem_filter.mpr ⟨List.mem_of_getElem? (i := 70) (by decide +kernel), rfl⟩
theorem kw_28 : Cond.fieldLink R_Cr (18 : Nat) "StageSteps$Creeps" "count" "I" ∈ zw_tbl := List.mem_filter.mpr ⟨List.mem_of_getElem? (i := 71) (by decide +kernel), rfl⟩
theorem kw_43 : Cond.fieldLink R_Pl (9 : Nat) "StageSteps$Plan" "days" "[I" ∈ zw_tbl := List.mem_filter.mpr ⟨List.mem_of_getElem? (i := 86) (by decide +kernel), rfl⟩
theorem kw_44 : Cond.fieldLink R_Wa (51 : Nat) "StageSteps$Plan" "days" "[I" ∈ zw_tbl := List.mem_filter.mpr ⟨List.mem_of_getElem? (i := 87) (by decide +kernel), rfl⟩
theorem kw_45 : Cond.fieldLink R_SS (261 : Nat) "StageSteps$Plan" "days" "[I" ∈ zw_tbl := List.mem_filter.mpr ⟨List.mem_of_getElem? (i := 88) (by decide +kernel), rfl⟩
theorem kw_46 : Cond.fieldLink R_Pl (15 : Nat) "StageSteps$Plan" "kinds" "[I" ∈ zw_tbl := List.mem_filter.mpr ⟨List.mem_of_getElem? (i := 89) (by decide +kernel), rfl⟩
theorem kw_47 : Cond.fieldLink R_Wa (73 : Nat) "StageSteps$Plan" "kinds" "[I" ∈ zw_tbl := List.mem_filter.mpr ⟨List.mem_of_getElem? (i := 90) (by decide +kernel), rfl⟩
theorem kw_48 : Cond.fieldLink R_Pl (18 : Nat) "StageSteps$Plan" "whats" "[I" ∈ zw_tbl := List.mem_filter.mpr ⟨List.mem_of_getElem? (i := 91) (by decide +kernel), rfl⟩
theorem kw_49 : Cond.fieldLink R_Wa (70 : Nat) "StageSteps$Plan" "whats" "[I" ∈ zw_tbl := List.mem_filter.mpr ⟨List.mem_of_getElem? (i := 92) (by decide +kernel), rfl⟩
theorem kw_50 : Cond.fieldLink R_Pl (21 : Nat) "StageSteps$Plan" "tonnes" "[I" ∈ zw_tbl := List.mem_filter.mpr ⟨List.mem_of_getElem? (i := 93) (by decide +kernel), rfl⟩
theorem kw_51 : Cond.fieldLink R_Wa (87 : Nat) "StageSteps$Plan" "tonnes" "[I" ∈ zw_tbl := List.mem_filter.mpr ⟨List.mem_of_getElem? (i := 94) (by decide +kernel), rfl⟩
theorem kw_52 : Cond.fieldLink R_Pl (24 : Nat) "StageSteps$Plan" "actStages" "[I" ∈ zw_tbl := List.mem_filter.mpr ⟨List.mem_of_getElem? (i := 95) (by decide +kernel), rfl⟩
theorem kw_53 : Cond.fieldLink R_Wa (67 : Nat) "StageSteps$Plan" "actStages" "[I" ∈ zw_tbl := List.mem_filter.mpr ⟨List.mem_of_getElem? (i := 96) (by decide +kernel), rfl⟩
theorem kw_54 : Cond.fieldLink R_Pl (27 : Nat) "StageSteps$Plan" "row" "[I" ∈ zw_tbl := List.mem_filter.mpr ⟨List.mem_of_getElem? (i := 97) (by decide +kernel), rfl⟩
theorem kw_55 : Cond.fieldLink R_SS (254 : Nat) "StageSteps$Plan" "row" "[I" ∈ zw_tbl := List.mem_filter.mpr ⟨List.mem_of_getElem? (i := 98) (by decide +kernel), rfl⟩
theorem kw_56 : Cond.fieldLink R_Pl (30 : Nat) "StageSteps$Plan" "addStages" "[I" ∈ zw_tbl := List.mem_filter.mpr ⟨List.mem_of_getElem? (i := 99) (by decide +kernel), rfl⟩
theorem kw_57 : Cond.fieldLink R_Wa (127 : Nat) "StageSteps$Plan" "addStages" "[I" ∈ zw_tbl := List.mem_filter.mpr ⟨List.mem_of_getElem? (i := 100) (by decide +kernel), rfl⟩
theorem kw_58 : Cond.fieldLink R_SS (264 : Nat) "StageSteps$Plan" "addStages" "[I" ∈ zw_tbl := List.mem_filter.mpr ⟨List.mem_of_getElem? (i := 101) (by decide +kernel), rfl⟩
theorem kw_59 : Cond.fieldLink R_Pl (37 : Nat) "StageSteps$Plan" "stages" "I" ∈ zw_tbl := List.mem_filter.mpr ⟨List.mem_of_getElem? (i := 102) (by decide +kernel), rfl⟩
theorem kw_60 : Cond.fieldLink R_Wa (46 : Nat) "StageSteps$Plan" "stages" "I" ∈ zw_tbl := List.mem_filter.mpr ⟨List.mem_of_getElem? (i := 103) (by decide +kernel), rfl⟩
theorem kw_61 : Cond.fieldLink R_Se (36 : Nat) "StageSteps$Plan" "stages" "I" ∈ zw_tbl := List.mem_filter.mpr ⟨List.mem_of_getElem? (i := 104) (by decide +kernel), rfl⟩
theorem kw_62 : Cond.fieldLink R_SS (160 : Nat) "StageSteps$Plan" "stages" "I" ∈ zw_tbl := List.mem_filter.mpr ⟨List.mem_of_getElem? (i := 105) (by decide +kernel), rfl⟩
theorem kw_63 : Cond.fieldLink R_Pl (44 : Nat) "StageSteps$Plan" "acts" "I" ∈ zw_tbl := List.mem_filter.mpr ⟨List.mem_of_getElem? (i := 106) (by decide +kernel), rfl⟩
theorem kw_64 : Cond.fieldLink R_Wa (64 : Nat) "StageSteps$Plan" "acts" "I" ∈ zw_tbl := List.mem_filter.mpr ⟨List.mem_of_getElem? (i := 107) (by decide +kernel), rfl⟩
theorem kw_65 : Cond.fieldLink R_SS (241 : Nat) "StageSteps$Plan" "acts" "I" ∈ zw_tbl := List.mem_filter.mpr ⟨List.mem_of_getElem? (i := 108) (by decide +kernel), rfl⟩
theorem kw_66 : Cond.fieldLink R_Se (59 : Nat) "StageSteps$Plan" "adds" "I" ∈ zw_tbl := List.mem_filter.mpr ⟨List.mem_of_getElem? (i := 109) (by decide +kernel), rfl⟩
theorem kw_67 : Cond.fieldLink R_Wa (124 : Nat) "StageSteps$Plan" "adds" "I" ∈ zw_tbl := List.mem_filter.mpr ⟨List.mem_of_getElem? (i := 110) (by decide +kernel), rfl⟩
theorem kw_68 : Cond.fieldLink R_Pl (64 : Nat) "StageSteps$Plan" "adds" "I" ∈ zw_tbl := List.mem_filter.mpr ⟨List.mem_of_getElem? (i := 111) (by decide +kernel), rfl⟩
theorem kw_69 : Cond.fieldLink R_SS (228 : Nat) "StageSteps$Plan" "adds" "I" ∈ zw_tbl := List.mem_filter.mpr ⟨List.mem_of_getElem? (i := 112) (by decide +kernel), rfl⟩
theorem kw_70 : Cond.fieldLink R_Pl (33 : Nat) "StageSteps$Plan" "toldEnd" "I" ∈ zw_tbl := List.mem_filter.mpr ⟨List.mem_of_getElem? (i := 113) (by decide +kernel), rfl⟩
theorem kw_71 : Cond.fieldLink R_SS (167 : Nat) "StageSteps$Plan" "toldEnd" "I" ∈ zw_tbl := List.mem_filter.mpr ⟨List.mem_of_getElem? (i := 114) (by decide +kernel), rfl⟩
theorem kw_101 : Cond.fieldLink R_Ru (9 : Nat) "StageSteps$Rules" "kinds" "[I" ∈ zw_tbl := List.mem_filter.mpr ⟨List.mem_of_getElem? (i := 144) (by decide +kernel), rfl⟩
theorem kw_102 : Cond.fieldLink R_SS (281 : Nat) "StageSteps$Rules" "kinds" "[I" ∈ zw_tbl := List.mem_filter.mpr ⟨List.mem_of_getElem? (i := 145) (by decide +kernel), rfl⟩
theorem kw_103 : Cond.fieldLink R_Ru (15 : Nat) "StageSteps$Rules" "ofs" "[I" ∈ zw_tbl := List.mem_filter.mpr ⟨List.mem_of_getElem? (i := 146) (by decide +kernel), rfl⟩
theorem kw_104 : Cond.fieldLink R_SS (278 : Nat) "StageSteps$Rules" "ofs" "[I" ∈ zw_tbl := List.mem_filter.mpr ⟨List.mem_of_getElem? (i := 147) (by decide +kernel), rfl⟩
theorem kw_105 : Cond.fieldLink R_Ru (18 : Nat) "StageSteps$Rules" "lows" "[I" ∈ zw_tbl := List.mem_filter.mpr ⟨List.mem_of_getElem? (i := 148) (by decide +kernel), rfl⟩
theorem kw_106 : Cond.fieldLink R_Ru (21 : Nat) "StageSteps$Rules" "highs" "[I" ∈ zw_tbl := List.mem_filter.mpr ⟨List.mem_of_getElem? (i := 149) (by decide +kernel), rfl⟩
theorem kw_107 : Cond.fieldLink R_Ru (24 : Nat) "StageSteps$Rules" "count" "I" ∈ zw_tbl := List.mem_filter.mpr ⟨List.mem_of_getElem? (i := 150) (by decide +kernel), rfl⟩
theorem kw_108 : Cond.fieldLink R_SS (206 : Nat) "StageSteps$Rules" "count" "I" ∈ zw_tbl := List.mem_filter.mpr ⟨List.mem_of_getElem? (i := 151) (by decide +kernel), rfl⟩
theorem kw_126 : Cond.static y_Math_maxi ∈ zw_tbl := List.mem_filter.mpr ⟨List.mem_of_getElem? (i := 169) (by decide +kernel), rfl⟩
theorem kw_127 : Cond.code y_Math_maxi prog_10_method_65_code (2 : Nat) (Option.some FieldType.int) ∈ zw_tbl := List.mem_filter.mpr ⟨List.mem_of_getElem? (i := 170) (by decide +kernel), rfl⟩
theorem kw_134 : Cond.fieldLink R_Gi (32 : Nat) "StageSteps$Givens" "parts" "I" ∈ zw_tbl := List.mem_filter.mpr ⟨List.mem_of_getElem? (i := 177) (by decide +kernel), rfl⟩
theorem kw_135 : Cond.fieldLink R_Se (65 : Nat) "StageSteps$Givens" "parts" "I" ∈ zw_tbl := List.mem_filter.mpr ⟨List.mem_of_getElem? (i := 178) (by decide +kernel), rfl⟩
theorem kw_136 : Cond.fieldLink R_Wa (100 : Nat) "StageSteps$Givens" "parts" "I" ∈ zw_tbl := List.mem_filter.mpr ⟨List.mem_of_getElem? (i := 179) (by decide +kernel), rfl⟩
theorem kw_137 : Cond.fieldLink R_SS (222 : Nat) "StageSteps$Givens" "parts" "I" ∈ zw_tbl := List.mem_filter.mpr ⟨List.mem_of_getElem? (i := 180) (by decide +kernel), rfl⟩
theorem kw_139 : Cond.fieldLink R_SS (87 : Nat) "StageSteps$Givens" "weights" "[I" ∈ zw_tbl := List.mem_filter.mpr ⟨List.mem_of_getElem? (i := 182) (by decide +kernel), rfl⟩
theorem kw_140 : Cond.fieldLink R_Wa (130 : Nat) "StageSteps$Givens" "weights" "[I" ∈ zw_tbl := List.mem_filter.mpr ⟨List.mem_of_getElem? (i := 183) (by decide +kernel), rfl⟩
theorem kw_142 : Cond.fieldLink R_SS (91 : Nat) "StageSteps$Givens" "wanted" "[I" ∈ zw_tbl := List.mem_filter.mpr ⟨List.mem_of_getElem? (i := 185) (by decide +kernel), rfl⟩
theorem kw_144 : Cond.fieldLink R_SS (97 : Nat) "StageSteps$Givens" "flexes" "[[I" ∈ zw_tbl := List.mem_filter.mpr ⟨List.mem_of_getElem? (i := 187) (by decide +kernel), rfl⟩
theorem kw_145 : Cond.fieldLink R_Wa (135 : Nat) "StageSteps$Givens" "flexes" "[[I" ∈ zw_tbl := List.mem_filter.mpr ⟨List.mem_of_getElem? (i := 188) (by decide +kernel), rfl⟩
theorem kw_147 : Cond.fieldLink R_SS (104 : Nat) "StageSteps$Givens" "shares" "[[I" ∈ zw_tbl := List.mem_filter.mpr ⟨List.mem_of_getElem? (i := 190) (by decide +kernel), rfl⟩
theorem kw_148 : Cond.fieldLink R_Wa (142 : Nat) "StageSteps$Givens" "shares" "[[I" ∈ zw_tbl := List.mem_filter.mpr ⟨List.mem_of_getElem? (i := 191) (by decide +kernel), rfl⟩
theorem kw_150 : Cond.fieldLink R_SS (107 : Nat) "StageSteps$Givens" "releases" "[[I" ∈ zw_tbl := List.mem_filter.mpr ⟨List.mem_of_getElem? (i := 193) (by decide +kernel), rfl⟩
theorem kw_151 : Cond.fieldLink R_Wa (145 : Nat) "StageSteps$Givens" "releases" "[[I" ∈ zw_tbl := List.mem_filter.mpr ⟨List.mem_of_getElem? (i := 194) (by decide +kernel), rfl⟩
theorem kw_152 : Cond.fieldLink R_Gi (29 : Nat) "StageSteps$Givens" "befores" "[I" ∈ zw_tbl := List.mem_filter.mpr ⟨List.mem_of_getElem? (i := 195) (by decide +kernel), rfl⟩
theorem kw_176 : Cond.fieldLink R_Wa (30 : Nat) "StageSteps$Walk" "givens" "LStageSteps$Givens;" ∈ zw_tbl := List.mem_filter.mpr ⟨List.mem_of_getElem? (i := 219) (by decide +kernel), rfl⟩
theorem kw_177 : Cond.fieldLink R_Wa (34 : Nat) "StageSteps$Walk" "creeps" "LStageSteps$Creeps;" ∈ zw_tbl := List.mem_filter.mpr ⟨List.mem_of_getElem? (i := 220) (by decide +kernel), rfl⟩
theorem kw_178 : Cond.fieldLink R_Wa (38 : Nat) "StageSteps$Walk" "plan" "LStageSteps$Plan;" ∈ zw_tbl := List.mem_filter.mpr ⟨List.mem_of_getElem? (i := 221) (by decide +kernel), rfl⟩
theorem kw_179 : Cond.fieldLink R_Wa (9 : Nat) "StageSteps$Walk" "rises" "[J" ∈ zw_tbl := List.mem_filter.mpr ⟨List.mem_of_getElem? (i := 222) (by decide +kernel), rfl⟩
theorem kw_180 : Cond.fieldLink R_SS (180 : Nat) "StageSteps$Walk" "rises" "[J" ∈ zw_tbl := List.mem_filter.mpr ⟨List.mem_of_getElem? (i := 223) (by decide +kernel), rfl⟩
theorem kw_181 : Cond.fieldLink R_Wa (15 : Nat) "StageSteps$Walk" "carried" "[J" ∈ zw_tbl := List.mem_filter.mpr ⟨List.mem_of_getElem? (i := 224) (by decide +kernel), rfl⟩
theorem kw_182 : Cond.fieldLink R_SS (192 : Nat) "StageSteps$Walk" "carried" "[J" ∈ zw_tbl := List.mem_filter.mpr ⟨List.mem_of_getElem? (i := 225) (by decide +kernel), rfl⟩
theorem kw_183 : Cond.fieldLink R_Wa (18 : Nat) "StageSteps$Walk" "addedIn" "[I" ∈ zw_tbl := List.mem_filter.mpr ⟨List.mem_of_getElem? (i := 226) (by decide +kernel), rfl⟩
theorem kw_184 : Cond.fieldLink R_Wa (22 : Nat) "StageSteps$Walk" "creepTo" "[I" ∈ zw_tbl := List.mem_filter.mpr ⟨List.mem_of_getElem? (i := 227) (by decide +kernel), rfl⟩
theorem kw_185 : Cond.fieldLink R_Wa (27 : Nat) "StageSteps$Walk" "creepFrom" "[[I" ∈ zw_tbl := List.mem_filter.mpr ⟨List.mem_of_getElem? (i := 228) (by decide +kernel), rfl⟩
theorem kw_186 : Cond.fieldLink R_Wa (42 : Nat) "StageSteps$Walk" "lastStage" "I" ∈ zw_tbl := List.mem_filter.mpr ⟨List.mem_of_getElem? (i := 229) (by decide +kernel), rfl⟩
theorem kw_187 : Cond.fieldLink R_Wa (80 : Nat) "StageSteps$Walk" "there" "I" ∈ zw_tbl := List.mem_filter.mpr ⟨List.mem_of_getElem? (i := 230) (by decide +kernel), rfl⟩
theorem kw_188 : Cond.fieldLink R_Wa (94 : Nat) "StageSteps$Walk" "on" "I" ∈ zw_tbl := List.mem_filter.mpr ⟨List.mem_of_getElem? (i := 231) (by decide +kernel), rfl⟩
theorem kw_218 : Cond.fieldLink R_Se (18 : Nat) "StageSteps$Search" "givens" "LStageSteps$Givens;" ∈ zw_tbl := List.mem_filter.mpr ⟨List.mem_of_getElem? (i := 261) (by decide +kernel), rfl⟩
theorem kw_219 : Cond.fieldLink R_Se (22 : Nat) "StageSteps$Search" "plan" "LStageSteps$Plan;" ∈ zw_tbl := List.mem_filter.mpr ⟨List.mem_of_getElem? (i := 262) (by decide +kernel), rfl⟩
theorem kw_220 : Cond.fieldLink R_Se (26 : Nat) "StageSteps$Search" "walk" "LStageSteps$Walk;" ∈ zw_tbl := List.mem_filter.mpr ⟨List.mem_of_getElem? (i := 263) (by decide +kernel), rfl⟩
theorem kw_221 : Cond.fieldLink R_Se (9 : Nat) "StageSteps$Search" "tried" "[I" ∈ zw_tbl := List.mem_filter.mpr ⟨List.mem_of_getElem? (i := 264) (by decide +kernel), rfl⟩
theorem kw_222 : Cond.fieldLink R_Se (15 : Nat) "StageSteps$Search" "found" "[I" ∈ zw_tbl := List.mem_filter.mpr ⟨List.mem_of_getElem? (i := 265) (by decide +kernel), rfl⟩
theorem kw_223 : Cond.fieldLink R_SS (238 : Nat) "StageSteps$Search" "found" "[I" ∈ zw_tbl := List.mem_filter.mpr ⟨List.mem_of_getElem? (i := 266) (by decide +kernel), rfl⟩
theorem kw_224 : Cond.fieldLink R_Se (85 : Nat) "StageSteps$Search" "foundCount" "I" ∈ zw_tbl := List.mem_filter.mpr ⟨List.mem_of_getElem? (i := 267) (by decide +kernel), rfl⟩
theorem kw_225 : Cond.fieldLink R_SS (235 : Nat) "StageSteps$Search" "foundCount" "I" ∈ zw_tbl := List.mem_filter.mpr ⟨List.mem_of_getElem? (i := 268) (by decide +kernel), rfl⟩
theorem kw_226 : Cond.fieldLink R_Se (32 : Nat) "StageSteps$Search" "least" "J" ∈ zw_tbl := List.mem_filter.mpr ⟨List.mem_of_getElem? (i := 269) (by decide +kernel), rfl⟩
theorem kw_242 : Cond.fieldLink R_SS (55 : Nat) "StageSteps" "givens" "LStageSteps$Givens;" ∈ zw_tbl := List.mem_filter.mpr ⟨List.mem_of_getElem? (i := 285) (by decide +kernel), rfl⟩
theorem kw_243 : Cond.fieldLink R_SS (10 : Nat) "StageSteps" "creeps" "LStageSteps$Creeps;" ∈ zw_tbl := List.mem_filter.mpr ⟨List.mem_of_getElem? (i := 286) (by decide +kernel), rfl⟩
theorem kw_244 : Cond.fieldLink R_SS (19 : Nat) "StageSteps" "plan" "LStageSteps$Plan;" ∈ zw_tbl := List.mem_filter.mpr ⟨List.mem_of_getElem? (i := 287) (by decide +kernel), rfl⟩
theorem kw_245 : Cond.fieldLink R_SS (26 : Nat) "StageSteps" "rules" "LStageSteps$Rules;" ∈ zw_tbl := List.mem_filter.mpr ⟨List.mem_of_getElem? (i := 288) (by decide +kernel), rfl⟩
theorem kw_246 : Cond.fieldLink R_SS (64 : Nat) "StageSteps" "walk" "LStageSteps$Walk;" ∈ zw_tbl := List.mem_filter.mpr ⟨List.mem_of_getElem? (i := 289) (by decide +kernel), rfl⟩
theorem kw_247 : Cond.fieldLink R_SS (73 : Nat) "StageSteps" "search" "LStageSteps$Search;" ∈ zw_tbl := List.mem_filter.mpr ⟨List.mem_of_getElem? (i := 290) (by decide +kernel), rfl⟩
theorem kw_248 : Cond.fieldLink R_SS (30 : Nat) "StageSteps" "offsets" "[J" ∈ zw_tbl := List.mem_filter.mpr ⟨List.mem_of_getElem? (i := 291) (by decide +kernel), rfl⟩
theorem kw_249 : Cond.fieldLink R_SS (34 : Nat) "StageSteps" "casts" "[J" ∈ zw_tbl := List.mem_filter.mpr ⟨List.mem_of_getElem? (i := 292) (by decide +kernel), rfl⟩
theorem kw_250 : Cond.fieldLink R_SS (37 : Nat) "StageSteps" "mostMillimetres" "I" ∈ zw_tbl := List.mem_filter.mpr ⟨List.mem_of_getElem? (i := 293) (by decide +kernel), rfl⟩
theorem kw_274 : Cond.methodLink R_SS (77 : Nat) y_Gi_hasPart ∈ zw_tbl := List.mem_filter.mpr ⟨List.mem_of_getElem? (i := 317) (by decide +kernel), rfl⟩
theorem kw_275 : Cond.instanceMethod y_Gi_hasPart ∈ zw_tbl := List.mem_filter.mpr ⟨List.mem_of_getElem? (i := 318) (by decide +kernel), rfl⟩
theorem kw_276 : Cond.selects R_Gi y_Gi_hasPart y_Gi_hasPart ∈ zw_tbl := List.mem_filter.mpr ⟨List.mem_of_getElem? (i := 319) (by decide +kernel), rfl⟩
theorem kw_277 : Cond.code y_Gi_hasPart b_Gi_hasPart (2 : Nat) (Option.some FieldType.boolean) ∈ zw_tbl := List.mem_filter.mpr ⟨List.mem_of_getElem? (i := 320) (by decide +kernel), rfl⟩
theorem kw_279 : Cond.static y_SS_within ∈ zw_tbl := List.mem_filter.mpr ⟨List.mem_of_getElem? (i := 322) (by decide +kernel), rfl⟩
theorem kw_280 : Cond.code y_SS_within b_SS_within (3 : Nat) (Option.some FieldType.boolean) ∈ zw_tbl := List.mem_filter.mpr ⟨List.mem_of_getElem? (i := 323) (by decide +kernel), rfl⟩
theorem kw_281 : Cond.methodLink R_SS (81 : Nat) y_SS_within ∈ zw_tbl := List.mem_filter.mpr ⟨List.mem_of_getElem? (i := 324) (by decide +kernel), rfl⟩
theorem kw_288 : Cond.methodLink R_SS (94 : Nat) y_SS_isFactor ∈ zw_tbl := List.mem_filter.mpr ⟨List.mem_of_getElem? (i := 331) (by decide +kernel), rfl⟩
theorem kw_289 : Cond.static y_SS_isFactor ∈ zw_tbl := List.mem_filter.mpr ⟨List.mem_of_getElem? (i := 332) (by decide +kernel), rfl⟩
theorem kw_290 : Cond.code y_SS_isFactor b_SS_isFactor (1 : Nat) (Option.some FieldType.boolean) ∈ zw_tbl := List.mem_filter.mpr ⟨List.mem_of_getElem? (i := 333) (by decide +kernel), rfl⟩
theorem kw_295 : Cond.methodLink R_SS (101 : Nat) y_SS_isSupport ∈ zw_tbl := List.mem_filter.mpr ⟨List.mem_of_getElem? (i := 338) (by decide +kernel), rfl⟩
theorem kw_296 : Cond.static y_SS_isSupport ∈ zw_tbl := List.mem_filter.mpr ⟨List.mem_of_getElem? (i := 339) (by decide +kernel), rfl⟩
theorem kw_297 : Cond.code y_SS_isSupport b_SS_isSupport (1 : Nat) (Option.some FieldType.boolean) ∈ zw_tbl := List.mem_filter.mpr ⟨List.mem_of_getElem? (i := 340) (by decide +kernel), rfl⟩
theorem kw_306 : Cond.methodLink R_SS (110 : Nat) y_Cr_tell ∈ zw_tbl := List.mem_filter.mpr ⟨List.mem_of_getElem? (i := 349) (by decide +kernel), rfl⟩
theorem kw_307 : Cond.instanceMethod y_Cr_tell ∈ zw_tbl := List.mem_filter.mpr ⟨List.mem_of_getElem? (i := 350) (by decide +kernel), rfl⟩
theorem kw_308 : Cond.selects R_Cr y_Cr_tell y_Cr_tell ∈ zw_tbl := List.mem_filter.mpr ⟨List.mem_of_getElem? (i := 351) (by decide +kernel), rfl⟩
theorem kw_309 : Cond.code y_Cr_tell b_Cr_tell (3 : Nat) (Option.some FieldType.boolean) ∈ zw_tbl := List.mem_filter.mpr ⟨List.mem_of_getElem? (i := 352) (by decide +kernel), rfl⟩
theorem kw_315 : Cond.methodLink R_SS (114 : Nat) y_Gi_mustFollow ∈ zw_tbl := List.mem_filter.mpr ⟨List.mem_of_getElem? (i := 358) (by decide +kernel), rfl⟩
theorem kw_316 : Cond.instanceMethod y_Gi_mustFollow ∈ zw_tbl := List.mem_filter.mpr ⟨List.mem_of_getElem? (i := 359) (by decide +kernel), rfl⟩
theorem kw_317 : Cond.selects R_Gi y_Gi_mustFollow y_Gi_mustFollow ∈ zw_tbl := List.mem_filter.mpr ⟨List.mem_of_getElem? (i := 360) (by decide +kernel), rfl⟩
theorem kw_318 : Cond.code y_Gi_mustFollow b_Gi_mustFollow (3 : Nat) (Option.some FieldType.boolean) ∈ zw_tbl := List.mem_filter.mpr ⟨List.mem_of_getElem? (i := 361) (by decide +kernel), rfl⟩
theorem kw_320 : Cond.static y_SS_hasBit ∈ zw_tbl := List.mem_filter.mpr ⟨List.mem_of_getElem? (i := 363) (by decide +kernel), rfl⟩
theorem kw_321 : Cond.code y_SS_hasBit b_SS_hasBit (2 : Nat) (Option.some FieldType.boolean) ∈ zw_tbl := List.mem_filter.mpr ⟨List.mem_of_getElem? (i := 364) (by decide +kernel), rfl⟩
theorem kw_322 : Cond.methodLink R_SS (117 : Nat) y_Pl_placeOf ∈ zw_tbl := List.mem_filter.mpr ⟨List.mem_of_getElem? (i := 365) (by decide +kernel), rfl⟩
theorem kw_323 : Cond.instanceMethod y_Pl_placeOf ∈ zw_tbl := List.mem_filter.mpr ⟨List.mem_of_getElem? (i := 366) (by decide +kernel), rfl⟩
theorem kw_324 : Cond.selects R_Pl y_Pl_placeOf y_Pl_placeOf ∈ zw_tbl := List.mem_filter.mpr ⟨List.mem_of_getElem? (i := 367) (by decide +kernel), rfl⟩
theorem kw_325 : Cond.code y_Pl_placeOf b_Pl_placeOf (3 : Nat) (Option.some FieldType.int) ∈ zw_tbl := List.mem_filter.mpr ⟨List.mem_of_getElem? (i := 368) (by decide +kernel), rfl⟩
theorem kw_326 : Cond.methodLink R_SS (121 : Nat) y_Gi_follow ∈ zw_tbl := List.mem_filter.mpr ⟨List.mem_of_getElem? (i := 369) (by decide +kernel), rfl⟩
theorem kw_327 : Cond.instanceMethod y_Gi_follow ∈ zw_tbl := List.mem_filter.mpr ⟨List.mem_of_getElem? (i := 370) (by decide +kernel), rfl⟩
theorem kw_328 : Cond.selects R_Gi y_Gi_follow y_Gi_follow ∈ zw_tbl := List.mem_filter.mpr ⟨List.mem_of_getElem? (i := 371) (by decide +kernel), rfl⟩
theorem kw_329 : Cond.code y_Gi_follow b_Gi_follow (5 : Nat) (Option.none : Option FieldType) ∈ zw_tbl := List.mem_filter.mpr ⟨List.mem_of_getElem? (i := 372) (by decide +kernel), rfl⟩
theorem kw_330 : Cond.methodLink R_Gi (44 : Nat) y_Gi_mustFollow ∈ zw_tbl := List.mem_filter.mpr ⟨List.mem_of_getElem? (i := 373) (by decide +kernel), rfl⟩
theorem kw_335 : Cond.methodLink R_SS (125 : Nat) y_Pl_takesStage ∈ zw_tbl := List.mem_filter.mpr ⟨List.mem_of_getElem? (i := 378) (by decide +kernel), rfl⟩
theorem kw_336 : Cond.instanceMethod y_Pl_takesStage ∈ zw_tbl := List.mem_filter.mpr ⟨List.mem_of_getElem? (i := 379) (by decide +kernel), rfl⟩
theorem kw_337 : Cond.selects R_Pl y_Pl_takesStage y_Pl_takesStage ∈ zw_tbl := List.mem_filter.mpr ⟨List.mem_of_getElem? (i := 380) (by decide +kernel), rfl⟩
theorem kw_338 : Cond.code y_Pl_takesStage b_Pl_takesStage (2 : Nat) (Option.some FieldType.boolean) ∈ zw_tbl := List.mem_filter.mpr ⟨List.mem_of_getElem? (i := 381) (by decide +kernel), rfl⟩
theorem kw_340 : Cond.methodLink R_Pl (47 : Nat) y_Pl_lastDay ∈ zw_tbl := List.mem_filter.mpr ⟨List.mem_of_getElem? (i := 383) (by decide +kernel), rfl⟩
theorem kw_341 : Cond.instanceMethod y_Pl_lastDay ∈ zw_tbl := List.mem_filter.mpr ⟨List.mem_of_getElem? (i := 384) (by decide +kernel), rfl⟩
theorem kw_342 : Cond.selects R_Pl y_Pl_lastDay y_Pl_lastDay ∈ zw_tbl := List.mem_filter.mpr ⟨List.mem_of_getElem? (i := 385) (by decide +kernel), rfl⟩
theorem kw_343 : Cond.code y_Pl_lastDay b_Pl_lastDay (1 : Nat) (Option.some FieldType.int) ∈ zw_tbl := List.mem_filter.mpr ⟨List.mem_of_getElem? (i := 386) (by decide +kernel), rfl⟩
theorem kw_345 : Cond.methodLink R_SS (130 : Nat) y_Pl_openStage ∈ zw_tbl := List.mem_filter.mpr ⟨List.mem_of_getElem? (i := 388) (by decide +kernel), rfl⟩
theorem kw_346 : Cond.instanceMethod y_Pl_openStage ∈ zw_tbl := List.mem_filter.mpr ⟨List.mem_of_getElem? (i := 389) (by decide +kernel), rfl⟩
theorem kw_347 : Cond.selects R_Pl y_Pl_openStage y_Pl_openStage ∈ zw_tbl := List.mem_filter.mpr ⟨List.mem_of_getElem? (i := 390) (by decide +kernel), rfl⟩
theorem kw_348 : Cond.code y_Pl_openStage b_Pl_openStage (2 : Nat) (Option.some FieldType.int) ∈ zw_tbl := List.mem_filter.mpr ⟨List.mem_of_getElem? (i := 391) (by decide +kernel), rfl⟩
theorem kw_349 : Cond.methodLink R_Pl (57 : Nat) y_Pl_forgetPassedEnd ∈ zw_tbl := List.mem_filter.mpr ⟨List.mem_of_getElem? (i := 392) (by decide +kernel), rfl⟩
theorem kw_351 : Cond.instanceMethod y_Pl_forgetPassedEnd ∈ zw_tbl := List.mem_filter.mpr ⟨List.mem_of_getElem? (i := 394) (by decide +kernel), rfl⟩
theorem kw_352 : Cond.code y_Pl_forgetPassedEnd b_Pl_forgetPassedEnd (1 : Nat) (Option.none : Option FieldType) ∈ zw_tbl := List.mem_filter.mpr ⟨List.mem_of_getElem? (i := 395) (by decide +kernel), rfl⟩
theorem kw_357 : Cond.methodLink R_SS (133 : Nat) y_Pl_takesPart ∈ zw_tbl := List.mem_filter.mpr ⟨List.mem_of_getElem? (i := 400) (by decide +kernel), rfl⟩
theorem kw_358 : Cond.instanceMethod y_Pl_takesPart ∈ zw_tbl := List.mem_filter.mpr ⟨List.mem_of_getElem? (i := 401) (by decide +kernel), rfl⟩
theorem kw_359 : Cond.selects R_Pl y_Pl_takesPart y_Pl_takesPart ∈ zw_tbl := List.mem_filter.mpr ⟨List.mem_of_getElem? (i := 402) (by decide +kernel), rfl⟩
theorem kw_360 : Cond.code y_Pl_takesPart b_Pl_takesPart (2 : Nat) (Option.some FieldType.boolean) ∈ zw_tbl := List.mem_filter.mpr ⟨List.mem_of_getElem? (i := 403) (by decide +kernel), rfl⟩
theorem kw_361 : Cond.methodLink R_Pl (60 : Nat) y_Pl_hasRoom ∈ zw_tbl := List.mem_filter.mpr ⟨List.mem_of_getElem? (i := 404) (by decide +kernel), rfl⟩
theorem kw_362 : Cond.instanceMethod y_Pl_hasRoom ∈ zw_tbl := List.mem_filter.mpr ⟨List.mem_of_getElem? (i := 405) (by decide +kernel), rfl⟩
theorem kw_363 : Cond.selects R_Pl y_Pl_hasRoom y_Pl_hasRoom ∈ zw_tbl := List.mem_filter.mpr ⟨List.mem_of_getElem? (i := 406) (by decide +kernel), rfl⟩
theorem kw_364 : Cond.code y_Pl_hasRoom b_Pl_hasRoom (1 : Nat) (Option.some FieldType.boolean) ∈ zw_tbl := List.mem_filter.mpr ⟨List.mem_of_getElem? (i := 407) (by decide +kernel), rfl⟩
theorem kw_365 : Cond.methodLink R_Pl (67 : Nat) y_Pl_placeOf ∈ zw_tbl := List.mem_filter.mpr ⟨List.mem_of_getElem? (i := 408) (by decide +kernel), rfl⟩
theorem kw_366 : Cond.methodLink R_SS (136 : Nat) y_Pl_partBits ∈ zw_tbl := List.mem_filter.mpr ⟨List.mem_of_getElem? (i := 409) (by decide +kernel), rfl⟩
theorem kw_367 : Cond.instanceMethod y_Pl_partBits ∈ zw_tbl := List.mem_filter.mpr ⟨List.mem_of_getElem? (i := 410) (by decide +kernel), rfl⟩
theorem kw_368 : Cond.selects R_Pl y_Pl_partBits y_Pl_partBits ∈ zw_tbl := List.mem_filter.mpr ⟨List.mem_of_getElem? (i := 411) (by decide +kernel), rfl⟩
theorem kw_369 : Cond.code y_Pl_partBits b_Pl_partBits (3 : Nat) (Option.some FieldType.int) ∈ zw_tbl := List.mem_filter.mpr ⟨List.mem_of_getElem? (i := 412) (by decide +kernel), rfl⟩
theorem kw_370 : Cond.methodLink R_SS (140 : Nat) y_Gi_mayFollow ∈ zw_tbl := List.mem_filter.mpr ⟨List.mem_of_getElem? (i := 413) (by decide +kernel), rfl⟩
theorem kw_371 : Cond.instanceMethod y_Gi_mayFollow ∈ zw_tbl := List.mem_filter.mpr ⟨List.mem_of_getElem? (i := 414) (by decide +kernel), rfl⟩
theorem kw_372 : Cond.selects R_Gi y_Gi_mayFollow y_Gi_mayFollow ∈ zw_tbl := List.mem_filter.mpr ⟨List.mem_of_getElem? (i := 415) (by decide +kernel), rfl⟩
theorem kw_373 : Cond.code y_Gi_mayFollow b_Gi_mayFollow (3 : Nat) (Option.some FieldType.boolean) ∈ zw_tbl := List.mem_filter.mpr ⟨List.mem_of_getElem? (i := 416) (by decide +kernel), rfl⟩
theorem kw_374 : Cond.methodLink R_SS (143 : Nat) y_Pl_putPart ∈ zw_tbl := List.mem_filter.mpr ⟨List.mem_of_getElem? (i := 417) (by decide +kernel), rfl⟩
theorem kw_375 : Cond.instanceMethod y_Pl_putPart ∈ zw_tbl := List.mem_filter.mpr ⟨List.mem_of_getElem? (i := 418) (by decide +kernel), rfl⟩
theorem kw_376 : Cond.selects R_Pl y_Pl_putPart y_Pl_putPart ∈ zw_tbl := List.mem_filter.mpr ⟨List.mem_of_getElem? (i := 419) (by decide +kernel), rfl⟩
theorem kw_377 : Cond.code y_Pl_putPart b_Pl_putPart (2 : Nat) (Option.none : Option FieldType) ∈ zw_tbl := List.mem_filter.mpr ⟨List.mem_of_getElem? (i := 420) (by decide +kernel), rfl⟩
theorem kw_378 : Cond.methodLink R_Pl (71 : Nat) y_Pl_putAct ∈ zw_tbl := List.mem_filter.mpr ⟨List.mem_of_getElem? (i := 421) (by decide +kernel), rfl⟩
theorem kw_379 : Cond.instanceMethod y_Pl_putAct ∈ zw_tbl := List.mem_filter.mpr ⟨List.mem_of_getElem? (i := 422) (by decide +kernel), rfl⟩
theorem kw_380 : Cond.selects R_Pl y_Pl_putAct y_Pl_putAct ∈ zw_tbl := List.mem_filter.mpr ⟨List.mem_of_getElem? (i := 423) (by decide +kernel), rfl⟩
theorem kw_381 : Cond.code y_Pl_putAct b_Pl_putAct (4 : Nat) (Option.none : Option FieldType) ∈ zw_tbl := List.mem_filter.mpr ⟨List.mem_of_getElem? (i := 424) (by decide +kernel), rfl⟩
theorem kw_386 : Cond.methodLink R_SS (146 : Nat) y_Pl_hasRoom ∈ zw_tbl := List.mem_filter.mpr ⟨List.mem_of_getElem? (i := 429) (by decide +kernel), rfl⟩
theorem kw_387 : Cond.methodLink R_SS (150 : Nat) y_Pl_putAct ∈ zw_tbl := List.mem_filter.mpr ⟨List.mem_of_getElem? (i := 430) (by decide +kernel), rfl⟩
theorem kw_392 : Cond.methodLink R_SS (154 : Nat) y_Pl_onBits ∈ zw_tbl := List.mem_filter.mpr ⟨List.mem_of_getElem? (i := 435) (by decide +kernel), rfl⟩
theorem kw_393 : Cond.instanceMethod y_Pl_onBits ∈ zw_tbl := List.mem_filter.mpr ⟨List.mem_of_getElem? (i := 436) (by decide +kernel), rfl⟩
theorem kw_394 : Cond.selects R_Pl y_Pl_onBits y_Pl_onBits ∈ zw_tbl := List.mem_filter.mpr ⟨List.mem_of_getElem? (i := 437) (by decide +kernel), rfl⟩
theorem kw_395 : Cond.code y_Pl_onBits b_Pl_onBits (3 : Nat) (Option.some FieldType.int) ∈ zw_tbl := List.mem_filter.mpr ⟨List.mem_of_getElem? (i := 438) (by decide +kernel), rfl⟩
theorem kw_396 : Cond.methodLink R_SS (157 : Nat) y_SS_hasBit ∈ zw_tbl := List.mem_filter.mpr ⟨List.mem_of_getElem? (i := 439) (by decide +kernel), rfl⟩
theorem kw_401 : Cond.methodLink R_SS (163 : Nat) y_Pl_lastDay ∈ zw_tbl := List.mem_filter.mpr ⟨List.mem_of_getElem? (i := 444) (by decide +kernel), rfl⟩
theorem kw_407 : Cond.methodLink R_SS (170 : Nat) y_SS_isThere ∈ zw_tbl := List.mem_filter.mpr ⟨List.mem_of_getElem? (i := 450) (by decide +kernel), rfl⟩
theorem kw_409 : Cond.instanceMethod y_SS_isThere ∈ zw_tbl := List.mem_filter.mpr ⟨List.mem_of_getElem? (i := 452) (by decide +kernel), rfl⟩
theorem kw_410 : Cond.code y_SS_isThere b_SS_isThere (4 : Nat) (Option.some FieldType.boolean) ∈ zw_tbl := List.mem_filter.mpr ⟨List.mem_of_getElem? (i := 453) (by decide +kernel), rfl⟩
theorem kw_411 : Cond.methodLink R_SS (186 : Nat) y_Pl_hasStage ∈ zw_tbl := List.mem_filter.mpr ⟨List.mem_of_getElem? (i := 454) (by decide +kernel), rfl⟩
theorem kw_412 : Cond.instanceMethod y_Pl_hasStage ∈ zw_tbl := List.mem_filter.mpr ⟨List.mem_of_getElem? (i := 455) (by decide +kernel), rfl⟩
theorem kw_413 : Cond.selects R_Pl y_Pl_hasStage y_Pl_hasStage ∈ zw_tbl := List.mem_filter.mpr ⟨List.mem_of_getElem? (i := 456) (by decide +kernel), rfl⟩
theorem kw_414 : Cond.code y_Pl_hasStage b_Pl_hasStage (2 : Nat) (Option.some FieldType.boolean) ∈ zw_tbl := List.mem_filter.mpr ⟨List.mem_of_getElem? (i := 457) (by decide +kernel), rfl⟩
theorem kw_415 : Cond.methodLink R_SS (183 : Nat) y_Pl_stageOf ∈ zw_tbl := List.mem_filter.mpr ⟨List.mem_of_getElem? (i := 458) (by decide +kernel), rfl⟩
theorem kw_416 : Cond.instanceMethod y_Pl_stageOf ∈ zw_tbl := List.mem_filter.mpr ⟨List.mem_of_getElem? (i := 459) (by decide +kernel), rfl⟩
theorem kw_417 : Cond.selects R_Pl y_Pl_stageOf y_Pl_stageOf ∈ zw_tbl := List.mem_filter.mpr ⟨List.mem_of_getElem? (i := 460) (by decide +kernel), rfl⟩
theorem kw_418 : Cond.code y_Pl_stageOf b_Pl_stageOf (3 : Nat) (Option.some FieldType.int) ∈ zw_tbl := List.mem_filter.mpr ⟨List.mem_of_getElem? (i := 461) (by decide +kernel), rfl⟩
theorem kw_419 : Cond.methodLink R_SS (173 : Nat) y_SS_levelThen ∈ zw_tbl := List.mem_filter.mpr ⟨List.mem_of_getElem? (i := 462) (by decide +kernel), rfl⟩
theorem kw_421 : Cond.instanceMethod y_SS_levelThen ∈ zw_tbl := List.mem_filter.mpr ⟨List.mem_of_getElem? (i := 464) (by decide +kernel), rfl⟩
theorem kw_422 : Cond.code y_SS_levelThen b_SS_levelThen (3 : Nat) (Option.some FieldType.long) ∈ zw_tbl := List.mem_filter.mpr ⟨List.mem_of_getElem? (i := 465) (by decide +kernel), rfl⟩
theorem kw_423 : Cond.methodLink R_SS (177 : Nat) y_SS_castAll ∈ zw_tbl := List.mem_filter.mpr ⟨List.mem_of_getElem? (i := 466) (by decide +kernel), rfl⟩
theorem kw_425 : Cond.instanceMethod y_SS_castAll ∈ zw_tbl := List.mem_filter.mpr ⟨List.mem_of_getElem? (i := 468) (by decide +kernel), rfl⟩
theorem kw_426 : Cond.code y_SS_castAll b_SS_castAll (2 : Nat) (Option.none : Option FieldType) ∈ zw_tbl := List.mem_filter.mpr ⟨List.mem_of_getElem? (i := 469) (by decide +kernel), rfl⟩
theorem kw_427 : Cond.methodLink R_SS (244 : Nat) y_Pl_endDay ∈ zw_tbl := List.mem_filter.mpr ⟨List.mem_of_getElem? (i := 470) (by decide +kernel), rfl⟩
theorem kw_428 : Cond.instanceMethod y_Pl_endDay ∈ zw_tbl := List.mem_filter.mpr ⟨List.mem_of_getElem? (i := 471) (by decide +kernel), rfl⟩
theorem kw_429 : Cond.selects R_Pl y_Pl_endDay y_Pl_endDay ∈ zw_tbl := List.mem_filter.mpr ⟨List.mem_of_getElem? (i := 472) (by decide +kernel), rfl⟩
theorem kw_430 : Cond.code y_Pl_endDay b_Pl_endDay (1 : Nat) (Option.some FieldType.int) ∈ zw_tbl := List.mem_filter.mpr ⟨List.mem_of_getElem? (i := 473) (by decide +kernel), rfl⟩
theorem kw_431 : Cond.methodLink R_Pl (51 : Nat) y_Math_maxi ∈ zw_tbl := List.mem_filter.mpr ⟨List.mem_of_getElem? (i := 474) (by decide +kernel), rfl⟩
theorem kw_432 : Cond.methodLink R_SS (251 : Nat) y_Wa_aim ∈ zw_tbl := List.mem_filter.mpr ⟨List.mem_of_getElem? (i := 475) (by decide +kernel), rfl⟩
theorem kw_433 : Cond.instanceMethod y_Wa_aim ∈ zw_tbl := List.mem_filter.mpr ⟨List.mem_of_getElem? (i := 476) (by decide +kernel), rfl⟩
theorem kw_434 : Cond.selects R_Wa y_Wa_aim y_Wa_aim ∈ zw_tbl := List.mem_filter.mpr ⟨List.mem_of_getElem? (i := 477) (by decide +kernel), rfl⟩
theorem kw_435 : Cond.code y_Wa_aim b_Wa_aim (5 : Nat) (Option.none : Option FieldType) ∈ zw_tbl := List.mem_filter.mpr ⟨List.mem_of_getElem? (i := 478) (by decide +kernel), rfl⟩
theorem kw_436 : Cond.methodLink R_Wa (54 : Nat) y_Cr_at ∈ zw_tbl := List.mem_filter.mpr ⟨List.mem_of_getElem? (i := 479) (by decide +kernel), rfl⟩
theorem kw_437 : Cond.instanceMethod y_Cr_at ∈ zw_tbl := List.mem_filter.mpr ⟨List.mem_of_getElem? (i := 480) (by decide +kernel), rfl⟩
theorem kw_438 : Cond.selects R_Cr y_Cr_at y_Cr_at ∈ zw_tbl := List.mem_filter.mpr ⟨List.mem_of_getElem? (i := 481) (by decide +kernel), rfl⟩
theorem kw_439 : Cond.code y_Cr_at b_Cr_at (4 : Nat) (Option.some FieldType.int) ∈ zw_tbl := List.mem_filter.mpr ⟨List.mem_of_getElem? (i := 482) (by decide +kernel), rfl⟩
theorem kw_440 : Cond.methodLink R_SS (257 : Nat) y_Wa_go ∈ zw_tbl := List.mem_filter.mpr ⟨List.mem_of_getElem? (i := 483) (by decide +kernel), rfl⟩
theorem kw_441 : Cond.instanceMethod y_Wa_go ∈ zw_tbl := List.mem_filter.mpr ⟨List.mem_of_getElem? (i := 484) (by decide +kernel), rfl⟩
theorem kw_442 : Cond.selects R_Wa y_Wa_go y_Wa_go ∈ zw_tbl := List.mem_filter.mpr ⟨List.mem_of_getElem? (i := 485) (by decide +kernel), rfl⟩
theorem kw_443 : Cond.code y_Wa_go b_Wa_go (6 : Nat) (Option.some FieldType.boolean) ∈ zw_tbl := List.mem_filter.mpr ⟨List.mem_of_getElem? (i := 486) (by decide +kernel), rfl⟩
theorem kw_444 : Cond.methodLink R_Wa (60 : Nat) y_Wa_begin ∈ zw_tbl := List.mem_filter.mpr ⟨List.mem_of_getElem? (i := 487) (by decide +kernel), rfl⟩
theorem kw_446 : Cond.instanceMethod y_Wa_begin ∈ zw_tbl := List.mem_filter.mpr ⟨List.mem_of_getElem? (i := 489) (by decide +kernel), rfl⟩
theorem kw_447 : Cond.code y_Wa_begin b_Wa_begin (3 : Nat) (Option.none : Option FieldType) ∈ zw_tbl := List.mem_filter.mpr ⟨List.mem_of_getElem? (i := 490) (by decide +kernel), rfl⟩
theorem kw_448 : Cond.methodLink R_Wa (115 : Nat) y_Arr_fill_l ∈ zw_tbl := List.mem_filter.mpr ⟨List.mem_of_getElem? (i := 491) (by decide +kernel), rfl⟩
theorem kw_449 : Cond.static y_Arr_fill_l ∈ zw_tbl := List.mem_filter.mpr ⟨List.mem_of_getElem? (i := 492) (by decide +kernel), rfl⟩
theorem kw_450 : Cond.code y_Arr_fill_l b_Arr_fill_l (5 : Nat) (Option.none : Option FieldType) ∈ zw_tbl := List.mem_filter.mpr ⟨List.mem_of_getElem? (i := 493) (by decide +kernel), rfl⟩
theorem kw_451 : Cond.methodLink R_Wa (121 : Nat) y_Arr_fill_i ∈ zw_tbl := List.mem_filter.mpr ⟨List.mem_of_getElem? (i := 494) (by decide +kernel), rfl⟩
theorem kw_452 : Cond.static y_Arr_fill_i ∈ zw_tbl := List.mem_filter.mpr ⟨List.mem_of_getElem? (i := 495) (by decide +kernel), rfl⟩
theorem kw_453 : Cond.code y_Arr_fill_i b_Arr_fill_i (4 : Nat) (Option.none : Option FieldType) ∈ zw_tbl := List.mem_filter.mpr ⟨List.mem_of_getElem? (i := 496) (by decide +kernel), rfl⟩
theorem kw_454 : Cond.methodLink R_Wa (76 : Nat) y_Wa_comeIn ∈ zw_tbl := List.mem_filter.mpr ⟨List.mem_of_getElem? (i := 497) (by decide +kernel), rfl⟩
theorem kw_456 : Cond.instanceMethod y_Wa_comeIn ∈ zw_tbl := List.mem_filter.mpr ⟨List.mem_of_getElem? (i := 499) (by decide +kernel), rfl⟩
theorem kw_457 : Cond.code y_Wa_comeIn b_Wa_comeIn (3 : Nat) (Option.none : Option FieldType) ∈ zw_tbl := List.mem_filter.mpr ⟨List.mem_of_getElem? (i := 500) (by decide +kernel), rfl⟩
theorem kw_458 : Cond.methodLink R_Wa (90 : Nat) y_Wa_press ∈ zw_tbl := List.mem_filter.mpr ⟨List.mem_of_getElem? (i := 501) (by decide +kernel), rfl⟩
theorem kw_460 : Cond.instanceMethod y_Wa_press ∈ zw_tbl := List.mem_filter.mpr ⟨List.mem_of_getElem? (i := 503) (by decide +kernel), rfl⟩
theorem kw_461 : Cond.code y_Wa_press b_Wa_press (5 : Nat) (Option.none : Option FieldType) ∈ zw_tbl := List.mem_filter.mpr ⟨List.mem_of_getElem? (i := 504) (by decide +kernel), rfl⟩
theorem kw_463 : Cond.methodLink R_Wa (138 : Nat) y_Wa_lift ∈ zw_tbl := List.mem_filter.mpr ⟨List.mem_of_getElem? (i := 506) (by decide +kernel), rfl⟩
theorem kw_465 : Cond.instanceMethod y_Wa_lift ∈ zw_tbl := List.mem_filter.mpr ⟨List.mem_of_getElem? (i := 508) (by decide +kernel), rfl⟩
theorem kw_466 : Cond.code y_Wa_lift b_Wa_lift (5 : Nat) (Option.none : Option FieldType) ∈ zw_tbl := List.mem_filter.mpr ⟨List.mem_of_getElem? (i := 509) (by decide +kernel), rfl⟩
theorem kw_468 : Cond.methodLink R_Wa (97 : Nat) y_Wa_letGo ∈ zw_tbl := List.mem_filter.mpr ⟨List.mem_of_getElem? (i := 511) (by decide +kernel), rfl⟩
theorem kw_470 : Cond.instanceMethod y_Wa_letGo ∈ zw_tbl := List.mem_filter.mpr ⟨List.mem_of_getElem? (i := 513) (by decide +kernel), rfl⟩
theorem kw_471 : Cond.code y_Wa_letGo b_Wa_letGo (4 : Nat) (Option.none : Option FieldType) ∈ zw_tbl := List.mem_filter.mpr ⟨List.mem_of_getElem? (i := 514) (by decide +kernel), rfl⟩
theorem kw_473 : Cond.methodLink R_SS (189 : Nat) y_SS_walkTo ∈ zw_tbl := List.mem_filter.mpr ⟨List.mem_of_getElem? (i := 516) (by decide +kernel), rfl⟩
theorem kw_475 : Cond.instanceMethod y_SS_walkTo ∈ zw_tbl := List.mem_filter.mpr ⟨List.mem_of_getElem? (i := 518) (by decide +kernel), rfl⟩
theorem kw_476 : Cond.code y_SS_walkTo b_SS_walkTo (2 : Nat) (Option.none : Option FieldType) ∈ zw_tbl := List.mem_filter.mpr ⟨List.mem_of_getElem? (i := 519) (by decide +kernel), rfl⟩
theorem kw_477 : Cond.methodLink R_SS (247 : Nat) y_SS_heightNow ∈ zw_tbl := List.mem_filter.mpr ⟨List.mem_of_getElem? (i := 520) (by decide +kernel), rfl⟩
theorem kw_479 : Cond.instanceMethod y_SS_heightNow ∈ zw_tbl := List.mem_filter.mpr ⟨List.mem_of_getElem? (i := 522) (by decide +kernel), rfl⟩
theorem kw_480 : Cond.code y_SS_heightNow b_SS_heightNow (2 : Nat) (Option.some FieldType.long) ∈ zw_tbl := List.mem_filter.mpr ⟨List.mem_of_getElem? (i := 523) (by decide +kernel), rfl⟩
theorem kw_495 : Cond.methodLink R_SS (199 : Nat) y_SS_spread ∈ zw_tbl := List.mem_filter.mpr ⟨List.mem_of_getElem? (i := 538) (by decide +kernel), rfl⟩
theorem kw_497 : Cond.instanceMethod y_SS_spread ∈ zw_tbl := List.mem_filter.mpr ⟨List.mem_of_getElem? (i := 540) (by decide +kernel), rfl⟩
theorem kw_498 : Cond.code y_SS_spread b_SS_spread (7 : Nat) (Option.none : Option FieldType) ∈ zw_tbl := List.mem_filter.mpr ⟨List.mem_of_getElem? (i := 541) (by decide +kernel), rfl⟩
theorem kw_499 : Cond.methodLink R_SS (267 : Nat) y_SS_towardsZero ∈ zw_tbl := List.mem_filter.mpr ⟨List.mem_of_getElem? (i := 542) (by decide +kernel), rfl⟩
theorem kw_500 : Cond.static y_SS_towardsZero ∈ zw_tbl := List.mem_filter.mpr ⟨List.mem_of_getElem? (i := 543) (by decide +kernel), rfl⟩
theorem kw_501 : Cond.code y_SS_towardsZero b_SS_towardsZero (4 : Nat) (Option.some FieldType.long) ∈ zw_tbl := List.mem_filter.mpr ⟨List.mem_of_getElem? (i := 544) (by decide +kernel), rfl⟩
theorem kw_502 : Cond.methodLink R_SS (271 : Nat) y_Math_minl ∈ zw_tbl := List.mem_filter.mpr ⟨List.mem_of_getElem? (i := 545) (by decide +kernel), rfl⟩
theorem kw_503 : Cond.static y_Math_minl ∈ zw_tbl := List.mem_filter.mpr ⟨List.mem_of_getElem? (i := 546) (by decide +kernel), rfl⟩
theorem kw_504 : Cond.code y_Math_minl prog_10_method_70_code (4 : Nat) (Option.some FieldType.long) ∈ zw_tbl := List.mem_filter.mpr ⟨List.mem_of_getElem? (i := 547) (by decide +kernel), rfl⟩
theorem kw_505 : Cond.methodLink R_SS (273 : Nat) y_Math_maxl ∈ zw_tbl := List.mem_filter.mpr ⟨List.mem_of_getElem? (i := 548) (by decide +kernel), rfl⟩
theorem kw_506 : Cond.static y_Math_maxl ∈ zw_tbl := List.mem_filter.mpr ⟨List.mem_of_getElem? (i := 549) (by decide +kernel), rfl⟩
theorem kw_507 : Cond.code y_Math_maxl prog_10_method_66_code (4 : Nat) (Option.some FieldType.long) ∈ zw_tbl := List.mem_filter.mpr ⟨List.mem_of_getElem? (i := 550) (by decide +kernel), rfl⟩
theorem kw_516 : Cond.methodLink R_SS (203 : Nat) y_SS_isRuled ∈ zw_tbl := List.mem_filter.mpr ⟨List.mem_of_getElem? (i := 559) (by decide +kernel), rfl⟩
theorem kw_518 : Cond.instanceMethod y_SS_isRuled ∈ zw_tbl := List.mem_filter.mpr ⟨List.mem_of_getElem? (i := 561) (by decide +kernel), rfl⟩
theorem kw_519 : Cond.code y_SS_isRuled b_SS_isRuled (3 : Nat) (Option.some FieldType.boolean) ∈ zw_tbl := List.mem_filter.mpr ⟨List.mem_of_getElem? (i := 562) (by decide +kernel), rfl⟩
theorem kw_520 : Cond.methodLink R_SS (209 : Nat) y_Ru_put ∈ zw_tbl := List.mem_filter.mpr ⟨List.mem_of_getElem? (i := 563) (by decide +kernel), rfl⟩
theorem kw_521 : Cond.instanceMethod y_Ru_put ∈ zw_tbl := List.mem_filter.mpr ⟨List.mem_of_getElem? (i := 564) (by decide +kernel), rfl⟩
theorem kw_522 : Cond.selects R_Ru y_Ru_put y_Ru_put ∈ zw_tbl := List.mem_filter.mpr ⟨List.mem_of_getElem? (i := 565) (by decide +kernel), rfl⟩
theorem kw_523 : Cond.code y_Ru_put b_Ru_put (5 : Nat) (Option.some FieldType.int) ∈ zw_tbl := List.mem_filter.mpr ⟨List.mem_of_getElem? (i := 566) (by decide +kernel), rfl⟩
theorem kw_528 : Cond.methodLink R_SS (213 : Nat) y_SS_firstBroken ∈ zw_tbl := List.mem_filter.mpr ⟨List.mem_of_getElem? (i := 571) (by decide +kernel), rfl⟩
theorem kw_530 : Cond.instanceMethod y_SS_firstBroken ∈ zw_tbl := List.mem_filter.mpr ⟨List.mem_of_getElem? (i := 573) (by decide +kernel), rfl⟩
theorem kw_531 : Cond.code y_SS_firstBroken b_SS_firstBroken (3 : Nat) (Option.some FieldType.int) ∈ zw_tbl := List.mem_filter.mpr ⟨List.mem_of_getElem? (i := 574) (by decide +kernel), rfl⟩
theorem kw_532 : Cond.methodLink R_SS (275 : Nat) y_SS_isBroken ∈ zw_tbl := List.mem_filter.mpr ⟨List.mem_of_getElem? (i := 575) (by decide +kernel), rfl⟩
theorem kw_534 : Cond.instanceMethod y_SS_isBroken ∈ zw_tbl := List.mem_filter.mpr ⟨List.mem_of_getElem? (i := 577) (by decide +kernel), rfl⟩
theorem kw_535 : Cond.code y_SS_isBroken b_SS_isBroken (4 : Nat) (Option.some FieldType.boolean) ∈ zw_tbl := List.mem_filter.mpr ⟨List.mem_of_getElem? (i := 578) (by decide +kernel), rfl⟩
theorem kw_536 : Cond.methodLink R_SS (284 : Nat) y_Ru_allows ∈ zw_tbl := List.mem_filter.mpr ⟨List.mem_of_getElem? (i := 579) (by decide +kernel), rfl⟩
theorem kw_537 : Cond.instanceMethod y_Ru_allows ∈ zw_tbl := List.mem_filter.mpr ⟨List.mem_of_getElem? (i := 580) (by decide +kernel), rfl⟩
theorem kw_538 : Cond.selects R_Ru y_Ru_allows y_Ru_allows ∈ zw_tbl := List.mem_filter.mpr ⟨List.mem_of_getElem? (i := 581) (by decide +kernel), rfl⟩
theorem kw_539 : Cond.code y_Ru_allows b_Ru_allows (6 : Nat) (Option.some FieldType.boolean) ∈ zw_tbl := List.mem_filter.mpr ⟨List.mem_of_getElem? (i := 582) (by decide +kernel), rfl⟩
theorem kw_545 : Cond.methodLink R_SS (216 : Nat) y_Pl_canMove ∈ zw_tbl := List.mem_filter.mpr ⟨List.mem_of_getElem? (i := 588) (by decide +kernel), rfl⟩
theorem kw_546 : Cond.instanceMethod y_Pl_canMove ∈ zw_tbl := List.mem_filter.mpr ⟨List.mem_of_getElem? (i := 589) (by decide +kernel), rfl⟩
theorem kw_547 : Cond.selects R_Pl y_Pl_canMove y_Pl_canMove ∈ zw_tbl := List.mem_filter.mpr ⟨List.mem_of_getElem? (i := 590) (by decide +kernel), rfl⟩
theorem kw_548 : Cond.code y_Pl_canMove b_Pl_canMove (5 : Nat) (Option.some FieldType.boolean) ∈ zw_tbl := List.mem_filter.mpr ⟨List.mem_of_getElem? (i := 591) (by decide +kernel), rfl⟩
theorem kw_549 : Cond.methodLink R_Pl (75 : Nat) y_Pl_hasStage ∈ zw_tbl := List.mem_filter.mpr ⟨List.mem_of_getElem? (i := 592) (by decide +kernel), rfl⟩
theorem kw_550 : Cond.methodLink R_SS (219 : Nat) y_Pl_move ∈ zw_tbl := List.mem_filter.mpr ⟨List.mem_of_getElem? (i := 593) (by decide +kernel), rfl⟩
theorem kw_551 : Cond.instanceMethod y_Pl_move ∈ zw_tbl := List.mem_filter.mpr ⟨List.mem_of_getElem? (i := 594) (by decide +kernel), rfl⟩
theorem kw_552 : Cond.selects R_Pl y_Pl_move y_Pl_move ∈ zw_tbl := List.mem_filter.mpr ⟨List.mem_of_getElem? (i := 595) (by decide +kernel), rfl⟩
theorem kw_553 : Cond.code y_Pl_move b_Pl_move (4 : Nat) (Option.none : Option FieldType) ∈ zw_tbl := List.mem_filter.mpr ⟨List.mem_of_getElem? (i := 596) (by decide +kernel), rfl⟩
theorem kw_558 : Cond.methodLink R_SS (225 : Nat) y_Pl_cutFrom ∈ zw_tbl := List.mem_filter.mpr ⟨List.mem_of_getElem? (i := 601) (by decide +kernel), rfl⟩
theorem kw_559 : Cond.instanceMethod y_Pl_cutFrom ∈ zw_tbl := List.mem_filter.mpr ⟨List.mem_of_getElem? (i := 602) (by decide +kernel), rfl⟩
theorem kw_560 : Cond.selects R_Pl y_Pl_cutFrom y_Pl_cutFrom ∈ zw_tbl := List.mem_filter.mpr ⟨List.mem_of_getElem? (i := 603) (by decide +kernel), rfl⟩
theorem kw_561 : Cond.code y_Pl_cutFrom b_Pl_cutFrom (3 : Nat) (Option.some FieldType.int) ∈ zw_tbl := List.mem_filter.mpr ⟨List.mem_of_getElem? (i := 604) (by decide +kernel), rfl⟩
theorem kw_566 : Cond.methodLink R_SS (231 : Nat) y_Se_leastGreatest ∈ zw_tbl := List.mem_filter.mpr ⟨List.mem_of_getElem? (i := 609) (by decide +kernel), rfl⟩
theorem kw_567 : Cond.instanceMethod y_Se_leastGreatest ∈ zw_tbl := List.mem_filter.mpr ⟨List.mem_of_getElem? (i := 610) (by decide +kernel), rfl⟩
theorem kw_568 : Cond.selects R_Se y_Se_leastGreatest y_Se_leastGreatest ∈ zw_tbl := List.mem_filter.mpr ⟨List.mem_of_getElem? (i := 611) (by decide +kernel), rfl⟩
theorem kw_569 : Cond.code y_Se_leastGreatest b_Se_leastGreatest (1 : Nat) (Option.some FieldType.long) ∈ zw_tbl := List.mem_filter.mpr ⟨List.mem_of_getElem? (i := 612) (by decide +kernel), rfl⟩
theorem kw_571 : Cond.methodLink R_Se (42 : Nat) y_Pl_endDay ∈ zw_tbl := List.mem_filter.mpr ⟨List.mem_of_getElem? (i := 614) (by decide +kernel), rfl⟩
theorem kw_572 : Cond.methodLink R_Se (46 : Nat) y_Wa_aim ∈ zw_tbl := List.mem_filter.mpr ⟨List.mem_of_getElem? (i := 615) (by decide +kernel), rfl⟩
theorem kw_573 : Cond.methodLink R_Se (52 : Nat) y_Pl_partBits ∈ zw_tbl := List.mem_filter.mpr ⟨List.mem_of_getElem? (i := 616) (by decide +kernel), rfl⟩
theorem kw_574 : Cond.methodLink R_Se (55 : Nat) y_Se_tryFrom ∈ zw_tbl := List.mem_filter.mpr ⟨List.mem_of_getElem? (i := 617) (by decide +kernel), rfl⟩
theorem kw_576 : Cond.instanceMethod y_Se_tryFrom ∈ zw_tbl := List.mem_filter.mpr ⟨List.mem_of_getElem? (i := 619) (by decide +kernel), rfl⟩
theorem kw_577 : Cond.code y_Se_tryFrom b_Se_tryFrom (5 : Nat) (Option.none : Option FieldType) ∈ zw_tbl := List.mem_filter.mpr ⟨List.mem_of_getElem? (i := 620) (by decide +kernel), rfl⟩
theorem kw_578 : Cond.methodLink R_Se (62 : Nat) y_Se_weigh ∈ zw_tbl := List.mem_filter.mpr ⟨List.mem_of_getElem? (i := 621) (by decide +kernel), rfl⟩
theorem kw_580 : Cond.instanceMethod y_Se_weigh ∈ zw_tbl := List.mem_filter.mpr ⟨List.mem_of_getElem? (i := 623) (by decide +kernel), rfl⟩
theorem kw_581 : Cond.code y_Se_weigh b_Se_weigh (3 : Nat) (Option.none : Option FieldType) ∈ zw_tbl := List.mem_filter.mpr ⟨List.mem_of_getElem? (i := 624) (by decide +kernel), rfl⟩
theorem kw_582 : Cond.methodLink R_Se (77 : Nat) y_Wa_go ∈ zw_tbl := List.mem_filter.mpr ⟨List.mem_of_getElem? (i := 625) (by decide +kernel), rfl⟩
theorem kw_583 : Cond.methodLink R_Se (81 : Nat) y_Wa_greatestSize ∈ zw_tbl := List.mem_filter.mpr ⟨List.mem_of_getElem? (i := 626) (by decide +kernel), rfl⟩
theorem kw_584 : Cond.instanceMethod y_Wa_greatestSize ∈ zw_tbl := List.mem_filter.mpr ⟨List.mem_of_getElem? (i := 627) (by decide +kernel), rfl⟩
theorem kw_585 : Cond.selects R_Wa y_Wa_greatestSize y_Wa_greatestSize ∈ zw_tbl := List.mem_filter.mpr ⟨List.mem_of_getElem? (i := 628) (by decide +kernel), rfl⟩
theorem kw_586 : Cond.code y_Wa_greatestSize b_Wa_greatestSize (4 : Nat) (Option.some FieldType.long) ∈ zw_tbl := List.mem_filter.mpr ⟨List.mem_of_getElem? (i := 629) (by decide +kernel), rfl⟩
theorem kw_587 : Cond.methodLink R_Wa (105 : Nat) y_Math_absl ∈ zw_tbl := List.mem_filter.mpr ⟨List.mem_of_getElem? (i := 630) (by decide +kernel), rfl⟩
theorem kw_588 : Cond.static y_Math_absl ∈ zw_tbl := List.mem_filter.mpr ⟨List.mem_of_getElem? (i := 631) (by decide +kernel), rfl⟩
theorem kw_589 : Cond.code y_Math_absl prog_10_method_61_code (2 : Nat) (Option.some FieldType.long) ∈ zw_tbl := List.mem_filter.mpr ⟨List.mem_of_getElem? (i := 632) (by decide +kernel), rfl⟩
theorem kw_590 : Cond.methodLink R_Wa (111 : Nat) y_Math_maxl ∈ zw_tbl := List.mem_filter.mpr ⟨List.mem_of_getElem? (i := 633) (by decide +kernel), rfl⟩
theorem kw_591 : Cond.methodLink R_Se (88 : Nat) y_Sys_arraycopy ∈ zw_tbl := List.mem_filter.mpr ⟨List.mem_of_getElem? (i := 634) (by decide +kernel), rfl⟩
theorem kw_592 : Cond.static y_Sys_arraycopy ∈ zw_tbl := List.mem_filter.mpr ⟨List.mem_of_getElem? (i := 635) (by decide +kernel), rfl⟩
theorem kw_593 : Cond.native y_Sys_arraycopy ∈ zw_tbl := List.mem_filter.mpr ⟨List.mem_of_getElem? (i := 636) (by decide +kernel), rfl⟩
theorem kw_595 : Cond.methodLink R_Se (74 : Nat) y_Gi_mayFollow ∈ zw_tbl := List.mem_filter.mpr ⟨List.mem_of_getElem? (i := 638) (by decide +kernel), rfl⟩
theorem kw_617 : Cond.fieldLink R_Mo (100 : Nat) "StageStepsModel" "parts" "I" ∈ zw_tbl := List.mem_filter.mpr ⟨List.mem_of_getElem? (i := 660) (by decide +kernel), rfl⟩
theorem kw_618 : Cond.fieldLink R_Mo (7 : Nat) "StageStepsModel" "weights" "[I" ∈ zw_tbl := List.mem_filter.mpr ⟨List.mem_of_getElem? (i := 661) (by decide +kernel), rfl⟩
theorem kw_619 : Cond.fieldLink R_Mo (13 : Nat) "StageStepsModel" "wanted" "[I" ∈ zw_tbl := List.mem_filter.mpr ⟨List.mem_of_getElem? (i := 662) (by decide +kernel), rfl⟩
theorem kw_620 : Cond.fieldLink R_Mo (16 : Nat) "StageStepsModel" "flexes" "[I" ∈ zw_tbl := List.mem_filter.mpr ⟨List.mem_of_getElem? (i := 663) (by decide +kernel), rfl⟩
theorem kw_621 : Cond.fieldLink R_Mo (19 : Nat) "StageStepsModel" "shares" "[I" ∈ zw_tbl := List.mem_filter.mpr ⟨List.mem_of_getElem? (i := 664) (by decide +kernel), rfl⟩
theorem kw_622 : Cond.fieldLink R_Mo (22 : Nat) "StageStepsModel" "releases" "[I" ∈ zw_tbl := List.mem_filter.mpr ⟨List.mem_of_getElem? (i := 665) (by decide +kernel), rfl⟩
theorem kw_623 : Cond.fieldLink R_Mo (25 : Nat) "StageStepsModel" "ages" "[I" ∈ zw_tbl := List.mem_filter.mpr ⟨List.mem_of_getElem? (i := 666) (by decide +kernel), rfl⟩
theorem kw_624 : Cond.fieldLink R_Mo (28 : Nat) "StageStepsModel" "creeps" "[I" ∈ zw_tbl := List.mem_filter.mpr ⟨List.mem_of_getElem? (i := 667) (by decide +kernel), rfl⟩
theorem kw_625 : Cond.fieldLink R_Mo (126 : Nat) "StageStepsModel" "creepCount" "I" ∈ zw_tbl := List.mem_filter.mpr ⟨List.mem_of_getElem? (i := 668) (by decide +kernel), rfl⟩
theorem kw_626 : Cond.fieldLink R_Mo (31 : Nat) "StageStepsModel" "afters" "[Z" ∈ zw_tbl := List.mem_filter.mpr ⟨List.mem_of_getElem? (i := 669) (by decide +kernel), rfl⟩
theorem kw_627 : Cond.fieldLink R_Mo (35 : Nat) "StageStepsModel" "days" "[I" ∈ zw_tbl := List.mem_filter.mpr ⟨List.mem_of_getElem? (i := 670) (by decide +kernel), rfl⟩
theorem kw_628 : Cond.fieldLink R_Mo (107 : Nat) "StageStepsModel" "stages" "I" ∈ zw_tbl := List.mem_filter.mpr ⟨List.mem_of_getElem? (i := 671) (by decide +kernel), rfl⟩
theorem kw_629 : Cond.fieldLink R_Mo (38 : Nat) "StageStepsModel" "kinds" "[I" ∈ zw_tbl := List.mem_filter.mpr ⟨List.mem_of_getElem? (i := 672) (by decide +kernel), rfl⟩
theorem kw_630 : Cond.fieldLink R_Mo (41 : Nat) "StageStepsModel" "which" "[I" ∈ zw_tbl := List.mem_filter.mpr ⟨List.mem_of_getElem? (i := 673) (by decide +kernel), rfl⟩
theorem kw_631 : Cond.fieldLink R_Mo (44 : Nat) "StageStepsModel" "tonnes" "[I" ∈ zw_tbl := List.mem_filter.mpr ⟨List.mem_of_getElem? (i := 674) (by decide +kernel), rfl⟩
theorem kw_632 : Cond.fieldLink R_Mo (47 : Nat) "StageStepsModel" "stageOf" "[I" ∈ zw_tbl := List.mem_filter.mpr ⟨List.mem_of_getElem? (i := 675) (by decide +kernel), rfl⟩
theorem kw_633 : Cond.fieldLink R_Mo (133 : Nat) "StageStepsModel" "acts" "I" ∈ zw_tbl := List.mem_filter.mpr ⟨List.mem_of_getElem? (i := 676) (by decide +kernel), rfl⟩
theorem kw_634 : Cond.fieldLink R_Mo (50 : Nat) "StageStepsModel" "offsets" "[J" ∈ zw_tbl := List.mem_filter.mpr ⟨List.mem_of_getElem? (i := 677) (by decide +kernel), rfl⟩
theorem kw_635 : Cond.fieldLink R_Mo (54 : Nat) "StageStepsModel" "toldEnd" "I" ∈ zw_tbl := List.mem_filter.mpr ⟨List.mem_of_getElem? (i := 678) (by decide +kernel), rfl⟩
theorem kw_636 : Cond.fieldLink R_Mo (58 : Nat) "StageStepsModel" "most" "I" ∈ zw_tbl := List.mem_filter.mpr ⟨List.mem_of_getElem? (i := 679) (by decide +kernel), rfl⟩
theorem kw_637 : Cond.fieldLink R_Mo (61 : Nat) "StageStepsModel" "ruleKinds" "[I" ∈ zw_tbl := List.mem_filter.mpr ⟨List.mem_of_getElem? (i := 680) (by decide +kernel), rfl⟩
theorem kw_638 : Cond.fieldLink R_Mo (64 : Nat) "StageStepsModel" "ruleOf" "[I" ∈ zw_tbl := List.mem_filter.mpr ⟨List.mem_of_getElem? (i := 681) (by decide +kernel), rfl⟩
theorem kw_639 : Cond.fieldLink R_Mo (67 : Nat) "StageStepsModel" "lows" "[I" ∈ zw_tbl := List.mem_filter.mpr ⟨List.mem_of_getElem? (i := 682) (by decide +kernel), rfl⟩
theorem kw_640 : Cond.fieldLink R_Mo (70 : Nat) "StageStepsModel" "highs" "[I" ∈ zw_tbl := List.mem_filter.mpr ⟨List.mem_of_getElem? (i := 683) (by decide +kernel), rfl⟩
theorem kw_641 : Cond.fieldLink R_Mo (222 : Nat) "StageStepsModel" "rules" "I" ∈ zw_tbl := List.mem_filter.mpr ⟨List.mem_of_getElem? (i := 684) (by decide +kernel), rfl⟩
theorem kw_642 : Cond.fieldLink R_Mo (73 : Nat) "StageStepsModel" "order" "[I" ∈ zw_tbl := List.mem_filter.mpr ⟨List.mem_of_getElem? (i := 685) (by decide +kernel), rfl⟩
theorem kw_643 : Cond.fieldLink R_Mo (240 : Nat) "StageStepsModel" "orderSize" "I" ∈ zw_tbl := List.mem_filter.mpr ⟨List.mem_of_getElem? (i := 686) (by decide +kernel), rfl⟩
theorem kw_644 : Cond.fieldLink R_Mo (76 : Nat) "StageStepsModel" "taken" "[I" ∈ zw_tbl := List.mem_filter.mpr ⟨List.mem_of_getElem? (i := 687) (by decide +kernel), rfl⟩
theorem kw_645 : Cond.fieldLink R_Mo (165 : Nat) "StageStepsModel" "takenSize" "I" ∈ zw_tbl := List.mem_filter.mpr ⟨List.mem_of_getElem? (i := 688) (by decide +kernel), rfl⟩
theorem kw_646 : Cond.fieldLink R_Mo (79 : Nat) "StageStepsModel" "gains" "[J" ∈ zw_tbl := List.mem_filter.mpr ⟨List.mem_of_getElem? (i := 689) (by decide +kernel), rfl⟩
theorem kw_647 : Cond.fieldLink R_Mo (82 : Nat) "StageStepsModel" "addedBy" "[I" ∈ zw_tbl := List.mem_filter.mpr ⟨List.mem_of_getElem? (i := 690) (by decide +kernel), rfl⟩
theorem kw_648 : Cond.fieldLink R_Mo (85 : Nat) "StageStepsModel" "carried" "[J" ∈ zw_tbl := List.mem_filter.mpr ⟨List.mem_of_getElem? (i := 691) (by decide +kernel), rfl⟩
theorem kw_649 : Cond.fieldLink R_Mo (88 : Nat) "StageStepsModel" "on" "[Z" ∈ zw_tbl := List.mem_filter.mpr ⟨List.mem_of_getElem? (i := 692) (by decide +kernel), rfl⟩
theorem kw_650 : Cond.fieldLink R_Mo (91 : Nat) "StageStepsModel" "carry" "[J" ∈ zw_tbl := List.mem_filter.mpr ⟨List.mem_of_getElem? (i := 693) (by decide +kernel), rfl⟩
theorem kw_651 : Cond.fieldLink R_Mo (94 : Nat) "StageStepsModel" "row" "[I" ∈ zw_tbl := List.mem_filter.mpr ⟨List.mem_of_getElem? (i := 694) (by decide +kernel), rfl⟩
theorem kw_652 : Cond.fieldLink R_Mo (97 : Nat) "StageStepsModel" "used" "[Z" ∈ zw_tbl := List.mem_filter.mpr ⟨List.mem_of_getElem? (i := 695) (by decide +kernel), rfl⟩
theorem kw_731 : Cond.methodLink R_Mo (110 : Nat) y_Mo_isPart ∈ zw_tbl := List.mem_filter.mpr ⟨List.mem_of_getElem? (i := 774) (by decide +kernel), rfl⟩
theorem kw_733 : Cond.instanceMethod y_Mo_isPart ∈ zw_tbl := List.mem_filter.mpr ⟨List.mem_of_getElem? (i := 776) (by decide +kernel), rfl⟩
theorem kw_734 : Cond.code y_Mo_isPart b_Mo_isPart (2 : Nat) (Option.some FieldType.boolean) ∈ zw_tbl := List.mem_filter.mpr ⟨List.mem_of_getElem? (i := 777) (by decide +kernel), rfl⟩
theorem kw_735 : Cond.methodLink R_Mo (103 : Nat) y_Mo_in ∈ zw_tbl := List.mem_filter.mpr ⟨List.mem_of_getElem? (i := 778) (by decide +kernel), rfl⟩
theorem kw_736 : Cond.static y_Mo_in ∈ zw_tbl := List.mem_filter.mpr ⟨List.mem_of_getElem? (i := 779) (by decide +kernel), rfl⟩
theorem kw_737 : Cond.code y_Mo_in b_Mo_in (6 : Nat) (Option.some FieldType.boolean) ∈ zw_tbl := List.mem_filter.mpr ⟨List.mem_of_getElem? (i := 780) (by decide +kernel), rfl⟩
theorem kw_766 : Cond.methodLink R_Mo (136 : Nat) y_Mo_comesAfter ∈ zw_tbl := List.mem_filter.mpr ⟨List.mem_of_getElem? (i := 809) (by decide +kernel), rfl⟩
theorem kw_768 : Cond.instanceMethod y_Mo_comesAfter ∈ zw_tbl := List.mem_filter.mpr ⟨List.mem_of_getElem? (i := 811) (by decide +kernel), rfl⟩
theorem kw_769 : Cond.code y_Mo_comesAfter b_Mo_comesAfter (5 : Nat) (Option.some FieldType.boolean) ∈ zw_tbl := List.mem_filter.mpr ⟨List.mem_of_getElem? (i := 812) (by decide +kernel), rfl⟩
theorem kw_770 : Cond.methodLink R_Mo (140 : Nat) y_Mo_actOf ∈ zw_tbl := List.mem_filter.mpr ⟨List.mem_of_getElem? (i := 813) (by decide +kernel), rfl⟩
theorem kw_772 : Cond.instanceMethod y_Mo_actOf ∈ zw_tbl := List.mem_filter.mpr ⟨List.mem_of_getElem? (i := 815) (by decide +kernel), rfl⟩
theorem kw_773 : Cond.code y_Mo_actOf b_Mo_actOf (4 : Nat) (Option.some FieldType.int) ∈ zw_tbl := List.mem_filter.mpr ⟨List.mem_of_getElem? (i := 816) (by decide +kernel), rfl⟩
theorem kw_778 : Cond.methodLink R_Mo (144 : Nat) y_Mo_lastDay ∈ zw_tbl := List.mem_filter.mpr ⟨List.mem_of_getElem? (i := 821) (by decide +kernel), rfl⟩
theorem kw_780 : Cond.instanceMethod y_Mo_lastDay ∈ zw_tbl := List.mem_filter.mpr ⟨List.mem_of_getElem? (i := 823) (by decide +kernel), rfl⟩
theorem kw_781 : Cond.code y_Mo_lastDay b_Mo_lastDay (1 : Nat) (Option.some FieldType.int) ∈ zw_tbl := List.mem_filter.mpr ⟨List.mem_of_getElem? (i := 824) (by decide +kernel), rfl⟩
theorem kw_783 : Cond.methodLink R_Mo (150 : Nat) y_Mo_lookAtEnd ∈ zw_tbl := List.mem_filter.mpr ⟨List.mem_of_getElem? (i := 826) (by decide +kernel), rfl⟩
theorem kw_785 : Cond.instanceMethod y_Mo_lookAtEnd ∈ zw_tbl := List.mem_filter.mpr ⟨List.mem_of_getElem? (i := 828) (by decide +kernel), rfl⟩
theorem kw_786 : Cond.code y_Mo_lookAtEnd b_Mo_lookAtEnd (1 : Nat) (Option.none : Option FieldType) ∈ zw_tbl := List.mem_filter.mpr ⟨List.mem_of_getElem? (i := 829) (by decide +kernel), rfl⟩
theorem kw_791 : Cond.methodLink R_Mo (153 : Nat) y_Mo_mayPut ∈ zw_tbl := List.mem_filter.mpr ⟨List.mem_of_getElem? (i := 834) (by decide +kernel), rfl⟩
theorem kw_793 : Cond.instanceMethod y_Mo_mayPut ∈ zw_tbl := List.mem_filter.mpr ⟨List.mem_of_getElem? (i := 836) (by decide +kernel), rfl⟩
theorem kw_794 : Cond.code y_Mo_mayPut b_Mo_mayPut (1 : Nat) (Option.some FieldType.boolean) ∈ zw_tbl := List.mem_filter.mpr ⟨List.mem_of_getElem? (i := 837) (by decide +kernel), rfl⟩
theorem kw_795 : Cond.methodLink R_Mo (157 : Nat) y_Mo_put ∈ zw_tbl := List.mem_filter.mpr ⟨List.mem_of_getElem? (i := 838) (by decide +kernel), rfl⟩
theorem kw_797 : Cond.instanceMethod y_Mo_put ∈ zw_tbl := List.mem_filter.mpr ⟨List.mem_of_getElem? (i := 840) (by decide +kernel), rfl⟩
theorem kw_798 : Cond.code y_Mo_put b_Mo_put (4 : Nat) (Option.none : Option FieldType) ∈ zw_tbl := List.mem_filter.mpr ⟨List.mem_of_getElem? (i := 841) (by decide +kernel), rfl⟩
theorem kw_807 : Cond.methodLink R_Mo (161 : Nat) y_Mo_isOn ∈ zw_tbl := List.mem_filter.mpr ⟨List.mem_of_getElem? (i := 850) (by decide +kernel), rfl⟩
theorem kw_809 : Cond.instanceMethod y_Mo_isOn ∈ zw_tbl := List.mem_filter.mpr ⟨List.mem_of_getElem? (i := 852) (by decide +kernel), rfl⟩
theorem kw_810 : Cond.code y_Mo_isOn b_Mo_isOn (4 : Nat) (Option.some FieldType.boolean) ∈ zw_tbl := List.mem_filter.mpr ⟨List.mem_of_getElem? (i := 853) (by decide +kernel), rfl⟩
theorem kw_820 : Cond.methodLink R_Mo (203 : Nat) y_Mo_passPlan ∈ zw_tbl := List.mem_filter.mpr ⟨List.mem_of_getElem? (i := 863) (by decide +kernel), rfl⟩
theorem kw_822 : Cond.instanceMethod y_Mo_passPlan ∈ zw_tbl := List.mem_filter.mpr ⟨List.mem_of_getElem? (i := 865) (by decide +kernel), rfl⟩
theorem kw_823 : Cond.code y_Mo_passPlan b_Mo_passPlan (1 : Nat) (Option.none : Option FieldType) ∈ zw_tbl := List.mem_filter.mpr ⟨List.mem_of_getElem? (i := 866) (by decide +kernel), rfl⟩
theorem kw_824 : Cond.methodLink R_Mo (191 : Nat) y_Mo_takePlan ∈ zw_tbl := List.mem_filter.mpr ⟨List.mem_of_getElem? (i := 867) (by decide +kernel), rfl⟩
theorem kw_826 : Cond.instanceMethod y_Mo_takePlan ∈ zw_tbl := List.mem_filter.mpr ⟨List.mem_of_getElem? (i := 869) (by decide +kernel), rfl⟩
theorem kw_827 : Cond.code y_Mo_takePlan b_Mo_takePlan (2 : Nat) (Option.none : Option FieldType) ∈ zw_tbl := List.mem_filter.mpr ⟨List.mem_of_getElem? (i := 870) (by decide +kernel), rfl⟩
theorem kw_828 : Cond.methodLink R_Mo (194 : Nat) y_Mo_pass ∈ zw_tbl := List.mem_filter.mpr ⟨List.mem_of_getElem? (i := 871) (by decide +kernel), rfl⟩
theorem kw_830 : Cond.instanceMethod y_Mo_pass ∈ zw_tbl := List.mem_filter.mpr ⟨List.mem_of_getElem? (i := 873) (by decide +kernel), rfl⟩
theorem kw_831 : Cond.code y_Mo_pass b_Mo_pass (5 : Nat) (Option.none : Option FieldType) ∈ zw_tbl := List.mem_filter.mpr ⟨List.mem_of_getElem? (i := 874) (by decide +kernel), rfl⟩
theorem kw_832 : Cond.methodLink R_Mo (168 : Nat) y_Mo_loadOn ∈ zw_tbl := List.mem_filter.mpr ⟨List.mem_of_getElem? (i := 875) (by decide +kernel), rfl⟩
theorem kw_834 : Cond.instanceMethod y_Mo_loadOn ∈ zw_tbl := List.mem_filter.mpr ⟨List.mem_of_getElem? (i := 877) (by decide +kernel), rfl⟩
theorem kw_835 : Cond.code y_Mo_loadOn b_Mo_loadOn (7 : Nat) (Option.none : Option FieldType) ∈ zw_tbl := List.mem_filter.mpr ⟨List.mem_of_getElem? (i := 878) (by decide +kernel), rfl⟩
theorem kw_836 : Cond.methodLink R_Mo (206 : Nat) y_Mo_isThere ∈ zw_tbl := List.mem_filter.mpr ⟨List.mem_of_getElem? (i := 879) (by decide +kernel), rfl⟩
theorem kw_838 : Cond.instanceMethod y_Mo_isThere ∈ zw_tbl := List.mem_filter.mpr ⟨List.mem_of_getElem? (i := 881) (by decide +kernel), rfl⟩
theorem kw_839 : Cond.code y_Mo_isThere b_Mo_isThere (3 : Nat) (Option.some FieldType.boolean) ∈ zw_tbl := List.mem_filter.mpr ⟨List.mem_of_getElem? (i := 882) (by decide +kernel), rfl⟩
theorem kw_840 : Cond.methodLink R_Mo (197 : Nat) y_Mo_isStage ∈ zw_tbl := List.mem_filter.mpr ⟨List.mem_of_getElem? (i := 883) (by decide +kernel), rfl⟩
theorem kw_842 : Cond.instanceMethod y_Mo_isStage ∈ zw_tbl := List.mem_filter.mpr ⟨List.mem_of_getElem? (i := 885) (by decide +kernel), rfl⟩
theorem kw_843 : Cond.code y_Mo_isStage b_Mo_isStage (2 : Nat) (Option.some FieldType.boolean) ∈ zw_tbl := List.mem_filter.mpr ⟨List.mem_of_getElem? (i := 886) (by decide +kernel), rfl⟩
theorem kw_844 : Cond.methodLink R_Mo (209 : Nat) y_Mo_levelAt ∈ zw_tbl := List.mem_filter.mpr ⟨List.mem_of_getElem? (i := 887) (by decide +kernel), rfl⟩
theorem kw_846 : Cond.instanceMethod y_Mo_levelAt ∈ zw_tbl := List.mem_filter.mpr ⟨List.mem_of_getElem? (i := 889) (by decide +kernel), rfl⟩
theorem kw_847 : Cond.code y_Mo_levelAt b_Mo_levelAt (3 : Nat) (Option.some FieldType.long) ∈ zw_tbl := List.mem_filter.mpr ⟨List.mem_of_getElem? (i := 890) (by decide +kernel), rfl⟩
theorem kw_848 : Cond.methodLink R_Mo (200 : Nat) y_Mo_cast ∈ zw_tbl := List.mem_filter.mpr ⟨List.mem_of_getElem? (i := 891) (by decide +kernel), rfl⟩
theorem kw_850 : Cond.instanceMethod y_Mo_cast ∈ zw_tbl := List.mem_filter.mpr ⟨List.mem_of_getElem? (i := 893) (by decide +kernel), rfl⟩
theorem kw_851 : Cond.code y_Mo_cast b_Mo_cast (2 : Nat) (Option.some FieldType.long) ∈ zw_tbl := List.mem_filter.mpr ⟨List.mem_of_getElem? (i := 894) (by decide +kernel), rfl⟩
theorem kw_853 : Cond.methodLink R_Mo (187 : Nat) y_Mo_camber ∈ zw_tbl := List.mem_filter.mpr ⟨List.mem_of_getElem? (i := 896) (by decide +kernel), rfl⟩
theorem kw_855 : Cond.instanceMethod y_Mo_camber ∈ zw_tbl := List.mem_filter.mpr ⟨List.mem_of_getElem? (i := 898) (by decide +kernel), rfl⟩
theorem kw_856 : Cond.code y_Mo_camber b_Mo_camber (2 : Nat) (Option.some FieldType.long) ∈ zw_tbl := List.mem_filter.mpr ⟨List.mem_of_getElem? (i := 899) (by decide +kernel), rfl⟩
theorem kw_857 : Cond.methodLink R_Mo (178 : Nat) y_Mo_endDay ∈ zw_tbl := List.mem_filter.mpr ⟨List.mem_of_getElem? (i := 900) (by decide +kernel), rfl⟩
theorem kw_859 : Cond.instanceMethod y_Mo_endDay ∈ zw_tbl := List.mem_filter.mpr ⟨List.mem_of_getElem? (i := 902) (by decide +kernel), rfl⟩
theorem kw_860 : Cond.code y_Mo_endDay b_Mo_endDay (1 : Nat) (Option.some FieldType.int) ∈ zw_tbl := List.mem_filter.mpr ⟨List.mem_of_getElem? (i := 903) (by decide +kernel), rfl⟩
theorem kw_861 : Cond.methodLink R_Mo (181 : Nat) y_Mo_rise ∈ zw_tbl := List.mem_filter.mpr ⟨List.mem_of_getElem? (i := 904) (by decide +kernel), rfl⟩
theorem kw_863 : Cond.instanceMethod y_Mo_rise ∈ zw_tbl := List.mem_filter.mpr ⟨List.mem_of_getElem? (i := 906) (by decide +kernel), rfl⟩
theorem kw_864 : Cond.code y_Mo_rise b_Mo_rise (11 : Nat) (Option.some FieldType.long) ∈ zw_tbl := List.mem_filter.mpr ⟨List.mem_of_getElem? (i := 907) (by decide +kernel), rfl⟩
theorem kw_865 : Cond.methodLink R_Mo (172 : Nat) y_Mo_dayOf ∈ zw_tbl := List.mem_filter.mpr ⟨List.mem_of_getElem? (i := 908) (by decide +kernel), rfl⟩
theorem kw_867 : Cond.instanceMethod y_Mo_dayOf ∈ zw_tbl := List.mem_filter.mpr ⟨List.mem_of_getElem? (i := 910) (by decide +kernel), rfl⟩
theorem kw_868 : Cond.code y_Mo_dayOf b_Mo_dayOf (2 : Nat) (Option.some FieldType.int) ∈ zw_tbl := List.mem_filter.mpr ⟨List.mem_of_getElem? (i := 911) (by decide +kernel), rfl⟩
theorem kw_869 : Cond.methodLink R_Mo (175 : Nat) y_Mo_creepAt ∈ zw_tbl := List.mem_filter.mpr ⟨List.mem_of_getElem? (i := 912) (by decide +kernel), rfl⟩
theorem kw_871 : Cond.instanceMethod y_Mo_creepAt ∈ zw_tbl := List.mem_filter.mpr ⟨List.mem_of_getElem? (i := 914) (by decide +kernel), rfl⟩
theorem kw_872 : Cond.code y_Mo_creepAt b_Mo_creepAt (4 : Nat) (Option.some FieldType.int) ∈ zw_tbl := List.mem_filter.mpr ⟨List.mem_of_getElem? (i := 915) (by decide +kernel), rfl⟩
theorem kw_882 : Cond.methodLink R_Mo (215 : Nat) y_Mo_carriedAt ∈ zw_tbl := List.mem_filter.mpr ⟨List.mem_of_getElem? (i := 925) (by decide +kernel), rfl⟩
theorem kw_884 : Cond.instanceMethod y_Mo_carriedAt ∈ zw_tbl := List.mem_filter.mpr ⟨List.mem_of_getElem? (i := 927) (by decide +kernel), rfl⟩
theorem kw_885 : Cond.code y_Mo_carriedAt b_Mo_carriedAt (6 : Nat) (Option.some FieldType.long) ∈ zw_tbl := List.mem_filter.mpr ⟨List.mem_of_getElem? (i := 928) (by decide +kernel), rfl⟩
theorem kw_904 : Cond.methodLink R_Mo (225 : Nat) y_Mo_holds ∈ zw_tbl := List.mem_filter.mpr ⟨List.mem_of_getElem? (i := 947) (by decide +kernel), rfl⟩
theorem kw_906 : Cond.instanceMethod y_Mo_holds ∈ zw_tbl := List.mem_filter.mpr ⟨List.mem_of_getElem? (i := 949) (by decide +kernel), rfl⟩
theorem kw_907 : Cond.code y_Mo_holds b_Mo_holds (6 : Nat) (Option.some FieldType.boolean) ∈ zw_tbl := List.mem_filter.mpr ⟨List.mem_of_getElem? (i := 950) (by decide +kernel), rfl⟩
theorem kw_921 : Cond.methodLink R_Mo (230 : Nat) y_Mo_isAllowed ∈ zw_tbl := List.mem_filter.mpr ⟨List.mem_of_getElem? (i := 964) (by decide +kernel), rfl⟩
theorem kw_923 : Cond.instanceMethod y_Mo_isAllowed ∈ zw_tbl := List.mem_filter.mpr ⟨List.mem_of_getElem? (i := 966) (by decide +kernel), rfl⟩
theorem kw_924 : Cond.code y_Mo_isAllowed b_Mo_isAllowed (5 : Nat) (Option.some FieldType.boolean) ∈ zw_tbl := List.mem_filter.mpr ⟨List.mem_of_getElem? (i := 967) (by decide +kernel), rfl⟩
theorem kw_925 : Cond.methodLink R_Mo (233 : Nat) y_Mo_greatest ∈ zw_tbl := List.mem_filter.mpr ⟨List.mem_of_getElem? (i := 968) (by decide +kernel), rfl⟩
theorem kw_927 : Cond.instanceMethod y_Mo_greatest ∈ zw_tbl := List.mem_filter.mpr ⟨List.mem_of_getElem? (i := 970) (by decide +kernel), rfl⟩
theorem kw_928 : Cond.code y_Mo_greatest b_Mo_greatest (8 : Nat) (Option.some FieldType.long) ∈ zw_tbl := List.mem_filter.mpr ⟨List.mem_of_getElem? (i := 971) (by decide +kernel), rfl⟩
theorem kw_929 : Cond.methodLink R_Mo (237 : Nat) y_Mo_nextRow ∈ zw_tbl := List.mem_filter.mpr ⟨List.mem_of_getElem? (i := 972) (by decide +kernel), rfl⟩
theorem kw_931 : Cond.instanceMethod y_Mo_nextRow ∈ zw_tbl := List.mem_filter.mpr ⟨List.mem_of_getElem? (i := 974) (by decide +kernel), rfl⟩
theorem kw_932 : Cond.code y_Mo_nextRow b_Mo_nextRow (6 : Nat) (Option.some FieldType.boolean) ∈ zw_tbl := List.mem_filter.mpr ⟨List.mem_of_getElem? (i := 975) (by decide +kernel), rfl⟩
end
section
/-! zw_: a method's weakest precondition by combinators: a name, a join, a loop; a branch -/
def zw_nm {α : Type} (e : α) (F : α → Prop) : Prop := F e
theorem zw_nm_x {α : Type} {e x : α} {F : α → Prop} (h : x = e) (w : zw_nm e F) : F x := by subst h; exact w
theorem zw_ite_t {c : Prop} [Decidable c] {A B : Prop} (h : c) (w : if c then A else B) : A := by rwa [if_pos h] at w
theorem zw_ite_f {c : Prop} [Decidable c] {A B : Prop} (h : ¬ c) (w : if c then A else B) : B := by rwa [if_neg h] at w
def zw_bool (v : Int32) : Prop := v = 0 ∨ v = 1
theorem zw_bool_n {v : Int32} (h : zw_bool v) : narrow .boolean (.int v) = .int v := by
  rcases h with rfl | rfl <;> rfl
def zw_jn0 (R : Prop) (B : Prop → Prop) : Prop := B R
theorem zw_jn0_i {R : Prop} {B : Prop → Prop} {P G : Prop} (hw : zw_jn0 R B) (h : R → P) (g : ∀ J : Prop, (J → P) → B J → G) : G := g R h hw
def zw_jn1 {A1 : Type} (R : A1 → Prop) (B : (A1 → Prop) → Prop) : Prop := B R
theorem zw_jn1_i {A1 : Type} {R : A1 → Prop} {B : (A1 → Prop) → Prop} {P : A1 → Prop} {G : Prop} (hw : zw_jn1 R B) (h : ∀ (x1 : A1), R x1 → P x1) (g : ∀ J : A1 → Prop, (∀ (x1 : A1), J x1 → P x1) → B J → G) : G := g R h hw
def zw_lpN1 {A1 : Type} (f : (A1 → Prop) → A1 → Prop) : Nat → A1 → Prop
  | 0 => fun _ => False
  | n + 1 => f (zw_lpN1 f n)
def zw_lp1 {A1 : Type} (f : (A1 → Prop) → A1 → Prop) (x1 : A1) : Prop := ∃ n, zw_lpN1 f n x1
theorem zw_lp1_i {A1 : Type} {f : (A1 → Prop) → A1 → Prop} {P : A1 → Prop} {x1 : A1} (hw : zw_lp1 f x1) (h : ∀ (L : A1 → Prop) (x1 : A1), (∀ (x1 : A1), L x1 → P x1) → f L x1 → P x1) : P x1 := by
  obtain ⟨n, hw⟩ := hw
  have key : ∀ (n : Nat) (x1 : A1), zw_lpN1 f n x1 → P x1 := by
    intro n
    induction n with
    | zero => intro x1 h; exact h.elim
    | succ n ih => intro x1 hw; exact h (zw_lpN1 f n) x1 ih hw
  exact key n x1 hw
theorem zw_lp1_m {A1 : Type} {f : (A1 → Prop) → A1 → Prop} (I : A1 → Prop) (μ : A1 → Nat) (h : ∀ (L : A1 → Prop) (x1 : A1), I x1 → (∀ (y1 : A1), I y1 → μ y1 < μ x1 → L y1) → f L x1) (x1 : A1) (h0 : I x1) : zw_lp1 f x1 := by
  have key : ∀ (n : Nat) (x1 : A1), μ x1 < n → I x1 → zw_lpN1 f n x1 := by
    intro n
    induction n with
    | zero => intro x1 h; exact absurd h (Nat.not_lt_zero _)
    | succ n ih => intro x1 hn hI; exact h (zw_lpN1 f n) x1 hI (fun y1 hJ hm => ih y1 (Nat.lt_of_lt_of_le hm (Nat.le_of_lt_succ hn)) hJ)
  exact ⟨μ x1 + 1, key _ x1 (Nat.lt_succ_self _) h0⟩
def zw_jn2 {A1 A2 : Type} (R : A1 → A2 → Prop) (B : (A1 → A2 → Prop) → Prop) : Prop := B R
theorem zw_jn2_i {A1 A2 : Type} {R : A1 → A2 → Prop} {B : (A1 → A2 → Prop) → Prop} {P : A1 → A2 → Prop} {G : Prop} (hw : zw_jn2 R B) (h : ∀ (x1 : A1) (x2 : A2), R x1 x2 → P x1 x2) (g : ∀ J : A1 → A2 → Prop, (∀ (x1 : A1) (x2 : A2), J x1 x2 → P x1 x2) → B J → G) : G := g R h hw
def zw_lpN2 {A1 A2 : Type} (f : (A1 → A2 → Prop) → A1 → A2 → Prop) : Nat → A1 → A2 → Prop
  | 0 => fun _ _ => False
  | n + 1 => f (zw_lpN2 f n)
def zw_lp2 {A1 A2 : Type} (f : (A1 → A2 → Prop) → A1 → A2 → Prop) (x1 : A1) (x2 : A2) : Prop := ∃ n, zw_lpN2 f n x1 x2
theorem zw_lp2_i {A1 A2 : Type} {f : (A1 → A2 → Prop) → A1 → A2 → Prop} {P : A1 → A2 → Prop} {x1 : A1} {x2 : A2} (hw : zw_lp2 f x1 x2) (h : ∀ (L : A1 → A2 → Prop) (x1 : A1) (x2 : A2), (∀ (x1 : A1) (x2 : A2), L x1 x2 → P x1 x2) → f L x1 x2 → P x1 x2) : P x1 x2 := by
  obtain ⟨n, hw⟩ := hw
  have key : ∀ (n : Nat) (x1 : A1) (x2 : A2), zw_lpN2 f n x1 x2 → P x1 x2 := by
    intro n
    induction n with
    | zero => intro x1 x2 h; exact h.elim
    | succ n ih => intro x1 x2 hw; exact h (zw_lpN2 f n) x1 x2 ih hw
  exact key n x1 x2 hw
theorem zw_lp2_m {A1 A2 : Type} {f : (A1 → A2 → Prop) → A1 → A2 → Prop} (I : A1 → A2 → Prop) (μ : A1 → A2 → Nat) (h : ∀ (L : A1 → A2 → Prop) (x1 : A1) (x2 : A2), I x1 x2 → (∀ (y1 : A1) (y2 : A2), I y1 y2 → μ y1 y2 < μ x1 x2 → L y1 y2) → f L x1 x2) (x1 : A1) (x2 : A2) (h0 : I x1 x2) : zw_lp2 f x1 x2 := by
  have key : ∀ (n : Nat) (x1 : A1) (x2 : A2), μ x1 x2 < n → I x1 x2 → zw_lpN2 f n x1 x2 := by
    intro n
    induction n with
    | zero => intro x1 x2 h; exact absurd h (Nat.not_lt_zero _)
    | succ n ih => intro x1 x2 hn hI; exact h (zw_lpN2 f n) x1 x2 hI (fun y1 y2 hJ hm => ih y1 y2 (Nat.lt_of_lt_of_le hm (Nat.le_of_lt_succ hn)) hJ)
  exact ⟨μ x1 x2 + 1, key _ x1 x2 (Nat.lt_succ_self _) h0⟩
def zw_jn3 {A1 A2 A3 : Type} (R : A1 → A2 → A3 → Prop) (B : (A1 → A2 → A3 → Prop) → Prop) : Prop := B R
theorem zw_jn3_i {A1 A2 A3 : Type} {R : A1 → A2 → A3 → Prop} {B : (A1 → A2 → A3 → Prop) → Prop} {P : A1 → A2 → A3 → Prop} {G : Prop} (hw : zw_jn3 R B) (h : ∀ (x1 : A1) (x2 : A2) (x3 : A3), R x1 x2 x3 → P x1 x2 x3) (g : ∀ J : A1 → A2 → A3 → Prop, (∀ (x1 : A1) (x2 : A2) (x3 : A3), J x1 x2 x3 → P x1 x2 x3) → B J → G) : G := g R h hw
def zw_lpN3 {A1 A2 A3 : Type} (f : (A1 → A2 → A3 → Prop) → A1 → A2 → A3 → Prop) : Nat → A1 → A2 → A3 → Prop
  | 0 => fun _ _ _ => False
  | n + 1 => f (zw_lpN3 f n)
def zw_lp3 {A1 A2 A3 : Type} (f : (A1 → A2 → A3 → Prop) → A1 → A2 → A3 → Prop) (x1 : A1) (x2 : A2) (x3 : A3) : Prop := ∃ n, zw_lpN3 f n x1 x2 x3
theorem zw_lp3_i {A1 A2 A3 : Type} {f : (A1 → A2 → A3 → Prop) → A1 → A2 → A3 → Prop} {P : A1 → A2 → A3 → Prop} {x1 : A1} {x2 : A2} {x3 : A3} (hw : zw_lp3 f x1 x2 x3) (h : ∀ (L : A1 → A2 → A3 → Prop) (x1 : A1) (x2 : A2) (x3 : A3), (∀ (x1 : A1) (x2 : A2) (x3 : A3), L x1 x2 x3 → P x1 x2 x3) → f L x1 x2 x3 → P x1 x2 x3) : P x1 x2 x3 := by
  obtain ⟨n, hw⟩ := hw
  have key : ∀ (n : Nat) (x1 : A1) (x2 : A2) (x3 : A3), zw_lpN3 f n x1 x2 x3 → P x1 x2 x3 := by
    intro n
    induction n with
    | zero => intro x1 x2 x3 h; exact h.elim
    | succ n ih => intro x1 x2 x3 hw; exact h (zw_lpN3 f n) x1 x2 x3 ih hw
  exact key n x1 x2 x3 hw
theorem zw_lp3_m {A1 A2 A3 : Type} {f : (A1 → A2 → A3 → Prop) → A1 → A2 → A3 → Prop} (I : A1 → A2 → A3 → Prop) (μ : A1 → A2 → A3 → Nat) (h : ∀ (L : A1 → A2 → A3 → Prop) (x1 : A1) (x2 : A2) (x3 : A3), I x1 x2 x3 → (∀ (y1 : A1) (y2 : A2) (y3 : A3), I y1 y2 y3 → μ y1 y2 y3 < μ x1 x2 x3 → L y1 y2 y3) → f L x1 x2 x3) (x1 : A1) (x2 : A2) (x3 : A3) (h0 : I x1 x2 x3) : zw_lp3 f x1 x2 x3 := by
  have key : ∀ (n : Nat) (x1 : A1) (x2 : A2) (x3 : A3), μ x1 x2 x3 < n → I x1 x2 x3 → zw_lpN3 f n x1 x2 x3 := by
    intro n
    induction n with
    | zero => intro x1 x2 x3 h; exact absurd h (Nat.not_lt_zero _)
    | succ n ih => intro x1 x2 x3 hn hI; exact h (zw_lpN3 f n) x1 x2 x3 hI (fun y1 y2 y3 hJ hm => ih y1 y2 y3 (Nat.lt_of_lt_of_le hm (Nat.le_of_lt_succ hn)) hJ)
  exact ⟨μ x1 x2 x3 + 1, key _ x1 x2 x3 (Nat.lt_succ_self _) h0⟩
def zw_jn4 {A1 A2 A3 A4 : Type} (R : A1 → A2 → A3 → A4 → Prop) (B : (A1 → A2 → A3 → A4 → Prop) → Prop) : Prop := B R
theorem zw_jn4_i {A1 A2 A3 A4 : Type} {R : A1 → A2 → A3 → A4 → Prop} {B : (A1 → A2 → A3 → A4 → Prop) → Prop} {P : A1 → A2 → A3 → A4 → Prop} {G : Prop} (hw : zw_jn4 R B) (h : ∀ (x1 : A1) (x2 : A2) (x3 : A3) (x4 : A4), R x1 x2 x3 x4 → P x1 x2 x3 x4) (g : ∀ J : A1 → A2 → A3 → A4 → Prop, (∀ (x1 : A1) (x2 : A2) (x3 : A3) (x4 : A4), J x1 x2 x3 x4 → P x1 x2 x3 x4) → B J → G) : G := g R h hw
def zw_lpN4 {A1 A2 A3 A4 : Type} (f : (A1 → A2 → A3 → A4 → Prop) → A1 → A2 → A3 → A4 → Prop) : Nat → A1 → A2 → A3 → A4 → Prop
  | 0 => fun _ _ _ _ => False
  | n + 1 => f (zw_lpN4 f n)
def zw_lp4 {A1 A2 A3 A4 : Type} (f : (A1 → A2 → A3 → A4 → Prop) → A1 → A2 → A3 → A4 → Prop) (x1 : A1) (x2 : A2) (x3 : A3) (x4 : A4) : Prop := ∃ n, zw_lpN4 f n x1 x2 x3 x4
theorem zw_lp4_i {A1 A2 A3 A4 : Type} {f : (A1 → A2 → A3 → A4 → Prop) → A1 → A2 → A3 → A4 → Prop} {P : A1 → A2 → A3 → A4 → Prop} {x1 : A1} {x2 : A2} {x3 : A3} {x4 : A4} (hw : zw_lp4 f x1 x2 x3 x4) (h : ∀ (L : A1 → A2 → A3 → A4 → Prop) (x1 : A1) (x2 : A2) (x3 : A3) (x4 : A4), (∀ (x1 : A1) (x2 : A2) (x3 : A3) (x4 : A4), L x1 x2 x3 x4 → P x1 x2 x3 x4) → f L x1 x2 x3 x4 → P x1 x2 x3 x4) : P x1 x2 x3 x4 := by
  obtain ⟨n, hw⟩ := hw
  have key : ∀ (n : Nat) (x1 : A1) (x2 : A2) (x3 : A3) (x4 : A4), zw_lpN4 f n x1 x2 x3 x4 → P x1 x2 x3 x4 := by
    intro n
    induction n with
    | zero => intro x1 x2 x3 x4 h; exact h.elim
    | succ n ih => intro x1 x2 x3 x4 hw; exact h (zw_lpN4 f n) x1 x2 x3 x4 ih hw
  exact key n x1 x2 x3 x4 hw
theorem zw_lp4_m {A1 A2 A3 A4 : Type} {f : (A1 → A2 → A3 → A4 → Prop) → A1 → A2 → A3 → A4 → Prop} (I : A1 → A2 → A3 → A4 → Prop) (μ : A1 → A2 → A3 → A4 → Nat) (h : ∀ (L : A1 → A2 → A3 → A4 → Prop) (x1 : A1) (x2 : A2) (x3 : A3) (x4 : A4), I x1 x2 x3 x4 → (∀ (y1 : A1) (y2 : A2) (y3 : A3) (y4 : A4), I y1 y2 y3 y4 → μ y1 y2 y3 y4 < μ x1 x2 x3 x4 → L y1 y2 y3 y4) → f L x1 x2 x3 x4) (x1 : A1) (x2 : A2) (x3 : A3) (x4 : A4) (h0 : I x1 x2 x3 x4) : zw_lp4 f x1 x2 x3 x4 := by
  have key : ∀ (n : Nat) (x1 : A1) (x2 : A2) (x3 : A3) (x4 : A4), μ x1 x2 x3 x4 < n → I x1 x2 x3 x4 → zw_lpN4 f n x1 x2 x3 x4 := by
    intro n
    induction n with
    | zero => intro x1 x2 x3 x4 h; exact absurd h (Nat.not_lt_zero _)
    | succ n ih => intro x1 x2 x3 x4 hn hI; exact h (zw_lpN4 f n) x1 x2 x3 x4 hI (fun y1 y2 y3 y4 hJ hm => ih y1 y2 y3 y4 (Nat.lt_of_lt_of_le hm (Nat.le_of_lt_succ hn)) hJ)
  exact ⟨μ x1 x2 x3 x4 + 1, key _ x1 x2 x3 x4 (Nat.lt_succ_self _) h0⟩
def zw_jn5 {A1 A2 A3 A4 A5 : Type} (R : A1 → A2 → A3 → A4 → A5 → Prop) (B : (A1 → A2 → A3 → A4 → A5 → Prop) → Prop) : Prop := B R
theorem zw_jn5_i {A1 A2 A3 A4 A5 : Type} {R : A1 → A2 → A3 → A4 → A5 → Prop} {B : (A1 → A2 → A3 → A4 → A5 → Prop) → Prop} {P : A1 → A2 → A3 → A4 → A5 → Prop} {G : Prop} (hw : zw_jn5 R B) (h : ∀ (x1 : A1) (x2 : A2) (x3 : A3) (x4 : A4) (x5 : A5), R x1 x2 x3 x4 x5 → P x1 x2 x3 x4 x5) (g : ∀ J : A1 → A2 → A3 → A4 → A5 → Prop, (∀ (x1 : A1) (x2 : A2) (x3 : A3) (x4 : A4) (x5 : A5), J x1 x2 x3 x4 x5 → P x1 x2 x3 x4 x5) → B J → G) : G := g R h hw
def zw_lpN5 {A1 A2 A3 A4 A5 : Type} (f : (A1 → A2 → A3 → A4 → A5 → Prop) → A1 → A2 → A3 → A4 → A5 → Prop) : Nat → A1 → A2 → A3 → A4 → A5 → Prop
  | 0 => fun _ _ _ _ _ => False
  | n + 1 => f (zw_lpN5 f n)
def zw_lp5 {A1 A2 A3 A4 A5 : Type} (f : (A1 → A2 → A3 → A4 → A5 → Prop) → A1 → A2 → A3 → A4 → A5 → Prop) (x1 : A1) (x2 : A2) (x3 : A3) (x4 : A4) (x5 : A5) : Prop := ∃ n, zw_lpN5 f n x1 x2 x3 x4 x5
theorem zw_lp5_i {A1 A2 A3 A4 A5 : Type} {f : (A1 → A2 → A3 → A4 → A5 → Prop) → A1 → A2 → A3 → A4 → A5 → Prop} {P : A1 → A2 → A3 → A4 → A5 → Prop} {x1 : A1} {x2 : A2} {x3 : A3} {x4 : A4} {x5 : A5} (hw : zw_lp5 f x1 x2 x3 x4 x5) (h : ∀ (L : A1 → A2 → A3 → A4 → A5 → Prop) (x1 : A1) (x2 : A2) (x3 : A3) (x4 : A4) (x5 : A5), (∀ (x1 : A1) (x2 : A2) (x3 : A3) (x4 : A4) (x5 : A5), L x1 x2 x3 x4 x5 → P x1 x2 x3 x4 x5) → f L x1 x2 x3 x4 x5 → P x1 x2 x3 x4 x5) : P x1 x2 x3 x4 x5 := by
  obtain ⟨n, hw⟩ := hw
  have key : ∀ (n : Nat) (x1 : A1) (x2 : A2) (x3 : A3) (x4 : A4) (x5 : A5), zw_lpN5 f n x1 x2 x3 x4 x5 → P x1 x2 x3 x4 x5 := by
    intro n
    induction n with
    | zero => intro x1 x2 x3 x4 x5 h; exact h.elim
    | succ n ih => intro x1 x2 x3 x4 x5 hw; exact h (zw_lpN5 f n) x1 x2 x3 x4 x5 ih hw
  exact key n x1 x2 x3 x4 x5 hw
theorem zw_lp5_m {A1 A2 A3 A4 A5 : Type} {f : (A1 → A2 → A3 → A4 → A5 → Prop) → A1 → A2 → A3 → A4 → A5 → Prop} (I : A1 → A2 → A3 → A4 → A5 → Prop) (μ : A1 → A2 → A3 → A4 → A5 → Nat) (h : ∀ (L : A1 → A2 → A3 → A4 → A5 → Prop) (x1 : A1) (x2 : A2) (x3 : A3) (x4 : A4) (x5 : A5), I x1 x2 x3 x4 x5 → (∀ (y1 : A1) (y2 : A2) (y3 : A3) (y4 : A4) (y5 : A5), I y1 y2 y3 y4 y5 → μ y1 y2 y3 y4 y5 < μ x1 x2 x3 x4 x5 → L y1 y2 y3 y4 y5) → f L x1 x2 x3 x4 x5) (x1 : A1) (x2 : A2) (x3 : A3) (x4 : A4) (x5 : A5) (h0 : I x1 x2 x3 x4 x5) : zw_lp5 f x1 x2 x3 x4 x5 := by
  have key : ∀ (n : Nat) (x1 : A1) (x2 : A2) (x3 : A3) (x4 : A4) (x5 : A5), μ x1 x2 x3 x4 x5 < n → I x1 x2 x3 x4 x5 → zw_lpN5 f n x1 x2 x3 x4 x5 := by
    intro n
    induction n with
    | zero => intro x1 x2 x3 x4 x5 h; exact absurd h (Nat.not_lt_zero _)
    | succ n ih => intro x1 x2 x3 x4 x5 hn hI; exact h (zw_lpN5 f n) x1 x2 x3 x4 x5 hI (fun y1 y2 y3 y4 y5 hJ hm => ih y1 y2 y3 y4 y5 (Nat.lt_of_lt_of_le hm (Nat.le_of_lt_succ hn)) hJ)
  exact ⟨μ x1 x2 x3 x4 x5 + 1, key _ x1 x2 x3 x4 x5 (Nat.lt_succ_self _) h0⟩
def zw_jn6 {A1 A2 A3 A4 A5 A6 : Type} (R : A1 → A2 → A3 → A4 → A5 → A6 → Prop) (B : (A1 → A2 → A3 → A4 → A5 → A6 → Prop) → Prop) : Prop := B R
theorem zw_jn6_i {A1 A2 A3 A4 A5 A6 : Type} {R : A1 → A2 → A3 → A4 → A5 → A6 → Prop} {B : (A1 → A2 → A3 → A4 → A5 → A6 → Prop) → Prop} {P : A1 → A2 → A3 → A4 → A5 → A6 → Prop} {G : Prop} (hw : zw_jn6 R B) (h : ∀ (x1 : A1) (x2 : A2) (x3 : A3) (x4 : A4) (x5 : A5) (x6 : A6), R x1 x2 x3 x4 x5 x6 → P x1 x2 x3 x4 x5 x6) (g : ∀ J : A1 → A2 → A3 → A4 → A5 → A6 → Prop, (∀ (x1 : A1) (x2 : A2) (x3 : A3) (x4 : A4) (x5 : A5) (x6 : A6), J x1 x2 x3 x4 x5 x6 → P x1 x2 x3 x4 x5 x6) → B J → G) : G := g R h hw
def zw_lpN6 {A1 A2 A3 A4 A5 A6 : Type} (f : (A1 → A2 → A3 → A4 → A5 → A6 → Prop) → A1 → A2 → A3 → A4 → A5 → A6 → Prop) : Nat → A1 → A2 → A3 → A4 → A5 → A6 → Prop
  | 0 => fun _ _ _ _ _ _ => False
  | n + 1 => f (zw_lpN6 f n)
def zw_lp6 {A1 A2 A3 A4 A5 A6 : Type} (f : (A1 → A2 → A3 → A4 → A5 → A6 → Prop) → A1 → A2 → A3 → A4 → A5 → A6 → Prop) (x1 : A1) (x2 : A2) (x3 : A3) (x4 : A4) (x5 : A5) (x6 : A6) : Prop := ∃ n, zw_lpN6 f n x1 x2 x3 x4 x5 x6
theorem zw_lp6_i {A1 A2 A3 A4 A5 A6 : Type} {f : (A1 → A2 → A3 → A4 → A5 → A6 → Prop) → A1 → A2 → A3 → A4 → A5 → A6 → Prop} {P : A1 → A2 → A3 → A4 → A5 → A6 → Prop} {x1 : A1} {x2 : A2} {x3 : A3} {x4 : A4} {x5 : A5} {x6 : A6} (hw : zw_lp6 f x1 x2 x3 x4 x5 x6) (h : ∀ (L : A1 → A2 → A3 → A4 → A5 → A6 → Prop) (x1 : A1) (x2 : A2) (x3 : A3) (x4 : A4) (x5 : A5) (x6 : A6), (∀ (x1 : A1) (x2 : A2) (x3 : A3) (x4 : A4) (x5 : A5) (x6 : A6), L x1 x2 x3 x4 x5 x6 → P x1 x2 x3 x4 x5 x6) → f L x1 x2 x3 x4 x5 x6 → P x1 x2 x3 x4 x5 x6) : P x1 x2 x3 x4 x5 x6 := by
  obtain ⟨n, hw⟩ := hw
  have key : ∀ (n : Nat) (x1 : A1) (x2 : A2) (x3 : A3) (x4 : A4) (x5 : A5) (x6 : A6), zw_lpN6 f n x1 x2 x3 x4 x5 x6 → P x1 x2 x3 x4 x5 x6 := by
    intro n
    induction n with
    | zero => intro x1 x2 x3 x4 x5 x6 h; exact h.elim
    | succ n ih => intro x1 x2 x3 x4 x5 x6 hw; exact h (zw_lpN6 f n) x1 x2 x3 x4 x5 x6 ih hw
  exact key n x1 x2 x3 x4 x5 x6 hw
theorem zw_lp6_m {A1 A2 A3 A4 A5 A6 : Type} {f : (A1 → A2 → A3 → A4 → A5 → A6 → Prop) → A1 → A2 → A3 → A4 → A5 → A6 → Prop} (I : A1 → A2 → A3 → A4 → A5 → A6 → Prop) (μ : A1 → A2 → A3 → A4 → A5 → A6 → Nat) (h : ∀ (L : A1 → A2 → A3 → A4 → A5 → A6 → Prop) (x1 : A1) (x2 : A2) (x3 : A3) (x4 : A4) (x5 : A5) (x6 : A6), I x1 x2 x3 x4 x5 x6 → (∀ (y1 : A1) (y2 : A2) (y3 : A3) (y4 : A4) (y5 : A5) (y6 : A6), I y1 y2 y3 y4 y5 y6 → μ y1 y2 y3 y4 y5 y6 < μ x1 x2 x3 x4 x5 x6 → L y1 y2 y3 y4 y5 y6) → f L x1 x2 x3 x4 x5 x6) (x1 : A1) (x2 : A2) (x3 : A3) (x4 : A4) (x5 : A5) (x6 : A6) (h0 : I x1 x2 x3 x4 x5 x6) : zw_lp6 f x1 x2 x3 x4 x5 x6 := by
  have key : ∀ (n : Nat) (x1 : A1) (x2 : A2) (x3 : A3) (x4 : A4) (x5 : A5) (x6 : A6), μ x1 x2 x3 x4 x5 x6 < n → I x1 x2 x3 x4 x5 x6 → zw_lpN6 f n x1 x2 x3 x4 x5 x6 := by
    intro n
    induction n with
    | zero => intro x1 x2 x3 x4 x5 x6 h; exact absurd h (Nat.not_lt_zero _)
    | succ n ih => intro x1 x2 x3 x4 x5 x6 hn hI; exact h (zw_lpN6 f n) x1 x2 x3 x4 x5 x6 hI (fun y1 y2 y3 y4 y5 y6 hJ hm => ih y1 y2 y3 y4 y5 y6 (Nat.lt_of_lt_of_le hm (Nat.le_of_lt_succ hn)) hJ)
  exact ⟨μ x1 x2 x3 x4 x5 x6 + 1, key _ x1 x2 x3 x4 x5 x6 (Nat.lt_succ_self _) h0⟩
def zw_jn7 {A1 A2 A3 A4 A5 A6 A7 : Type} (R : A1 → A2 → A3 → A4 → A5 → A6 → A7 → Prop) (B : (A1 → A2 → A3 → A4 → A5 → A6 → A7 → Prop) → Prop) : Prop := B R
theorem zw_jn7_i {A1 A2 A3 A4 A5 A6 A7 : Type} {R : A1 → A2 → A3 → A4 → A5 → A6 → A7 → Prop} {B : (A1 → A2 → A3 → A4 → A5 → A6 → A7 → Prop) → Prop} {P : A1 → A2 → A3 → A4 → A5 → A6 → A7 → Prop} {G : Prop} (hw : zw_jn7 R B) (h : ∀ (x1 : A1) (x2 : A2) (x3 : A3) (x4 : A4) (x5 : A5) (x6 : A6) (x7 : A7), R x1 x2 x3 x4 x5 x6 x7 → P x1 x2 x3 x4 x5 x6 x7) (g : ∀ J : A1 → A2 → A3 → A4 → A5 → A6 → A7 → Prop, (∀ (x1 : A1) (x2 : A2) (x3 : A3) (x4 : A4) (x5 : A5) (x6 : A6) (x7 : A7), J x1 x2 x3 x4 x5 x6 x7 → P x1 x2 x3 x4 x5 x6 x7) → B J → G) : G := g R h hw
def zw_lpN7 {A1 A2 A3 A4 A5 A6 A7 : Type} (f : (A1 → A2 → A3 → A4 → A5 → A6 → A7 → Prop) → A1 → A2 → A3 → A4 → A5 → A6 → A7 → Prop) : Nat → A1 → A2 → A3 → A4 → A5 → A6 → A7 → Prop
  | 0 => fun _ _ _ _ _ _ _ => False
  | n + 1 => f (zw_lpN7 f n)
def zw_lp7 {A1 A2 A3 A4 A5 A6 A7 : Type} (f : (A1 → A2 → A3 → A4 → A5 → A6 → A7 → Prop) → A1 → A2 → A3 → A4 → A5 → A6 → A7 → Prop) (x1 : A1) (x2 : A2) (x3 : A3) (x4 : A4) (x5 : A5) (x6 : A6) (x7 : A7) : Prop := ∃ n, zw_lpN7 f n x1 x2 x3 x4 x5 x6 x7
theorem zw_lp7_i {A1 A2 A3 A4 A5 A6 A7 : Type} {f : (A1 → A2 → A3 → A4 → A5 → A6 → A7 → Prop) → A1 → A2 → A3 → A4 → A5 → A6 → A7 → Prop} {P : A1 → A2 → A3 → A4 → A5 → A6 → A7 → Prop} {x1 : A1} {x2 : A2} {x3 : A3} {x4 : A4} {x5 : A5} {x6 : A6} {x7 : A7} (hw : zw_lp7 f x1 x2 x3 x4 x5 x6 x7) (h : ∀ (L : A1 → A2 → A3 → A4 → A5 → A6 → A7 → Prop) (x1 : A1) (x2 : A2) (x3 : A3) (x4 : A4) (x5 : A5) (x6 : A6) (x7 : A7), (∀ (x1 : A1) (x2 : A2) (x3 : A3) (x4 : A4) (x5 : A5) (x6 : A6) (x7 : A7), L x1 x2 x3 x4 x5 x6 x7 → P x1 x2 x3 x4 x5 x6 x7) → f L x1 x2 x3 x4 x5 x6 x7 → P x1 x2 x3 x4 x5 x6 x7) : P x1 x2 x3 x4 x5 x6 x7 := by
  obtain ⟨n, hw⟩ := hw
  have key : ∀ (n : Nat) (x1 : A1) (x2 : A2) (x3 : A3) (x4 : A4) (x5 : A5) (x6 : A6) (x7 : A7), zw_lpN7 f n x1 x2 x3 x4 x5 x6 x7 → P x1 x2 x3 x4 x5 x6 x7 := by
    intro n
    induction n with
    | zero => intro x1 x2 x3 x4 x5 x6 x7 h; exact h.elim
    | succ n ih => intro x1 x2 x3 x4 x5 x6 x7 hw; exact h (zw_lpN7 f n) x1 x2 x3 x4 x5 x6 x7 ih hw
  exact key n x1 x2 x3 x4 x5 x6 x7 hw
theorem zw_lp7_m {A1 A2 A3 A4 A5 A6 A7 : Type} {f : (A1 → A2 → A3 → A4 → A5 → A6 → A7 → Prop) → A1 → A2 → A3 → A4 → A5 → A6 → A7 → Prop} (I : A1 → A2 → A3 → A4 → A5 → A6 → A7 → Prop) (μ : A1 → A2 → A3 → A4 → A5 → A6 → A7 → Nat) (h : ∀ (L : A1 → A2 → A3 → A4 → A5 → A6 → A7 → Prop) (x1 : A1) (x2 : A2) (x3 : A3) (x4 : A4) (x5 : A5) (x6 : A6) (x7 : A7), I x1 x2 x3 x4 x5 x6 x7 → (∀ (y1 : A1) (y2 : A2) (y3 : A3) (y4 : A4) (y5 : A5) (y6 : A6) (y7 : A7), I y1 y2 y3 y4 y5 y6 y7 → μ y1 y2 y3 y4 y5 y6 y7 < μ x1 x2 x3 x4 x5 x6 x7 → L y1 y2 y3 y4 y5 y6 y7) → f L x1 x2 x3 x4 x5 x6 x7) (x1 : A1) (x2 : A2) (x3 : A3) (x4 : A4) (x5 : A5) (x6 : A6) (x7 : A7) (h0 : I x1 x2 x3 x4 x5 x6 x7) : zw_lp7 f x1 x2 x3 x4 x5 x6 x7 := by
  have key : ∀ (n : Nat) (x1 : A1) (x2 : A2) (x3 : A3) (x4 : A4) (x5 : A5) (x6 : A6) (x7 : A7), μ x1 x2 x3 x4 x5 x6 x7 < n → I x1 x2 x3 x4 x5 x6 x7 → zw_lpN7 f n x1 x2 x3 x4 x5 x6 x7 := by
    intro n
    induction n with
    | zero => intro x1 x2 x3 x4 x5 x6 x7 h; exact absurd h (Nat.not_lt_zero _)
    | succ n ih => intro x1 x2 x3 x4 x5 x6 x7 hn hI; exact h (zw_lpN7 f n) x1 x2 x3 x4 x5 x6 x7 hI (fun y1 y2 y3 y4 y5 y6 y7 hJ hm => ih y1 y2 y3 y4 y5 y6 y7 (Nat.lt_of_lt_of_le hm (Nat.le_of_lt_succ hn)) hJ)
  exact ⟨μ x1 x2 x3 x4 x5 x6 x7 + 1, key _ x1 x2 x3 x4 x5 x6 x7 (Nat.lt_succ_self _) h0⟩
def zw_jn8 {A1 A2 A3 A4 A5 A6 A7 A8 : Type} (R : A1 → A2 → A3 → A4 → A5 → A6 → A7 → A8 → Prop) (B : (A1 → A2 → A3 → A4 → A5 → A6 → A7 → A8 → Prop) → Prop) : Prop := B R
theorem zw_jn8_i {A1 A2 A3 A4 A5 A6 A7 A8 : Type} {R : A1 → A2 → A3 → A4 → A5 → A6 → A7 → A8 → Prop} {B : (A1 → A2 → A3 → A4 → A5 → A6 → A7 → A8 → Prop) → Prop} {P : A1 → A2 → A3 → A4 → A5 → A6 → A7 → A8 → Prop} {G : Prop} (hw : zw_jn8 R B) (h : ∀ (x1 : A1) (x2 : A2) (x3 : A3) (x4 : A4) (x5 : A5) (x6 : A6) (x7 : A7) (x8 : A8), R x1 x2 x3 x4 x5 x6 x7 x8 → P x1 x2 x3 x4 x5 x6 x7 x8) (g : ∀ J : A1 → A2 → A3 → A4 → A5 → A6 → A7 → A8 → Prop, (∀ (x1 : A1) (x2 : A2) (x3 : A3) (x4 : A4) (x5 : A5) (x6 : A6) (x7 : A7) (x8 : A8), J x1 x2 x3 x4 x5 x6 x7 x8 → P x1 x2 x3 x4 x5 x6 x7 x8) → B J → G) : G := g R h hw
def zw_lpN8 {A1 A2 A3 A4 A5 A6 A7 A8 : Type} (f : (A1 → A2 → A3 → A4 → A5 → A6 → A7 → A8 → Prop) → A1 → A2 → A3 → A4 → A5 → A6 → A7 → A8 → Prop) : Nat → A1 → A2 → A3 → A4 → A5 → A6 → A7 → A8 → Prop
  | 0 => fun _ _ _ _ _ _ _ _ => False
  | n + 1 => f (zw_lpN8 f n)
def zw_lp8 {A1 A2 A3 A4 A5 A6 A7 A8 : Type} (f : (A1 → A2 → A3 → A4 → A5 → A6 → A7 → A8 → Prop) → A1 → A2 → A3 → A4 → A5 → A6 → A7 → A8 → Prop) (x1 : A1) (x2 : A2) (x3 : A3) (x4 : A4) (x5 : A5) (x6 : A6) (x7 : A7) (x8 : A8) : Prop := ∃ n, zw_lpN8 f n x1 x2 x3 x4 x5 x6 x7 x8
theorem zw_lp8_i {A1 A2 A3 A4 A5 A6 A7 A8 : Type} {f : (A1 → A2 → A3 → A4 → A5 → A6 → A7 → A8 → Prop) → A1 → A2 → A3 → A4 → A5 → A6 → A7 → A8 → Prop} {P : A1 → A2 → A3 → A4 → A5 → A6 → A7 → A8 → Prop} {x1 : A1} {x2 : A2} {x3 : A3} {x4 : A4} {x5 : A5} {x6 : A6} {x7 : A7} {x8 : A8} (hw : zw_lp8 f x1 x2 x3 x4 x5 x6 x7 x8) (h : ∀ (L : A1 → A2 → A3 → A4 → A5 → A6 → A7 → A8 → Prop) (x1 : A1) (x2 : A2) (x3 : A3) (x4 : A4) (x5 : A5) (x6 : A6) (x7 : A7) (x8 : A8), (∀ (x1 : A1) (x2 : A2) (x3 : A3) (x4 : A4) (x5 : A5) (x6 : A6) (x7 : A7) (x8 : A8), L x1 x2 x3 x4 x5 x6 x7 x8 → P x1 x2 x3 x4 x5 x6 x7 x8) → f L x1 x2 x3 x4 x5 x6 x7 x8 → P x1 x2 x3 x4 x5 x6 x7 x8) : P x1 x2 x3 x4 x5 x6 x7 x8 := by
  obtain ⟨n, hw⟩ := hw
  have key : ∀ (n : Nat) (x1 : A1) (x2 : A2) (x3 : A3) (x4 : A4) (x5 : A5) (x6 : A6) (x7 : A7) (x8 : A8), zw_lpN8 f n x1 x2 x3 x4 x5 x6 x7 x8 → P x1 x2 x3 x4 x5 x6 x7 x8 := by
    intro n
    induction n with
    | zero => intro x1 x2 x3 x4 x5 x6 x7 x8 h; exact h.elim
    | succ n ih => intro x1 x2 x3 x4 x5 x6 x7 x8 hw; exact h (zw_lpN8 f n) x1 x2 x3 x4 x5 x6 x7 x8 ih hw
  exact key n x1 x2 x3 x4 x5 x6 x7 x8 hw
theorem zw_lp8_m {A1 A2 A3 A4 A5 A6 A7 A8 : Type} {f : (A1 → A2 → A3 → A4 → A5 → A6 → A7 → A8 → Prop) → A1 → A2 → A3 → A4 → A5 → A6 → A7 → A8 → Prop} (I : A1 → A2 → A3 → A4 → A5 → A6 → A7 → A8 → Prop) (μ : A1 → A2 → A3 → A4 → A5 → A6 → A7 → A8 → Nat) (h : ∀ (L : A1 → A2 → A3 → A4 → A5 → A6 → A7 → A8 → Prop) (x1 : A1) (x2 : A2) (x3 : A3) (x4 : A4) (x5 : A5) (x6 : A6) (x7 : A7) (x8 : A8), I x1 x2 x3 x4 x5 x6 x7 x8 → (∀ (y1 : A1) (y2 : A2) (y3 : A3) (y4 : A4) (y5 : A5) (y6 : A6) (y7 : A7) (y8 : A8), I y1 y2 y3 y4 y5 y6 y7 y8 → μ y1 y2 y3 y4 y5 y6 y7 y8 < μ x1 x2 x3 x4 x5 x6 x7 x8 → L y1 y2 y3 y4 y5 y6 y7 y8) → f L x1 x2 x3 x4 x5 x6 x7 x8) (x1 : A1) (x2 : A2) (x3 : A3) (x4 : A4) (x5 : A5) (x6 : A6) (x7 : A7) (x8 : A8) (h0 : I x1 x2 x3 x4 x5 x6 x7 x8) : zw_lp8 f x1 x2 x3 x4 x5 x6 x7 x8 := by
  have key : ∀ (n : Nat) (x1 : A1) (x2 : A2) (x3 : A3) (x4 : A4) (x5 : A5) (x6 : A6) (x7 : A7) (x8 : A8), μ x1 x2 x3 x4 x5 x6 x7 x8 < n → I x1 x2 x3 x4 x5 x6 x7 x8 → zw_lpN8 f n x1 x2 x3 x4 x5 x6 x7 x8 := by
    intro n
    induction n with
    | zero => intro x1 x2 x3 x4 x5 x6 x7 x8 h; exact absurd h (Nat.not_lt_zero _)
    | succ n ih => intro x1 x2 x3 x4 x5 x6 x7 x8 hn hI; exact h (zw_lpN8 f n) x1 x2 x3 x4 x5 x6 x7 x8 hI (fun y1 y2 y3 y4 y5 y6 y7 y8 hJ hm => ih y1 y2 y3 y4 y5 y6 y7 y8 (Nat.lt_of_lt_of_le hm (Nat.le_of_lt_succ hn)) hJ)
  exact ⟨μ x1 x2 x3 x4 x5 x6 x7 x8 + 1, key _ x1 x2 x3 x4 x5 x6 x7 x8 (Nat.lt_succ_self _) h0⟩
def zw_jn9 {A1 A2 A3 A4 A5 A6 A7 A8 A9 : Type} (R : A1 → A2 → A3 → A4 → A5 → A6 → A7 → A8 → A9 → Prop) (B : (A1 → A2 → A3 → A4 → A5 → A6 → A7 → A8 → A9 → Prop) → Prop) : Prop := B R
theorem zw_jn9_i {A1 A2 A3 A4 A5 A6 A7 A8 A9 : Type} {R : A1 → A2 → A3 → A4 → A5 → A6 → A7 → A8 → A9 → Prop} {B : (A1 → A2 → A3 → A4 → A5 → A6 → A7 → A8 → A9 → Prop) → Prop} {P : A1 → A2 → A3 → A4 → A5 → A6 → A7 → A8 → A9 → Prop} {G : Prop} (hw : zw_jn9 R B) (h : ∀ (x1 : A1) (x2 : A2) (x3 : A3) (x4 : A4) (x5 : A5) (x6 : A6) (x7 : A7) (x8 : A8) (x9 : A9), R x1 x2 x3 x4 x5 x6 x7 x8 x9 → P x1 x2 x3 x4 x5 x6 x7 x8 x9) (g : ∀ J : A1 → A2 → A3 → A4 → A5 → A6 → A7 → A8 → A9 → Prop, (∀ (x1 : A1) (x2 : A2) (x3 : A3) (x4 : A4) (x5 : A5) (x6 : A6) (x7 : A7) (x8 : A8) (x9 : A9), J x1 x2 x3 x4 x5 x6 x7 x8 x9 → P x1 x2 x3 x4 x5 x6 x7 x8 x9) → B J → G) : G := g R h hw
def zw_lpN9 {A1 A2 A3 A4 A5 A6 A7 A8 A9 : Type} (f : (A1 → A2 → A3 → A4 → A5 → A6 → A7 → A8 → A9 → Prop) → A1 → A2 → A3 → A4 → A5 → A6 → A7 → A8 → A9 → Prop) : Nat → A1 → A2 → A3 → A4 → A5 → A6 → A7 → A8 → A9 → Prop
  | 0 => fun _ _ _ _ _ _ _ _ _ => False
  | n + 1 => f (zw_lpN9 f n)
def zw_lp9 {A1 A2 A3 A4 A5 A6 A7 A8 A9 : Type} (f : (A1 → A2 → A3 → A4 → A5 → A6 → A7 → A8 → A9 → Prop) → A1 → A2 → A3 → A4 → A5 → A6 → A7 → A8 → A9 → Prop) (x1 : A1) (x2 : A2) (x3 : A3) (x4 : A4) (x5 : A5) (x6 : A6) (x7 : A7) (x8 : A8) (x9 : A9) : Prop := ∃ n, zw_lpN9 f n x1 x2 x3 x4 x5 x6 x7 x8 x9
theorem zw_lp9_i {A1 A2 A3 A4 A5 A6 A7 A8 A9 : Type} {f : (A1 → A2 → A3 → A4 → A5 → A6 → A7 → A8 → A9 → Prop) → A1 → A2 → A3 → A4 → A5 → A6 → A7 → A8 → A9 → Prop} {P : A1 → A2 → A3 → A4 → A5 → A6 → A7 → A8 → A9 → Prop} {x1 : A1} {x2 : A2} {x3 : A3} {x4 : A4} {x5 : A5} {x6 : A6} {x7 : A7} {x8 : A8} {x9 : A9} (hw : zw_lp9 f x1 x2 x3 x4 x5 x6 x7 x8 x9) (h : ∀ (L : A1 → A2 → A3 → A4 → A5 → A6 → A7 → A8 → A9 → Prop) (x1 : A1) (x2 : A2) (x3 : A3) (x4 : A4) (x5 : A5) (x6 : A6) (x7 : A7) (x8 : A8) (x9 : A9), (∀ (x1 : A1) (x2 : A2) (x3 : A3) (x4 : A4) (x5 : A5) (x6 : A6) (x7 : A7) (x8 : A8) (x9 : A9), L x1 x2 x3 x4 x5 x6 x7 x8 x9 → P x1 x2 x3 x4 x5 x6 x7 x8 x9) → f L x1 x2 x3 x4 x5 x6 x7 x8 x9 → P x1 x2 x3 x4 x5 x6 x7 x8 x9) : P x1 x2 x3 x4 x5 x6 x7 x8 x9 := by
  obtain ⟨n, hw⟩ := hw
  have key : ∀ (n : Nat) (x1 : A1) (x2 : A2) (x3 : A3) (x4 : A4) (x5 : A5) (x6 : A6) (x7 : A7) (x8 : A8) (x9 : A9), zw_lpN9 f n x1 x2 x3 x4 x5 x6 x7 x8 x9 → P x1 x2 x3 x4 x5 x6 x7 x8 x9 := by
    intro n
    induction n with
    | zero => intro x1 x2 x3 x4 x5 x6 x7 x8 x9 h; exact h.elim
    | succ n ih => intro x1 x2 x3 x4 x5 x6 x7 x8 x9 hw; exact h (zw_lpN9 f n) x1 x2 x3 x4 x5 x6 x7 x8 x9 ih hw
  exact key n x1 x2 x3 x4 x5 x6 x7 x8 x9 hw
theorem zw_lp9_m {A1 A2 A3 A4 A5 A6 A7 A8 A9 : Type} {f : (A1 → A2 → A3 → A4 → A5 → A6 → A7 → A8 → A9 → Prop) → A1 → A2 → A3 → A4 → A5 → A6 → A7 → A8 → A9 → Prop} (I : A1 → A2 → A3 → A4 → A5 → A6 → A7 → A8 → A9 → Prop) (μ : A1 → A2 → A3 → A4 → A5 → A6 → A7 → A8 → A9 → Nat) (h : ∀ (L : A1 → A2 → A3 → A4 → A5 → A6 → A7 → A8 → A9 → Prop) (x1 : A1) (x2 : A2) (x3 : A3) (x4 : A4) (x5 : A5) (x6 : A6) (x7 : A7) (x8 : A8) (x9 : A9), I x1 x2 x3 x4 x5 x6 x7 x8 x9 → (∀ (y1 : A1) (y2 : A2) (y3 : A3) (y4 : A4) (y5 : A5) (y6 : A6) (y7 : A7) (y8 : A8) (y9 : A9), I y1 y2 y3 y4 y5 y6 y7 y8 y9 → μ y1 y2 y3 y4 y5 y6 y7 y8 y9 < μ x1 x2 x3 x4 x5 x6 x7 x8 x9 → L y1 y2 y3 y4 y5 y6 y7 y8 y9) → f L x1 x2 x3 x4 x5 x6 x7 x8 x9) (x1 : A1) (x2 : A2) (x3 : A3) (x4 : A4) (x5 : A5) (x6 : A6) (x7 : A7) (x8 : A8) (x9 : A9) (h0 : I x1 x2 x3 x4 x5 x6 x7 x8 x9) : zw_lp9 f x1 x2 x3 x4 x5 x6 x7 x8 x9 := by
  have key : ∀ (n : Nat) (x1 : A1) (x2 : A2) (x3 : A3) (x4 : A4) (x5 : A5) (x6 : A6) (x7 : A7) (x8 : A8) (x9 : A9), μ x1 x2 x3 x4 x5 x6 x7 x8 x9 < n → I x1 x2 x3 x4 x5 x6 x7 x8 x9 → zw_lpN9 f n x1 x2 x3 x4 x5 x6 x7 x8 x9 := by
    intro n
    induction n with
    | zero => intro x1 x2 x3 x4 x5 x6 x7 x8 x9 h; exact absurd h (Nat.not_lt_zero _)
    | succ n ih => intro x1 x2 x3 x4 x5 x6 x7 x8 x9 hn hI; exact h (zw_lpN9 f n) x1 x2 x3 x4 x5 x6 x7 x8 x9 hI (fun y1 y2 y3 y4 y5 y6 y7 y8 y9 hJ hm => ih y1 y2 y3 y4 y5 y6 y7 y8 y9 (Nat.lt_of_lt_of_le hm (Nat.le_of_lt_succ hn)) hJ)
  exact ⟨μ x1 x2 x3 x4 x5 x6 x7 x8 x9 + 1, key _ x1 x2 x3 x4 x5 x6 x7 x8 x9 (Nat.lt_succ_self _) h0⟩
theorem zw_lt {i : Int32} {n : Nat} (h : vp_in i n) : i.toNatClampNeg < n := Nat.not_le.mp fun q => h (Or.inr q)
theorem zw_lg_eq {x y : Int64} : lg_cmp x y = 0 ↔ x = y := by
  unfold lg_cmp
  by_cases h1 : y < x
  · rw [if_pos h1]
    exact ⟨fun h => absurd h (by decide), fun h => absurd h1 (by rw [h]; exact Int64.lt_irrefl)⟩
  · by_cases h2 : x = y
    · simp [h1, h2]
    · simp [h1, h2]
theorem zw_lg_lt {x y : Int64} : lg_cmp x y < 0 ↔ x < y := by
  unfold lg_cmp
  by_cases h1 : y < x
  · rw [if_pos h1]
    exact ⟨fun h => absurd h (by decide), fun h => absurd h1 (by rw [Int64.lt_iff_toInt_lt] at h ⊢; omega)⟩
  · by_cases h2 : x = y
    · subst h2
      simp [h1]
    · rw [if_neg h1, if_neg h2]
      refine ⟨fun _ => ?_, fun _ => by decide⟩
      rw [Int64.lt_iff_toInt_lt] at h1 ⊢
      have h3 : x.toInt ≠ y.toInt := fun q => h2 (Int64.toInt_inj.mp q)
      omega
theorem zw_lg_gt {x y : Int64} : 0 < lg_cmp x y ↔ y < x := by
  unfold lg_cmp
  by_cases h1 : y < x
  · rw [if_pos h1]
    exact ⟨fun _ => h1, fun _ => by decide⟩
  · by_cases h2 : x = y
    · subst h2
      simp [h1]
    · rw [if_neg h1, if_neg h2]
      exact ⟨fun h => absurd h (by decide), fun h => absurd h h1⟩
theorem zw_lg_ge {x y : Int64} : 0 ≤ lg_cmp x y ↔ y ≤ x := by
  have h := zw_lg_lt (x := x) (y := y)
  rw [← Int32.not_lt, ← Int64.not_lt, h]
theorem zw_lg_le {x y : Int64} : lg_cmp x y ≤ 0 ↔ x ≤ y := by
  have h := zw_lg_gt (x := x) (y := y)
  rw [← Int32.not_lt, ← Int64.not_lt, h]
/-! zw_: worlds that a whole system's methods share: their starts, their calls -/
abbrev zw_Z : Type := (Nat → Int32) × (Nat → Int64) × (Nat → Nat → Int32) × (Nat → Nat → Int64)
def zw_N (U : State) : Prop := ∀ q ∈ zw_nw, va_Nw (.methodLinkNest q.1 q.2.1 q.2.2.1 q.2.2.2) U
theorem zw_N.same {u U : State} (h : u.vm = U.vm) (hN : zw_N u) : zw_N U := fun q hq => va_Nw.same rfl h (hN q hq)
theorem zw_N.warm {s U : State} (hW : s.WarmedH U.vm) (hN : zw_N s) : zw_N U := fun q hq => va_Nw.warmM hW (hN q hq)
def zw_B (D : va_G) (cl : List vw_C) (tys : List (ClassId × FieldType)) (ws : va_W) (U : State) : Prop := va_P D cl ws U.heap ∧ va_K D cl tys U ∧ zw_N U
def zw_Bw (D : va_G) (cl : List vw_C) (tys : List (ClassId × FieldType)) (ws : va_W) (sz : Nat) (U : State) : Prop := U.heap.size = sz ∧ va_P D cl ws U.heap ∧ va_K D cl tys U ∧ va_D (fun _ => True) ws ∧ zw_N U
def zw_E (D : va_G) (cl : List vw_C) (tys : List (ClassId × FieldType)) (A : Nat → Prop) (ws : va_W) (t : State) : Prop := va_P D cl ws t.heap ∧ va_K D cl tys t ∧ va_D A ws
theorem zw_blind {av : List Value} {D : va_G} {cl : List vw_C} {tys : List (ClassId × FieldType)} {ws : va_W} : FrameBlind (va_Pc av (zw_B D cl tys ws)) := fun a U g mk q => ⟨q.1, q.2.1, va_K.moved (u := U) (U := U.calling g mk a) (Vm.Alike.refl U.vm) q.2.2.1, zw_N.same (u := U) rfl q.2.2.2⟩
theorem zw_blindw {av : List Value} {D : va_G} {cl : List vw_C} {tys : List (ClassId × FieldType)} {ws : va_W} {sz : Nat} : FrameBlind (va_Pc av (zw_Bw D cl tys ws sz)) := fun a U g mk q => ⟨q.1, q.2.1, q.2.2.1, va_K.moved (u := U) (U := U.calling g mk a) (Vm.Alike.refl U.vm) q.2.2.2.1, q.2.2.2.2.1, zw_N.same (u := U) rfl q.2.2.2.2.2⟩
theorem zw_preS0 {s : State} {H : Heap} {As : List Value} : PreS s H (va_Pc As (fun _ => True)) As := ⟨fun _ _ _ _ q => q, fun _ _ _ => ⟨rfl, trivial⟩⟩
theorem zw_preS {s : State} {H : Heap} {As : List Value} {D : va_G} {cl : List vw_C} {tys : List (ClassId × FieldType)} {ws : va_W} (hK : va_K D cl tys s) (hN : zw_N s) (hP : va_P D cl ws H) : PreS s H (va_Pc As (zw_B D cl tys ws)) As :=
  ⟨zw_blind, fun U hU hW => ⟨rfl, by rw [hU]; exact hP, va_K.moved hW.alike hK, hN.warm hW⟩⟩
theorem zw_preV {s : State} {H : Heap} {As : List Value} {D : va_G} {cl : List vw_C} {tys : List (ClassId × FieldType)} {ws : va_W} (hK : va_K D cl tys s) (hN : zw_N s) (hP : va_P D cl ws H) {q : vw_C} {ci q0 b : Nat} {fs : List Value} (hc : cl[ci]? = some q) (he : ws[q0]? = some (b, .inr (ci, fs))) : PreV s H q.1 b (va_Pc (.ref b :: As) (zw_B D cl tys ws)) As :=
  ⟨zw_blind, va_recv hK hP hc he, fun U hU hW => ⟨rfl, by rw [hU]; exact hP, va_K.moved hW.alike hK, hN.warm hW⟩⟩
theorem zw_preSw {s : State} {H : Heap} {As : List Value} {D : va_G} {cl : List vw_C} {tys : List (ClassId × FieldType)} {ws : va_W} {A : Nat → Prop} (hK : va_K D cl tys s) (hN : zw_N s) (hP : va_P D cl ws H) (hD : va_D A ws) : PreS s H (va_Pc As (zw_Bw D cl tys ws H.size)) As :=
  ⟨zw_blindw, fun U hU hW => ⟨rfl, by rw [hU], by rw [hU]; exact hP, va_K.moved hW.alike hK, hD.weaken (fun _ _ _ _ => trivial), hN.warm hW⟩⟩
theorem zw_preVw {s : State} {H : Heap} {As : List Value} {D : va_G} {cl : List vw_C} {tys : List (ClassId × FieldType)} {ws : va_W} {A : Nat → Prop} (hK : va_K D cl tys s) (hN : zw_N s) (hP : va_P D cl ws H) (hD : va_D A ws) {q : vw_C} {ci q0 b : Nat} {fs : List Value} (hc : cl[ci]? = some q) (he : ws[q0]? = some (b, .inr (ci, fs))) : PreV s H q.1 b (va_Pc (.ref b :: As) (zw_Bw D cl tys ws H.size)) As :=
  ⟨zw_blindw, va_recv hK hP hc he, fun U hU hW => ⟨rfl, by rw [hU], by rw [hU]; exact hP, va_K.moved hW.alike hK, hD.weaken (fun _ _ _ _ => trivial), hN.warm hW⟩⟩
section ZWC
variable {p : Program} {l : Launch} {e : Env} {R : Room} {s : State} {m : MethodId} {args : Array Value} {below : List Frame} {meth : Method} {c : Code} {H : Heap} {locs : List Loc} {cells slots : Nat} {Q : State → Prop}
variable {cc : ByteArray} {pc : Nat} {ls : Array Slot} {rest st0 : List Value} {a : Array Value} {A : Nat → Prop} {H0 : Heap} {D : va_G} {cl : List vw_C} {tys : List (ClassId × FieldType)} {w0 : va_W} {Wd : (Nat → Int32) → (Nat → Int64) → (Nat → Nat → Int32) → (Nat → Nat → Int64) → va_W}
theorem zw_free (hD : va_D A w0) (hS : va_S A H0 H locs) (hA : ∀ q, H0.size ≤ q → A q) : ∀ q, va_A w0 H.size q → A q := by
  rintro q (⟨k, e, h⟩ | h)
  · exact hD.2 k _ h
  · exact hA q (Nat.le_trans hS.1 h)
theorem zw_cv {K : (Nat → Int32) → (Nat → Int64) → (Nat → Nat → Int32) → (Nat → Nat → Int64) → Prop} (hr : va_Run p l e R s m args below meth c H locs cells slots 0 0 (F0 m pc ls st0) rest (va_Qv (fun u : zw_Z => K u.1 u.2.1 u.2.2.1 u.2.2.2) (fun u t => zw_E D cl tys (va_A w0 H.size) (Wd u.1 u.2.1 u.2.2.1 u.2.2.2) t) (va_A w0 H.size) a) (va_A w0 H.size)) (hD : va_D A w0) (hS : va_S A H0 H locs) (hA : ∀ q, H0.size ≤ q → A q)
    (kk : ∀ fi fl ai al (H1 : Heap) (locs1 : List Loc), K fi fl ai al → va_P D cl (Wd fi fl ai al) H1 → va_D A (Wd fi fl ai al) → va_S A H0 H1 locs1 → W p l e R s m args below meth c H1 locs1 cells slots Q (F0 m (pc + 3) ls rest)) : W p l e R s m args below meth c H locs cells slots Q (F0 m pc ls st0) := by
  have hF := zw_free hD hS hA
  refine va_callv hr hS (fun q _ h => hF q h) hF (fun u t H1 locs1 ht hvm hw hB hz hk hS1 => ?_)
  obtain ⟨hP1, hK1, hD1⟩ := hB
  rw [ht] at hP1
  exact kk _ _ _ _ H1 locs1 hw hP1 (hD1.weaken (fun k q _ h => hF q.1 h)) hS1
theorem zw_ci {K : Int32 → (Nat → Int32) → (Nat → Int64) → (Nat → Nat → Int32) → (Nat → Nat → Int64) → Prop} (hr : va_Run p l e R s m args below meth c H locs cells slots 0 0 (F0 m pc ls st0) rest (va_Qi (fun r (u : zw_Z) => K r u.1 u.2.1 u.2.2.1 u.2.2.2) (fun u t => zw_E D cl tys (va_A w0 H.size) (Wd u.1 u.2.1 u.2.2.1 u.2.2.2) t) (va_A w0 H.size) a) (va_A w0 H.size)) (hD : va_D A w0) (hS : va_S A H0 H locs) (hA : ∀ q, H0.size ≤ q → A q)
    (kk : ∀ r fi fl ai al (H1 : Heap) (locs1 : List Loc), K r fi fl ai al → va_P D cl (Wd fi fl ai al) H1 → va_D A (Wd fi fl ai al) → va_S A H0 H1 locs1 → W p l e R s m args below meth c H1 locs1 cells slots Q (F0 m (pc + 3) ls (.int r :: rest))) : W p l e R s m args below meth c H locs cells slots Q (F0 m pc ls st0) := by
  have hF := zw_free hD hS hA
  refine va_calli hr hS (fun q _ h => hF q h) hF (fun r u t H1 locs1 ht hvm hw hB hz hk hS1 => ?_)
  obtain ⟨hP1, hK1, hD1⟩ := hB
  rw [ht] at hP1
  exact kk r _ _ _ _ H1 locs1 hw hP1 (hD1.weaken (fun k q _ h => hF q.1 h)) hS1
theorem zw_cl {K : Int64 → (Nat → Int32) → (Nat → Int64) → (Nat → Nat → Int32) → (Nat → Nat → Int64) → Prop} (hr : va_Run p l e R s m args below meth c H locs cells slots 0 0 (F0 m pc ls st0) rest (va_Ql (fun r (u : zw_Z) => K r u.1 u.2.1 u.2.2.1 u.2.2.2) (fun u t => zw_E D cl tys (va_A w0 H.size) (Wd u.1 u.2.1 u.2.2.1 u.2.2.2) t) (va_A w0 H.size) a) (va_A w0 H.size)) (hD : va_D A w0) (hS : va_S A H0 H locs) (hA : ∀ q, H0.size ≤ q → A q)
    (kk : ∀ r fi fl ai al (H1 : Heap) (locs1 : List Loc), K r fi fl ai al → va_P D cl (Wd fi fl ai al) H1 → va_D A (Wd fi fl ai al) → va_S A H0 H1 locs1 → W p l e R s m args below meth c H1 locs1 cells slots Q (F0 m (pc + 3) ls (.long r :: rest))) : W p l e R s m args below meth c H locs cells slots Q (F0 m pc ls st0) := by
  have hF := zw_free hD hS hA
  refine va_calll hr hS (fun q _ h => hF q h) hF (fun r u t H1 locs1 ht hvm hw hB hz hk hS1 => ?_)
  obtain ⟨hP1, hK1, hD1⟩ := hB
  rw [ht] at hP1
  exact kk r _ _ _ _ H1 locs1 hw hP1 (hD1.weaken (fun k q _ h => hF q.1 h)) hS1
theorem zw_aald (hexec : p.tables.exec = Jvm.exec) (hb : c.code = cc) (hK : va_K D cl tys s) (hP : va_P D cl w0 H) (q0 t0 : Nat) {cA : ClassId} {ty : FieldType} {n b o : Nat} {f : Nat → Option Nat} (ha : w0[q0]? = some (o, .inl (cA, n, .inr (.inr (.inr (.inr f)))))) (ht : tys[t0]? = some (cA, .array ty)) {i : Int32} (hin : vp_in i n) (hf : f i.toNatClampNeg = some b) (hdg : decode cc pc = .ok (.aaload, 1))
    (kk : W p l e R s m args below meth c H locs cells slots Q (F0 m (pc + 1) ls (.ref b :: rest))) : W p l e R s m args below meth c H locs cells slots Q (F0 m pc ls (.int i :: .ref o :: rest)) := by
  have hlt : i.toNatClampNeg < n := Nat.not_le.mp fun q => hin (Or.inr q)
  exact W.aald (v := .ref b) (ty := .array ty) hexec hb (hP q0 _ ha) ((hK.2 t0 _ ht).1 n (fun j => va_rf (f j))) rfl (fun q => by cases q) (by show ¬ (i < 0 ∨ (arrV _ _ _).slots.size ≤ _); rw [arrV_size]; exact hin) (by show (arrV _ _ _).slots[_]? = _; rw [arrV_read _ _ hlt, hf]; rfl) rfl rfl hdg kk
end ZWC
/-! the tables' words as one list for every method -/
theorem zw_good1 {w c0 : Cond} (h : w ∈ zw_tbl) : w ∈ (c0 :: zw_tbl) ∧ ((w.onTables && w.keeps) = true ∨ ∃ ty, w = .arrayClass ty) := ⟨List.mem_cons_of_mem _ h, good_of_word (List.mem_filter.mp h).2⟩
theorem zw_goodC {c0 c1 : Cond} (h : c1 ∈ zw_tbl) : GoodIn (c0 :: zw_tbl) (c1 :: zw_tbl) := fun w hw => (List.mem_cons.mp hw).elim (fun e => e ▸ zw_good1 h) zw_good1
theorem zw_goodV {c0 c1 : Cond} {own C : String} {idx : Nat} {y : MethodName} (h1 : Cond.methodLink own idx y ∈ zw_tbl) (h2 : Cond.instanceMethod y ∈ zw_tbl) (h3 : Cond.selects C y y ∈ zw_tbl) (h4 : Cond.initialized C ∈ zw_tbl) (h : c1 ∈ zw_tbl) : GoodIn (c0 :: zw_tbl) (wsV own idx C y (c1 :: zw_tbl)) := by
  intro w hw
  unfold wsV at hw
  rcases List.mem_append.mp hw with hw | hw
  · rcases List.mem_cons.mp hw with rfl | hw
    · exact zw_good1 h1
    rcases List.mem_cons.mp hw with rfl | hw
    · exact zw_good1 h2
    rcases List.mem_cons.mp hw with rfl | hw
    · exact zw_good1 h3
    rcases List.mem_cons.mp hw with rfl | hw
    · exact zw_good1 h4
    · exact absurd hw List.not_mem_nil
  · exact zw_goodC h w hw
theorem zw_goodS {c0 c1 : Cond} {own : String} {idx : Nat} {y : MethodName} (h1 : Cond.methodLink own idx y ∈ zw_tbl) (h2 : Cond.static y ∈ zw_tbl) (h4 : Cond.initialized y.cls ∈ zw_tbl) (h : c1 ∈ zw_tbl) : GoodIn (c0 :: zw_tbl) (va_wsS own idx y (c1 :: zw_tbl)) := by
  intro w hw
  unfold va_wsS at hw
  rcases List.mem_append.mp hw with hw | hw
  · rcases List.mem_cons.mp hw with rfl | hw
    · exact zw_good1 h1
    rcases List.mem_cons.mp hw with rfl | hw
    · exact zw_good1 h2
    rcases List.mem_cons.mp hw with rfl | hw
    · exact zw_good1 h4
    · exact absurd hw List.not_mem_nil
  · exact zw_goodC h w hw
end
section
theorem d_Arr_fill_i_0 : decode b_Arr_fill_i 0 = .ok (.iconst 0, 1) := by decide +kernel
theorem d_Arr_fill_i_1 : decode b_Arr_fill_i 1 = .ok (.istore_n 2, 1) := by decide +kernel
theorem d_Arr_fill_i_2 : decode b_Arr_fill_i 2 = .ok (.aload_n 0, 1) := by decide +kernel
theorem d_Arr_fill_i_3 : decode b_Arr_fill_i 3 = .ok (.arraylength, 1) := by decide +kernel
theorem d_Arr_fill_i_4 : decode b_Arr_fill_i 4 = .ok (.istore_n 3, 1) := by decide +kernel
theorem d_Arr_fill_i_5 : decode b_Arr_fill_i 5 = .ok (.iload_n 2, 1) := by decide +kernel
theorem d_Arr_fill_i_6 : decode b_Arr_fill_i 6 = .ok (.iload_n 3, 1) := by decide +kernel
theorem d_Arr_fill_i_7 : decode b_Arr_fill_i 7 = .ok (.if_icmp .ge (13), 3) := by decide +kernel
theorem d_Arr_fill_i_10 : decode b_Arr_fill_i 10 = .ok (.aload_n 0, 1) := by decide +kernel
theorem d_Arr_fill_i_11 : decode b_Arr_fill_i 11 = .ok (.iload_n 2, 1) := by decide +kernel
theorem d_Arr_fill_i_12 : decode b_Arr_fill_i 12 = .ok (.iload_n 1, 1) := by decide +kernel
theorem d_Arr_fill_i_13 : decode b_Arr_fill_i 13 = .ok (.iastore, 1) := by decide +kernel
theorem d_Arr_fill_i_14 : decode b_Arr_fill_i 14 = .ok (.iinc 2 (1), 3) := by decide +kernel
theorem d_Arr_fill_i_17 : decode b_Arr_fill_i 17 = .ok (.goto (-12), 3) := by decide +kernel
theorem d_Arr_fill_i_20 : decode b_Arr_fill_i 20 = .ok (.return_, 1) := by decide +kernel
theorem d_Arr_fill_l_0 : decode b_Arr_fill_l 0 = .ok (.iconst 0, 1) := by decide +kernel
theorem d_Arr_fill_l_1 : decode b_Arr_fill_l 1 = .ok (.istore_n 3, 1) := by decide +kernel
theorem d_Arr_fill_l_2 : decode b_Arr_fill_l 2 = .ok (.aload_n 0, 1) := by decide +kernel
theorem d_Arr_fill_l_3 : decode b_Arr_fill_l 3 = .ok (.arraylength, 1) := by decide +kernel
theorem d_Arr_fill_l_4 : decode b_Arr_fill_l 4 = .ok (.istore 4, 2) := by decide +kernel
theorem d_Arr_fill_l_6 : decode b_Arr_fill_l 6 = .ok (.iload_n 3, 1) := by decide +kernel
theorem d_Arr_fill_l_7 : decode b_Arr_fill_l 7 = .ok (.iload 4, 2) := by decide +kernel
theorem d_Arr_fill_l_9 : decode b_Arr_fill_l 9 = .ok (.if_icmp .ge (13), 3) := by decide +kernel
theorem d_Arr_fill_l_12 : decode b_Arr_fill_l 12 = .ok (.aload_n 0, 1) := by decide +kernel
theorem d_Arr_fill_l_13 : decode b_Arr_fill_l 13 = .ok (.iload_n 3, 1) := by decide +kernel
theorem d_Arr_fill_l_14 : decode b_Arr_fill_l 14 = .ok (.lload_n 1, 1) := by decide +kernel
theorem d_Arr_fill_l_15 : decode b_Arr_fill_l 15 = .ok (.lastore, 1) := by decide +kernel
theorem d_Arr_fill_l_16 : decode b_Arr_fill_l 16 = .ok (.iinc 3 (1), 3) := by decide +kernel
theorem d_Arr_fill_l_19 : decode b_Arr_fill_l 19 = .ok (.goto (-13), 3) := by decide +kernel
theorem d_Arr_fill_l_22 : decode b_Arr_fill_l 22 = .ok (.return_, 1) := by decide +kernel
/-! java.util.Arrays.fill, over any world -/
def zw_fill {α : Type} (n : Nat) (f : Nat → α) (v : α) : Nat → α := fun j => if j < n then v else f j
theorem zw_fill_0 {α : Type} (f : Nat → α) (v : α) : zw_fill 0 f v = f := funext fun j => if_neg (Nat.not_lt_zero j)
theorem zw_fill_s (n : Nat) (f : Nat → Int32) (v : Int32) : upd (zw_fill n f v) n v = zw_fill (n + 1) f v := funext fun j => by
  unfold upd zw_fill
  by_cases h : j = n
  · subst h; simp
  · by_cases h2 : j < n
    · simp [h, h2, Nat.lt_succ_of_lt h2]
    · simp [h, h2, show ¬ j < n + 1 by omega]
theorem zw_fill_sl (n : Nat) (f : Nat → Int64) (v : Int64) : vp_updL (zw_fill n f v) n v = zw_fill (n + 1) f v := funext fun j => by
  unfold vp_updL zw_fill
  by_cases h : j = n
  · subst h; simp
  · by_cases h2 : j < n
    · simp [h, h2, Nat.lt_succ_of_lt h2]
    · simp [h, h2, show ¬ j < n + 1 by omega]
theorem zw_set_self {ws : va_W} {q0 : Nat} {x : Nat × va_E} (h : ws[q0]? = some x) : ws.set q0 x = ws := by
  apply List.ext_getElem?
  intro i
  rw [List.getElem?_set]
  by_cases e : q0 = i
  · subst e
    have : q0 < ws.length := (List.getElem?_eq_some_iff.mp h).1
    rw [if_pos rfl, if_pos this, h]
  · rw [if_neg e]
theorem zw_set_at {ws : va_W} {q0 : Nat} {x y : Nat × va_E} (h : ws[q0]? = some x) : (ws.set q0 y)[q0]? = some y := by
  have : q0 < ws.length := (List.getElem?_eq_some_iff.mp h).1
  rw [List.getElem?_set]
  simp [this]
theorem zw_set_set {ws : va_W} {q0 : Nat} {x y : Nat × va_E} : (ws.set q0 x).set q0 y = ws.set q0 y := by simp
set_option maxHeartbeats 4000000 in
set_option maxRecDepth 100000 in
theorem c_Arr_fill_i (l : Launch) {D : va_G} {cl : List vw_C} {tys : List (ClassId × FieldType)} {ws0 : va_W} (q0 t0 : Nat) {o n : Nat} {cA : ClassId} {f : Nat → Int32} (v : Int32) (sz : Nat) (ha : ws0[q0]? = some (o, .inl (cA, n, .inl f))) (htt : tys[t0]? = some (cA, .int)) (hn : n < 2 ^ 31) : Met l y_Arr_fill_i ws_Arr_fill_i ({ frames := 0, cells := 0, slots := 0, locals := 0 }) (va_Pc [.ref o, .int v] (zw_Bw D cl tys ws0 sz)) (va_Qv (fun _ : Unit => True) (fun _ t => zw_E D cl tys (va_A ws0 sz) (ws0.set q0 (o, .inl (cA, n, .inl (zw_fill n f v)))) t) (va_A ws0 sz)) 0 0 (va_A ws0 sz) := by
  refine Met.ofW (cc := b_Arr_fill_i) (maxL := 4) (ret := Option.none) (by decide) rfl ?_
  intro p e s m args below meth c s₁ B hml hv
  obtain ⟨rfl, hsz, hP, hK, hD0, -⟩ := hv
  have hx := B.exec
  have hb := B.bytes
  have hr := B.returns
  have hlocks := B.notSynchronized
  subst hsz
  have hD := hD0.self (sz := s.heap.size)
  generalize hAe : va_A ws0 s.heap.size = A at hD ⊢
  have hS : va_S A s.heap s.heap [] := va_S.rf
  have hl := lv_entry ([.ref o, .int v] : List Value) (n := 4) (Nat.le_of_ble_eq_true rfl)
  rw [lg_entry_eq]
  generalize (lg_sl ([.ref o, .int v] : List Value) ++ List.replicate (4 - (lg_sl ([.ref o, .int v] : List Value)).length) Slot.unset).toArray = ls at hl ⊢
  have hl : lv_has ls 4 [(0, .ref o), (1, .int v)] := hl
  refine lv_iconst (v := (0 : Int32)) hx hb d_Arr_fill_i_0 (by decide) ?_
  refine lv_istore_n (lv' := [(2, .int (0 : Int32)), (0, .ref o), (1, .int v)]) hx hb d_Arr_fill_i_1 rfl hl (by decide) rfl (fun ls hl => ?_)
  refine lv_aload_n hx hb d_Arr_fill_i_2 rfl (lv_at hl 1 rfl) ?_
  refine va_alen hx hb hK hP q0 t0 ha htt rfl d_Arr_fill_i_3 ?_
  refine lv_istore_n (lv' := [(3, .int (nI n)), (2, .int (0 : Int32)), (0, .ref o), (1, .int v)]) hx hb d_Arr_fill_i_4 rfl hl (by decide) rfl (fun ls hl => ?_)
  have loop : ∀ (k i : Nat), n - i < k → i ≤ n → ∀ (H : Heap) (locs : List Loc) (ls : Array Slot), va_P D cl (ws0.set q0 (o, .inl (cA, n, .inl (zw_fill i f v)))) H → va_D A (ws0.set q0 (o, .inl (cA, n, .inl (zw_fill i f v)))) → va_S A s.heap H locs → lv_has ls 4 [(3, .int (nI n)), (2, .int (nI i)), (0, .ref o), (1, .int v)] → W p l e (headSpec ws_Arr_fill_i ({ frames := 0, cells := 0, slots := 0, locals := 0 })).room s m ([.ref o, .int v] : List Value).toArray below meth c H locs 0 0 (MQ below (va_Qv (fun _ : Unit => True) (fun _ t => zw_E D cl tys A (ws0.set q0 (o, .inl (cA, n, .inl (zw_fill n f v)))) t) A) ([.ref o, .int v] : List Value).toArray s 0 0 A) (F0 m 5 ls []) := by
    intro k
    induction k with
    | zero => intro i h; omega
    | succ k ih =>
      intro i hk hi H locs ls hP hD hS hl
      refine lv_iload_n hx hb d_Arr_fill_i_5 rfl (lv_at hl 1 rfl) ?_
      refine lv_iload_n hx hb d_Arr_fill_i_6 rfl (lv_at hl 0 rfl) ?_
      refine lv_icmp_ge (tgt := 20) hx hb d_Arr_fill_i_7 (by decide) (fun c7 => ?_) (fun c7 => ?_)
      · have e : i = n := by
          have := (nI_leI hn (by omega)).mp c7
          omega
        subst e
        exact W.vret hx hb hr (fun t ht hW => ⟨⟨(), rfl, trivial, by rw [ht]; exact hP, va_K.moved hW.alike hK, hD⟩, hS.F ht⟩) hS.2.2 d_Arr_fill_i_20
      · have hlt : i < n := by
          rcases Nat.lt_or_ge i n with q | q
          · exact q
          · exact absurd (nI_le q (by omega)) c7
        refine lv_aload_n hx hb d_Arr_fill_i_10 rfl (lv_at hl 2 rfl) ?_
        refine lv_iload_n hx hb d_Arr_fill_i_11 rfl (lv_at hl 1 rfl) ?_
        refine lv_iload_n hx hb d_Arr_fill_i_12 rfl (lv_at hl 3 rfl) ?_
        refine va_iast hx hb hK hP hD hS q0 t0 (zw_set_at ha) htt (vp_in_nI hlt hn) d_Arr_fill_i_13 (fun H locs hP hD hS => ?_)
        rw [nI_clamp (by omega), zw_fill_s, zw_set_set] at hP hD
        refine lv_iinc (v := nI (i + 1)) (lv' := [(2, .int (nI (i + 1))), (3, .int (nI n)), (0, .ref o), (1, .int v)]) hx hb d_Arr_fill_i_14 hl (k := 1) rfl (by rw [← nI_1]; rfl) (by decide) rfl (fun ls hl => ?_)
        refine lv_goto (tgt := 5) hx hb d_Arr_fill_i_17 (by decide) ?_
        exact ih (i + 1) (by omega) (by omega) H locs ls hP hD hS (lv_sub hl [1, 0, 2, 3] rfl)
  have hz : ws0.set q0 (o, .inl (cA, n, .inl (zw_fill 0 f v))) = ws0 := by rw [zw_fill_0]; exact zw_set_self ha
  exact loop (n + 1) 0 (by omega) (Nat.zero_le _) _ _ ls (by rw [hz]; exact hP) (by rw [hz]; exact hD) hS hl
set_option maxHeartbeats 4000000 in
set_option maxRecDepth 100000 in
theorem c_Arr_fill_l (l : Launch) {D : va_G} {cl : List vw_C} {tys : List (ClassId × FieldType)} {ws0 : va_W} (q0 t0 : Nat) {o n : Nat} {cA : ClassId} {f : Nat → Int64} (v : Int64) (sz : Nat) (ha : ws0[q0]? = some (o, .inl (cA, n, .inr (.inl f)))) (htt : tys[t0]? = some (cA, .long)) (hn : n < 2 ^ 31) : Met l y_Arr_fill_l ws_Arr_fill_l ({ frames := 0, cells := 0, slots := 0, locals := 0 }) (va_Pc [.ref o, .long v] (zw_Bw D cl tys ws0 sz)) (va_Qv (fun _ : Unit => True) (fun _ t => zw_E D cl tys (va_A ws0 sz) (ws0.set q0 (o, .inl (cA, n, .inr (.inl (zw_fill n f v))))) t) (va_A ws0 sz)) 0 0 (va_A ws0 sz) := by
  refine Met.ofW (cc := b_Arr_fill_l) (maxL := 5) (ret := Option.none) (by decide) rfl ?_
  intro p e s m args below meth c s₁ B hml hv
  obtain ⟨rfl, hsz, hP, hK, hD0, -⟩ := hv
  have hx := B.exec
  have hb := B.bytes
  have hr := B.returns
  have hlocks := B.notSynchronized
  subst hsz
  have hD := hD0.self (sz := s.heap.size)
  generalize hAe : va_A ws0 s.heap.size = A at hD ⊢
  have hS : va_S A s.heap s.heap [] := va_S.rf
  have hl := lv_entry ([.ref o, .long v] : List Value) (n := 5) (Nat.le_of_ble_eq_true rfl)
  rw [lg_entry_eq]
  generalize (lg_sl ([.ref o, .long v] : List Value) ++ List.replicate (5 - (lg_sl ([.ref o, .long v] : List Value)).length) Slot.unset).toArray = ls at hl ⊢
  have hl : lv_has ls 5 [(0, .ref o), (1, .long v)] := hl
  refine lv_iconst (v := (0 : Int32)) hx hb d_Arr_fill_l_0 (by decide) ?_
  refine lv_istore_n (lv' := [(3, .int (0 : Int32)), (0, .ref o), (1, .long v)]) hx hb d_Arr_fill_l_1 rfl hl (by decide) rfl (fun ls hl => ?_)
  refine lv_aload_n hx hb d_Arr_fill_l_2 rfl (lv_at hl 1 rfl) ?_
  refine va_alen hx hb hK hP q0 t0 ha htt rfl d_Arr_fill_l_3 ?_
  refine lv_istore (lv' := [(4, .int (nI n)), (3, .int (0 : Int32)), (0, .ref o), (1, .long v)]) hx hb d_Arr_fill_l_4 hl (by decide) rfl (fun ls hl => ?_)
  have loop : ∀ (k i : Nat), n - i < k → i ≤ n → ∀ (H : Heap) (locs : List Loc) (ls : Array Slot), va_P D cl (ws0.set q0 (o, .inl (cA, n, .inr (.inl (zw_fill i f v))))) H → va_D A (ws0.set q0 (o, .inl (cA, n, .inr (.inl (zw_fill i f v))))) → va_S A s.heap H locs → lv_has ls 5 [(4, .int (nI n)), (3, .int (nI i)), (0, .ref o), (1, .long v)] → W p l e (headSpec ws_Arr_fill_l ({ frames := 0, cells := 0, slots := 0, locals := 0 })).room s m ([.ref o, .long v] : List Value).toArray below meth c H locs 0 0 (MQ below (va_Qv (fun _ : Unit => True) (fun _ t => zw_E D cl tys A (ws0.set q0 (o, .inl (cA, n, .inr (.inl (zw_fill n f v))))) t) A) ([.ref o, .long v] : List Value).toArray s 0 0 A) (F0 m 6 ls []) := by
    intro k
    induction k with
    | zero => intro i h; omega
    | succ k ih =>
      intro i hk hi H locs ls hP hD hS hl
      refine lv_iload_n hx hb d_Arr_fill_l_6 rfl (lv_at hl 1 rfl) ?_
      refine lv_iload hx hb d_Arr_fill_l_7 (lv_at hl 0 rfl) ?_
      refine lv_icmp_ge (tgt := 22) hx hb d_Arr_fill_l_9 (by decide) (fun c7 => ?_) (fun c7 => ?_)
      · have e : i = n := by
          have := (nI_leI hn (by omega)).mp c7
          omega
        subst e
        exact W.vret hx hb hr (fun t ht hW => ⟨⟨(), rfl, trivial, by rw [ht]; exact hP, va_K.moved hW.alike hK, hD⟩, hS.F ht⟩) hS.2.2 d_Arr_fill_l_22
      · have hlt : i < n := by
          rcases Nat.lt_or_ge i n with q | q
          · exact q
          · exact absurd (nI_le q (by omega)) c7
        refine lv_aload_n hx hb d_Arr_fill_l_12 rfl (lv_at hl 2 rfl) ?_
        refine lv_iload_n hx hb d_Arr_fill_l_13 rfl (lv_at hl 1 rfl) ?_
        refine lv_lload_n hx hb d_Arr_fill_l_14 rfl (lv_at hl 3 rfl) ?_
        refine va_last hx hb hK hP hD hS q0 t0 (zw_set_at ha) htt (vp_in_nI hlt hn) d_Arr_fill_l_15 (fun H locs hP hD hS => ?_)
        rw [nI_clamp (by omega), zw_fill_sl, zw_set_set] at hP hD
        refine lv_iinc (v := nI (i + 1)) (lv' := [(3, .int (nI (i + 1))), (4, .int (nI n)), (0, .ref o), (1, .long v)]) hx hb d_Arr_fill_l_16 hl (k := 1) rfl (by rw [← nI_1]; rfl) (by decide) rfl (fun ls hl => ?_)
        refine lv_goto (tgt := 6) hx hb d_Arr_fill_l_19 (by decide) ?_
        exact ih (i + 1) (by omega) (by omega) H locs ls hP hD hS (lv_sub hl [1, 0, 2, 3] rfl)
  have hz : ws0.set q0 (o, .inl (cA, n, .inr (.inl (zw_fill 0 f v)))) = ws0 := by rw [zw_fill_0]; exact zw_set_self ha
  exact loop (n + 1) 0 (by omega) (Nat.zero_le _) _ _ ls (by rw [hz]; exact hP) (by rw [hz]; exact hD) hS hl
section ZWF
variable {p : Program} {l : Launch} {e : Env} {R : Room} {s : State} {m : MethodId} {args : Array Value} {below : List Frame} {meth : Method} {c : Code} {H : Heap} {locs : List Loc} {cells slots : Nat} {Q : State → Prop}
variable {cc : ByteArray} {pc nL index : Nat} {ls : Array Slot} {rest : List Value} {A : Nat → Prop} {H0 : Heap} {D : va_G} {cl : List vw_C} {tys : List (ClassId × FieldType)} {w0 : va_W} {Ts : List Cond} {own : String}
theorem zw_filli (S : CallFix p m c cc nL s args Ts own) (cw : CallB R s args own index y_Arr_fill_i b_Arr_fill_i 4 none ws_Arr_fill_i ({ frames := 0, cells := 0, slots := 0, locals := 0 }) 0 0 2 ∧ (Cond.static y_Arr_fill_i).before args s = true) (hK : va_K D cl tys s) (hN : zw_N s) (hP : va_P D cl w0 H) (hD : va_D A w0) (hS : va_S A H0 H locs) (hA : ∀ q, H0.size ≤ q → A q) (q0 t0 : Nat) {o n : Nat} {cA : ClassId} {f : Nat → Int32} {v : Int32} (ha : w0[q0]? = some (o, .inl (cA, n, .inl f))) (htt : tys[t0]? = some (cA, .int)) (hn : n < 2 ^ 31) (hsize : ls.size = nL) (hW : 2 * (F0 m pc ls (.int v :: .ref o :: rest)).monitorRoom + (rest.map fun v => v.category).sum ≤ 8) (hdg : decode cc pc = .ok (.invokestatic index, 3)) (hf : cells + 0 ≤ R.cells ∧ slots + 0 ≤ R.slots)
    (kk : ∀ (H1 : Heap) (locs1 : List Loc), va_P D cl (w0.set q0 (o, .inl (cA, n, .inl (zw_fill n f v)))) H1 → va_D A (w0.set q0 (o, .inl (cA, n, .inl (zw_fill n f v)))) → va_S A H0 H1 locs1 → W p l e R s m args below meth c H1 locs1 cells slots Q (F0 m (pc + 3) ls rest)) : W p l e R s m args below meth c H locs cells slots Q (F0 m pc ls (.int v :: .ref o :: rest)) := by
  have hF := zw_free hD hS hA
  refine va_callv (va_runS (As := [.ref o, .int v]) (rest := rest) S (c_Arr_fill_i l q0 t0 v H.size ha htt hn) cw (zw_preSw hK hN hP hD) rfl rfl hsize rfl hW hdg hf) hS (fun q _ h => hF q h) hF (fun u t H1 locs1 ht hvm hw hB hz hk hS1 => ?_)
  obtain ⟨hP1, hK1, hD1⟩ := hB
  rw [ht] at hP1
  exact kk H1 locs1 hP1 (hD1.weaken (fun k q _ h => hF q.1 h)) hS1
theorem zw_filll (S : CallFix p m c cc nL s args Ts own) (cw : CallB R s args own index y_Arr_fill_l b_Arr_fill_l 5 none ws_Arr_fill_l ({ frames := 0, cells := 0, slots := 0, locals := 0 }) 0 0 2 ∧ (Cond.static y_Arr_fill_l).before args s = true) (hK : va_K D cl tys s) (hN : zw_N s) (hP : va_P D cl w0 H) (hD : va_D A w0) (hS : va_S A H0 H locs) (hA : ∀ q, H0.size ≤ q → A q) (q0 t0 : Nat) {o n : Nat} {cA : ClassId} {f : Nat → Int64} {v : Int64} (ha : w0[q0]? = some (o, .inl (cA, n, .inr (.inl f)))) (htt : tys[t0]? = some (cA, .long)) (hn : n < 2 ^ 31) (hsize : ls.size = nL) (hW : 2 * (F0 m pc ls (.long v :: .ref o :: rest)).monitorRoom + (rest.map fun v => v.category).sum ≤ 8) (hdg : decode cc pc = .ok (.invokestatic index, 3)) (hf : cells + 0 ≤ R.cells ∧ slots + 0 ≤ R.slots)
    (kk : ∀ (H1 : Heap) (locs1 : List Loc), va_P D cl (w0.set q0 (o, .inl (cA, n, .inr (.inl (zw_fill n f v))))) H1 → va_D A (w0.set q0 (o, .inl (cA, n, .inr (.inl (zw_fill n f v))))) → va_S A H0 H1 locs1 → W p l e R s m args below meth c H1 locs1 cells slots Q (F0 m (pc + 3) ls rest)) : W p l e R s m args below meth c H locs cells slots Q (F0 m pc ls (.long v :: .ref o :: rest)) := by
  have hF := zw_free hD hS hA
  refine va_callv (va_runS (As := [.ref o, .long v]) (rest := rest) S (c_Arr_fill_l l q0 t0 v H.size ha htt hn) cw (zw_preSw hK hN hP hD) rfl rfl hsize rfl hW hdg hf) hS (fun q _ h => hF q h) hF (fun u t H1 locs1 ht hvm hw hB hz hk hS1 => ?_)
  obtain ⟨hP1, hK1, hD1⟩ := hB
  rw [ht] at hP1
  exact kk H1 locs1 hP1 (hD1.weaken (fun k q _ h => hF q.1 h)) hS1
end ZWF
end
section
def cw (cI cJ cG cZ : ClassId) (a : Nat → Nat) (fi : Nat → Int32) (fl : Nat → Int64) (ai : Nat → Nat → Int32) (al : Nat → Nat → Int64) : va_W := [
  (a 0, .inr (0, [.ref (a 19), .ref (a 1), .ref (a 4), .ref (a 12), .ref (a 40), .ref (a 58), .ref (a 17), .ref (a 18), .int (fi 0)])),
  (a 1, .inr (1, [.ref (a 2), .ref (a 3), .int (fi 1)])),
  (a 2, .inl (cI, 8, .inl (ai 2))),
  (a 3, .inl (cI, 8, .inl (ai 3))),
  (a 4, .inr (3, [.ref (a 5), .ref (a 6), .ref (a 7), .ref (a 8), .ref (a 9), .ref (a 10), .ref (a 11), .int (fi 2), .int (fi 3), .int (fi 4), .int (fi 5)])),
  (a 5, .inl (cI, 12, .inl (ai 5))),
  (a 6, .inl (cI, 40, .inl (ai 6))),
  (a 7, .inl (cI, 40, .inl (ai 7))),
  (a 8, .inl (cI, 40, .inl (ai 8))),
  (a 9, .inl (cI, 40, .inl (ai 9))),
  (a 10, .inl (cI, 6, .inl (ai 10))),
  (a 11, .inl (cI, 6, .inl (ai 11))),
  (a 12, .inr (4, [.ref (a 13), .ref (a 14), .ref (a 15), .ref (a 16), .int (fi 6)])),
  (a 13, .inl (cI, 8, .inl (ai 13))),
  (a 14, .inl (cI, 8, .inl (ai 14))),
  (a 15, .inl (cI, 8, .inl (ai 15))),
  (a 16, .inl (cI, 8, .inl (ai 16))),
  (a 17, .inl (cJ, 6, .inr (.inl (al 17)))),
  (a 18, .inl (cJ, 6, .inr (.inl (al 18)))),
  (a 19, .inr (2, [.int (fi 7), .ref (a 20), .ref (a 21), .ref (a 22), .ref (a 31), .ref (a 35), .ref (a 39)])),
  (a 20, .inl (cI, 6, .inl (ai 20))),
  (a 21, .inl (cI, 6, .inl (ai 21))),
  (a 22, .inl (cG, 8, .inr (.inr (.inr (.inr (fun i => some (a (23 + i)))))))),
  (a 23, .inl (cI, 36, .inl (ai 23))),
  (a 24, .inl (cI, 36, .inl (ai 24))),
  (a 25, .inl (cI, 36, .inl (ai 25))),
  (a 26, .inl (cI, 36, .inl (ai 26))),
  (a 27, .inl (cI, 36, .inl (ai 27))),
  (a 28, .inl (cI, 36, .inl (ai 28))),
  (a 29, .inl (cI, 36, .inl (ai 29))),
  (a 30, .inl (cI, 36, .inl (ai 30))),
  (a 31, .inl (cG, 3, .inr (.inr (.inr (.inr (fun i => some (a (32 + i)))))))),
  (a 32, .inl (cI, 6, .inl (ai 32))),
  (a 33, .inl (cI, 6, .inl (ai 33))),
  (a 34, .inl (cI, 6, .inl (ai 34))),
  (a 35, .inl (cG, 3, .inr (.inr (.inr (.inr (fun i => some (a (36 + i)))))))),
  (a 36, .inl (cI, 6, .inl (ai 36))),
  (a 37, .inl (cI, 6, .inl (ai 37))),
  (a 38, .inl (cI, 6, .inl (ai 38))),
  (a 39, .inl (cI, 6, .inl (ai 39))),
  (a 40, .inr (6, [.ref (a 19), .ref (a 1), .ref (a 4), .ref (a 41), .ref (a 42), .ref (a 43), .ref (a 44), .ref (a 45), .int (fi 8), .int (fi 9), .int (fi 10)])),
  (a 41, .inl (cJ, 6, .inr (.inl (al 41)))),
  (a 42, .inl (cJ, 3, .inr (.inl (al 42)))),
  (a 43, .inl (cI, 6, .inl (ai 43))),
  (a 44, .inl (cI, 12, .inl (ai 44))),
  (a 45, .inl (cG, 12, .inr (.inr (.inr (.inr (fun i => some (a (46 + i)))))))),
  (a 46, .inl (cI, 12, .inl (ai 46))),
  (a 47, .inl (cI, 12, .inl (ai 47))),
  (a 48, .inl (cI, 12, .inl (ai 48))),
  (a 49, .inl (cI, 12, .inl (ai 49))),
  (a 50, .inl (cI, 12, .inl (ai 50))),
  (a 51, .inl (cI, 12, .inl (ai 51))),
  (a 52, .inl (cI, 12, .inl (ai 52))),
  (a 53, .inl (cI, 12, .inl (ai 53))),
  (a 54, .inl (cI, 12, .inl (ai 54))),
  (a 55, .inl (cI, 12, .inl (ai 55))),
  (a 56, .inl (cI, 12, .inl (ai 56))),
  (a 57, .inl (cI, 12, .inl (ai 57))),
  (a 58, .inr (5, [.ref (a 19), .ref (a 4), .ref (a 40), .ref (a 59), .ref (a 60), .int (fi 11), .long (fl 0)])),
  (a 59, .inl (cI, 6, .inl (ai 59))),
  (a 60, .inl (cI, 6, .inl (ai 60)))]
theorem cwpfi_0 {D : va_G} {cI cJ cG cZ : ClassId} {a : Nat → Nat} {fi : Nat → Int32} {fl : Nat → Int64} {ai : Nat → Nat → Int32} {al : Nat → Nat → Int64} {v : Int32} {H : Heap} (h : va_P D vwCl ((cw cI cJ cG cZ a fi fl ai al).set 0 (a 0, .inr (0, ([.ref (a 19), .ref (a 1), .ref (a 4), .ref (a 12), .ref (a 40), .ref (a 58), .ref (a 17), .ref (a 18), .int (fi 0)] : List Value).set 8 (.int v)))) H) : va_P D vwCl (cw cI cJ cG cZ a (va_up fi 0 v) fl ai al) H := h
theorem cwdfi_0 {cI cJ cG cZ : ClassId} {a : Nat → Nat} {fi : Nat → Int32} {fl : Nat → Int64} {ai : Nat → Nat → Int32} {al : Nat → Nat → Int64} {v : Int32} {A : Nat → Prop} (h : va_D A ((cw cI cJ cG cZ a fi fl ai al).set 0 (a 0, .inr (0, ([.ref (a 19), .ref (a 1), .ref (a 4), .ref (a 12), .ref (a 40), .ref (a 58), .ref (a 17), .ref (a 18), .int (fi 0)] : List Value).set 8 (.int v))))) : va_D A (cw cI cJ cG cZ a (va_up fi 0 v) fl ai al) := h
theorem cwpfi_1 {D : va_G} {cI cJ cG cZ : ClassId} {a : Nat → Nat} {fi : Nat → Int32} {fl : Nat → Int64} {ai : Nat → Nat → Int32} {al : Nat → Nat → Int64} {v : Int32} {H : Heap} (h : va_P D vwCl ((cw cI cJ cG cZ a fi fl ai al).set 1 (a 1, .inr (1, ([.ref (a 2), .ref (a 3), .int (fi 1)] : List Value).set 2 (.int v)))) H) : va_P D vwCl (cw cI cJ cG cZ a (va_up fi 1 v) fl ai al) H := h
theorem cwdfi_1 {cI cJ cG cZ : ClassId} {a : Nat → Nat} {fi : Nat → Int32} {fl : Nat → Int64} {ai : Nat → Nat → Int32} {al : Nat → Nat → Int64} {v : Int32} {A : Nat → Prop} (h : va_D A ((cw cI cJ cG cZ a fi fl ai al).set 1 (a 1, .inr (1, ([.ref (a 2), .ref (a 3), .int (fi 1)] : List Value).set 2 (.int v))))) : va_D A (cw cI cJ cG cZ a (va_up fi 1 v) fl ai al) := h
theorem cwpai_2 {D : va_G} {cI cJ cG cZ : ClassId} {a : Nat → Nat} {fi : Nat → Int32} {fl : Nat → Int64} {ai : Nat → Nat → Int32} {al : Nat → Nat → Int64} {F : Nat → Int32} {H : Heap} (h : va_P D vwCl ((cw cI cJ cG cZ a fi fl ai al).set 2 (a 2, .inl (cI, 8, .inl F))) H) : va_P D vwCl (cw cI cJ cG cZ a fi fl (va_up ai 2 F) al) H := h
theorem cwdai_2 {cI cJ cG cZ : ClassId} {a : Nat → Nat} {fi : Nat → Int32} {fl : Nat → Int64} {ai : Nat → Nat → Int32} {al : Nat → Nat → Int64} {F : Nat → Int32} {A : Nat → Prop} (h : va_D A ((cw cI cJ cG cZ a fi fl ai al).set 2 (a 2, .inl (cI, 8, .inl F)))) : va_D A (cw cI cJ cG cZ a fi fl (va_up ai 2 F) al) := h
theorem cwpai_3 {D : va_G} {cI cJ cG cZ : ClassId} {a : Nat → Nat} {fi : Nat → Int32} {fl : Nat → Int64} {ai : Nat → Nat → Int32} {al : Nat → Nat → Int64} {F : Nat → Int32} {H : Heap} (h : va_P D vwCl ((cw cI cJ cG cZ a fi fl ai al).set 3 (a 3, .inl (cI, 8, .inl F))) H) : va_P D vwCl (cw cI cJ cG cZ a fi fl (va_up ai 3 F) al) H := h
theorem cwdai_3 {cI cJ cG cZ : ClassId} {a : Nat → Nat} {fi : Nat → Int32} {fl : Nat → Int64} {ai : Nat → Nat → Int32} {al : Nat → Nat → Int64} {F : Nat → Int32} {A : Nat → Prop} (h : va_D A ((cw cI cJ cG cZ a fi fl ai al).set 3 (a 3, .inl (cI, 8, .inl F)))) : va_D A (cw cI cJ cG cZ a fi fl (va_up ai 3 F) al) := h
theorem cwpfi_2 {D : va_G} {cI cJ cG cZ : ClassId} {a : Nat → Nat} {fi : Nat → Int32} {fl : Nat → Int64} {ai : Nat → Nat → Int32} {al : Nat → Nat → Int64} {v : Int32} {H : Heap} (h : va_P D vwCl ((cw cI cJ cG cZ a fi fl ai al).set 4 (a 4, .inr (3, ([.ref (a 5), .ref (a 6), .ref (a 7), .ref (a 8), .ref (a 9), .ref (a 10), .ref (a 11), .int (fi 2), .int (fi 3), .int (fi 4), .int (fi 5)] : List Value).set 7 (.int v)))) H) : va_P D vwCl (cw cI cJ cG cZ a (va_up fi 2 v) fl ai al) H := h
theorem cwdfi_2 {cI cJ cG cZ : ClassId} {a : Nat → Nat} {fi : Nat → Int32} {fl : Nat → Int64} {ai : Nat → Nat → Int32} {al : Nat → Nat → Int64} {v : Int32} {A : Nat → Prop} (h : va_D A ((cw cI cJ cG cZ a fi fl ai al).set 4 (a 4, .inr (3, ([.ref (a 5), .ref (a 6), .ref (a 7), .ref (a 8), .ref (a 9), .ref (a 10), .ref (a 11), .int (fi 2), .int (fi 3), .int (fi 4), .int (fi 5)] : List Value).set 7 (.int v))))) : va_D A (cw cI cJ cG cZ a (va_up fi 2 v) fl ai al) := h
theorem cwpfi_3 {D : va_G} {cI cJ cG cZ : ClassId} {a : Nat → Nat} {fi : Nat → Int32} {fl : Nat → Int64} {ai : Nat → Nat → Int32} {al : Nat → Nat → Int64} {v : Int32} {H : Heap} (h : va_P D vwCl ((cw cI cJ cG cZ a fi fl ai al).set 4 (a 4, .inr (3, ([.ref (a 5), .ref (a 6), .ref (a 7), .ref (a 8), .ref (a 9), .ref (a 10), .ref (a 11), .int (fi 2), .int (fi 3), .int (fi 4), .int (fi 5)] : List Value).set 8 (.int v)))) H) : va_P D vwCl (cw cI cJ cG cZ a (va_up fi 3 v) fl ai al) H := h
theorem cwdfi_3 {cI cJ cG cZ : ClassId} {a : Nat → Nat} {fi : Nat → Int32} {fl : Nat → Int64} {ai : Nat → Nat → Int32} {al : Nat → Nat → Int64} {v : Int32} {A : Nat → Prop} (h : va_D A ((cw cI cJ cG cZ a fi fl ai al).set 4 (a 4, .inr (3, ([.ref (a 5), .ref (a 6), .ref (a 7), .ref (a 8), .ref (a 9), .ref (a 10), .ref (a 11), .int (fi 2), .int (fi 3), .int (fi 4), .int (fi 5)] : List Value).set 8 (.int v))))) : va_D A (cw cI cJ cG cZ a (va_up fi 3 v) fl ai al) := h
theorem cwpfi_4 {D : va_G} {cI cJ cG cZ : ClassId} {a : Nat → Nat} {fi : Nat → Int32} {fl : Nat → Int64} {ai : Nat → Nat → Int32} {al : Nat → Nat → Int64} {v : Int32} {H : Heap} (h : va_P D vwCl ((cw cI cJ cG cZ a fi fl ai al).set 4 (a 4, .inr (3, ([.ref (a 5), .ref (a 6), .ref (a 7), .ref (a 8), .ref (a 9), .ref (a 10), .ref (a 11), .int (fi 2), .int (fi 3), .int (fi 4), .int (fi 5)] : List Value).set 9 (.int v)))) H) : va_P D vwCl (cw cI cJ cG cZ a (va_up fi 4 v) fl ai al) H := h
theorem cwdfi_4 {cI cJ cG cZ : ClassId} {a : Nat → Nat} {fi : Nat → Int32} {fl : Nat → Int64} {ai : Nat → Nat → Int32} {al : Nat → Nat → Int64} {v : Int32} {A : Nat → Prop} (h : va_D A ((cw cI cJ cG cZ a fi fl ai al).set 4 (a 4, .inr (3, ([.ref (a 5), .ref (a 6), .ref (a 7), .ref (a 8), .ref (a 9), .ref (a 10), .ref (a 11), .int (fi 2), .int (fi 3), .int (fi 4), .int (fi 5)] : List Value).set 9 (.int v))))) : va_D A (cw cI cJ cG cZ a (va_up fi 4 v) fl ai al) := h
theorem cwpfi_5 {D : va_G} {cI cJ cG cZ : ClassId} {a : Nat → Nat} {fi : Nat → Int32} {fl : Nat → Int64} {ai : Nat → Nat → Int32} {al : Nat → Nat → Int64} {v : Int32} {H : Heap} (h : va_P D vwCl ((cw cI cJ cG cZ a fi fl ai al).set 4 (a 4, .inr (3, ([.ref (a 5), .ref (a 6), .ref (a 7), .ref (a 8), .ref (a 9), .ref (a 10), .ref (a 11), .int (fi 2), .int (fi 3), .int (fi 4), .int (fi 5)] : List Value).set 10 (.int v)))) H) : va_P D vwCl (cw cI cJ cG cZ a (va_up fi 5 v) fl ai al) H := h
theorem cwdfi_5 {cI cJ cG cZ : ClassId} {a : Nat → Nat} {fi : Nat → Int32} {fl : Nat → Int64} {ai : Nat → Nat → Int32} {al : Nat → Nat → Int64} {v : Int32} {A : Nat → Prop} (h : va_D A ((cw cI cJ cG cZ a fi fl ai al).set 4 (a 4, .inr (3, ([.ref (a 5), .ref (a 6), .ref (a 7), .ref (a 8), .ref (a 9), .ref (a 10), .ref (a 11), .int (fi 2), .int (fi 3), .int (fi 4), .int (fi 5)] : List Value).set 10 (.int v))))) : va_D A (cw cI cJ cG cZ a (va_up fi 5 v) fl ai al) := h
theorem cwpai_5 {D : va_G} {cI cJ cG cZ : ClassId} {a : Nat → Nat} {fi : Nat → Int32} {fl : Nat → Int64} {ai : Nat → Nat → Int32} {al : Nat → Nat → Int64} {F : Nat → Int32} {H : Heap} (h : va_P D vwCl ((cw cI cJ cG cZ a fi fl ai al).set 5 (a 5, .inl (cI, 12, .inl F))) H) : va_P D vwCl (cw cI cJ cG cZ a fi fl (va_up ai 5 F) al) H := h
theorem cwdai_5 {cI cJ cG cZ : ClassId} {a : Nat → Nat} {fi : Nat → Int32} {fl : Nat → Int64} {ai : Nat → Nat → Int32} {al : Nat → Nat → Int64} {F : Nat → Int32} {A : Nat → Prop} (h : va_D A ((cw cI cJ cG cZ a fi fl ai al).set 5 (a 5, .inl (cI, 12, .inl F)))) : va_D A (cw cI cJ cG cZ a fi fl (va_up ai 5 F) al) := h
theorem cwpai_6 {D : va_G} {cI cJ cG cZ : ClassId} {a : Nat → Nat} {fi : Nat → Int32} {fl : Nat → Int64} {ai : Nat → Nat → Int32} {al : Nat → Nat → Int64} {F : Nat → Int32} {H : Heap} (h : va_P D vwCl ((cw cI cJ cG cZ a fi fl ai al).set 6 (a 6, .inl (cI, 40, .inl F))) H) : va_P D vwCl (cw cI cJ cG cZ a fi fl (va_up ai 6 F) al) H := h
theorem cwdai_6 {cI cJ cG cZ : ClassId} {a : Nat → Nat} {fi : Nat → Int32} {fl : Nat → Int64} {ai : Nat → Nat → Int32} {al : Nat → Nat → Int64} {F : Nat → Int32} {A : Nat → Prop} (h : va_D A ((cw cI cJ cG cZ a fi fl ai al).set 6 (a 6, .inl (cI, 40, .inl F)))) : va_D A (cw cI cJ cG cZ a fi fl (va_up ai 6 F) al) := h
theorem cwpai_7 {D : va_G} {cI cJ cG cZ : ClassId} {a : Nat → Nat} {fi : Nat → Int32} {fl : Nat → Int64} {ai : Nat → Nat → Int32} {al : Nat → Nat → Int64} {F : Nat → Int32} {H : Heap} (h : va_P D vwCl ((cw cI cJ cG cZ a fi fl ai al).set 7 (a 7, .inl (cI, 40, .inl F))) H) : va_P D vwCl (cw cI cJ cG cZ a fi fl (va_up ai 7 F) al) H := h
theorem cwdai_7 {cI cJ cG cZ : ClassId} {a : Nat → Nat} {fi : Nat → Int32} {fl : Nat → Int64} {ai : Nat → Nat → Int32} {al : Nat → Nat → Int64} {F : Nat → Int32} {A : Nat → Prop} (h : va_D A ((cw cI cJ cG cZ a fi fl ai al).set 7 (a 7, .inl (cI, 40, .inl F)))) : va_D A (cw cI cJ cG cZ a fi fl (va_up ai 7 F) al) := h
theorem cwpai_8 {D : va_G} {cI cJ cG cZ : ClassId} {a : Nat → Nat} {fi : Nat → Int32} {fl : Nat → Int64} {ai : Nat → Nat → Int32} {al : Nat → Nat → Int64} {F : Nat → Int32} {H : Heap} (h : va_P D vwCl ((cw cI cJ cG cZ a fi fl ai al).set 8 (a 8, .inl (cI, 40, .inl F))) H) : va_P D vwCl (cw cI cJ cG cZ a fi fl (va_up ai 8 F) al) H := h
theorem cwdai_8 {cI cJ cG cZ : ClassId} {a : Nat → Nat} {fi : Nat → Int32} {fl : Nat → Int64} {ai : Nat → Nat → Int32} {al : Nat → Nat → Int64} {F : Nat → Int32} {A : Nat → Prop} (h : va_D A ((cw cI cJ cG cZ a fi fl ai al).set 8 (a 8, .inl (cI, 40, .inl F)))) : va_D A (cw cI cJ cG cZ a fi fl (va_up ai 8 F) al) := h
theorem cwpai_9 {D : va_G} {cI cJ cG cZ : ClassId} {a : Nat → Nat} {fi : Nat → Int32} {fl : Nat → Int64} {ai : Nat → Nat → Int32} {al : Nat → Nat → Int64} {F : Nat → Int32} {H : Heap} (h : va_P D vwCl ((cw cI cJ cG cZ a fi fl ai al).set 9 (a 9, .inl (cI, 40, .inl F))) H) : va_P D vwCl (cw cI cJ cG cZ a fi fl (va_up ai 9 F) al) H := h
theorem cwdai_9 {cI cJ cG cZ : ClassId} {a : Nat → Nat} {fi : Nat → Int32} {fl : Nat → Int64} {ai : Nat → Nat → Int32} {al : Nat → Nat → Int64} {F : Nat → Int32} {A : Nat → Prop} (h : va_D A ((cw cI cJ cG cZ a fi fl ai al).set 9 (a 9, .inl (cI, 40, .inl F)))) : va_D A (cw cI cJ cG cZ a fi fl (va_up ai 9 F) al) := h
theorem cwpai_10 {D : va_G} {cI cJ cG cZ : ClassId} {a : Nat → Nat} {fi : Nat → Int32} {fl : Nat → Int64} {ai : Nat → Nat → Int32} {al : Nat → Nat → Int64} {F : Nat → Int32} {H : Heap} (h : va_P D vwCl ((cw cI cJ cG cZ a fi fl ai al).set 10 (a 10, .inl (cI, 6, .inl F))) H) : va_P D vwCl (cw cI cJ cG cZ a fi fl (va_up ai 10 F) al) H := h
theorem cwdai_10 {cI cJ cG cZ : ClassId} {a : Nat → Nat} {fi : Nat → Int32} {fl : Nat → Int64} {ai : Nat → Nat → Int32} {al : Nat → Nat → Int64} {F : Nat → Int32} {A : Nat → Prop} (h : va_D A ((cw cI cJ cG cZ a fi fl ai al).set 10 (a 10, .inl (cI, 6, .inl F)))) : va_D A (cw cI cJ cG cZ a fi fl (va_up ai 10 F) al) := h
theorem cwpai_11 {D : va_G} {cI cJ cG cZ : ClassId} {a : Nat → Nat} {fi : Nat → Int32} {fl : Nat → Int64} {ai : Nat → Nat → Int32} {al : Nat → Nat → Int64} {F : Nat → Int32} {H : Heap} (h : va_P D vwCl ((cw cI cJ cG cZ a fi fl ai al).set 11 (a 11, .inl (cI, 6, .inl F))) H) : va_P D vwCl (cw cI cJ cG cZ a fi fl (va_up ai 11 F) al) H := h
theorem cwdai_11 {cI cJ cG cZ : ClassId} {a : Nat → Nat} {fi : Nat → Int32} {fl : Nat → Int64} {ai : Nat → Nat → Int32} {al : Nat → Nat → Int64} {F : Nat → Int32} {A : Nat → Prop} (h : va_D A ((cw cI cJ cG cZ a fi fl ai al).set 11 (a 11, .inl (cI, 6, .inl F)))) : va_D A (cw cI cJ cG cZ a fi fl (va_up ai 11 F) al) := h
theorem cwpfi_6 {D : va_G} {cI cJ cG cZ : ClassId} {a : Nat → Nat} {fi : Nat → Int32} {fl : Nat → Int64} {ai : Nat → Nat → Int32} {al : Nat → Nat → Int64} {v : Int32} {H : Heap} (h : va_P D vwCl ((cw cI cJ cG cZ a fi fl ai al).set 12 (a 12, .inr (4, ([.ref (a 13), .ref (a 14), .ref (a 15), .ref (a 16), .int (fi 6)] : List Value).set 4 (.int v)))) H) : va_P D vwCl (cw cI cJ cG cZ a (va_up fi 6 v) fl ai al) H := h
theorem cwdfi_6 {cI cJ cG cZ : ClassId} {a : Nat → Nat} {fi : Nat → Int32} {fl : Nat → Int64} {ai : Nat → Nat → Int32} {al : Nat → Nat → Int64} {v : Int32} {A : Nat → Prop} (h : va_D A ((cw cI cJ cG cZ a fi fl ai al).set 12 (a 12, .inr (4, ([.ref (a 13), .ref (a 14), .ref (a 15), .ref (a 16), .int (fi 6)] : List Value).set 4 (.int v))))) : va_D A (cw cI cJ cG cZ a (va_up fi 6 v) fl ai al) := h
theorem cwpai_13 {D : va_G} {cI cJ cG cZ : ClassId} {a : Nat → Nat} {fi : Nat → Int32} {fl : Nat → Int64} {ai : Nat → Nat → Int32} {al : Nat → Nat → Int64} {F : Nat → Int32} {H : Heap} (h : va_P D vwCl ((cw cI cJ cG cZ a fi fl ai al).set 13 (a 13, .inl (cI, 8, .inl F))) H) : va_P D vwCl (cw cI cJ cG cZ a fi fl (va_up ai 13 F) al) H := h
theorem cwdai_13 {cI cJ cG cZ : ClassId} {a : Nat → Nat} {fi : Nat → Int32} {fl : Nat → Int64} {ai : Nat → Nat → Int32} {al : Nat → Nat → Int64} {F : Nat → Int32} {A : Nat → Prop} (h : va_D A ((cw cI cJ cG cZ a fi fl ai al).set 13 (a 13, .inl (cI, 8, .inl F)))) : va_D A (cw cI cJ cG cZ a fi fl (va_up ai 13 F) al) := h
theorem cwpai_14 {D : va_G} {cI cJ cG cZ : ClassId} {a : Nat → Nat} {fi : Nat → Int32} {fl : Nat → Int64} {ai : Nat → Nat → Int32} {al : Nat → Nat → Int64} {F : Nat → Int32} {H : Heap} (h : va_P D vwCl ((cw cI cJ cG cZ a fi fl ai al).set 14 (a 14, .inl (cI, 8, .inl F))) H) : va_P D vwCl (cw cI cJ cG cZ a fi fl (va_up ai 14 F) al) H := h
theorem cwdai_14 {cI cJ cG cZ : ClassId} {a : Nat → Nat} {fi : Nat → Int32} {fl : Nat → Int64} {ai : Nat → Nat → Int32} {al : Nat → Nat → Int64} {F : Nat → Int32} {A : Nat → Prop} (h : va_D A ((cw cI cJ cG cZ a fi fl ai al).set 14 (a 14, .inl (cI, 8, .inl F)))) : va_D A (cw cI cJ cG cZ a fi fl (va_up ai 14 F) al) := h
theorem cwpai_15 {D : va_G} {cI cJ cG cZ : ClassId} {a : Nat → Nat} {fi : Nat → Int32} {fl : Nat → Int64} {ai : Nat → Nat → Int32} {al : Nat → Nat → Int64} {F : Nat → Int32} {H : Heap} (h : va_P D vwCl ((cw cI cJ cG cZ a fi fl ai al).set 15 (a 15, .inl (cI, 8, .inl F))) H) : va_P D vwCl (cw cI cJ cG cZ a fi fl (va_up ai 15 F) al) H := h
theorem cwdai_15 {cI cJ cG cZ : ClassId} {a : Nat → Nat} {fi : Nat → Int32} {fl : Nat → Int64} {ai : Nat → Nat → Int32} {al : Nat → Nat → Int64} {F : Nat → Int32} {A : Nat → Prop} (h : va_D A ((cw cI cJ cG cZ a fi fl ai al).set 15 (a 15, .inl (cI, 8, .inl F)))) : va_D A (cw cI cJ cG cZ a fi fl (va_up ai 15 F) al) := h
theorem cwpai_16 {D : va_G} {cI cJ cG cZ : ClassId} {a : Nat → Nat} {fi : Nat → Int32} {fl : Nat → Int64} {ai : Nat → Nat → Int32} {al : Nat → Nat → Int64} {F : Nat → Int32} {H : Heap} (h : va_P D vwCl ((cw cI cJ cG cZ a fi fl ai al).set 16 (a 16, .inl (cI, 8, .inl F))) H) : va_P D vwCl (cw cI cJ cG cZ a fi fl (va_up ai 16 F) al) H := h
theorem cwdai_16 {cI cJ cG cZ : ClassId} {a : Nat → Nat} {fi : Nat → Int32} {fl : Nat → Int64} {ai : Nat → Nat → Int32} {al : Nat → Nat → Int64} {F : Nat → Int32} {A : Nat → Prop} (h : va_D A ((cw cI cJ cG cZ a fi fl ai al).set 16 (a 16, .inl (cI, 8, .inl F)))) : va_D A (cw cI cJ cG cZ a fi fl (va_up ai 16 F) al) := h
theorem cwpal_17 {D : va_G} {cI cJ cG cZ : ClassId} {a : Nat → Nat} {fi : Nat → Int32} {fl : Nat → Int64} {ai : Nat → Nat → Int32} {al : Nat → Nat → Int64} {F : Nat → Int64} {H : Heap} (h : va_P D vwCl ((cw cI cJ cG cZ a fi fl ai al).set 17 (a 17, .inl (cJ, 6, .inr (.inl F)))) H) : va_P D vwCl (cw cI cJ cG cZ a fi fl ai (va_up al 17 F)) H := h
theorem cwdal_17 {cI cJ cG cZ : ClassId} {a : Nat → Nat} {fi : Nat → Int32} {fl : Nat → Int64} {ai : Nat → Nat → Int32} {al : Nat → Nat → Int64} {F : Nat → Int64} {A : Nat → Prop} (h : va_D A ((cw cI cJ cG cZ a fi fl ai al).set 17 (a 17, .inl (cJ, 6, .inr (.inl F))))) : va_D A (cw cI cJ cG cZ a fi fl ai (va_up al 17 F)) := h
theorem cwpal_18 {D : va_G} {cI cJ cG cZ : ClassId} {a : Nat → Nat} {fi : Nat → Int32} {fl : Nat → Int64} {ai : Nat → Nat → Int32} {al : Nat → Nat → Int64} {F : Nat → Int64} {H : Heap} (h : va_P D vwCl ((cw cI cJ cG cZ a fi fl ai al).set 18 (a 18, .inl (cJ, 6, .inr (.inl F)))) H) : va_P D vwCl (cw cI cJ cG cZ a fi fl ai (va_up al 18 F)) H := h
theorem cwdal_18 {cI cJ cG cZ : ClassId} {a : Nat → Nat} {fi : Nat → Int32} {fl : Nat → Int64} {ai : Nat → Nat → Int32} {al : Nat → Nat → Int64} {F : Nat → Int64} {A : Nat → Prop} (h : va_D A ((cw cI cJ cG cZ a fi fl ai al).set 18 (a 18, .inl (cJ, 6, .inr (.inl F))))) : va_D A (cw cI cJ cG cZ a fi fl ai (va_up al 18 F)) := h
theorem cwpfi_7 {D : va_G} {cI cJ cG cZ : ClassId} {a : Nat → Nat} {fi : Nat → Int32} {fl : Nat → Int64} {ai : Nat → Nat → Int32} {al : Nat → Nat → Int64} {v : Int32} {H : Heap} (h : va_P D vwCl ((cw cI cJ cG cZ a fi fl ai al).set 19 (a 19, .inr (2, ([.int (fi 7), .ref (a 20), .ref (a 21), .ref (a 22), .ref (a 31), .ref (a 35), .ref (a 39)] : List Value).set 0 (.int v)))) H) : va_P D vwCl (cw cI cJ cG cZ a (va_up fi 7 v) fl ai al) H := h
theorem cwdfi_7 {cI cJ cG cZ : ClassId} {a : Nat → Nat} {fi : Nat → Int32} {fl : Nat → Int64} {ai : Nat → Nat → Int32} {al : Nat → Nat → Int64} {v : Int32} {A : Nat → Prop} (h : va_D A ((cw cI cJ cG cZ a fi fl ai al).set 19 (a 19, .inr (2, ([.int (fi 7), .ref (a 20), .ref (a 21), .ref (a 22), .ref (a 31), .ref (a 35), .ref (a 39)] : List Value).set 0 (.int v))))) : va_D A (cw cI cJ cG cZ a (va_up fi 7 v) fl ai al) := h
theorem cwpai_20 {D : va_G} {cI cJ cG cZ : ClassId} {a : Nat → Nat} {fi : Nat → Int32} {fl : Nat → Int64} {ai : Nat → Nat → Int32} {al : Nat → Nat → Int64} {F : Nat → Int32} {H : Heap} (h : va_P D vwCl ((cw cI cJ cG cZ a fi fl ai al).set 20 (a 20, .inl (cI, 6, .inl F))) H) : va_P D vwCl (cw cI cJ cG cZ a fi fl (va_up ai 20 F) al) H := h
theorem cwdai_20 {cI cJ cG cZ : ClassId} {a : Nat → Nat} {fi : Nat → Int32} {fl : Nat → Int64} {ai : Nat → Nat → Int32} {al : Nat → Nat → Int64} {F : Nat → Int32} {A : Nat → Prop} (h : va_D A ((cw cI cJ cG cZ a fi fl ai al).set 20 (a 20, .inl (cI, 6, .inl F)))) : va_D A (cw cI cJ cG cZ a fi fl (va_up ai 20 F) al) := h
theorem cwpai_21 {D : va_G} {cI cJ cG cZ : ClassId} {a : Nat → Nat} {fi : Nat → Int32} {fl : Nat → Int64} {ai : Nat → Nat → Int32} {al : Nat → Nat → Int64} {F : Nat → Int32} {H : Heap} (h : va_P D vwCl ((cw cI cJ cG cZ a fi fl ai al).set 21 (a 21, .inl (cI, 6, .inl F))) H) : va_P D vwCl (cw cI cJ cG cZ a fi fl (va_up ai 21 F) al) H := h
theorem cwdai_21 {cI cJ cG cZ : ClassId} {a : Nat → Nat} {fi : Nat → Int32} {fl : Nat → Int64} {ai : Nat → Nat → Int32} {al : Nat → Nat → Int64} {F : Nat → Int32} {A : Nat → Prop} (h : va_D A ((cw cI cJ cG cZ a fi fl ai al).set 21 (a 21, .inl (cI, 6, .inl F)))) : va_D A (cw cI cJ cG cZ a fi fl (va_up ai 21 F) al) := h
theorem cw_row22 (cI cJ cG cZ : ClassId) (a : Nat → Nat) (fi : Nat → Int32) (fl : Nat → Int64) (ai : Nat → Nat → Int32) (al : Nat → Nat → Int64) (i : Nat) (h : i < 8) : (cw cI cJ cG cZ a fi fl ai al)[23 + i]? = some (a (23 + i), .inl (cI, 36, .inl (ai (23 + i)))) := by
  match i, h with
  | 0, _ => rfl
  | 1, _ => rfl
  | 2, _ => rfl
  | 3, _ => rfl
  | 4, _ => rfl
  | 5, _ => rfl
  | 6, _ => rfl
  | 7, _ => rfl
theorem cwe_row22 (cI cJ cG cZ : ClassId) (a : Nat → Nat) (fi : Nat → Int32) (fl : Nat → Int64) (ai : Nat → Nat → Int32) (al : Nat → Nat → Int64) (i : Nat) (h : i < 8) (F : Nat → Int32) : ((cw cI cJ cG cZ a fi fl ai al).set (23 + i) (a (23 + i), .inl (cI, 36, .inl F))) = (cw cI cJ cG cZ a fi fl (va_up ai (23 + i) F) al) := by
  match i, h with
  | 0, _ => rfl
  | 1, _ => rfl
  | 2, _ => rfl
  | 3, _ => rfl
  | 4, _ => rfl
  | 5, _ => rfl
  | 6, _ => rfl
  | 7, _ => rfl
theorem cwp_row22 {D : va_G} {cI cJ cG cZ : ClassId} {a : Nat → Nat} {fi : Nat → Int32} {fl : Nat → Int64} {ai : Nat → Nat → Int32} {al : Nat → Nat → Int64} {i : Nat} (h : i < 8) {F : Nat → Int32} {H : Heap} (hp : va_P D vwCl ((cw cI cJ cG cZ a fi fl ai al).set (23 + i) (a (23 + i), .inl (cI, 36, .inl F))) H) : va_P D vwCl (cw cI cJ cG cZ a fi fl (va_up ai (23 + i) F) al) H := by
  rw [cwe_row22 _ _ _ _ _ _ _ _ _ i h F] at hp
  exact hp
theorem cwd_row22 {cI cJ cG cZ : ClassId} {a : Nat → Nat} {fi : Nat → Int32} {fl : Nat → Int64} {ai : Nat → Nat → Int32} {al : Nat → Nat → Int64} {i : Nat} (h : i < 8) {F : Nat → Int32} {A : Nat → Prop} (hp : va_D A ((cw cI cJ cG cZ a fi fl ai al).set (23 + i) (a (23 + i), .inl (cI, 36, .inl F)))) : va_D A (cw cI cJ cG cZ a fi fl (va_up ai (23 + i) F) al) := by
  rw [cwe_row22 _ _ _ _ _ _ _ _ _ i h F] at hp
  exact hp
theorem cw_row31 (cI cJ cG cZ : ClassId) (a : Nat → Nat) (fi : Nat → Int32) (fl : Nat → Int64) (ai : Nat → Nat → Int32) (al : Nat → Nat → Int64) (i : Nat) (h : i < 3) : (cw cI cJ cG cZ a fi fl ai al)[32 + i]? = some (a (32 + i), .inl (cI, 6, .inl (ai (32 + i)))) := by
  match i, h with
  | 0, _ => rfl
  | 1, _ => rfl
  | 2, _ => rfl
theorem cwe_row31 (cI cJ cG cZ : ClassId) (a : Nat → Nat) (fi : Nat → Int32) (fl : Nat → Int64) (ai : Nat → Nat → Int32) (al : Nat → Nat → Int64) (i : Nat) (h : i < 3) (F : Nat → Int32) : ((cw cI cJ cG cZ a fi fl ai al).set (32 + i) (a (32 + i), .inl (cI, 6, .inl F))) = (cw cI cJ cG cZ a fi fl (va_up ai (32 + i) F) al) := by
  match i, h with
  | 0, _ => rfl
  | 1, _ => rfl
  | 2, _ => rfl
theorem cwp_row31 {D : va_G} {cI cJ cG cZ : ClassId} {a : Nat → Nat} {fi : Nat → Int32} {fl : Nat → Int64} {ai : Nat → Nat → Int32} {al : Nat → Nat → Int64} {i : Nat} (h : i < 3) {F : Nat → Int32} {H : Heap} (hp : va_P D vwCl ((cw cI cJ cG cZ a fi fl ai al).set (32 + i) (a (32 + i), .inl (cI, 6, .inl F))) H) : va_P D vwCl (cw cI cJ cG cZ a fi fl (va_up ai (32 + i) F) al) H := by
  rw [cwe_row31 _ _ _ _ _ _ _ _ _ i h F] at hp
  exact hp
theorem cwd_row31 {cI cJ cG cZ : ClassId} {a : Nat → Nat} {fi : Nat → Int32} {fl : Nat → Int64} {ai : Nat → Nat → Int32} {al : Nat → Nat → Int64} {i : Nat} (h : i < 3) {F : Nat → Int32} {A : Nat → Prop} (hp : va_D A ((cw cI cJ cG cZ a fi fl ai al).set (32 + i) (a (32 + i), .inl (cI, 6, .inl F)))) : va_D A (cw cI cJ cG cZ a fi fl (va_up ai (32 + i) F) al) := by
  rw [cwe_row31 _ _ _ _ _ _ _ _ _ i h F] at hp
  exact hp
theorem cw_row35 (cI cJ cG cZ : ClassId) (a : Nat → Nat) (fi : Nat → Int32) (fl : Nat → Int64) (ai : Nat → Nat → Int32) (al : Nat → Nat → Int64) (i : Nat) (h : i < 3) : (cw cI cJ cG cZ a fi fl ai al)[36 + i]? = some (a (36 + i), .inl (cI, 6, .inl (ai (36 + i)))) := by
  match i, h with
  | 0, _ => rfl
  | 1, _ => rfl
  | 2, _ => rfl
theorem cwe_row35 (cI cJ cG cZ : ClassId) (a : Nat → Nat) (fi : Nat → Int32) (fl : Nat → Int64) (ai : Nat → Nat → Int32) (al : Nat → Nat → Int64) (i : Nat) (h : i < 3) (F : Nat → Int32) : ((cw cI cJ cG cZ a fi fl ai al).set (36 + i) (a (36 + i), .inl (cI, 6, .inl F))) = (cw cI cJ cG cZ a fi fl (va_up ai (36 + i) F) al) := by
  match i, h with
  | 0, _ => rfl
  | 1, _ => rfl
  | 2, _ => rfl
theorem cwp_row35 {D : va_G} {cI cJ cG cZ : ClassId} {a : Nat → Nat} {fi : Nat → Int32} {fl : Nat → Int64} {ai : Nat → Nat → Int32} {al : Nat → Nat → Int64} {i : Nat} (h : i < 3) {F : Nat → Int32} {H : Heap} (hp : va_P D vwCl ((cw cI cJ cG cZ a fi fl ai al).set (36 + i) (a (36 + i), .inl (cI, 6, .inl F))) H) : va_P D vwCl (cw cI cJ cG cZ a fi fl (va_up ai (36 + i) F) al) H := by
  rw [cwe_row35 _ _ _ _ _ _ _ _ _ i h F] at hp
  exact hp
theorem cwd_row35 {cI cJ cG cZ : ClassId} {a : Nat → Nat} {fi : Nat → Int32} {fl : Nat → Int64} {ai : Nat → Nat → Int32} {al : Nat → Nat → Int64} {i : Nat} (h : i < 3) {F : Nat → Int32} {A : Nat → Prop} (hp : va_D A ((cw cI cJ cG cZ a fi fl ai al).set (36 + i) (a (36 + i), .inl (cI, 6, .inl F)))) : va_D A (cw cI cJ cG cZ a fi fl (va_up ai (36 + i) F) al) := by
  rw [cwe_row35 _ _ _ _ _ _ _ _ _ i h F] at hp
  exact hp
theorem cwpai_39 {D : va_G} {cI cJ cG cZ : ClassId} {a : Nat → Nat} {fi : Nat → Int32} {fl : Nat → Int64} {ai : Nat → Nat → Int32} {al : Nat → Nat → Int64} {F : Nat → Int32} {H : Heap} (h : va_P D vwCl ((cw cI cJ cG cZ a fi fl ai al).set 39 (a 39, .inl (cI, 6, .inl F))) H) : va_P D vwCl (cw cI cJ cG cZ a fi fl (va_up ai 39 F) al) H := h
theorem cwdai_39 {cI cJ cG cZ : ClassId} {a : Nat → Nat} {fi : Nat → Int32} {fl : Nat → Int64} {ai : Nat → Nat → Int32} {al : Nat → Nat → Int64} {F : Nat → Int32} {A : Nat → Prop} (h : va_D A ((cw cI cJ cG cZ a fi fl ai al).set 39 (a 39, .inl (cI, 6, .inl F)))) : va_D A (cw cI cJ cG cZ a fi fl (va_up ai 39 F) al) := h
theorem cwpfi_8 {D : va_G} {cI cJ cG cZ : ClassId} {a : Nat → Nat} {fi : Nat → Int32} {fl : Nat → Int64} {ai : Nat → Nat → Int32} {al : Nat → Nat → Int64} {v : Int32} {H : Heap} (h : va_P D vwCl ((cw cI cJ cG cZ a fi fl ai al).set 40 (a 40, .inr (6, ([.ref (a 19), .ref (a 1), .ref (a 4), .ref (a 41), .ref (a 42), .ref (a 43), .ref (a 44), .ref (a 45), .int (fi 8), .int (fi 9), .int (fi 10)] : List Value).set 8 (.int v)))) H) : va_P D vwCl (cw cI cJ cG cZ a (va_up fi 8 v) fl ai al) H := h
theorem cwdfi_8 {cI cJ cG cZ : ClassId} {a : Nat → Nat} {fi : Nat → Int32} {fl : Nat → Int64} {ai : Nat → Nat → Int32} {al : Nat → Nat → Int64} {v : Int32} {A : Nat → Prop} (h : va_D A ((cw cI cJ cG cZ a fi fl ai al).set 40 (a 40, .inr (6, ([.ref (a 19), .ref (a 1), .ref (a 4), .ref (a 41), .ref (a 42), .ref (a 43), .ref (a 44), .ref (a 45), .int (fi 8), .int (fi 9), .int (fi 10)] : List Value).set 8 (.int v))))) : va_D A (cw cI cJ cG cZ a (va_up fi 8 v) fl ai al) := h
theorem cwpfi_9 {D : va_G} {cI cJ cG cZ : ClassId} {a : Nat → Nat} {fi : Nat → Int32} {fl : Nat → Int64} {ai : Nat → Nat → Int32} {al : Nat → Nat → Int64} {v : Int32} {H : Heap} (h : va_P D vwCl ((cw cI cJ cG cZ a fi fl ai al).set 40 (a 40, .inr (6, ([.ref (a 19), .ref (a 1), .ref (a 4), .ref (a 41), .ref (a 42), .ref (a 43), .ref (a 44), .ref (a 45), .int (fi 8), .int (fi 9), .int (fi 10)] : List Value).set 9 (.int v)))) H) : va_P D vwCl (cw cI cJ cG cZ a (va_up fi 9 v) fl ai al) H := h
theorem cwdfi_9 {cI cJ cG cZ : ClassId} {a : Nat → Nat} {fi : Nat → Int32} {fl : Nat → Int64} {ai : Nat → Nat → Int32} {al : Nat → Nat → Int64} {v : Int32} {A : Nat → Prop} (h : va_D A ((cw cI cJ cG cZ a fi fl ai al).set 40 (a 40, .inr (6, ([.ref (a 19), .ref (a 1), .ref (a 4), .ref (a 41), .ref (a 42), .ref (a 43), .ref (a 44), .ref (a 45), .int (fi 8), .int (fi 9), .int (fi 10)] : List Value).set 9 (.int v))))) : va_D A (cw cI cJ cG cZ a (va_up fi 9 v) fl ai al) := h
theorem cwpfi_10 {D : va_G} {cI cJ cG cZ : ClassId} {a : Nat → Nat} {fi : Nat → Int32} {fl : Nat → Int64} {ai : Nat → Nat → Int32} {al : Nat → Nat → Int64} {v : Int32} {H : Heap} (h : va_P D vwCl ((cw cI cJ cG cZ a fi fl ai al).set 40 (a 40, .inr (6, ([.ref (a 19), .ref (a 1), .ref (a 4), .ref (a 41), .ref (a 42), .ref (a 43), .ref (a 44), .ref (a 45), .int (fi 8), .int (fi 9), .int (fi 10)] : List Value).set 10 (.int v)))) H) : va_P D vwCl (cw cI cJ cG cZ a (va_up fi 10 v) fl ai al) H := h
theorem cwdfi_10 {cI cJ cG cZ : ClassId} {a : Nat → Nat} {fi : Nat → Int32} {fl : Nat → Int64} {ai : Nat → Nat → Int32} {al : Nat → Nat → Int64} {v : Int32} {A : Nat → Prop} (h : va_D A ((cw cI cJ cG cZ a fi fl ai al).set 40 (a 40, .inr (6, ([.ref (a 19), .ref (a 1), .ref (a 4), .ref (a 41), .ref (a 42), .ref (a 43), .ref (a 44), .ref (a 45), .int (fi 8), .int (fi 9), .int (fi 10)] : List Value).set 10 (.int v))))) : va_D A (cw cI cJ cG cZ a (va_up fi 10 v) fl ai al) := h
theorem cwpal_41 {D : va_G} {cI cJ cG cZ : ClassId} {a : Nat → Nat} {fi : Nat → Int32} {fl : Nat → Int64} {ai : Nat → Nat → Int32} {al : Nat → Nat → Int64} {F : Nat → Int64} {H : Heap} (h : va_P D vwCl ((cw cI cJ cG cZ a fi fl ai al).set 41 (a 41, .inl (cJ, 6, .inr (.inl F)))) H) : va_P D vwCl (cw cI cJ cG cZ a fi fl ai (va_up al 41 F)) H := h
theorem cwdal_41 {cI cJ cG cZ : ClassId} {a : Nat → Nat} {fi : Nat → Int32} {fl : Nat → Int64} {ai : Nat → Nat → Int32} {al : Nat → Nat → Int64} {F : Nat → Int64} {A : Nat → Prop} (h : va_D A ((cw cI cJ cG cZ a fi fl ai al).set 41 (a 41, .inl (cJ, 6, .inr (.inl F))))) : va_D A (cw cI cJ cG cZ a fi fl ai (va_up al 41 F)) := h
theorem cwpal_42 {D : va_G} {cI cJ cG cZ : ClassId} {a : Nat → Nat} {fi : Nat → Int32} {fl : Nat → Int64} {ai : Nat → Nat → Int32} {al : Nat → Nat → Int64} {F : Nat → Int64} {H : Heap} (h : va_P D vwCl ((cw cI cJ cG cZ a fi fl ai al).set 42 (a 42, .inl (cJ, 3, .inr (.inl F)))) H) : va_P D vwCl (cw cI cJ cG cZ a fi fl ai (va_up al 42 F)) H := h
theorem cwdal_42 {cI cJ cG cZ : ClassId} {a : Nat → Nat} {fi : Nat → Int32} {fl : Nat → Int64} {ai : Nat → Nat → Int32} {al : Nat → Nat → Int64} {F : Nat → Int64} {A : Nat → Prop} (h : va_D A ((cw cI cJ cG cZ a fi fl ai al).set 42 (a 42, .inl (cJ, 3, .inr (.inl F))))) : va_D A (cw cI cJ cG cZ a fi fl ai (va_up al 42 F)) := h
theorem cwpai_43 {D : va_G} {cI cJ cG cZ : ClassId} {a : Nat → Nat} {fi : Nat → Int32} {fl : Nat → Int64} {ai : Nat → Nat → Int32} {al : Nat → Nat → Int64} {F : Nat → Int32} {H : Heap} (h : va_P D vwCl ((cw cI cJ cG cZ a fi fl ai al).set 43 (a 43, .inl (cI, 6, .inl F))) H) : va_P D vwCl (cw cI cJ cG cZ a fi fl (va_up ai 43 F) al) H := h
theorem cwdai_43 {cI cJ cG cZ : ClassId} {a : Nat → Nat} {fi : Nat → Int32} {fl : Nat → Int64} {ai : Nat → Nat → Int32} {al : Nat → Nat → Int64} {F : Nat → Int32} {A : Nat → Prop} (h : va_D A ((cw cI cJ cG cZ a fi fl ai al).set 43 (a 43, .inl (cI, 6, .inl F)))) : va_D A (cw cI cJ cG cZ a fi fl (va_up ai 43 F) al) := h
theorem cwpai_44 {D : va_G} {cI cJ cG cZ : ClassId} {a : Nat → Nat} {fi : Nat → Int32} {fl : Nat → Int64} {ai : Nat → Nat → Int32} {al : Nat → Nat → Int64} {F : Nat → Int32} {H : Heap} (h : va_P D vwCl ((cw cI cJ cG cZ a fi fl ai al).set 44 (a 44, .inl (cI, 12, .inl F))) H) : va_P D vwCl (cw cI cJ cG cZ a fi fl (va_up ai 44 F) al) H := h
theorem cwdai_44 {cI cJ cG cZ : ClassId} {a : Nat → Nat} {fi : Nat → Int32} {fl : Nat → Int64} {ai : Nat → Nat → Int32} {al : Nat → Nat → Int64} {F : Nat → Int32} {A : Nat → Prop} (h : va_D A ((cw cI cJ cG cZ a fi fl ai al).set 44 (a 44, .inl (cI, 12, .inl F)))) : va_D A (cw cI cJ cG cZ a fi fl (va_up ai 44 F) al) := h
theorem cw_row45 (cI cJ cG cZ : ClassId) (a : Nat → Nat) (fi : Nat → Int32) (fl : Nat → Int64) (ai : Nat → Nat → Int32) (al : Nat → Nat → Int64) (i : Nat) (h : i < 12) : (cw cI cJ cG cZ a fi fl ai al)[46 + i]? = some (a (46 + i), .inl (cI, 12, .inl (ai (46 + i)))) := by
  match i, h with
  | 0, _ => rfl
  | 1, _ => rfl
  | 2, _ => rfl
  | 3, _ => rfl
  | 4, _ => rfl
  | 5, _ => rfl
  | 6, _ => rfl
  | 7, _ => rfl
  | 8, _ => rfl
  | 9, _ => rfl
  | 10, _ => rfl
  | 11, _ => rfl
theorem cwe_row45 (cI cJ cG cZ : ClassId) (a : Nat → Nat) (fi : Nat → Int32) (fl : Nat → Int64) (ai : Nat → Nat → Int32) (al : Nat → Nat → Int64) (i : Nat) (h : i < 12) (F : Nat → Int32) : ((cw cI cJ cG cZ a fi fl ai al).set (46 + i) (a (46 + i), .inl (cI, 12, .inl F))) = (cw cI cJ cG cZ a fi fl (va_up ai (46 + i) F) al) := by
  match i, h with
  | 0, _ => rfl
  | 1, _ => rfl
  | 2, _ => rfl
  | 3, _ => rfl
  | 4, _ => rfl
  | 5, _ => rfl
  | 6, _ => rfl
  | 7, _ => rfl
  | 8, _ => rfl
  | 9, _ => rfl
  | 10, _ => rfl
  | 11, _ => rfl
theorem cwp_row45 {D : va_G} {cI cJ cG cZ : ClassId} {a : Nat → Nat} {fi : Nat → Int32} {fl : Nat → Int64} {ai : Nat → Nat → Int32} {al : Nat → Nat → Int64} {i : Nat} (h : i < 12) {F : Nat → Int32} {H : Heap} (hp : va_P D vwCl ((cw cI cJ cG cZ a fi fl ai al).set (46 + i) (a (46 + i), .inl (cI, 12, .inl F))) H) : va_P D vwCl (cw cI cJ cG cZ a fi fl (va_up ai (46 + i) F) al) H := by
  rw [cwe_row45 _ _ _ _ _ _ _ _ _ i h F] at hp
  exact hp
theorem cwd_row45 {cI cJ cG cZ : ClassId} {a : Nat → Nat} {fi : Nat → Int32} {fl : Nat → Int64} {ai : Nat → Nat → Int32} {al : Nat → Nat → Int64} {i : Nat} (h : i < 12) {F : Nat → Int32} {A : Nat → Prop} (hp : va_D A ((cw cI cJ cG cZ a fi fl ai al).set (46 + i) (a (46 + i), .inl (cI, 12, .inl F)))) : va_D A (cw cI cJ cG cZ a fi fl (va_up ai (46 + i) F) al) := by
  rw [cwe_row45 _ _ _ _ _ _ _ _ _ i h F] at hp
  exact hp
theorem cwpfi_11 {D : va_G} {cI cJ cG cZ : ClassId} {a : Nat → Nat} {fi : Nat → Int32} {fl : Nat → Int64} {ai : Nat → Nat → Int32} {al : Nat → Nat → Int64} {v : Int32} {H : Heap} (h : va_P D vwCl ((cw cI cJ cG cZ a fi fl ai al).set 58 (a 58, .inr (5, ([.ref (a 19), .ref (a 4), .ref (a 40), .ref (a 59), .ref (a 60), .int (fi 11), .long (fl 0)] : List Value).set 5 (.int v)))) H) : va_P D vwCl (cw cI cJ cG cZ a (va_up fi 11 v) fl ai al) H := h
theorem cwdfi_11 {cI cJ cG cZ : ClassId} {a : Nat → Nat} {fi : Nat → Int32} {fl : Nat → Int64} {ai : Nat → Nat → Int32} {al : Nat → Nat → Int64} {v : Int32} {A : Nat → Prop} (h : va_D A ((cw cI cJ cG cZ a fi fl ai al).set 58 (a 58, .inr (5, ([.ref (a 19), .ref (a 4), .ref (a 40), .ref (a 59), .ref (a 60), .int (fi 11), .long (fl 0)] : List Value).set 5 (.int v))))) : va_D A (cw cI cJ cG cZ a (va_up fi 11 v) fl ai al) := h
theorem cwpfl_0 {D : va_G} {cI cJ cG cZ : ClassId} {a : Nat → Nat} {fi : Nat → Int32} {fl : Nat → Int64} {ai : Nat → Nat → Int32} {al : Nat → Nat → Int64} {v : Int64} {H : Heap} (h : va_P D vwCl ((cw cI cJ cG cZ a fi fl ai al).set 58 (a 58, .inr (5, ([.ref (a 19), .ref (a 4), .ref (a 40), .ref (a 59), .ref (a 60), .int (fi 11), .long (fl 0)] : List Value).set 6 (.long v)))) H) : va_P D vwCl (cw cI cJ cG cZ a fi (va_up fl 0 v) ai al) H := h
theorem cwdfl_0 {cI cJ cG cZ : ClassId} {a : Nat → Nat} {fi : Nat → Int32} {fl : Nat → Int64} {ai : Nat → Nat → Int32} {al : Nat → Nat → Int64} {v : Int64} {A : Nat → Prop} (h : va_D A ((cw cI cJ cG cZ a fi fl ai al).set 58 (a 58, .inr (5, ([.ref (a 19), .ref (a 4), .ref (a 40), .ref (a 59), .ref (a 60), .int (fi 11), .long (fl 0)] : List Value).set 6 (.long v))))) : va_D A (cw cI cJ cG cZ a fi (va_up fl 0 v) ai al) := h
theorem cwpai_59 {D : va_G} {cI cJ cG cZ : ClassId} {a : Nat → Nat} {fi : Nat → Int32} {fl : Nat → Int64} {ai : Nat → Nat → Int32} {al : Nat → Nat → Int64} {F : Nat → Int32} {H : Heap} (h : va_P D vwCl ((cw cI cJ cG cZ a fi fl ai al).set 59 (a 59, .inl (cI, 6, .inl F))) H) : va_P D vwCl (cw cI cJ cG cZ a fi fl (va_up ai 59 F) al) H := h
theorem cwdai_59 {cI cJ cG cZ : ClassId} {a : Nat → Nat} {fi : Nat → Int32} {fl : Nat → Int64} {ai : Nat → Nat → Int32} {al : Nat → Nat → Int64} {F : Nat → Int32} {A : Nat → Prop} (h : va_D A ((cw cI cJ cG cZ a fi fl ai al).set 59 (a 59, .inl (cI, 6, .inl F)))) : va_D A (cw cI cJ cG cZ a fi fl (va_up ai 59 F) al) := h
theorem cwpai_60 {D : va_G} {cI cJ cG cZ : ClassId} {a : Nat → Nat} {fi : Nat → Int32} {fl : Nat → Int64} {ai : Nat → Nat → Int32} {al : Nat → Nat → Int64} {F : Nat → Int32} {H : Heap} (h : va_P D vwCl ((cw cI cJ cG cZ a fi fl ai al).set 60 (a 60, .inl (cI, 6, .inl F))) H) : va_P D vwCl (cw cI cJ cG cZ a fi fl (va_up ai 60 F) al) H := h
theorem cwdai_60 {cI cJ cG cZ : ClassId} {a : Nat → Nat} {fi : Nat → Int32} {fl : Nat → Int64} {ai : Nat → Nat → Int32} {al : Nat → Nat → Int64} {F : Nat → Int32} {A : Nat → Prop} (h : va_D A ((cw cI cJ cG cZ a fi fl ai al).set 60 (a 60, .inl (cI, 6, .inl F)))) : va_D A (cw cI cJ cG cZ a fi fl (va_up ai 60 F) al) := h
end
section
def mw (cI cJ cG cZ : ClassId) (a : Nat → Nat) (fi : Nat → Int32) (fl : Nat → Int64) (ai : Nat → Nat → Int32) (al : Nat → Nat → Int64) : va_W := [
  (a 0, .inr (7, [.int (fi 0), .ref (a 1), .ref (a 2), .ref (a 3), .ref (a 4), .ref (a 5), .ref (a 6), .ref (a 7), .int (fi 1), .ref (a 8), .ref (a 9), .int (fi 2), .ref (a 10), .ref (a 11), .ref (a 12), .ref (a 13), .int (fi 3), .ref (a 14), .int (fi 4), .int (fi 5), .ref (a 15), .ref (a 16), .ref (a 17), .ref (a 18), .int (fi 6), .ref (a 19), .int (fi 7), .ref (a 20), .int (fi 8), .ref (a 21), .ref (a 22), .ref (a 23), .ref (a 24), .ref (a 25), .ref (a 26), .ref (a 27)])),
  (a 1, .inl (cI, 6, .inl (ai 1))),
  (a 2, .inl (cI, 6, .inl (ai 2))),
  (a 3, .inl (cI, 288, .inl (ai 3))),
  (a 4, .inl (cI, 18, .inl (ai 4))),
  (a 5, .inl (cI, 18, .inl (ai 5))),
  (a 6, .inl (cI, 8, .inl (ai 6))),
  (a 7, .inl (cI, 8, .inl (ai 7))),
  (a 8, .inl (cZ, 36, .inl (ai 8))),
  (a 9, .inl (cI, 12, .inl (ai 9))),
  (a 10, .inl (cI, 40, .inl (ai 10))),
  (a 11, .inl (cI, 40, .inl (ai 11))),
  (a 12, .inl (cI, 40, .inl (ai 12))),
  (a 13, .inl (cI, 40, .inl (ai 13))),
  (a 14, .inl (cJ, 6, .inr (.inl (al 14)))),
  (a 15, .inl (cI, 8, .inl (ai 15))),
  (a 16, .inl (cI, 8, .inl (ai 16))),
  (a 17, .inl (cI, 8, .inl (ai 17))),
  (a 18, .inl (cI, 8, .inl (ai 18))),
  (a 19, .inl (cI, 6, .inl (ai 19))),
  (a 20, .inl (cI, 6, .inl (ai 20))),
  (a 21, .inl (cJ, 240, .inr (.inl (al 21)))),
  (a 22, .inl (cI, 6, .inl (ai 22))),
  (a 23, .inl (cJ, 120, .inr (.inl (al 23)))),
  (a 24, .inl (cZ, 3, .inl (ai 24))),
  (a 25, .inl (cJ, 3, .inr (.inl (al 25)))),
  (a 26, .inl (cI, 6, .inl (ai 26))),
  (a 27, .inl (cZ, 6, .inl (ai 27)))]
theorem mwpfi_0 {D : va_G} {cI cJ cG cZ : ClassId} {a : Nat → Nat} {fi : Nat → Int32} {fl : Nat → Int64} {ai : Nat → Nat → Int32} {al : Nat → Nat → Int64} {v : Int32} {H : Heap} (h : va_P D vwCl ((mw cI cJ cG cZ a fi fl ai al).set 0 (a 0, .inr (7, ([.int (fi 0), .ref (a 1), .ref (a 2), .ref (a 3), .ref (a 4), .ref (a 5), .ref (a 6), .ref (a 7), .int (fi 1), .ref (a 8), .ref (a 9), .int (fi 2), .ref (a 10), .ref (a 11), .ref (a 12), .ref (a 13), .int (fi 3), .ref (a 14), .int (fi 4), .int (fi 5), .ref (a 15), .ref (a 16), .ref (a 17), .ref (a 18), .int (fi 6), .ref (a 19), .int (fi 7), .ref (a 20), .int (fi 8), .ref (a 21), .ref (a 22), .ref (a 23), .ref (a 24), .ref (a 25), .ref (a 26), .ref (a 27)] : List Value).set 0 (.int v)))) H) : va_P D vwCl (mw cI cJ cG cZ a (va_up fi 0 v) fl ai al) H := h
theorem mwdfi_0 {cI cJ cG cZ : ClassId} {a : Nat → Nat} {fi : Nat → Int32} {fl : Nat → Int64} {ai : Nat → Nat → Int32} {al : Nat → Nat → Int64} {v : Int32} {A : Nat → Prop} (h : va_D A ((mw cI cJ cG cZ a fi fl ai al).set 0 (a 0, .inr (7, ([.int (fi 0), .ref (a 1), .ref (a 2), .ref (a 3), .ref (a 4), .ref (a 5), .ref (a 6), .ref (a 7), .int (fi 1), .ref (a 8), .ref (a 9), .int (fi 2), .ref (a 10), .ref (a 11), .ref (a 12), .ref (a 13), .int (fi 3), .ref (a 14), .int (fi 4), .int (fi 5), .ref (a 15), .ref (a 16), .ref (a 17), .ref (a 18), .int (fi 6), .ref (a 19), .int (fi 7), .ref (a 20), .int (fi 8), .ref (a 21), .ref (a 22), .ref (a 23), .ref (a 24), .ref (a 25), .ref (a 26), .ref (a 27)] : List Value).set 0 (.int v))))) : va_D A (mw cI cJ cG cZ a (va_up fi 0 v) fl ai al) := h
theorem mwpfi_1 {D : va_G} {cI cJ cG cZ : ClassId} {a : Nat → Nat} {fi : Nat → Int32} {fl : Nat → Int64} {ai : Nat → Nat → Int32} {al : Nat → Nat → Int64} {v : Int32} {H : Heap} (h : va_P D vwCl ((mw cI cJ cG cZ a fi fl ai al).set 0 (a 0, .inr (7, ([.int (fi 0), .ref (a 1), .ref (a 2), .ref (a 3), .ref (a 4), .ref (a 5), .ref (a 6), .ref (a 7), .int (fi 1), .ref (a 8), .ref (a 9), .int (fi 2), .ref (a 10), .ref (a 11), .ref (a 12), .ref (a 13), .int (fi 3), .ref (a 14), .int (fi 4), .int (fi 5), .ref (a 15), .ref (a 16), .ref (a 17), .ref (a 18), .int (fi 6), .ref (a 19), .int (fi 7), .ref (a 20), .int (fi 8), .ref (a 21), .ref (a 22), .ref (a 23), .ref (a 24), .ref (a 25), .ref (a 26), .ref (a 27)] : List Value).set 8 (.int v)))) H) : va_P D vwCl (mw cI cJ cG cZ a (va_up fi 1 v) fl ai al) H := h
theorem mwdfi_1 {cI cJ cG cZ : ClassId} {a : Nat → Nat} {fi : Nat → Int32} {fl : Nat → Int64} {ai : Nat → Nat → Int32} {al : Nat → Nat → Int64} {v : Int32} {A : Nat → Prop} (h : va_D A ((mw cI cJ cG cZ a fi fl ai al).set 0 (a 0, .inr (7, ([.int (fi 0), .ref (a 1), .ref (a 2), .ref (a 3), .ref (a 4), .ref (a 5), .ref (a 6), .ref (a 7), .int (fi 1), .ref (a 8), .ref (a 9), .int (fi 2), .ref (a 10), .ref (a 11), .ref (a 12), .ref (a 13), .int (fi 3), .ref (a 14), .int (fi 4), .int (fi 5), .ref (a 15), .ref (a 16), .ref (a 17), .ref (a 18), .int (fi 6), .ref (a 19), .int (fi 7), .ref (a 20), .int (fi 8), .ref (a 21), .ref (a 22), .ref (a 23), .ref (a 24), .ref (a 25), .ref (a 26), .ref (a 27)] : List Value).set 8 (.int v))))) : va_D A (mw cI cJ cG cZ a (va_up fi 1 v) fl ai al) := h
theorem mwpfi_2 {D : va_G} {cI cJ cG cZ : ClassId} {a : Nat → Nat} {fi : Nat → Int32} {fl : Nat → Int64} {ai : Nat → Nat → Int32} {al : Nat → Nat → Int64} {v : Int32} {H : Heap} (h : va_P D vwCl ((mw cI cJ cG cZ a fi fl ai al).set 0 (a 0, .inr (7, ([.int (fi 0), .ref (a 1), .ref (a 2), .ref (a 3), .ref (a 4), .ref (a 5), .ref (a 6), .ref (a 7), .int (fi 1), .ref (a 8), .ref (a 9), .int (fi 2), .ref (a 10), .ref (a 11), .ref (a 12), .ref (a 13), .int (fi 3), .ref (a 14), .int (fi 4), .int (fi 5), .ref (a 15), .ref (a 16), .ref (a 17), .ref (a 18), .int (fi 6), .ref (a 19), .int (fi 7), .ref (a 20), .int (fi 8), .ref (a 21), .ref (a 22), .ref (a 23), .ref (a 24), .ref (a 25), .ref (a 26), .ref (a 27)] : List Value).set 11 (.int v)))) H) : va_P D vwCl (mw cI cJ cG cZ a (va_up fi 2 v) fl ai al) H := h
theorem mwdfi_2 {cI cJ cG cZ : ClassId} {a : Nat → Nat} {fi : Nat → Int32} {fl : Nat → Int64} {ai : Nat → Nat → Int32} {al : Nat → Nat → Int64} {v : Int32} {A : Nat → Prop} (h : va_D A ((mw cI cJ cG cZ a fi fl ai al).set 0 (a 0, .inr (7, ([.int (fi 0), .ref (a 1), .ref (a 2), .ref (a 3), .ref (a 4), .ref (a 5), .ref (a 6), .ref (a 7), .int (fi 1), .ref (a 8), .ref (a 9), .int (fi 2), .ref (a 10), .ref (a 11), .ref (a 12), .ref (a 13), .int (fi 3), .ref (a 14), .int (fi 4), .int (fi 5), .ref (a 15), .ref (a 16), .ref (a 17), .ref (a 18), .int (fi 6), .ref (a 19), .int (fi 7), .ref (a 20), .int (fi 8), .ref (a 21), .ref (a 22), .ref (a 23), .ref (a 24), .ref (a 25), .ref (a 26), .ref (a 27)] : List Value).set 11 (.int v))))) : va_D A (mw cI cJ cG cZ a (va_up fi 2 v) fl ai al) := h
theorem mwpfi_3 {D : va_G} {cI cJ cG cZ : ClassId} {a : Nat → Nat} {fi : Nat → Int32} {fl : Nat → Int64} {ai : Nat → Nat → Int32} {al : Nat → Nat → Int64} {v : Int32} {H : Heap} (h : va_P D vwCl ((mw cI cJ cG cZ a fi fl ai al).set 0 (a 0, .inr (7, ([.int (fi 0), .ref (a 1), .ref (a 2), .ref (a 3), .ref (a 4), .ref (a 5), .ref (a 6), .ref (a 7), .int (fi 1), .ref (a 8), .ref (a 9), .int (fi 2), .ref (a 10), .ref (a 11), .ref (a 12), .ref (a 13), .int (fi 3), .ref (a 14), .int (fi 4), .int (fi 5), .ref (a 15), .ref (a 16), .ref (a 17), .ref (a 18), .int (fi 6), .ref (a 19), .int (fi 7), .ref (a 20), .int (fi 8), .ref (a 21), .ref (a 22), .ref (a 23), .ref (a 24), .ref (a 25), .ref (a 26), .ref (a 27)] : List Value).set 16 (.int v)))) H) : va_P D vwCl (mw cI cJ cG cZ a (va_up fi 3 v) fl ai al) H := h
theorem mwdfi_3 {cI cJ cG cZ : ClassId} {a : Nat → Nat} {fi : Nat → Int32} {fl : Nat → Int64} {ai : Nat → Nat → Int32} {al : Nat → Nat → Int64} {v : Int32} {A : Nat → Prop} (h : va_D A ((mw cI cJ cG cZ a fi fl ai al).set 0 (a 0, .inr (7, ([.int (fi 0), .ref (a 1), .ref (a 2), .ref (a 3), .ref (a 4), .ref (a 5), .ref (a 6), .ref (a 7), .int (fi 1), .ref (a 8), .ref (a 9), .int (fi 2), .ref (a 10), .ref (a 11), .ref (a 12), .ref (a 13), .int (fi 3), .ref (a 14), .int (fi 4), .int (fi 5), .ref (a 15), .ref (a 16), .ref (a 17), .ref (a 18), .int (fi 6), .ref (a 19), .int (fi 7), .ref (a 20), .int (fi 8), .ref (a 21), .ref (a 22), .ref (a 23), .ref (a 24), .ref (a 25), .ref (a 26), .ref (a 27)] : List Value).set 16 (.int v))))) : va_D A (mw cI cJ cG cZ a (va_up fi 3 v) fl ai al) := h
theorem mwpfi_4 {D : va_G} {cI cJ cG cZ : ClassId} {a : Nat → Nat} {fi : Nat → Int32} {fl : Nat → Int64} {ai : Nat → Nat → Int32} {al : Nat → Nat → Int64} {v : Int32} {H : Heap} (h : va_P D vwCl ((mw cI cJ cG cZ a fi fl ai al).set 0 (a 0, .inr (7, ([.int (fi 0), .ref (a 1), .ref (a 2), .ref (a 3), .ref (a 4), .ref (a 5), .ref (a 6), .ref (a 7), .int (fi 1), .ref (a 8), .ref (a 9), .int (fi 2), .ref (a 10), .ref (a 11), .ref (a 12), .ref (a 13), .int (fi 3), .ref (a 14), .int (fi 4), .int (fi 5), .ref (a 15), .ref (a 16), .ref (a 17), .ref (a 18), .int (fi 6), .ref (a 19), .int (fi 7), .ref (a 20), .int (fi 8), .ref (a 21), .ref (a 22), .ref (a 23), .ref (a 24), .ref (a 25), .ref (a 26), .ref (a 27)] : List Value).set 18 (.int v)))) H) : va_P D vwCl (mw cI cJ cG cZ a (va_up fi 4 v) fl ai al) H := h
theorem mwdfi_4 {cI cJ cG cZ : ClassId} {a : Nat → Nat} {fi : Nat → Int32} {fl : Nat → Int64} {ai : Nat → Nat → Int32} {al : Nat → Nat → Int64} {v : Int32} {A : Nat → Prop} (h : va_D A ((mw cI cJ cG cZ a fi fl ai al).set 0 (a 0, .inr (7, ([.int (fi 0), .ref (a 1), .ref (a 2), .ref (a 3), .ref (a 4), .ref (a 5), .ref (a 6), .ref (a 7), .int (fi 1), .ref (a 8), .ref (a 9), .int (fi 2), .ref (a 10), .ref (a 11), .ref (a 12), .ref (a 13), .int (fi 3), .ref (a 14), .int (fi 4), .int (fi 5), .ref (a 15), .ref (a 16), .ref (a 17), .ref (a 18), .int (fi 6), .ref (a 19), .int (fi 7), .ref (a 20), .int (fi 8), .ref (a 21), .ref (a 22), .ref (a 23), .ref (a 24), .ref (a 25), .ref (a 26), .ref (a 27)] : List Value).set 18 (.int v))))) : va_D A (mw cI cJ cG cZ a (va_up fi 4 v) fl ai al) := h
theorem mwpfi_5 {D : va_G} {cI cJ cG cZ : ClassId} {a : Nat → Nat} {fi : Nat → Int32} {fl : Nat → Int64} {ai : Nat → Nat → Int32} {al : Nat → Nat → Int64} {v : Int32} {H : Heap} (h : va_P D vwCl ((mw cI cJ cG cZ a fi fl ai al).set 0 (a 0, .inr (7, ([.int (fi 0), .ref (a 1), .ref (a 2), .ref (a 3), .ref (a 4), .ref (a 5), .ref (a 6), .ref (a 7), .int (fi 1), .ref (a 8), .ref (a 9), .int (fi 2), .ref (a 10), .ref (a 11), .ref (a 12), .ref (a 13), .int (fi 3), .ref (a 14), .int (fi 4), .int (fi 5), .ref (a 15), .ref (a 16), .ref (a 17), .ref (a 18), .int (fi 6), .ref (a 19), .int (fi 7), .ref (a 20), .int (fi 8), .ref (a 21), .ref (a 22), .ref (a 23), .ref (a 24), .ref (a 25), .ref (a 26), .ref (a 27)] : List Value).set 19 (.int v)))) H) : va_P D vwCl (mw cI cJ cG cZ a (va_up fi 5 v) fl ai al) H := h
theorem mwdfi_5 {cI cJ cG cZ : ClassId} {a : Nat → Nat} {fi : Nat → Int32} {fl : Nat → Int64} {ai : Nat → Nat → Int32} {al : Nat → Nat → Int64} {v : Int32} {A : Nat → Prop} (h : va_D A ((mw cI cJ cG cZ a fi fl ai al).set 0 (a 0, .inr (7, ([.int (fi 0), .ref (a 1), .ref (a 2), .ref (a 3), .ref (a 4), .ref (a 5), .ref (a 6), .ref (a 7), .int (fi 1), .ref (a 8), .ref (a 9), .int (fi 2), .ref (a 10), .ref (a 11), .ref (a 12), .ref (a 13), .int (fi 3), .ref (a 14), .int (fi 4), .int (fi 5), .ref (a 15), .ref (a 16), .ref (a 17), .ref (a 18), .int (fi 6), .ref (a 19), .int (fi 7), .ref (a 20), .int (fi 8), .ref (a 21), .ref (a 22), .ref (a 23), .ref (a 24), .ref (a 25), .ref (a 26), .ref (a 27)] : List Value).set 19 (.int v))))) : va_D A (mw cI cJ cG cZ a (va_up fi 5 v) fl ai al) := h
theorem mwpfi_6 {D : va_G} {cI cJ cG cZ : ClassId} {a : Nat → Nat} {fi : Nat → Int32} {fl : Nat → Int64} {ai : Nat → Nat → Int32} {al : Nat → Nat → Int64} {v : Int32} {H : Heap} (h : va_P D vwCl ((mw cI cJ cG cZ a fi fl ai al).set 0 (a 0, .inr (7, ([.int (fi 0), .ref (a 1), .ref (a 2), .ref (a 3), .ref (a 4), .ref (a 5), .ref (a 6), .ref (a 7), .int (fi 1), .ref (a 8), .ref (a 9), .int (fi 2), .ref (a 10), .ref (a 11), .ref (a 12), .ref (a 13), .int (fi 3), .ref (a 14), .int (fi 4), .int (fi 5), .ref (a 15), .ref (a 16), .ref (a 17), .ref (a 18), .int (fi 6), .ref (a 19), .int (fi 7), .ref (a 20), .int (fi 8), .ref (a 21), .ref (a 22), .ref (a 23), .ref (a 24), .ref (a 25), .ref (a 26), .ref (a 27)] : List Value).set 24 (.int v)))) H) : va_P D vwCl (mw cI cJ cG cZ a (va_up fi 6 v) fl ai al) H := h
theorem mwdfi_6 {cI cJ cG cZ : ClassId} {a : Nat → Nat} {fi : Nat → Int32} {fl : Nat → Int64} {ai : Nat → Nat → Int32} {al : Nat → Nat → Int64} {v : Int32} {A : Nat → Prop} (h : va_D A ((mw cI cJ cG cZ a fi fl ai al).set 0 (a 0, .inr (7, ([.int (fi 0), .ref (a 1), .ref (a 2), .ref (a 3), .ref (a 4), .ref (a 5), .ref (a 6), .ref (a 7), .int (fi 1), .ref (a 8), .ref (a 9), .int (fi 2), .ref (a 10), .ref (a 11), .ref (a 12), .ref (a 13), .int (fi 3), .ref (a 14), .int (fi 4), .int (fi 5), .ref (a 15), .ref (a 16), .ref (a 17), .ref (a 18), .int (fi 6), .ref (a 19), .int (fi 7), .ref (a 20), .int (fi 8), .ref (a 21), .ref (a 22), .ref (a 23), .ref (a 24), .ref (a 25), .ref (a 26), .ref (a 27)] : List Value).set 24 (.int v))))) : va_D A (mw cI cJ cG cZ a (va_up fi 6 v) fl ai al) := h
theorem mwpfi_7 {D : va_G} {cI cJ cG cZ : ClassId} {a : Nat → Nat} {fi : Nat → Int32} {fl : Nat → Int64} {ai : Nat → Nat → Int32} {al : Nat → Nat → Int64} {v : Int32} {H : Heap} (h : va_P D vwCl ((mw cI cJ cG cZ a fi fl ai al).set 0 (a 0, .inr (7, ([.int (fi 0), .ref (a 1), .ref (a 2), .ref (a 3), .ref (a 4), .ref (a 5), .ref (a 6), .ref (a 7), .int (fi 1), .ref (a 8), .ref (a 9), .int (fi 2), .ref (a 10), .ref (a 11), .ref (a 12), .ref (a 13), .int (fi 3), .ref (a 14), .int (fi 4), .int (fi 5), .ref (a 15), .ref (a 16), .ref (a 17), .ref (a 18), .int (fi 6), .ref (a 19), .int (fi 7), .ref (a 20), .int (fi 8), .ref (a 21), .ref (a 22), .ref (a 23), .ref (a 24), .ref (a 25), .ref (a 26), .ref (a 27)] : List Value).set 26 (.int v)))) H) : va_P D vwCl (mw cI cJ cG cZ a (va_up fi 7 v) fl ai al) H := h
theorem mwdfi_7 {cI cJ cG cZ : ClassId} {a : Nat → Nat} {fi : Nat → Int32} {fl : Nat → Int64} {ai : Nat → Nat → Int32} {al : Nat → Nat → Int64} {v : Int32} {A : Nat → Prop} (h : va_D A ((mw cI cJ cG cZ a fi fl ai al).set 0 (a 0, .inr (7, ([.int (fi 0), .ref (a 1), .ref (a 2), .ref (a 3), .ref (a 4), .ref (a 5), .ref (a 6), .ref (a 7), .int (fi 1), .ref (a 8), .ref (a 9), .int (fi 2), .ref (a 10), .ref (a 11), .ref (a 12), .ref (a 13), .int (fi 3), .ref (a 14), .int (fi 4), .int (fi 5), .ref (a 15), .ref (a 16), .ref (a 17), .ref (a 18), .int (fi 6), .ref (a 19), .int (fi 7), .ref (a 20), .int (fi 8), .ref (a 21), .ref (a 22), .ref (a 23), .ref (a 24), .ref (a 25), .ref (a 26), .ref (a 27)] : List Value).set 26 (.int v))))) : va_D A (mw cI cJ cG cZ a (va_up fi 7 v) fl ai al) := h
theorem mwpfi_8 {D : va_G} {cI cJ cG cZ : ClassId} {a : Nat → Nat} {fi : Nat → Int32} {fl : Nat → Int64} {ai : Nat → Nat → Int32} {al : Nat → Nat → Int64} {v : Int32} {H : Heap} (h : va_P D vwCl ((mw cI cJ cG cZ a fi fl ai al).set 0 (a 0, .inr (7, ([.int (fi 0), .ref (a 1), .ref (a 2), .ref (a 3), .ref (a 4), .ref (a 5), .ref (a 6), .ref (a 7), .int (fi 1), .ref (a 8), .ref (a 9), .int (fi 2), .ref (a 10), .ref (a 11), .ref (a 12), .ref (a 13), .int (fi 3), .ref (a 14), .int (fi 4), .int (fi 5), .ref (a 15), .ref (a 16), .ref (a 17), .ref (a 18), .int (fi 6), .ref (a 19), .int (fi 7), .ref (a 20), .int (fi 8), .ref (a 21), .ref (a 22), .ref (a 23), .ref (a 24), .ref (a 25), .ref (a 26), .ref (a 27)] : List Value).set 28 (.int v)))) H) : va_P D vwCl (mw cI cJ cG cZ a (va_up fi 8 v) fl ai al) H := h
theorem mwdfi_8 {cI cJ cG cZ : ClassId} {a : Nat → Nat} {fi : Nat → Int32} {fl : Nat → Int64} {ai : Nat → Nat → Int32} {al : Nat → Nat → Int64} {v : Int32} {A : Nat → Prop} (h : va_D A ((mw cI cJ cG cZ a fi fl ai al).set 0 (a 0, .inr (7, ([.int (fi 0), .ref (a 1), .ref (a 2), .ref (a 3), .ref (a 4), .ref (a 5), .ref (a 6), .ref (a 7), .int (fi 1), .ref (a 8), .ref (a 9), .int (fi 2), .ref (a 10), .ref (a 11), .ref (a 12), .ref (a 13), .int (fi 3), .ref (a 14), .int (fi 4), .int (fi 5), .ref (a 15), .ref (a 16), .ref (a 17), .ref (a 18), .int (fi 6), .ref (a 19), .int (fi 7), .ref (a 20), .int (fi 8), .ref (a 21), .ref (a 22), .ref (a 23), .ref (a 24), .ref (a 25), .ref (a 26), .ref (a 27)] : List Value).set 28 (.int v))))) : va_D A (mw cI cJ cG cZ a (va_up fi 8 v) fl ai al) := h
theorem mwpai_1 {D : va_G} {cI cJ cG cZ : ClassId} {a : Nat → Nat} {fi : Nat → Int32} {fl : Nat → Int64} {ai : Nat → Nat → Int32} {al : Nat → Nat → Int64} {F : Nat → Int32} {H : Heap} (h : va_P D vwCl ((mw cI cJ cG cZ a fi fl ai al).set 1 (a 1, .inl (cI, 6, .inl F))) H) : va_P D vwCl (mw cI cJ cG cZ a fi fl (va_up ai 1 F) al) H := h
theorem mwdai_1 {cI cJ cG cZ : ClassId} {a : Nat → Nat} {fi : Nat → Int32} {fl : Nat → Int64} {ai : Nat → Nat → Int32} {al : Nat → Nat → Int64} {F : Nat → Int32} {A : Nat → Prop} (h : va_D A ((mw cI cJ cG cZ a fi fl ai al).set 1 (a 1, .inl (cI, 6, .inl F)))) : va_D A (mw cI cJ cG cZ a fi fl (va_up ai 1 F) al) := h
theorem mwpai_2 {D : va_G} {cI cJ cG cZ : ClassId} {a : Nat → Nat} {fi : Nat → Int32} {fl : Nat → Int64} {ai : Nat → Nat → Int32} {al : Nat → Nat → Int64} {F : Nat → Int32} {H : Heap} (h : va_P D vwCl ((mw cI cJ cG cZ a fi fl ai al).set 2 (a 2, .inl (cI, 6, .inl F))) H) : va_P D vwCl (mw cI cJ cG cZ a fi fl (va_up ai 2 F) al) H := h
theorem mwdai_2 {cI cJ cG cZ : ClassId} {a : Nat → Nat} {fi : Nat → Int32} {fl : Nat → Int64} {ai : Nat → Nat → Int32} {al : Nat → Nat → Int64} {F : Nat → Int32} {A : Nat → Prop} (h : va_D A ((mw cI cJ cG cZ a fi fl ai al).set 2 (a 2, .inl (cI, 6, .inl F)))) : va_D A (mw cI cJ cG cZ a fi fl (va_up ai 2 F) al) := h
theorem mwpai_3 {D : va_G} {cI cJ cG cZ : ClassId} {a : Nat → Nat} {fi : Nat → Int32} {fl : Nat → Int64} {ai : Nat → Nat → Int32} {al : Nat → Nat → Int64} {F : Nat → Int32} {H : Heap} (h : va_P D vwCl ((mw cI cJ cG cZ a fi fl ai al).set 3 (a 3, .inl (cI, 288, .inl F))) H) : va_P D vwCl (mw cI cJ cG cZ a fi fl (va_up ai 3 F) al) H := h
theorem mwdai_3 {cI cJ cG cZ : ClassId} {a : Nat → Nat} {fi : Nat → Int32} {fl : Nat → Int64} {ai : Nat → Nat → Int32} {al : Nat → Nat → Int64} {F : Nat → Int32} {A : Nat → Prop} (h : va_D A ((mw cI cJ cG cZ a fi fl ai al).set 3 (a 3, .inl (cI, 288, .inl F)))) : va_D A (mw cI cJ cG cZ a fi fl (va_up ai 3 F) al) := h
theorem mwpai_4 {D : va_G} {cI cJ cG cZ : ClassId} {a : Nat → Nat} {fi : Nat → Int32} {fl : Nat → Int64} {ai : Nat → Nat → Int32} {al : Nat → Nat → Int64} {F : Nat → Int32} {H : Heap} (h : va_P D vwCl ((mw cI cJ cG cZ a fi fl ai al).set 4 (a 4, .inl (cI, 18, .inl F))) H) : va_P D vwCl (mw cI cJ cG cZ a fi fl (va_up ai 4 F) al) H := h
theorem mwdai_4 {cI cJ cG cZ : ClassId} {a : Nat → Nat} {fi : Nat → Int32} {fl : Nat → Int64} {ai : Nat → Nat → Int32} {al : Nat → Nat → Int64} {F : Nat → Int32} {A : Nat → Prop} (h : va_D A ((mw cI cJ cG cZ a fi fl ai al).set 4 (a 4, .inl (cI, 18, .inl F)))) : va_D A (mw cI cJ cG cZ a fi fl (va_up ai 4 F) al) := h
theorem mwpai_5 {D : va_G} {cI cJ cG cZ : ClassId} {a : Nat → Nat} {fi : Nat → Int32} {fl : Nat → Int64} {ai : Nat → Nat → Int32} {al : Nat → Nat → Int64} {F : Nat → Int32} {H : Heap} (h : va_P D vwCl ((mw cI cJ cG cZ a fi fl ai al).set 5 (a 5, .inl (cI, 18, .inl F))) H) : va_P D vwCl (mw cI cJ cG cZ a fi fl (va_up ai 5 F) al) H := h
theorem mwdai_5 {cI cJ cG cZ : ClassId} {a : Nat → Nat} {fi : Nat → Int32} {fl : Nat → Int64} {ai : Nat → Nat → Int32} {al : Nat → Nat → Int64} {F : Nat → Int32} {A : Nat → Prop} (h : va_D A ((mw cI cJ cG cZ a fi fl ai al).set 5 (a 5, .inl (cI, 18, .inl F)))) : va_D A (mw cI cJ cG cZ a fi fl (va_up ai 5 F) al) := h
theorem mwpai_6 {D : va_G} {cI cJ cG cZ : ClassId} {a : Nat → Nat} {fi : Nat → Int32} {fl : Nat → Int64} {ai : Nat → Nat → Int32} {al : Nat → Nat → Int64} {F : Nat → Int32} {H : Heap} (h : va_P D vwCl ((mw cI cJ cG cZ a fi fl ai al).set 6 (a 6, .inl (cI, 8, .inl F))) H) : va_P D vwCl (mw cI cJ cG cZ a fi fl (va_up ai 6 F) al) H := h
theorem mwdai_6 {cI cJ cG cZ : ClassId} {a : Nat → Nat} {fi : Nat → Int32} {fl : Nat → Int64} {ai : Nat → Nat → Int32} {al : Nat → Nat → Int64} {F : Nat → Int32} {A : Nat → Prop} (h : va_D A ((mw cI cJ cG cZ a fi fl ai al).set 6 (a 6, .inl (cI, 8, .inl F)))) : va_D A (mw cI cJ cG cZ a fi fl (va_up ai 6 F) al) := h
theorem mwpai_7 {D : va_G} {cI cJ cG cZ : ClassId} {a : Nat → Nat} {fi : Nat → Int32} {fl : Nat → Int64} {ai : Nat → Nat → Int32} {al : Nat → Nat → Int64} {F : Nat → Int32} {H : Heap} (h : va_P D vwCl ((mw cI cJ cG cZ a fi fl ai al).set 7 (a 7, .inl (cI, 8, .inl F))) H) : va_P D vwCl (mw cI cJ cG cZ a fi fl (va_up ai 7 F) al) H := h
theorem mwdai_7 {cI cJ cG cZ : ClassId} {a : Nat → Nat} {fi : Nat → Int32} {fl : Nat → Int64} {ai : Nat → Nat → Int32} {al : Nat → Nat → Int64} {F : Nat → Int32} {A : Nat → Prop} (h : va_D A ((mw cI cJ cG cZ a fi fl ai al).set 7 (a 7, .inl (cI, 8, .inl F)))) : va_D A (mw cI cJ cG cZ a fi fl (va_up ai 7 F) al) := h
theorem mwpai_8 {D : va_G} {cI cJ cG cZ : ClassId} {a : Nat → Nat} {fi : Nat → Int32} {fl : Nat → Int64} {ai : Nat → Nat → Int32} {al : Nat → Nat → Int64} {F : Nat → Int32} {H : Heap} (h : va_P D vwCl ((mw cI cJ cG cZ a fi fl ai al).set 8 (a 8, .inl (cZ, 36, .inl F))) H) : va_P D vwCl (mw cI cJ cG cZ a fi fl (va_up ai 8 F) al) H := h
theorem mwdai_8 {cI cJ cG cZ : ClassId} {a : Nat → Nat} {fi : Nat → Int32} {fl : Nat → Int64} {ai : Nat → Nat → Int32} {al : Nat → Nat → Int64} {F : Nat → Int32} {A : Nat → Prop} (h : va_D A ((mw cI cJ cG cZ a fi fl ai al).set 8 (a 8, .inl (cZ, 36, .inl F)))) : va_D A (mw cI cJ cG cZ a fi fl (va_up ai 8 F) al) := h
theorem mwpai_9 {D : va_G} {cI cJ cG cZ : ClassId} {a : Nat → Nat} {fi : Nat → Int32} {fl : Nat → Int64} {ai : Nat → Nat → Int32} {al : Nat → Nat → Int64} {F : Nat → Int32} {H : Heap} (h : va_P D vwCl ((mw cI cJ cG cZ a fi fl ai al).set 9 (a 9, .inl (cI, 12, .inl F))) H) : va_P D vwCl (mw cI cJ cG cZ a fi fl (va_up ai 9 F) al) H := h
theorem mwdai_9 {cI cJ cG cZ : ClassId} {a : Nat → Nat} {fi : Nat → Int32} {fl : Nat → Int64} {ai : Nat → Nat → Int32} {al : Nat → Nat → Int64} {F : Nat → Int32} {A : Nat → Prop} (h : va_D A ((mw cI cJ cG cZ a fi fl ai al).set 9 (a 9, .inl (cI, 12, .inl F)))) : va_D A (mw cI cJ cG cZ a fi fl (va_up ai 9 F) al) := h
theorem mwpai_10 {D : va_G} {cI cJ cG cZ : ClassId} {a : Nat → Nat} {fi : Nat → Int32} {fl : Nat → Int64} {ai : Nat → Nat → Int32} {al : Nat → Nat → Int64} {F : Nat → Int32} {H : Heap} (h : va_P D vwCl ((mw cI cJ cG cZ a fi fl ai al).set 10 (a 10, .inl (cI, 40, .inl F))) H) : va_P D vwCl (mw cI cJ cG cZ a fi fl (va_up ai 10 F) al) H := h
theorem mwdai_10 {cI cJ cG cZ : ClassId} {a : Nat → Nat} {fi : Nat → Int32} {fl : Nat → Int64} {ai : Nat → Nat → Int32} {al : Nat → Nat → Int64} {F : Nat → Int32} {A : Nat → Prop} (h : va_D A ((mw cI cJ cG cZ a fi fl ai al).set 10 (a 10, .inl (cI, 40, .inl F)))) : va_D A (mw cI cJ cG cZ a fi fl (va_up ai 10 F) al) := h
theorem mwpai_11 {D : va_G} {cI cJ cG cZ : ClassId} {a : Nat → Nat} {fi : Nat → Int32} {fl : Nat → Int64} {ai : Nat → Nat → Int32} {al : Nat → Nat → Int64} {F : Nat → Int32} {H : Heap} (h : va_P D vwCl ((mw cI cJ cG cZ a fi fl ai al).set 11 (a 11, .inl (cI, 40, .inl F))) H) : va_P D vwCl (mw cI cJ cG cZ a fi fl (va_up ai 11 F) al) H := h
theorem mwdai_11 {cI cJ cG cZ : ClassId} {a : Nat → Nat} {fi : Nat → Int32} {fl : Nat → Int64} {ai : Nat → Nat → Int32} {al : Nat → Nat → Int64} {F : Nat → Int32} {A : Nat → Prop} (h : va_D A ((mw cI cJ cG cZ a fi fl ai al).set 11 (a 11, .inl (cI, 40, .inl F)))) : va_D A (mw cI cJ cG cZ a fi fl (va_up ai 11 F) al) := h
theorem mwpai_12 {D : va_G} {cI cJ cG cZ : ClassId} {a : Nat → Nat} {fi : Nat → Int32} {fl : Nat → Int64} {ai : Nat → Nat → Int32} {al : Nat → Nat → Int64} {F : Nat → Int32} {H : Heap} (h : va_P D vwCl ((mw cI cJ cG cZ a fi fl ai al).set 12 (a 12, .inl (cI, 40, .inl F))) H) : va_P D vwCl (mw cI cJ cG cZ a fi fl (va_up ai 12 F) al) H := h
theorem mwdai_12 {cI cJ cG cZ : ClassId} {a : Nat → Nat} {fi : Nat → Int32} {fl : Nat → Int64} {ai : Nat → Nat → Int32} {al : Nat → Nat → Int64} {F : Nat → Int32} {A : Nat → Prop} (h : va_D A ((mw cI cJ cG cZ a fi fl ai al).set 12 (a 12, .inl (cI, 40, .inl F)))) : va_D A (mw cI cJ cG cZ a fi fl (va_up ai 12 F) al) := h
theorem mwpai_13 {D : va_G} {cI cJ cG cZ : ClassId} {a : Nat → Nat} {fi : Nat → Int32} {fl : Nat → Int64} {ai : Nat → Nat → Int32} {al : Nat → Nat → Int64} {F : Nat → Int32} {H : Heap} (h : va_P D vwCl ((mw cI cJ cG cZ a fi fl ai al).set 13 (a 13, .inl (cI, 40, .inl F))) H) : va_P D vwCl (mw cI cJ cG cZ a fi fl (va_up ai 13 F) al) H := h
theorem mwdai_13 {cI cJ cG cZ : ClassId} {a : Nat → Nat} {fi : Nat → Int32} {fl : Nat → Int64} {ai : Nat → Nat → Int32} {al : Nat → Nat → Int64} {F : Nat → Int32} {A : Nat → Prop} (h : va_D A ((mw cI cJ cG cZ a fi fl ai al).set 13 (a 13, .inl (cI, 40, .inl F)))) : va_D A (mw cI cJ cG cZ a fi fl (va_up ai 13 F) al) := h
theorem mwpal_14 {D : va_G} {cI cJ cG cZ : ClassId} {a : Nat → Nat} {fi : Nat → Int32} {fl : Nat → Int64} {ai : Nat → Nat → Int32} {al : Nat → Nat → Int64} {F : Nat → Int64} {H : Heap} (h : va_P D vwCl ((mw cI cJ cG cZ a fi fl ai al).set 14 (a 14, .inl (cJ, 6, .inr (.inl F)))) H) : va_P D vwCl (mw cI cJ cG cZ a fi fl ai (va_up al 14 F)) H := h
theorem mwdal_14 {cI cJ cG cZ : ClassId} {a : Nat → Nat} {fi : Nat → Int32} {fl : Nat → Int64} {ai : Nat → Nat → Int32} {al : Nat → Nat → Int64} {F : Nat → Int64} {A : Nat → Prop} (h : va_D A ((mw cI cJ cG cZ a fi fl ai al).set 14 (a 14, .inl (cJ, 6, .inr (.inl F))))) : va_D A (mw cI cJ cG cZ a fi fl ai (va_up al 14 F)) := h
theorem mwpai_15 {D : va_G} {cI cJ cG cZ : ClassId} {a : Nat → Nat} {fi : Nat → Int32} {fl : Nat → Int64} {ai : Nat → Nat → Int32} {al : Nat → Nat → Int64} {F : Nat → Int32} {H : Heap} (h : va_P D vwCl ((mw cI cJ cG cZ a fi fl ai al).set 15 (a 15, .inl (cI, 8, .inl F))) H) : va_P D vwCl (mw cI cJ cG cZ a fi fl (va_up ai 15 F) al) H := h
theorem mwdai_15 {cI cJ cG cZ : ClassId} {a : Nat → Nat} {fi : Nat → Int32} {fl : Nat → Int64} {ai : Nat → Nat → Int32} {al : Nat → Nat → Int64} {F : Nat → Int32} {A : Nat → Prop} (h : va_D A ((mw cI cJ cG cZ a fi fl ai al).set 15 (a 15, .inl (cI, 8, .inl F)))) : va_D A (mw cI cJ cG cZ a fi fl (va_up ai 15 F) al) := h
theorem mwpai_16 {D : va_G} {cI cJ cG cZ : ClassId} {a : Nat → Nat} {fi : Nat → Int32} {fl : Nat → Int64} {ai : Nat → Nat → Int32} {al : Nat → Nat → Int64} {F : Nat → Int32} {H : Heap} (h : va_P D vwCl ((mw cI cJ cG cZ a fi fl ai al).set 16 (a 16, .inl (cI, 8, .inl F))) H) : va_P D vwCl (mw cI cJ cG cZ a fi fl (va_up ai 16 F) al) H := h
theorem mwdai_16 {cI cJ cG cZ : ClassId} {a : Nat → Nat} {fi : Nat → Int32} {fl : Nat → Int64} {ai : Nat → Nat → Int32} {al : Nat → Nat → Int64} {F : Nat → Int32} {A : Nat → Prop} (h : va_D A ((mw cI cJ cG cZ a fi fl ai al).set 16 (a 16, .inl (cI, 8, .inl F)))) : va_D A (mw cI cJ cG cZ a fi fl (va_up ai 16 F) al) := h
theorem mwpai_17 {D : va_G} {cI cJ cG cZ : ClassId} {a : Nat → Nat} {fi : Nat → Int32} {fl : Nat → Int64} {ai : Nat → Nat → Int32} {al : Nat → Nat → Int64} {F : Nat → Int32} {H : Heap} (h : va_P D vwCl ((mw cI cJ cG cZ a fi fl ai al).set 17 (a 17, .inl (cI, 8, .inl F))) H) : va_P D vwCl (mw cI cJ cG cZ a fi fl (va_up ai 17 F) al) H := h
theorem mwdai_17 {cI cJ cG cZ : ClassId} {a : Nat → Nat} {fi : Nat → Int32} {fl : Nat → Int64} {ai : Nat → Nat → Int32} {al : Nat → Nat → Int64} {F : Nat → Int32} {A : Nat → Prop} (h : va_D A ((mw cI cJ cG cZ a fi fl ai al).set 17 (a 17, .inl (cI, 8, .inl F)))) : va_D A (mw cI cJ cG cZ a fi fl (va_up ai 17 F) al) := h
theorem mwpai_18 {D : va_G} {cI cJ cG cZ : ClassId} {a : Nat → Nat} {fi : Nat → Int32} {fl : Nat → Int64} {ai : Nat → Nat → Int32} {al : Nat → Nat → Int64} {F : Nat → Int32} {H : Heap} (h : va_P D vwCl ((mw cI cJ cG cZ a fi fl ai al).set 18 (a 18, .inl (cI, 8, .inl F))) H) : va_P D vwCl (mw cI cJ cG cZ a fi fl (va_up ai 18 F) al) H := h
theorem mwdai_18 {cI cJ cG cZ : ClassId} {a : Nat → Nat} {fi : Nat → Int32} {fl : Nat → Int64} {ai : Nat → Nat → Int32} {al : Nat → Nat → Int64} {F : Nat → Int32} {A : Nat → Prop} (h : va_D A ((mw cI cJ cG cZ a fi fl ai al).set 18 (a 18, .inl (cI, 8, .inl F)))) : va_D A (mw cI cJ cG cZ a fi fl (va_up ai 18 F) al) := h
theorem mwpai_19 {D : va_G} {cI cJ cG cZ : ClassId} {a : Nat → Nat} {fi : Nat → Int32} {fl : Nat → Int64} {ai : Nat → Nat → Int32} {al : Nat → Nat → Int64} {F : Nat → Int32} {H : Heap} (h : va_P D vwCl ((mw cI cJ cG cZ a fi fl ai al).set 19 (a 19, .inl (cI, 6, .inl F))) H) : va_P D vwCl (mw cI cJ cG cZ a fi fl (va_up ai 19 F) al) H := h
theorem mwdai_19 {cI cJ cG cZ : ClassId} {a : Nat → Nat} {fi : Nat → Int32} {fl : Nat → Int64} {ai : Nat → Nat → Int32} {al : Nat → Nat → Int64} {F : Nat → Int32} {A : Nat → Prop} (h : va_D A ((mw cI cJ cG cZ a fi fl ai al).set 19 (a 19, .inl (cI, 6, .inl F)))) : va_D A (mw cI cJ cG cZ a fi fl (va_up ai 19 F) al) := h
theorem mwpai_20 {D : va_G} {cI cJ cG cZ : ClassId} {a : Nat → Nat} {fi : Nat → Int32} {fl : Nat → Int64} {ai : Nat → Nat → Int32} {al : Nat → Nat → Int64} {F : Nat → Int32} {H : Heap} (h : va_P D vwCl ((mw cI cJ cG cZ a fi fl ai al).set 20 (a 20, .inl (cI, 6, .inl F))) H) : va_P D vwCl (mw cI cJ cG cZ a fi fl (va_up ai 20 F) al) H := h
theorem mwdai_20 {cI cJ cG cZ : ClassId} {a : Nat → Nat} {fi : Nat → Int32} {fl : Nat → Int64} {ai : Nat → Nat → Int32} {al : Nat → Nat → Int64} {F : Nat → Int32} {A : Nat → Prop} (h : va_D A ((mw cI cJ cG cZ a fi fl ai al).set 20 (a 20, .inl (cI, 6, .inl F)))) : va_D A (mw cI cJ cG cZ a fi fl (va_up ai 20 F) al) := h
theorem mwpal_21 {D : va_G} {cI cJ cG cZ : ClassId} {a : Nat → Nat} {fi : Nat → Int32} {fl : Nat → Int64} {ai : Nat → Nat → Int32} {al : Nat → Nat → Int64} {F : Nat → Int64} {H : Heap} (h : va_P D vwCl ((mw cI cJ cG cZ a fi fl ai al).set 21 (a 21, .inl (cJ, 240, .inr (.inl F)))) H) : va_P D vwCl (mw cI cJ cG cZ a fi fl ai (va_up al 21 F)) H := h
theorem mwdal_21 {cI cJ cG cZ : ClassId} {a : Nat → Nat} {fi : Nat → Int32} {fl : Nat → Int64} {ai : Nat → Nat → Int32} {al : Nat → Nat → Int64} {F : Nat → Int64} {A : Nat → Prop} (h : va_D A ((mw cI cJ cG cZ a fi fl ai al).set 21 (a 21, .inl (cJ, 240, .inr (.inl F))))) : va_D A (mw cI cJ cG cZ a fi fl ai (va_up al 21 F)) := h
theorem mwpai_22 {D : va_G} {cI cJ cG cZ : ClassId} {a : Nat → Nat} {fi : Nat → Int32} {fl : Nat → Int64} {ai : Nat → Nat → Int32} {al : Nat → Nat → Int64} {F : Nat → Int32} {H : Heap} (h : va_P D vwCl ((mw cI cJ cG cZ a fi fl ai al).set 22 (a 22, .inl (cI, 6, .inl F))) H) : va_P D vwCl (mw cI cJ cG cZ a fi fl (va_up ai 22 F) al) H := h
theorem mwdai_22 {cI cJ cG cZ : ClassId} {a : Nat → Nat} {fi : Nat → Int32} {fl : Nat → Int64} {ai : Nat → Nat → Int32} {al : Nat → Nat → Int64} {F : Nat → Int32} {A : Nat → Prop} (h : va_D A ((mw cI cJ cG cZ a fi fl ai al).set 22 (a 22, .inl (cI, 6, .inl F)))) : va_D A (mw cI cJ cG cZ a fi fl (va_up ai 22 F) al) := h
theorem mwpal_23 {D : va_G} {cI cJ cG cZ : ClassId} {a : Nat → Nat} {fi : Nat → Int32} {fl : Nat → Int64} {ai : Nat → Nat → Int32} {al : Nat → Nat → Int64} {F : Nat → Int64} {H : Heap} (h : va_P D vwCl ((mw cI cJ cG cZ a fi fl ai al).set 23 (a 23, .inl (cJ, 120, .inr (.inl F)))) H) : va_P D vwCl (mw cI cJ cG cZ a fi fl ai (va_up al 23 F)) H := h
theorem mwdal_23 {cI cJ cG cZ : ClassId} {a : Nat → Nat} {fi : Nat → Int32} {fl : Nat → Int64} {ai : Nat → Nat → Int32} {al : Nat → Nat → Int64} {F : Nat → Int64} {A : Nat → Prop} (h : va_D A ((mw cI cJ cG cZ a fi fl ai al).set 23 (a 23, .inl (cJ, 120, .inr (.inl F))))) : va_D A (mw cI cJ cG cZ a fi fl ai (va_up al 23 F)) := h
theorem mwpai_24 {D : va_G} {cI cJ cG cZ : ClassId} {a : Nat → Nat} {fi : Nat → Int32} {fl : Nat → Int64} {ai : Nat → Nat → Int32} {al : Nat → Nat → Int64} {F : Nat → Int32} {H : Heap} (h : va_P D vwCl ((mw cI cJ cG cZ a fi fl ai al).set 24 (a 24, .inl (cZ, 3, .inl F))) H) : va_P D vwCl (mw cI cJ cG cZ a fi fl (va_up ai 24 F) al) H := h
theorem mwdai_24 {cI cJ cG cZ : ClassId} {a : Nat → Nat} {fi : Nat → Int32} {fl : Nat → Int64} {ai : Nat → Nat → Int32} {al : Nat → Nat → Int64} {F : Nat → Int32} {A : Nat → Prop} (h : va_D A ((mw cI cJ cG cZ a fi fl ai al).set 24 (a 24, .inl (cZ, 3, .inl F)))) : va_D A (mw cI cJ cG cZ a fi fl (va_up ai 24 F) al) := h
theorem mwpal_25 {D : va_G} {cI cJ cG cZ : ClassId} {a : Nat → Nat} {fi : Nat → Int32} {fl : Nat → Int64} {ai : Nat → Nat → Int32} {al : Nat → Nat → Int64} {F : Nat → Int64} {H : Heap} (h : va_P D vwCl ((mw cI cJ cG cZ a fi fl ai al).set 25 (a 25, .inl (cJ, 3, .inr (.inl F)))) H) : va_P D vwCl (mw cI cJ cG cZ a fi fl ai (va_up al 25 F)) H := h
theorem mwdal_25 {cI cJ cG cZ : ClassId} {a : Nat → Nat} {fi : Nat → Int32} {fl : Nat → Int64} {ai : Nat → Nat → Int32} {al : Nat → Nat → Int64} {F : Nat → Int64} {A : Nat → Prop} (h : va_D A ((mw cI cJ cG cZ a fi fl ai al).set 25 (a 25, .inl (cJ, 3, .inr (.inl F))))) : va_D A (mw cI cJ cG cZ a fi fl ai (va_up al 25 F)) := h
theorem mwpai_26 {D : va_G} {cI cJ cG cZ : ClassId} {a : Nat → Nat} {fi : Nat → Int32} {fl : Nat → Int64} {ai : Nat → Nat → Int32} {al : Nat → Nat → Int64} {F : Nat → Int32} {H : Heap} (h : va_P D vwCl ((mw cI cJ cG cZ a fi fl ai al).set 26 (a 26, .inl (cI, 6, .inl F))) H) : va_P D vwCl (mw cI cJ cG cZ a fi fl (va_up ai 26 F) al) H := h
theorem mwdai_26 {cI cJ cG cZ : ClassId} {a : Nat → Nat} {fi : Nat → Int32} {fl : Nat → Int64} {ai : Nat → Nat → Int32} {al : Nat → Nat → Int64} {F : Nat → Int32} {A : Nat → Prop} (h : va_D A ((mw cI cJ cG cZ a fi fl ai al).set 26 (a 26, .inl (cI, 6, .inl F)))) : va_D A (mw cI cJ cG cZ a fi fl (va_up ai 26 F) al) := h
theorem mwpai_27 {D : va_G} {cI cJ cG cZ : ClassId} {a : Nat → Nat} {fi : Nat → Int32} {fl : Nat → Int64} {ai : Nat → Nat → Int32} {al : Nat → Nat → Int64} {F : Nat → Int32} {H : Heap} (h : va_P D vwCl ((mw cI cJ cG cZ a fi fl ai al).set 27 (a 27, .inl (cZ, 6, .inl F))) H) : va_P D vwCl (mw cI cJ cG cZ a fi fl (va_up ai 27 F) al) H := h
theorem mwdai_27 {cI cJ cG cZ : ClassId} {a : Nat → Nat} {fi : Nat → Int32} {fl : Nat → Int64} {ai : Nat → Nat → Int32} {al : Nat → Nat → Int64} {F : Nat → Int32} {A : Nat → Prop} (h : va_D A ((mw cI cJ cG cZ a fi fl ai al).set 27 (a 27, .inl (cZ, 6, .inl F)))) : va_D A (mw cI cJ cG cZ a fi fl (va_up ai 27 F) al) := h
end
section
def SS_within_w (p0 : Int32) (p1 : Int32) (p2 : Int32) (K : Int32 → Prop) : Prop :=
  if p0 < p1 then (
    K (0 : Int32))
  else (
    if p2 < p0 then (
      K (0 : Int32))
    else (
      K (1 : Int32)))
theorem d_SS_within_0 : decode b_SS_within 0 = .ok (.iload_n 0, 1) := by decide +kernel
theorem d_SS_within_1 : decode b_SS_within 1 = .ok (.iload_n 1, 1) := by decide +kernel
theorem d_SS_within_2 : decode b_SS_within 2 = .ok (.if_icmp .lt (12), 3) := by decide +kernel
theorem d_SS_within_5 : decode b_SS_within 5 = .ok (.iload_n 0, 1) := by decide +kernel
theorem d_SS_within_6 : decode b_SS_within 6 = .ok (.iload_n 2, 1) := by decide +kernel
theorem d_SS_within_7 : decode b_SS_within 7 = .ok (.if_icmp .gt (7), 3) := by decide +kernel
theorem d_SS_within_10 : decode b_SS_within 10 = .ok (.iconst 1, 1) := by decide +kernel
theorem d_SS_within_11 : decode b_SS_within 11 = .ok (.goto (4), 3) := by decide +kernel
theorem d_SS_within_14 : decode b_SS_within 14 = .ok (.iconst 0, 1) := by decide +kernel
theorem d_SS_within_15 : decode b_SS_within 15 = .ok (.ireturn, 1) := by decide +kernel
set_option maxHeartbeats 4000000 in
set_option maxRecDepth 100000 in
theorem c_SS_within (l : Launch) (p0 : Int32) (p1 : Int32) (p2 : Int32) (K : Int32 → Prop) (hw : SS_within_w p0 p1 p2 K) : Met l y_SS_within ws_SS_within ({ frames := 0, cells := 0, slots := 0, locals := 0 }) (va_Pc [.int p0, .int p1, .int p2] (fun _ => True)) (vp_Si K) 0 0 (fun _ => False) := by
  refine Met.ofW (cc := b_SS_within) (maxL := 3) (ret := (Option.some FieldType.boolean)) (by decide) rfl ?_
  intro p e s m args below meth c s₁ B hml hv
  obtain ⟨rfl, -⟩ := hv
  have hx := B.exec
  have hb := B.bytes
  have hr := B.returns
  have hts := atoms_spec (ws := ws_SS_within) B.pre
  have ht : ∀ w ∈ zw_tbl, w.before _ s = true := fun w h => hts w (List.mem_cons_of_mem _ h)
  have hown : s.vm.findClass R_SS = some m.cls := findClass_of_methodNamed B.named
  have hlocks := B.notSynchronized
  have hl := lv_entry ([.int p0, .int p1, .int p2] : List Value) (n := 3) (Nat.le_of_ble_eq_true rfl)
  rw [lg_entry_eq]
  generalize (lg_sl ([.int p0, .int p1, .int p2] : List Value) ++ List.replicate (3 - (lg_sl ([.int p0, .int p1, .int p2] : List Value)).length) Slot.unset).toArray = ls at hl ⊢
  have hl : lv_has ls 3 [(0, .int p0), (1, .int p1), (2, .int p2)] := hl
  unfold SS_within_w at hw
  refine lv_iload_n hx hb d_SS_within_0 rfl (lv_at hl 0 rfl) ?_
  refine lv_iload_n hx hb d_SS_within_1 rfl (lv_at hl 1 rfl) ?_
  refine lv_icmp_lt (tgt := 14) hx hb d_SS_within_2 (by decide) (fun c2 => ?_) (fun c2 => ?_)
  · have hw := zw_ite_t c2 hw
    refine lv_iconst (v := (0 : Int32)) hx hb d_SS_within_14 (by decide) ?_
    exact W.zret (v := (0 : Int32)) (ty := .boolean) hx hb hr rfl (fun t ht hW => ⟨(0 : Int32), rfl, hw, ht⟩) t_nil d_SS_within_15
  · have hw := zw_ite_f c2 hw
    refine lv_iload_n hx hb d_SS_within_5 rfl (lv_at hl 0 rfl) ?_
    refine lv_iload_n hx hb d_SS_within_6 rfl (lv_at hl 2 rfl) ?_
    refine lv_icmp_gt (tgt := 14) hx hb d_SS_within_7 (by decide) (fun c7 => ?_) (fun c7 => ?_)
    · have hw := zw_ite_t c7 hw
      refine lv_iconst (v := (0 : Int32)) hx hb d_SS_within_14 (by decide) ?_
      exact W.zret (v := (0 : Int32)) (ty := .boolean) hx hb hr rfl (fun t ht hW => ⟨(0 : Int32), rfl, hw, ht⟩) t_nil d_SS_within_15
    · have hw := zw_ite_f c7 hw
      refine lv_iconst (v := (1 : Int32)) hx hb d_SS_within_10 (by decide) ?_
      refine lv_goto (tgt := 15) hx hb d_SS_within_11 (by decide) ?_
      exact W.zret (v := (1 : Int32)) (ty := .boolean) hx hb hr rfl (fun t ht hW => ⟨(1 : Int32), rfl, hw, ht⟩) t_nil d_SS_within_15
def Gi_hasPart_w (fi : Nat → Int32) (fl : Nat → Int64) (ai : Nat → Nat → Int32) (al : Nat → Nat → Int64) (p0 : Int32) (K : Int32 → Prop) : Prop :=
  SS_within_w p0 (0 : Int32) ((fi 7) - (1 : Int32)) (fun (r8 : Int32) =>
  zw_bool r8 ∧ (K r8))
theorem d_Gi_hasPart_0 : decode b_Gi_hasPart 0 = .ok (.iload_n 1, 1) := by decide +kernel
theorem d_Gi_hasPart_1 : decode b_Gi_hasPart 1 = .ok (.iconst 0, 1) := by decide +kernel
theorem d_Gi_hasPart_2 : decode b_Gi_hasPart 2 = .ok (.aload_n 0, 1) := by decide +kernel
theorem d_Gi_hasPart_3 : decode b_Gi_hasPart 3 = .ok (.getfield 32, 3) := by decide +kernel
theorem d_Gi_hasPart_6 : decode b_Gi_hasPart 6 = .ok (.iconst 1, 1) := by decide +kernel
theorem d_Gi_hasPart_7 : decode b_Gi_hasPart 7 = .ok (.isub, 1) := by decide +kernel
theorem d_Gi_hasPart_8 : decode b_Gi_hasPart 8 = .ok (.invokestatic 36, 3) := by decide +kernel
theorem d_Gi_hasPart_11 : decode b_Gi_hasPart 11 = .ok (.ireturn, 1) := by decide +kernel
set_option maxHeartbeats 4000000 in
set_option maxRecDepth 100000 in
theorem c_Gi_hasPart (l : Launch) (dC : Nat → ClassId) (dI : Nat → Nat → Nat) (cI cJ cG cZ : ClassId) (a : Nat → Nat) (fi : Nat → Int32) (fl : Nat → Int64) (ai : Nat → Nat → Int32) (al : Nat → Nat → Int64) (p0 : Int32) (K : Int32 → Prop) (hw : Gi_hasPart_w fi fl ai al p0 K) : Met l y_Gi_hasPart ws_Gi_hasPart ({ frames := 1, cells := 0, slots := 0, locals := 22 }) (va_Pc [.ref (a 19), .int p0] (zw_B (dC, dI) vwCl [(cI, .int), (cJ, .long), (cG, .array .int), (cZ, .boolean)] (cw cI cJ cG cZ a fi fl ai al))) (vp_Si K) 0 0 (fun _ => False) := by
  refine Met.ofW (cc := b_Gi_hasPart) (maxL := 2) (ret := (Option.some FieldType.boolean)) (by decide) rfl ?_
  intro p e s m args below meth c s₁ B hml hv
  obtain ⟨rfl, hP, hK, hN⟩ := hv
  have hx := B.exec
  have hb := B.bytes
  have hr := B.returns
  have hts := atoms_spec (ws := ws_Gi_hasPart) B.pre
  have ht : ∀ w ∈ zw_tbl, w.before _ s = true := fun w h => hts w (List.mem_cons_of_mem _ h)
  have hown : s.vm.findClass R_Gi = some m.cls := findClass_of_methodNamed B.named
  have hlocks := B.notSynchronized
  have hl := lv_entry ([.ref (a 19), .int p0] : List Value) (n := 2) (Nat.le_of_ble_eq_true rfl)
  rw [lg_entry_eq]
  generalize (lg_sl ([.ref (a 19), .int p0] : List Value) ++ List.replicate (2 - (lg_sl ([.ref (a 19), .int p0] : List Value)).length) Slot.unset).toArray = ls at hl ⊢
  have hl : lv_has ls 2 [(0, .ref (a 19)), (1, .int p0)] := hl
  unfold Gi_hasPart_w at hw
  refine lv_iload_n hx hb d_Gi_hasPart_0 rfl (lv_at hl 1 rfl) ?_
  refine lv_iconst (v := (0 : Int32)) hx hb d_Gi_hasPart_1 (by decide) ?_
  refine lv_aload_n hx hb d_Gi_hasPart_2 rfl (lv_at hl 0 rfl) ?_
  refine va_get (D := (dC, dI)) (ci := 2) (v := .int (fi 7)) (C := R_Gi) (T := T_Gi) (N := 7) hx hb ht in_Gi hown hK hP 19 rfl rfl 0 (by decide) (ht _ kw_134) (fun _ h9 => h9) rfl d_Gi_hasPart_3 ?_
  refine lv_iconst (v := (1 : Int32)) hx hb d_Gi_hasPart_6 (by decide) ?_
  refine lv_isub hx hb d_Gi_hasPart_7 ?_
  refine vp_callSi (va_Run.run (va_runSN (As := [.int p0, .int (0 : Int32), .int ((fi 7) - (1 : Int32))]) (rest := []) ⟨hx, hb, hml, hown, hts⟩ (c_SS_within l p0 (0 : Int32) ((fi 7) - (1 : Int32)) _ hw) ⟨va_cnB 3 hts (zw_goodC kw_280) rfl rfl rfl (hN _ nw_278) (ht _ kw_1) hd_SS_within.2 ⟨Nat.le_of_ble_eq_true rfl, Nat.le_of_ble_eq_true rfl⟩, ht _ kw_279, trivial⟩ zw_preS0 rfl rfl hl.1 rfl (lv_room (Nat.le_of_ble_eq_true rfl)) d_Gi_hasPart_8 ⟨Nat.le_of_ble_eq_true rfl, Nat.le_of_ble_eq_true rfl⟩)) (fun r8 hw => ?_)
  obtain ⟨hz, hw⟩ := hw
  exact W.zret (v := r8) (ty := .boolean) hx hb hr (zw_bool_n hz) (fun t ht hW => ⟨r8, rfl, hw, ht⟩) t_nil d_Gi_hasPart_11
def SS_part_w (fi : Nat → Int32) (fl : Nat → Int64) (ai : Nat → Nat → Int32) (al : Nat → Nat → Int64) (p0 : Int32) (p1 : Int32) (p2 : Int32) (K : Int32 → (Nat → Int32) → (Nat → Int64) → (Nat → Nat → Int32) → (Nat → Nat → Int64) → Prop) : Prop :=
  Gi_hasPart_w fi fl ai al p0 (fun (r5 : Int32) =>
  if r5 = 0 then (
    K (0 : Int32) fi fl ai al)
  else (
    SS_within_w p1 (0 : Int32) (1000 : Int32) (fun (r16 : Int32) =>
    if r16 = 0 then (
      K (0 : Int32) fi fl ai al)
    else (
      SS_within_w p2 (-100000 : Int32) (100000 : Int32) (fun (r27 : Int32) =>
      if r27 = 0 then (
        K (0 : Int32) fi fl ai al)
      else (
        vp_in p0 6 ∧ (zw_nm (va_up ai 20 (upd (ai 20) p0.toNatClampNeg p1)) (fun (ai_44 : Nat → Nat → Int32) =>
        vp_in p0 6 ∧ (zw_nm (va_up ai_44 21 (upd (ai_44 21) p0.toNatClampNeg p2)) (fun (ai_54 : Nat → Nat → Int32) =>
        K (1 : Int32) fi fl ai_54 al))))))))))
theorem d_SS_part_0 : decode b_SS_part 0 = .ok (.aload_n 0, 1) := by decide +kernel
theorem d_SS_part_1 : decode b_SS_part 1 = .ok (.getfield 55, 3) := by decide +kernel
theorem d_SS_part_4 : decode b_SS_part 4 = .ok (.iload_n 1, 1) := by decide +kernel
theorem d_SS_part_5 : decode b_SS_part 5 = .ok (.invokevirtual 77, 3) := by decide +kernel
theorem d_SS_part_8 : decode b_SS_part 8 = .ok (.ifCond .eq (25), 3) := by decide +kernel
theorem d_SS_part_11 : decode b_SS_part 11 = .ok (.iload_n 2, 1) := by decide +kernel
theorem d_SS_part_12 : decode b_SS_part 12 = .ok (.iconst 0, 1) := by decide +kernel
theorem d_SS_part_13 : decode b_SS_part 13 = .ok (.sipush (1000), 3) := by decide +kernel
theorem d_SS_part_16 : decode b_SS_part 16 = .ok (.invokestatic 81, 3) := by decide +kernel
theorem d_SS_part_19 : decode b_SS_part 19 = .ok (.ifCond .eq (14), 3) := by decide +kernel
theorem d_SS_part_22 : decode b_SS_part 22 = .ok (.iload_n 3, 1) := by decide +kernel
theorem d_SS_part_23 : decode b_SS_part 23 = .ok (.ldc 85, 2) := by decide +kernel
theorem d_SS_part_25 : decode b_SS_part 25 = .ok (.ldc 86, 2) := by decide +kernel
theorem d_SS_part_27 : decode b_SS_part 27 = .ok (.invokestatic 81, 3) := by decide +kernel
theorem d_SS_part_30 : decode b_SS_part 30 = .ok (.ifCond .ne (5), 3) := by decide +kernel
theorem d_SS_part_33 : decode b_SS_part 33 = .ok (.iconst 0, 1) := by decide +kernel
theorem d_SS_part_34 : decode b_SS_part 34 = .ok (.ireturn, 1) := by decide +kernel
theorem d_SS_part_35 : decode b_SS_part 35 = .ok (.aload_n 0, 1) := by decide +kernel
theorem d_SS_part_36 : decode b_SS_part 36 = .ok (.getfield 55, 3) := by decide +kernel
theorem d_SS_part_39 : decode b_SS_part 39 = .ok (.getfield 87, 3) := by decide +kernel
theorem d_SS_part_42 : decode b_SS_part 42 = .ok (.iload_n 1, 1) := by decide +kernel
theorem d_SS_part_43 : decode b_SS_part 43 = .ok (.iload_n 2, 1) := by decide +kernel
theorem d_SS_part_44 : decode b_SS_part 44 = .ok (.iastore, 1) := by decide +kernel
theorem d_SS_part_45 : decode b_SS_part 45 = .ok (.aload_n 0, 1) := by decide +kernel
theorem d_SS_part_46 : decode b_SS_part 46 = .ok (.getfield 55, 3) := by decide +kernel
theorem d_SS_part_49 : decode b_SS_part 49 = .ok (.getfield 91, 3) := by decide +kernel
theorem d_SS_part_52 : decode b_SS_part 52 = .ok (.iload_n 1, 1) := by decide +kernel
theorem d_SS_part_53 : decode b_SS_part 53 = .ok (.iload_n 3, 1) := by decide +kernel
theorem d_SS_part_54 : decode b_SS_part 54 = .ok (.iastore, 1) := by decide +kernel
theorem d_SS_part_55 : decode b_SS_part 55 = .ok (.iconst 1, 1) := by decide +kernel
theorem d_SS_part_56 : decode b_SS_part 56 = .ok (.ireturn, 1) := by decide +kernel
set_option maxHeartbeats 4000000 in
set_option maxRecDepth 100000 in
theorem c_SS_part (l : Launch) (dC : Nat → ClassId) (dI : Nat → Nat → Nat) (cI cJ cG cZ : ClassId) (a : Nat → Nat) (sz : Nat) (fi : Nat → Int32) (fl : Nat → Int64) (ai : Nat → Nat → Int32) (al : Nat → Nat → Int64) (p0 : Int32) (p1 : Int32) (p2 : Int32) (K : Int32 → (Nat → Int32) → (Nat → Int64) → (Nat → Nat → Int32) → (Nat → Nat → Int64) → Prop) (hw : SS_part_w fi fl ai al p0 p1 p2 K) : Met l y_SS_part ws_SS_part ({ frames := 2, cells := 0, slots := 0, locals := 43 }) (va_Pc [.ref (a 0), .int p0, .int p1, .int p2] (zw_Bw (dC, dI) vwCl [(cI, .int), (cJ, .long), (cG, .array .int), (cZ, .boolean)] (cw cI cJ cG cZ a fi fl ai al) sz)) (va_Qi (fun r (u : zw_Z) => K r u.1 u.2.1 u.2.2.1 u.2.2.2) (fun u t => zw_E (dC, dI) vwCl [(cI, .int), (cJ, .long), (cG, .array .int), (cZ, .boolean)] (va_A (cw cI cJ cG cZ a fi fl ai al) sz) (cw cI cJ cG cZ a u.1 u.2.1 u.2.2.1 u.2.2.2) t) (va_A (cw cI cJ cG cZ a fi fl ai al) sz)) 0 0 (va_A (cw cI cJ cG cZ a fi fl ai al) sz) := by
  refine Met.ofW (cc := b_SS_part) (maxL := 4) (ret := (Option.some FieldType.boolean)) (by decide) rfl ?_
  intro p e s m args below meth c s₁ B hml hv
  obtain ⟨rfl, hsz, hP, hK, hD0, hN⟩ := hv
  have hx := B.exec
  have hb := B.bytes
  have hr := B.returns
  have hts := atoms_spec (ws := ws_SS_part) B.pre
  have ht : ∀ w ∈ zw_tbl, w.before _ s = true := fun w h => hts w (List.mem_cons_of_mem _ h)
  have hown : s.vm.findClass R_SS = some m.cls := findClass_of_methodNamed B.named
  have hlocks := B.notSynchronized
  subst hsz
  have hD := hD0.self (sz := s.heap.size)
  generalize hAe : va_A (cw cI cJ cG cZ a fi fl ai al) s.heap.size = A at hD ⊢
  have hA : ∀ q : Nat, s.heap.size ≤ q → A q := fun q h => by rw [← hAe]; exact Or.inr h
  have hS : va_S A s.heap s.heap [] := va_S.rf
  have hl := lv_entry ([.ref (a 0), .int p0, .int p1, .int p2] : List Value) (n := 4) (Nat.le_of_ble_eq_true rfl)
  rw [lg_entry_eq]
  generalize (lg_sl ([.ref (a 0), .int p0, .int p1, .int p2] : List Value) ++ List.replicate (4 - (lg_sl ([.ref (a 0), .int p0, .int p1, .int p2] : List Value)).length) Slot.unset).toArray = ls at hl ⊢
  have hl : lv_has ls 4 [(0, .ref (a 0)), (1, .int p0), (2, .int p1), (3, .int p2)] := hl
  unfold SS_part_w at hw
  obtain ⟨H, hH⟩ : ∃ H, H = s.heap := ⟨_, rfl⟩
  obtain ⟨locs, hlo⟩ : ∃ q : List Loc, q = [] := ⟨_, rfl⟩
  have hP : va_P (dC, dI) vwCl (cw cI cJ cG cZ a fi fl ai al) H := by rw [hH]; exact hP
  have hS : va_S A s.heap H locs := by rw [hH, hlo]; exact hS
  have key : W p l e (headSpec ws_SS_part ({ frames := 2, cells := 0, slots := 0, locals := 43 })).room s m ([.ref (a 0), .int p0, .int p1, .int p2] : List Value).toArray below meth c H locs 0 0 (MQ below (va_Qi (fun r (u : zw_Z) => K r u.1 u.2.1 u.2.2.1 u.2.2.2) (fun u t => zw_E (dC, dI) vwCl [(cI, .int), (cJ, .long), (cG, .array .int), (cZ, .boolean)] A (cw cI cJ cG cZ a u.1 u.2.1 u.2.2.1 u.2.2.2) t) A) ([.ref (a 0), .int p0, .int p1, .int p2] : List Value).toArray s 0 0 A) (F0 m 0 ls []) := by
    refine lv_aload_n hx hb d_SS_part_0 rfl (lv_at hl 0 rfl) ?_
    refine va_get (D := (dC, dI)) (ci := 0) (v := .ref (a 19)) (C := R_SS) (T := T_SS) (N := 9) hx hb ht in_SS hown hK hP 0 rfl rfl 0 (by decide) (ht _ kw_242) (fun _ h9 => h9) rfl d_SS_part_1 ?_
    refine lv_iload_n hx hb d_SS_part_4 rfl (lv_at hl 1 rfl) ?_
    refine vp_callSi (va_Run.run (va_runV (As := [.int p0]) (rest := []) ⟨hx, hb, hml, hown, hts⟩ (c_Gi_hasPart l dC dI cI cJ cG cZ a fi fl ai al p0 _ hw) (cwV 1 hts (zw_goodV kw_274 kw_275 kw_276 kw_5 kw_277) rfl rfl rfl hd_Gi_hasPart ⟨Nat.le_of_ble_eq_true rfl, Nat.le_of_ble_eq_true rfl⟩) (zw_preV (ci := 2) (q0 := 19) hK hN hP rfl rfl) rfl rfl hl.1 rfl (lv_room (Nat.le_of_ble_eq_true rfl)) d_SS_part_5 ⟨Nat.le_of_ble_eq_true rfl, Nat.le_of_ble_eq_true rfl⟩)) (fun r5 hw => ?_)
    refine lv_if_eq (tgt := 33) hx hb d_SS_part_8 (by decide) (fun c8 => ?_) (fun c8 => ?_)
    · have hw := zw_ite_t c8 hw
      refine lv_iconst (v := (0 : Int32)) hx hb d_SS_part_33 (by decide) ?_
      exact W.zret (v := (0 : Int32)) (ty := .boolean) hx hb hr rfl (fun t ht hW => ⟨⟨(0 : Int32), (fi, fl, ai, al), rfl, hw, by rw [ht]; exact hP, va_K.moved hW.alike hK, hD⟩, hS.F ht⟩) hS.2.2 d_SS_part_34
    · have hw := zw_ite_f c8 hw
      refine lv_iload_n hx hb d_SS_part_11 rfl (lv_at hl 2 rfl) ?_
      refine lv_iconst (v := (0 : Int32)) hx hb d_SS_part_12 (by decide) ?_
      refine lv_sipush (v := (1000 : Int32)) hx hb d_SS_part_13 (by decide) ?_
      refine vp_callSi (va_Run.run (va_runS (As := [.int p1, .int (0 : Int32), .int (1000 : Int32)]) (rest := []) ⟨hx, hb, hml, hown, hts⟩ (c_SS_within l p1 (0 : Int32) (1000 : Int32) _ hw) (va_cwS 3 hts (zw_goodS kw_281 kw_279 kw_1 kw_280) rfl rfl rfl hd_SS_within.2 ⟨Nat.le_of_ble_eq_true rfl, Nat.le_of_ble_eq_true rfl⟩) zw_preS0 rfl rfl hl.1 rfl (lv_room (Nat.le_of_ble_eq_true rfl)) d_SS_part_16 ⟨Nat.le_of_ble_eq_true rfl, Nat.le_of_ble_eq_true rfl⟩)) (fun r16 hw => ?_)
      refine lv_if_eq (tgt := 33) hx hb d_SS_part_19 (by decide) (fun c19 => ?_) (fun c19 => ?_)
      · have hw := zw_ite_t c19 hw
        refine lv_iconst (v := (0 : Int32)) hx hb d_SS_part_33 (by decide) ?_
        exact W.zret (v := (0 : Int32)) (ty := .boolean) hx hb hr rfl (fun t ht hW => ⟨⟨(0 : Int32), (fi, fl, ai, al), rfl, hw, by rw [ht]; exact hP, va_K.moved hW.alike hK, hD⟩, hS.F ht⟩) hS.2.2 d_SS_part_34
      · have hw := zw_ite_f c19 hw
        refine lv_iload_n hx hb d_SS_part_22 rfl (lv_at hl 3 rfl) ?_
        refine lv_ldc (v := (-100000 : Int32)) hx hb hown (hts (.constant R_SS 85 (-100000 : Int32)) (by decide +kernel)) d_SS_part_23 ?_
        refine lv_ldc (v := (100000 : Int32)) hx hb hown (hts (.constant R_SS 86 (100000 : Int32)) (by decide +kernel)) d_SS_part_25 ?_
        refine vp_callSi (va_Run.run (va_runS (As := [.int p2, .int (-100000 : Int32), .int (100000 : Int32)]) (rest := []) ⟨hx, hb, hml, hown, hts⟩ (c_SS_within l p2 (-100000 : Int32) (100000 : Int32) _ hw) (va_cwS 3 hts (zw_goodS kw_281 kw_279 kw_1 kw_280) rfl rfl rfl hd_SS_within.2 ⟨Nat.le_of_ble_eq_true rfl, Nat.le_of_ble_eq_true rfl⟩) zw_preS0 rfl rfl hl.1 rfl (lv_room (Nat.le_of_ble_eq_true rfl)) d_SS_part_27 ⟨Nat.le_of_ble_eq_true rfl, Nat.le_of_ble_eq_true rfl⟩)) (fun r27 hw => ?_)
        refine lv_if_ne (tgt := 35) hx hb d_SS_part_30 (by decide) (fun c30 => ?_) (fun c30 => ?_)
        · have hw := zw_ite_f c30 hw
          refine lv_aload_n hx hb d_SS_part_35 rfl (lv_at hl 0 rfl) ?_
          refine va_get (D := (dC, dI)) (ci := 0) (v := .ref (a 19)) (C := R_SS) (T := T_SS) (N := 9) hx hb ht in_SS hown hK hP 0 rfl rfl 0 (by decide) (ht _ kw_242) (fun _ h9 => h9) rfl d_SS_part_36 ?_
          refine va_get (D := (dC, dI)) (ci := 2) (v := .ref (a 20)) (C := R_Gi) (T := T_Gi) (N := 7) hx hb ht in_Gi hown hK hP 19 rfl rfl 1 (by decide) (ht _ kw_139) (fun _ h9 => h9) rfl d_SS_part_39 ?_
          refine lv_iload_n hx hb d_SS_part_42 rfl (lv_at hl 1 rfl) ?_
          refine lv_iload_n hx hb d_SS_part_43 rfl (lv_at hl 2 rfl) ?_
          obtain ⟨h44, hw⟩ := hw
          refine va_iast (f := ai 20) hx hb hK hP hD hS 20 0 rfl rfl h44 d_SS_part_44 (fun H locs hP hD hS => ?_)
          have hP := cwpai_20 hP
          have hD := cwdai_20 hD
          obtain ⟨ai_44, eai_44⟩ : ∃ z, z = va_up ai 20 (upd (ai 20) p0.toNatClampNeg p1) := ⟨_, rfl⟩
          rw [← eai_44] at hP hD
          have hw := zw_nm_x eai_44 hw
          refine lv_aload_n hx hb d_SS_part_45 rfl (lv_at hl 0 rfl) ?_
          refine va_get (D := (dC, dI)) (ci := 0) (v := .ref (a 19)) (C := R_SS) (T := T_SS) (N := 9) hx hb ht in_SS hown hK hP 0 rfl rfl 0 (by decide) (ht _ kw_242) (fun _ h9 => h9) rfl d_SS_part_46 ?_
          refine va_get (D := (dC, dI)) (ci := 2) (v := .ref (a 21)) (C := R_Gi) (T := T_Gi) (N := 7) hx hb ht in_Gi hown hK hP 19 rfl rfl 2 (by decide) (ht _ kw_142) (fun _ h9 => h9) rfl d_SS_part_49 ?_
          refine lv_iload_n hx hb d_SS_part_52 rfl (lv_at hl 1 rfl) ?_
          refine lv_iload_n hx hb d_SS_part_53 rfl (lv_at hl 3 rfl) ?_
          obtain ⟨h54, hw⟩ := hw
          refine va_iast (f := ai_44 21) hx hb hK hP hD hS 21 0 rfl rfl h54 d_SS_part_54 (fun H locs hP hD hS => ?_)
          have hP := cwpai_21 hP
          have hD := cwdai_21 hD
          obtain ⟨ai_54, eai_54⟩ : ∃ z, z = va_up ai_44 21 (upd (ai_44 21) p0.toNatClampNeg p2) := ⟨_, rfl⟩
          rw [← eai_54] at hP hD
          have hw := zw_nm_x eai_54 hw
          refine lv_iconst (v := (1 : Int32)) hx hb d_SS_part_55 (by decide) ?_
          exact W.zret (v := (1 : Int32)) (ty := .boolean) hx hb hr rfl (fun t ht hW => ⟨⟨(1 : Int32), (fi, fl, ai_54, al), rfl, hw, by rw [ht]; exact hP, va_K.moved hW.alike hK, hD⟩, hS.F ht⟩) hS.2.2 d_SS_part_56
        · have hw := zw_ite_t c30 hw
          refine lv_iconst (v := (0 : Int32)) hx hb d_SS_part_33 (by decide) ?_
          exact W.zret (v := (0 : Int32)) (ty := .boolean) hx hb hr rfl (fun t ht hW => ⟨⟨(0 : Int32), (fi, fl, ai, al), rfl, hw, by rw [ht]; exact hP, va_K.moved hW.alike hK, hD⟩, hS.F ht⟩) hS.2.2 d_SS_part_34
  rw [hH, hlo] at key
  exact key
def SS_isFactor_w (p0 : Int32) (K : Int32 → Prop) : Prop :=
  SS_within_w p0 (-1000 : Int32) (1000 : Int32) (fun (r7 : Int32) =>
  zw_bool r7 ∧ (K r7))
theorem d_SS_isFactor_0 : decode b_SS_isFactor 0 = .ok (.iload_n 0, 1) := by decide +kernel
theorem d_SS_isFactor_1 : decode b_SS_isFactor 1 = .ok (.sipush (-1000), 3) := by decide +kernel
theorem d_SS_isFactor_4 : decode b_SS_isFactor 4 = .ok (.sipush (1000), 3) := by decide +kernel
theorem d_SS_isFactor_7 : decode b_SS_isFactor 7 = .ok (.invokestatic 81, 3) := by decide +kernel
theorem d_SS_isFactor_10 : decode b_SS_isFactor 10 = .ok (.ireturn, 1) := by decide +kernel
set_option maxHeartbeats 4000000 in
set_option maxRecDepth 100000 in
theorem c_SS_isFactor (l : Launch) (p0 : Int32) (K : Int32 → Prop) (hw : SS_isFactor_w p0 K) : Met l y_SS_isFactor ws_SS_isFactor ({ frames := 1, cells := 0, slots := 0, locals := 22 }) (va_Pc [.int p0] (fun _ => True)) (vp_Si K) 0 0 (fun _ => False) := by
  refine Met.ofW (cc := b_SS_isFactor) (maxL := 1) (ret := (Option.some FieldType.boolean)) (by decide) rfl ?_
  intro p e s m args below meth c s₁ B hml hv
  obtain ⟨rfl, -⟩ := hv
  have hx := B.exec
  have hb := B.bytes
  have hr := B.returns
  have hts := atoms_spec (ws := ws_SS_isFactor) B.pre
  have ht : ∀ w ∈ zw_tbl, w.before _ s = true := fun w h => hts w (List.mem_cons_of_mem _ h)
  have hown : s.vm.findClass R_SS = some m.cls := findClass_of_methodNamed B.named
  have hlocks := B.notSynchronized
  have hl := lv_entry ([.int p0] : List Value) (n := 1) (Nat.le_of_ble_eq_true rfl)
  rw [lg_entry_eq]
  generalize (lg_sl ([.int p0] : List Value) ++ List.replicate (1 - (lg_sl ([.int p0] : List Value)).length) Slot.unset).toArray = ls at hl ⊢
  have hl : lv_has ls 1 [(0, .int p0)] := hl
  unfold SS_isFactor_w at hw
  refine lv_iload_n hx hb d_SS_isFactor_0 rfl (lv_at hl 0 rfl) ?_
  refine lv_sipush (v := (-1000 : Int32)) hx hb d_SS_isFactor_1 (by decide) ?_
  refine lv_sipush (v := (1000 : Int32)) hx hb d_SS_isFactor_4 (by decide) ?_
  refine vp_callSi (va_Run.run (va_runS (As := [.int p0, .int (-1000 : Int32), .int (1000 : Int32)]) (rest := []) ⟨hx, hb, hml, hown, hts⟩ (c_SS_within l p0 (-1000 : Int32) (1000 : Int32) _ hw) (va_cwS 3 hts (zw_goodS kw_281 kw_279 kw_1 kw_280) rfl rfl rfl hd_SS_within.2 ⟨Nat.le_of_ble_eq_true rfl, Nat.le_of_ble_eq_true rfl⟩) zw_preS0 rfl rfl hl.1 rfl (lv_room (Nat.le_of_ble_eq_true rfl)) d_SS_isFactor_7 ⟨Nat.le_of_ble_eq_true rfl, Nat.le_of_ble_eq_true rfl⟩)) (fun r7 hw => ?_)
  obtain ⟨hz, hw⟩ := hw
  exact W.zret (v := r7) (ty := .boolean) hx hb hr (zw_bool_n hz) (fun t ht hW => ⟨r7, rfl, hw, ht⟩) t_nil d_SS_isFactor_10
def SS_flex_w (fi : Nat → Int32) (fl : Nat → Int64) (ai : Nat → Nat → Int32) (al : Nat → Nat → Int64) (p0 : Int32) (p1 : Int32) (p2 : Int32) (p3 : Int32) (K : Int32 → (Nat → Int32) → (Nat → Int64) → (Nat → Nat → Int32) → (Nat → Nat → Int64) → Prop) : Prop :=
  SS_within_w p0 (0 : Int32) (7 : Int32) (fun (r4 : Int32) =>
  if r4 = 0 then (
    K (0 : Int32) fi fl ai al)
  else (
    Gi_hasPart_w fi fl ai al p1 (fun (r15 : Int32) =>
    if r15 = 0 then (
      K (0 : Int32) fi fl ai al)
    else (
      Gi_hasPart_w fi fl ai al p2 (fun (r26 : Int32) =>
      if r26 = 0 then (
        K (0 : Int32) fi fl ai al)
      else (
        SS_isFactor_w p3 (fun (r34 : Int32) =>
        if r34 = 0 then (
          K (0 : Int32) fi fl ai al)
        else (
          vp_in p0 8 ∧ (
          vp_in ((p1 * (6 : Int32)) + p2) 36 ∧ (zw_nm (va_up ai (23 + p0.toNatClampNeg) (upd (ai (23 + p0.toNatClampNeg)) ((p1 * (6 : Int32)) + p2).toNatClampNeg p3)) (fun (ai_59 : Nat → Nat → Int32) =>
          K (1 : Int32) fi fl ai_59 al)))))))))))
theorem d_SS_flex_0 : decode b_SS_flex 0 = .ok (.iload_n 1, 1) := by decide +kernel
theorem d_SS_flex_1 : decode b_SS_flex 1 = .ok (.iconst 0, 1) := by decide +kernel
theorem d_SS_flex_2 : decode b_SS_flex 2 = .ok (.bipush (7), 2) := by decide +kernel
theorem d_SS_flex_4 : decode b_SS_flex 4 = .ok (.invokestatic 81, 3) := by decide +kernel
theorem d_SS_flex_7 : decode b_SS_flex 7 = .ok (.ifCond .eq (33), 3) := by decide +kernel
theorem d_SS_flex_10 : decode b_SS_flex 10 = .ok (.aload_n 0, 1) := by decide +kernel
theorem d_SS_flex_11 : decode b_SS_flex 11 = .ok (.getfield 55, 3) := by decide +kernel
theorem d_SS_flex_14 : decode b_SS_flex 14 = .ok (.iload_n 2, 1) := by decide +kernel
theorem d_SS_flex_15 : decode b_SS_flex 15 = .ok (.invokevirtual 77, 3) := by decide +kernel
theorem d_SS_flex_18 : decode b_SS_flex 18 = .ok (.ifCond .eq (22), 3) := by decide +kernel
theorem d_SS_flex_21 : decode b_SS_flex 21 = .ok (.aload_n 0, 1) := by decide +kernel
theorem d_SS_flex_22 : decode b_SS_flex 22 = .ok (.getfield 55, 3) := by decide +kernel
theorem d_SS_flex_25 : decode b_SS_flex 25 = .ok (.iload_n 3, 1) := by decide +kernel
theorem d_SS_flex_26 : decode b_SS_flex 26 = .ok (.invokevirtual 77, 3) := by decide +kernel
theorem d_SS_flex_29 : decode b_SS_flex 29 = .ok (.ifCond .eq (11), 3) := by decide +kernel
theorem d_SS_flex_32 : decode b_SS_flex 32 = .ok (.iload 4, 2) := by decide +kernel
theorem d_SS_flex_34 : decode b_SS_flex 34 = .ok (.invokestatic 94, 3) := by decide +kernel
theorem d_SS_flex_37 : decode b_SS_flex 37 = .ok (.ifCond .ne (5), 3) := by decide +kernel
theorem d_SS_flex_40 : decode b_SS_flex 40 = .ok (.iconst 0, 1) := by decide +kernel
theorem d_SS_flex_41 : decode b_SS_flex 41 = .ok (.ireturn, 1) := by decide +kernel
theorem d_SS_flex_42 : decode b_SS_flex 42 = .ok (.aload_n 0, 1) := by decide +kernel
theorem d_SS_flex_43 : decode b_SS_flex 43 = .ok (.getfield 55, 3) := by decide +kernel
theorem d_SS_flex_46 : decode b_SS_flex 46 = .ok (.getfield 97, 3) := by decide +kernel
theorem d_SS_flex_49 : decode b_SS_flex 49 = .ok (.iload_n 1, 1) := by decide +kernel
theorem d_SS_flex_50 : decode b_SS_flex 50 = .ok (.aaload, 1) := by decide +kernel
theorem d_SS_flex_51 : decode b_SS_flex 51 = .ok (.iload_n 2, 1) := by decide +kernel
theorem d_SS_flex_52 : decode b_SS_flex 52 = .ok (.bipush (6), 2) := by decide +kernel
theorem d_SS_flex_54 : decode b_SS_flex 54 = .ok (.imul, 1) := by decide +kernel
theorem d_SS_flex_55 : decode b_SS_flex 55 = .ok (.iload_n 3, 1) := by decide +kernel
theorem d_SS_flex_56 : decode b_SS_flex 56 = .ok (.iadd, 1) := by decide +kernel
theorem d_SS_flex_57 : decode b_SS_flex 57 = .ok (.iload 4, 2) := by decide +kernel
theorem d_SS_flex_59 : decode b_SS_flex 59 = .ok (.iastore, 1) := by decide +kernel
theorem d_SS_flex_60 : decode b_SS_flex 60 = .ok (.iconst 1, 1) := by decide +kernel
theorem d_SS_flex_61 : decode b_SS_flex 61 = .ok (.ireturn, 1) := by decide +kernel
set_option maxHeartbeats 4000000 in
set_option maxRecDepth 100000 in
theorem c_SS_flex (l : Launch) (dC : Nat → ClassId) (dI : Nat → Nat → Nat) (cI cJ cG cZ : ClassId) (a : Nat → Nat) (sz : Nat) (fi : Nat → Int32) (fl : Nat → Int64) (ai : Nat → Nat → Int32) (al : Nat → Nat → Int64) (p0 : Int32) (p1 : Int32) (p2 : Int32) (p3 : Int32) (K : Int32 → (Nat → Int32) → (Nat → Int64) → (Nat → Nat → Int32) → (Nat → Nat → Int64) → Prop) (hw : SS_flex_w fi fl ai al p0 p1 p2 p3 K) : Met l y_SS_flex ws_SS_flex ({ frames := 2, cells := 0, slots := 0, locals := 43 }) (va_Pc [.ref (a 0), .int p0, .int p1, .int p2, .int p3] (zw_Bw (dC, dI) vwCl [(cI, .int), (cJ, .long), (cG, .array .int), (cZ, .boolean)] (cw cI cJ cG cZ a fi fl ai al) sz)) (va_Qi (fun r (u : zw_Z) => K r u.1 u.2.1 u.2.2.1 u.2.2.2) (fun u t => zw_E (dC, dI) vwCl [(cI, .int), (cJ, .long), (cG, .array .int), (cZ, .boolean)] (va_A (cw cI cJ cG cZ a fi fl ai al) sz) (cw cI cJ cG cZ a u.1 u.2.1 u.2.2.1 u.2.2.2) t) (va_A (cw cI cJ cG cZ a fi fl ai al) sz)) 0 0 (va_A (cw cI cJ cG cZ a fi fl ai al) sz) := by
  refine Met.ofW (cc := b_SS_flex) (maxL := 5) (ret := (Option.some FieldType.boolean)) (by decide) rfl ?_
  intro p e s m args below meth c s₁ B hml hv
  obtain ⟨rfl, hsz, hP, hK, hD0, hN⟩ := hv
  have hx := B.exec
  have hb := B.bytes
  have hr := B.returns
  have hts := atoms_spec (ws := ws_SS_flex) B.pre
  have ht : ∀ w ∈ zw_tbl, w.before _ s = true := fun w h => hts w (List.mem_cons_of_mem _ h)
  have hown : s.vm.findClass R_SS = some m.cls := findClass_of_methodNamed B.named
  have hlocks := B.notSynchronized
  subst hsz
  have hD := hD0.self (sz := s.heap.size)
  generalize hAe : va_A (cw cI cJ cG cZ a fi fl ai al) s.heap.size = A at hD ⊢
  have hA : ∀ q : Nat, s.heap.size ≤ q → A q := fun q h => by rw [← hAe]; exact Or.inr h
  have hS : va_S A s.heap s.heap [] := va_S.rf
  have hl := lv_entry ([.ref (a 0), .int p0, .int p1, .int p2, .int p3] : List Value) (n := 5) (Nat.le_of_ble_eq_true rfl)
  rw [lg_entry_eq]
  generalize (lg_sl ([.ref (a 0), .int p0, .int p1, .int p2, .int p3] : List Value) ++ List.replicate (5 - (lg_sl ([.ref (a 0), .int p0, .int p1, .int p2, .int p3] : List Value)).length) Slot.unset).toArray = ls at hl ⊢
  have hl : lv_has ls 5 [(0, .ref (a 0)), (1, .int p0), (2, .int p1), (3, .int p2), (4, .int p3)] := hl
  unfold SS_flex_w at hw
  obtain ⟨H, hH⟩ : ∃ H, H = s.heap := ⟨_, rfl⟩
  obtain ⟨locs, hlo⟩ : ∃ q : List Loc, q = [] := ⟨_, rfl⟩
  have hP : va_P (dC, dI) vwCl (cw cI cJ cG cZ a fi fl ai al) H := by rw [hH]; exact hP
  have hS : va_S A s.heap H locs := by rw [hH, hlo]; exact hS
  have key : W p l e (headSpec ws_SS_flex ({ frames := 2, cells := 0, slots := 0, locals := 43 })).room s m ([.ref (a 0), .int p0, .int p1, .int p2, .int p3] : List Value).toArray below meth c H locs 0 0 (MQ below (va_Qi (fun r (u : zw_Z) => K r u.1 u.2.1 u.2.2.1 u.2.2.2) (fun u t => zw_E (dC, dI) vwCl [(cI, .int), (cJ, .long), (cG, .array .int), (cZ, .boolean)] A (cw cI cJ cG cZ a u.1 u.2.1 u.2.2.1 u.2.2.2) t) A) ([.ref (a 0), .int p0, .int p1, .int p2, .int p3] : List Value).toArray s 0 0 A) (F0 m 0 ls []) := by
    refine lv_iload_n hx hb d_SS_flex_0 rfl (lv_at hl 1 rfl) ?_
    refine lv_iconst (v := (0 : Int32)) hx hb d_SS_flex_1 (by decide) ?_
    refine lv_bipush (v := (7 : Int32)) hx hb d_SS_flex_2 (by decide) ?_
    refine vp_callSi (va_Run.run (va_runS (As := [.int p0, .int (0 : Int32), .int (7 : Int32)]) (rest := []) ⟨hx, hb, hml, hown, hts⟩ (c_SS_within l p0 (0 : Int32) (7 : Int32) _ hw) (va_cwS 3 hts (zw_goodS kw_281 kw_279 kw_1 kw_280) rfl rfl rfl hd_SS_within.2 ⟨Nat.le_of_ble_eq_true rfl, Nat.le_of_ble_eq_true rfl⟩) zw_preS0 rfl rfl hl.1 rfl (lv_room (Nat.le_of_ble_eq_true rfl)) d_SS_flex_4 ⟨Nat.le_of_ble_eq_true rfl, Nat.le_of_ble_eq_true rfl⟩)) (fun r4 hw => ?_)
    refine lv_if_eq (tgt := 40) hx hb d_SS_flex_7 (by decide) (fun c7 => ?_) (fun c7 => ?_)
    · have hw := zw_ite_t c7 hw
      refine lv_iconst (v := (0 : Int32)) hx hb d_SS_flex_40 (by decide) ?_
      exact W.zret (v := (0 : Int32)) (ty := .boolean) hx hb hr rfl (fun t ht hW => ⟨⟨(0 : Int32), (fi, fl, ai, al), rfl, hw, by rw [ht]; exact hP, va_K.moved hW.alike hK, hD⟩, hS.F ht⟩) hS.2.2 d_SS_flex_41
    · have hw := zw_ite_f c7 hw
      refine lv_aload_n hx hb d_SS_flex_10 rfl (lv_at hl 0 rfl) ?_
      refine va_get (D := (dC, dI)) (ci := 0) (v := .ref (a 19)) (C := R_SS) (T := T_SS) (N := 9) hx hb ht in_SS hown hK hP 0 rfl rfl 0 (by decide) (ht _ kw_242) (fun _ h9 => h9) rfl d_SS_flex_11 ?_
      refine lv_iload_n hx hb d_SS_flex_14 rfl (lv_at hl 2 rfl) ?_
      refine vp_callSi (va_Run.run (va_runV (As := [.int p1]) (rest := []) ⟨hx, hb, hml, hown, hts⟩ (c_Gi_hasPart l dC dI cI cJ cG cZ a fi fl ai al p1 _ hw) (cwV 1 hts (zw_goodV kw_274 kw_275 kw_276 kw_5 kw_277) rfl rfl rfl hd_Gi_hasPart ⟨Nat.le_of_ble_eq_true rfl, Nat.le_of_ble_eq_true rfl⟩) (zw_preV (ci := 2) (q0 := 19) hK hN hP rfl rfl) rfl rfl hl.1 rfl (lv_room (Nat.le_of_ble_eq_true rfl)) d_SS_flex_15 ⟨Nat.le_of_ble_eq_true rfl, Nat.le_of_ble_eq_true rfl⟩)) (fun r15 hw => ?_)
      refine lv_if_eq (tgt := 40) hx hb d_SS_flex_18 (by decide) (fun c18 => ?_) (fun c18 => ?_)
      · have hw := zw_ite_t c18 hw
        refine lv_iconst (v := (0 : Int32)) hx hb d_SS_flex_40 (by decide) ?_
        exact W.zret (v := (0 : Int32)) (ty := .boolean) hx hb hr rfl (fun t ht hW => ⟨⟨(0 : Int32), (fi, fl, ai, al), rfl, hw, by rw [ht]; exact hP, va_K.moved hW.alike hK, hD⟩, hS.F ht⟩) hS.2.2 d_SS_flex_41
      · have hw := zw_ite_f c18 hw
        refine lv_aload_n hx hb d_SS_flex_21 rfl (lv_at hl 0 rfl) ?_
        refine va_get (D := (dC, dI)) (ci := 0) (v := .ref (a 19)) (C := R_SS) (T := T_SS) (N := 9) hx hb ht in_SS hown hK hP 0 rfl rfl 0 (by decide) (ht _ kw_242) (fun _ h9 => h9) rfl d_SS_flex_22 ?_
        refine lv_iload_n hx hb d_SS_flex_25 rfl (lv_at hl 3 rfl) ?_
        refine vp_callSi (va_Run.run (va_runV (As := [.int p2]) (rest := []) ⟨hx, hb, hml, hown, hts⟩ (c_Gi_hasPart l dC dI cI cJ cG cZ a fi fl ai al p2 _ hw) (cwV 1 hts (zw_goodV kw_274 kw_275 kw_276 kw_5 kw_277) rfl rfl rfl hd_Gi_hasPart ⟨Nat.le_of_ble_eq_true rfl, Nat.le_of_ble_eq_true rfl⟩) (zw_preV (ci := 2) (q0 := 19) hK hN hP rfl rfl) rfl rfl hl.1 rfl (lv_room (Nat.le_of_ble_eq_true rfl)) d_SS_flex_26 ⟨Nat.le_of_ble_eq_true rfl, Nat.le_of_ble_eq_true rfl⟩)) (fun r26 hw => ?_)
        refine lv_if_eq (tgt := 40) hx hb d_SS_flex_29 (by decide) (fun c29 => ?_) (fun c29 => ?_)
        · have hw := zw_ite_t c29 hw
          refine lv_iconst (v := (0 : Int32)) hx hb d_SS_flex_40 (by decide) ?_
          exact W.zret (v := (0 : Int32)) (ty := .boolean) hx hb hr rfl (fun t ht hW => ⟨⟨(0 : Int32), (fi, fl, ai, al), rfl, hw, by rw [ht]; exact hP, va_K.moved hW.alike hK, hD⟩, hS.F ht⟩) hS.2.2 d_SS_flex_41
        · have hw := zw_ite_f c29 hw
          refine lv_iload hx hb d_SS_flex_32 (lv_at hl 4 rfl) ?_
          refine vp_callSi (va_Run.run (va_runS (As := [.int p3]) (rest := []) ⟨hx, hb, hml, hown, hts⟩ (c_SS_isFactor l p3 _ hw) (va_cwS 1 hts (zw_goodS kw_288 kw_289 kw_1 kw_290) rfl rfl rfl hd_SS_isFactor.2 ⟨Nat.le_of_ble_eq_true rfl, Nat.le_of_ble_eq_true rfl⟩) zw_preS0 rfl rfl hl.1 rfl (lv_room (Nat.le_of_ble_eq_true rfl)) d_SS_flex_34 ⟨Nat.le_of_ble_eq_true rfl, Nat.le_of_ble_eq_true rfl⟩)) (fun r34 hw => ?_)
          refine lv_if_ne (tgt := 42) hx hb d_SS_flex_37 (by decide) (fun c37 => ?_) (fun c37 => ?_)
          · have hw := zw_ite_f c37 hw
            refine lv_aload_n hx hb d_SS_flex_42 rfl (lv_at hl 0 rfl) ?_
            refine va_get (D := (dC, dI)) (ci := 0) (v := .ref (a 19)) (C := R_SS) (T := T_SS) (N := 9) hx hb ht in_SS hown hK hP 0 rfl rfl 0 (by decide) (ht _ kw_242) (fun _ h9 => h9) rfl d_SS_flex_43 ?_
            refine va_get (D := (dC, dI)) (ci := 2) (v := .ref (a 22)) (C := R_Gi) (T := T_Gi) (N := 7) hx hb ht in_Gi hown hK hP 19 rfl rfl 3 (by decide) (ht _ kw_144) (fun _ h9 => h9) rfl d_SS_flex_46 ?_
            refine lv_iload_n hx hb d_SS_flex_49 rfl (lv_at hl 1 rfl) ?_
            obtain ⟨h50, hw⟩ := hw
            refine zw_aald (b := a (23 + p0.toNatClampNeg)) hx hb hK hP 22 2 rfl rfl h50 rfl d_SS_flex_50 ?_
            refine lv_iload_n hx hb d_SS_flex_51 rfl (lv_at hl 2 rfl) ?_
            refine lv_bipush (v := (6 : Int32)) hx hb d_SS_flex_52 (by decide) ?_
            refine lv_imul hx hb d_SS_flex_54 ?_
            refine lv_iload_n hx hb d_SS_flex_55 rfl (lv_at hl 3 rfl) ?_
            refine lv_iadd hx hb d_SS_flex_56 ?_
            refine lv_iload hx hb d_SS_flex_57 (lv_at hl 4 rfl) ?_
            obtain ⟨h59, hw⟩ := hw
            refine va_iast (f := ai (23 + p0.toNatClampNeg)) hx hb hK hP hD hS (23 + p0.toNatClampNeg) 0 (cw_row22 _ _ _ _ _ _ _ _ _ _ (zw_lt h50)) rfl h59 d_SS_flex_59 (fun H locs hP hD hS => ?_)
            have hP := cwp_row22 (zw_lt h50) hP
            have hD := cwd_row22 (zw_lt h50) hD
            obtain ⟨ai_59, eai_59⟩ : ∃ z, z = va_up ai (23 + p0.toNatClampNeg) (upd (ai (23 + p0.toNatClampNeg)) ((p1 * (6 : Int32)) + p2).toNatClampNeg p3) := ⟨_, rfl⟩
            rw [← eai_59] at hP hD
            have hw := zw_nm_x eai_59 hw
            refine lv_iconst (v := (1 : Int32)) hx hb d_SS_flex_60 (by decide) ?_
            exact W.zret (v := (1 : Int32)) (ty := .boolean) hx hb hr rfl (fun t ht hW => ⟨⟨(1 : Int32), (fi, fl, ai_59, al), rfl, hw, by rw [ht]; exact hP, va_K.moved hW.alike hK, hD⟩, hS.F ht⟩) hS.2.2 d_SS_flex_61
          · have hw := zw_ite_t c37 hw
            refine lv_iconst (v := (0 : Int32)) hx hb d_SS_flex_40 (by decide) ?_
            exact W.zret (v := (0 : Int32)) (ty := .boolean) hx hb hr rfl (fun t ht hW => ⟨⟨(0 : Int32), (fi, fl, ai, al), rfl, hw, by rw [ht]; exact hP, va_K.moved hW.alike hK, hD⟩, hS.F ht⟩) hS.2.2 d_SS_flex_41
  rw [hH, hlo] at key
  exact key
def SS_isSupport_w (p0 : Int32) (K : Int32 → Prop) : Prop :=
  SS_within_w p0 (0 : Int32) (2 : Int32) (fun (r3 : Int32) =>
  zw_bool r3 ∧ (K r3))
theorem d_SS_isSupport_0 : decode b_SS_isSupport 0 = .ok (.iload_n 0, 1) := by decide +kernel
theorem d_SS_isSupport_1 : decode b_SS_isSupport 1 = .ok (.iconst 0, 1) := by decide +kernel
theorem d_SS_isSupport_2 : decode b_SS_isSupport 2 = .ok (.iconst 2, 1) := by decide +kernel
theorem d_SS_isSupport_3 : decode b_SS_isSupport 3 = .ok (.invokestatic 81, 3) := by decide +kernel
theorem d_SS_isSupport_6 : decode b_SS_isSupport 6 = .ok (.ireturn, 1) := by decide +kernel
set_option maxHeartbeats 4000000 in
set_option maxRecDepth 100000 in
theorem c_SS_isSupport (l : Launch) (p0 : Int32) (K : Int32 → Prop) (hw : SS_isSupport_w p0 K) : Met l y_SS_isSupport ws_SS_isSupport ({ frames := 1, cells := 0, slots := 0, locals := 22 }) (va_Pc [.int p0] (fun _ => True)) (vp_Si K) 0 0 (fun _ => False) := by
  refine Met.ofW (cc := b_SS_isSupport) (maxL := 1) (ret := (Option.some FieldType.boolean)) (by decide) rfl ?_
  intro p e s m args below meth c s₁ B hml hv
  obtain ⟨rfl, -⟩ := hv
  have hx := B.exec
  have hb := B.bytes
  have hr := B.returns
  have hts := atoms_spec (ws := ws_SS_isSupport) B.pre
  have ht : ∀ w ∈ zw_tbl, w.before _ s = true := fun w h => hts w (List.mem_cons_of_mem _ h)
  have hown : s.vm.findClass R_SS = some m.cls := findClass_of_methodNamed B.named
  have hlocks := B.notSynchronized
  have hl := lv_entry ([.int p0] : List Value) (n := 1) (Nat.le_of_ble_eq_true rfl)
  rw [lg_entry_eq]
  generalize (lg_sl ([.int p0] : List Value) ++ List.replicate (1 - (lg_sl ([.int p0] : List Value)).length) Slot.unset).toArray = ls at hl ⊢
  have hl : lv_has ls 1 [(0, .int p0)] := hl
  unfold SS_isSupport_w at hw
  refine lv_iload_n hx hb d_SS_isSupport_0 rfl (lv_at hl 0 rfl) ?_
  refine lv_iconst (v := (0 : Int32)) hx hb d_SS_isSupport_1 (by decide) ?_
  refine lv_iconst (v := (2 : Int32)) hx hb d_SS_isSupport_2 (by decide) ?_
  refine vp_callSi (va_Run.run (va_runS (As := [.int p0, .int (0 : Int32), .int (2 : Int32)]) (rest := []) ⟨hx, hb, hml, hown, hts⟩ (c_SS_within l p0 (0 : Int32) (2 : Int32) _ hw) (va_cwS 3 hts (zw_goodS kw_281 kw_279 kw_1 kw_280) rfl rfl rfl hd_SS_within.2 ⟨Nat.le_of_ble_eq_true rfl, Nat.le_of_ble_eq_true rfl⟩) zw_preS0 rfl rfl hl.1 rfl (lv_room (Nat.le_of_ble_eq_true rfl)) d_SS_isSupport_3 ⟨Nat.le_of_ble_eq_true rfl, Nat.le_of_ble_eq_true rfl⟩)) (fun r3 hw => ?_)
  obtain ⟨hz, hw⟩ := hw
  exact W.zret (v := r3) (ty := .boolean) hx hb hr (zw_bool_n hz) (fun t ht hW => ⟨r3, rfl, hw, ht⟩) t_nil d_SS_isSupport_6
def SS_share_w (fi : Nat → Int32) (fl : Nat → Int64) (ai : Nat → Nat → Int32) (al : Nat → Nat → Int64) (p0 : Int32) (p1 : Int32) (p2 : Int32) (K : Int32 → (Nat → Int32) → (Nat → Int64) → (Nat → Nat → Int32) → (Nat → Nat → Int64) → Prop) : Prop :=
  SS_isSupport_w p0 (fun (r1 : Int32) =>
  if r1 = 0 then (
    K (0 : Int32) fi fl ai al)
  else (
    Gi_hasPart_w fi fl ai al p1 (fun (r12 : Int32) =>
    if r12 = 0 then (
      K (0 : Int32) fi fl ai al)
    else (
      SS_isFactor_w p2 (fun (r19 : Int32) =>
      if r19 = 0 then (
        K (0 : Int32) fi fl ai al)
      else (
        vp_in p0 3 ∧ (
        vp_in p1 6 ∧ (zw_nm (va_up ai (32 + p0.toNatClampNeg) (upd (ai (32 + p0.toNatClampNeg)) p1.toNatClampNeg p2)) (fun (ai_38 : Nat → Nat → Int32) =>
        K (1 : Int32) fi fl ai_38 al)))))))))
theorem d_SS_share_0 : decode b_SS_share 0 = .ok (.iload_n 1, 1) := by decide +kernel
theorem d_SS_share_1 : decode b_SS_share 1 = .ok (.invokestatic 101, 3) := by decide +kernel
theorem d_SS_share_4 : decode b_SS_share 4 = .ok (.ifCond .eq (21), 3) := by decide +kernel
theorem d_SS_share_7 : decode b_SS_share 7 = .ok (.aload_n 0, 1) := by decide +kernel
theorem d_SS_share_8 : decode b_SS_share 8 = .ok (.getfield 55, 3) := by decide +kernel
theorem d_SS_share_11 : decode b_SS_share 11 = .ok (.iload_n 2, 1) := by decide +kernel
theorem d_SS_share_12 : decode b_SS_share 12 = .ok (.invokevirtual 77, 3) := by decide +kernel
theorem d_SS_share_15 : decode b_SS_share 15 = .ok (.ifCond .eq (10), 3) := by decide +kernel
theorem d_SS_share_18 : decode b_SS_share 18 = .ok (.iload_n 3, 1) := by decide +kernel
theorem d_SS_share_19 : decode b_SS_share 19 = .ok (.invokestatic 94, 3) := by decide +kernel
theorem d_SS_share_22 : decode b_SS_share 22 = .ok (.ifCond .ne (5), 3) := by decide +kernel
theorem d_SS_share_25 : decode b_SS_share 25 = .ok (.iconst 0, 1) := by decide +kernel
theorem d_SS_share_26 : decode b_SS_share 26 = .ok (.ireturn, 1) := by decide +kernel
theorem d_SS_share_27 : decode b_SS_share 27 = .ok (.aload_n 0, 1) := by decide +kernel
theorem d_SS_share_28 : decode b_SS_share 28 = .ok (.getfield 55, 3) := by decide +kernel
theorem d_SS_share_31 : decode b_SS_share 31 = .ok (.getfield 104, 3) := by decide +kernel
theorem d_SS_share_34 : decode b_SS_share 34 = .ok (.iload_n 1, 1) := by decide +kernel
theorem d_SS_share_35 : decode b_SS_share 35 = .ok (.aaload, 1) := by decide +kernel
theorem d_SS_share_36 : decode b_SS_share 36 = .ok (.iload_n 2, 1) := by decide +kernel
theorem d_SS_share_37 : decode b_SS_share 37 = .ok (.iload_n 3, 1) := by decide +kernel
theorem d_SS_share_38 : decode b_SS_share 38 = .ok (.iastore, 1) := by decide +kernel
theorem d_SS_share_39 : decode b_SS_share 39 = .ok (.iconst 1, 1) := by decide +kernel
theorem d_SS_share_40 : decode b_SS_share 40 = .ok (.ireturn, 1) := by decide +kernel
set_option maxHeartbeats 4000000 in
set_option maxRecDepth 100000 in
theorem c_SS_share (l : Launch) (dC : Nat → ClassId) (dI : Nat → Nat → Nat) (cI cJ cG cZ : ClassId) (a : Nat → Nat) (sz : Nat) (fi : Nat → Int32) (fl : Nat → Int64) (ai : Nat → Nat → Int32) (al : Nat → Nat → Int64) (p0 : Int32) (p1 : Int32) (p2 : Int32) (K : Int32 → (Nat → Int32) → (Nat → Int64) → (Nat → Nat → Int32) → (Nat → Nat → Int64) → Prop) (hw : SS_share_w fi fl ai al p0 p1 p2 K) : Met l y_SS_share ws_SS_share ({ frames := 2, cells := 0, slots := 0, locals := 43 }) (va_Pc [.ref (a 0), .int p0, .int p1, .int p2] (zw_Bw (dC, dI) vwCl [(cI, .int), (cJ, .long), (cG, .array .int), (cZ, .boolean)] (cw cI cJ cG cZ a fi fl ai al) sz)) (va_Qi (fun r (u : zw_Z) => K r u.1 u.2.1 u.2.2.1 u.2.2.2) (fun u t => zw_E (dC, dI) vwCl [(cI, .int), (cJ, .long), (cG, .array .int), (cZ, .boolean)] (va_A (cw cI cJ cG cZ a fi fl ai al) sz) (cw cI cJ cG cZ a u.1 u.2.1 u.2.2.1 u.2.2.2) t) (va_A (cw cI cJ cG cZ a fi fl ai al) sz)) 0 0 (va_A (cw cI cJ cG cZ a fi fl ai al) sz) := by
  refine Met.ofW (cc := b_SS_share) (maxL := 4) (ret := (Option.some FieldType.boolean)) (by decide) rfl ?_
  intro p e s m args below meth c s₁ B hml hv
  obtain ⟨rfl, hsz, hP, hK, hD0, hN⟩ := hv
  have hx := B.exec
  have hb := B.bytes
  have hr := B.returns
  have hts := atoms_spec (ws := ws_SS_share) B.pre
  have ht : ∀ w ∈ zw_tbl, w.before _ s = true := fun w h => hts w (List.mem_cons_of_mem _ h)
  have hown : s.vm.findClass R_SS = some m.cls := findClass_of_methodNamed B.named
  have hlocks := B.notSynchronized
  subst hsz
  have hD := hD0.self (sz := s.heap.size)
  generalize hAe : va_A (cw cI cJ cG cZ a fi fl ai al) s.heap.size = A at hD ⊢
  have hA : ∀ q : Nat, s.heap.size ≤ q → A q := fun q h => by rw [← hAe]; exact Or.inr h
  have hS : va_S A s.heap s.heap [] := va_S.rf
  have hl := lv_entry ([.ref (a 0), .int p0, .int p1, .int p2] : List Value) (n := 4) (Nat.le_of_ble_eq_true rfl)
  rw [lg_entry_eq]
  generalize (lg_sl ([.ref (a 0), .int p0, .int p1, .int p2] : List Value) ++ List.replicate (4 - (lg_sl ([.ref (a 0), .int p0, .int p1, .int p2] : List Value)).length) Slot.unset).toArray = ls at hl ⊢
  have hl : lv_has ls 4 [(0, .ref (a 0)), (1, .int p0), (2, .int p1), (3, .int p2)] := hl
  unfold SS_share_w at hw
  obtain ⟨H, hH⟩ : ∃ H, H = s.heap := ⟨_, rfl⟩
  obtain ⟨locs, hlo⟩ : ∃ q : List Loc, q = [] := ⟨_, rfl⟩
  have hP : va_P (dC, dI) vwCl (cw cI cJ cG cZ a fi fl ai al) H := by rw [hH]; exact hP
  have hS : va_S A s.heap H locs := by rw [hH, hlo]; exact hS
  have key : W p l e (headSpec ws_SS_share ({ frames := 2, cells := 0, slots := 0, locals := 43 })).room s m ([.ref (a 0), .int p0, .int p1, .int p2] : List Value).toArray below meth c H locs 0 0 (MQ below (va_Qi (fun r (u : zw_Z) => K r u.1 u.2.1 u.2.2.1 u.2.2.2) (fun u t => zw_E (dC, dI) vwCl [(cI, .int), (cJ, .long), (cG, .array .int), (cZ, .boolean)] A (cw cI cJ cG cZ a u.1 u.2.1 u.2.2.1 u.2.2.2) t) A) ([.ref (a 0), .int p0, .int p1, .int p2] : List Value).toArray s 0 0 A) (F0 m 0 ls []) := by
    refine lv_iload_n hx hb d_SS_share_0 rfl (lv_at hl 1 rfl) ?_
    refine vp_callSi (va_Run.run (va_runS (As := [.int p0]) (rest := []) ⟨hx, hb, hml, hown, hts⟩ (c_SS_isSupport l p0 _ hw) (va_cwS 1 hts (zw_goodS kw_295 kw_296 kw_1 kw_297) rfl rfl rfl hd_SS_isSupport.2 ⟨Nat.le_of_ble_eq_true rfl, Nat.le_of_ble_eq_true rfl⟩) zw_preS0 rfl rfl hl.1 rfl (lv_room (Nat.le_of_ble_eq_true rfl)) d_SS_share_1 ⟨Nat.le_of_ble_eq_true rfl, Nat.le_of_ble_eq_true rfl⟩)) (fun r1 hw => ?_)
    refine lv_if_eq (tgt := 25) hx hb d_SS_share_4 (by decide) (fun c4 => ?_) (fun c4 => ?_)
    · have hw := zw_ite_t c4 hw
      refine lv_iconst (v := (0 : Int32)) hx hb d_SS_share_25 (by decide) ?_
      exact W.zret (v := (0 : Int32)) (ty := .boolean) hx hb hr rfl (fun t ht hW => ⟨⟨(0 : Int32), (fi, fl, ai, al), rfl, hw, by rw [ht]; exact hP, va_K.moved hW.alike hK, hD⟩, hS.F ht⟩) hS.2.2 d_SS_share_26
    · have hw := zw_ite_f c4 hw
      refine lv_aload_n hx hb d_SS_share_7 rfl (lv_at hl 0 rfl) ?_
      refine va_get (D := (dC, dI)) (ci := 0) (v := .ref (a 19)) (C := R_SS) (T := T_SS) (N := 9) hx hb ht in_SS hown hK hP 0 rfl rfl 0 (by decide) (ht _ kw_242) (fun _ h9 => h9) rfl d_SS_share_8 ?_
      refine lv_iload_n hx hb d_SS_share_11 rfl (lv_at hl 2 rfl) ?_
      refine vp_callSi (va_Run.run (va_runV (As := [.int p1]) (rest := []) ⟨hx, hb, hml, hown, hts⟩ (c_Gi_hasPart l dC dI cI cJ cG cZ a fi fl ai al p1 _ hw) (cwV 1 hts (zw_goodV kw_274 kw_275 kw_276 kw_5 kw_277) rfl rfl rfl hd_Gi_hasPart ⟨Nat.le_of_ble_eq_true rfl, Nat.le_of_ble_eq_true rfl⟩) (zw_preV (ci := 2) (q0 := 19) hK hN hP rfl rfl) rfl rfl hl.1 rfl (lv_room (Nat.le_of_ble_eq_true rfl)) d_SS_share_12 ⟨Nat.le_of_ble_eq_true rfl, Nat.le_of_ble_eq_true rfl⟩)) (fun r12 hw => ?_)
      refine lv_if_eq (tgt := 25) hx hb d_SS_share_15 (by decide) (fun c15 => ?_) (fun c15 => ?_)
      · have hw := zw_ite_t c15 hw
        refine lv_iconst (v := (0 : Int32)) hx hb d_SS_share_25 (by decide) ?_
        exact W.zret (v := (0 : Int32)) (ty := .boolean) hx hb hr rfl (fun t ht hW => ⟨⟨(0 : Int32), (fi, fl, ai, al), rfl, hw, by rw [ht]; exact hP, va_K.moved hW.alike hK, hD⟩, hS.F ht⟩) hS.2.2 d_SS_share_26
      · have hw := zw_ite_f c15 hw
        refine lv_iload_n hx hb d_SS_share_18 rfl (lv_at hl 3 rfl) ?_
        refine vp_callSi (va_Run.run (va_runS (As := [.int p2]) (rest := []) ⟨hx, hb, hml, hown, hts⟩ (c_SS_isFactor l p2 _ hw) (va_cwS 1 hts (zw_goodS kw_288 kw_289 kw_1 kw_290) rfl rfl rfl hd_SS_isFactor.2 ⟨Nat.le_of_ble_eq_true rfl, Nat.le_of_ble_eq_true rfl⟩) zw_preS0 rfl rfl hl.1 rfl (lv_room (Nat.le_of_ble_eq_true rfl)) d_SS_share_19 ⟨Nat.le_of_ble_eq_true rfl, Nat.le_of_ble_eq_true rfl⟩)) (fun r19 hw => ?_)
        refine lv_if_ne (tgt := 27) hx hb d_SS_share_22 (by decide) (fun c22 => ?_) (fun c22 => ?_)
        · have hw := zw_ite_f c22 hw
          refine lv_aload_n hx hb d_SS_share_27 rfl (lv_at hl 0 rfl) ?_
          refine va_get (D := (dC, dI)) (ci := 0) (v := .ref (a 19)) (C := R_SS) (T := T_SS) (N := 9) hx hb ht in_SS hown hK hP 0 rfl rfl 0 (by decide) (ht _ kw_242) (fun _ h9 => h9) rfl d_SS_share_28 ?_
          refine va_get (D := (dC, dI)) (ci := 2) (v := .ref (a 31)) (C := R_Gi) (T := T_Gi) (N := 7) hx hb ht in_Gi hown hK hP 19 rfl rfl 4 (by decide) (ht _ kw_147) (fun _ h9 => h9) rfl d_SS_share_31 ?_
          refine lv_iload_n hx hb d_SS_share_34 rfl (lv_at hl 1 rfl) ?_
          obtain ⟨h35, hw⟩ := hw
          refine zw_aald (b := a (32 + p0.toNatClampNeg)) hx hb hK hP 31 2 rfl rfl h35 rfl d_SS_share_35 ?_
          refine lv_iload_n hx hb d_SS_share_36 rfl (lv_at hl 2 rfl) ?_
          refine lv_iload_n hx hb d_SS_share_37 rfl (lv_at hl 3 rfl) ?_
          obtain ⟨h38, hw⟩ := hw
          refine va_iast (f := ai (32 + p0.toNatClampNeg)) hx hb hK hP hD hS (32 + p0.toNatClampNeg) 0 (cw_row31 _ _ _ _ _ _ _ _ _ _ (zw_lt h35)) rfl h38 d_SS_share_38 (fun H locs hP hD hS => ?_)
          have hP := cwp_row31 (zw_lt h35) hP
          have hD := cwd_row31 (zw_lt h35) hD
          obtain ⟨ai_38, eai_38⟩ : ∃ z, z = va_up ai (32 + p0.toNatClampNeg) (upd (ai (32 + p0.toNatClampNeg)) p1.toNatClampNeg p2) := ⟨_, rfl⟩
          rw [← eai_38] at hP hD
          have hw := zw_nm_x eai_38 hw
          refine lv_iconst (v := (1 : Int32)) hx hb d_SS_share_39 (by decide) ?_
          exact W.zret (v := (1 : Int32)) (ty := .boolean) hx hb hr rfl (fun t ht hW => ⟨⟨(1 : Int32), (fi, fl, ai_38, al), rfl, hw, by rw [ht]; exact hP, va_K.moved hW.alike hK, hD⟩, hS.F ht⟩) hS.2.2 d_SS_share_40
        · have hw := zw_ite_t c22 hw
          refine lv_iconst (v := (0 : Int32)) hx hb d_SS_share_25 (by decide) ?_
          exact W.zret (v := (0 : Int32)) (ty := .boolean) hx hb hr rfl (fun t ht hW => ⟨⟨(0 : Int32), (fi, fl, ai, al), rfl, hw, by rw [ht]; exact hP, va_K.moved hW.alike hK, hD⟩, hS.F ht⟩) hS.2.2 d_SS_share_26
  rw [hH, hlo] at key
  exact key
def SS_release_w (fi : Nat → Int32) (fl : Nat → Int64) (ai : Nat → Nat → Int32) (al : Nat → Nat → Int64) (p0 : Int32) (p1 : Int32) (p2 : Int32) (K : Int32 → (Nat → Int32) → (Nat → Int64) → (Nat → Nat → Int32) → (Nat → Nat → Int64) → Prop) : Prop :=
  SS_isSupport_w p0 (fun (r1 : Int32) =>
  if r1 = 0 then (
    K (0 : Int32) fi fl ai al)
  else (
    Gi_hasPart_w fi fl ai al p1 (fun (r12 : Int32) =>
    if r12 = 0 then (
      K (0 : Int32) fi fl ai al)
    else (
      SS_isFactor_w p2 (fun (r19 : Int32) =>
      if r19 = 0 then (
        K (0 : Int32) fi fl ai al)
      else (
        vp_in p0 3 ∧ (
        vp_in p1 6 ∧ (zw_nm (va_up ai (36 + p0.toNatClampNeg) (upd (ai (36 + p0.toNatClampNeg)) p1.toNatClampNeg p2)) (fun (ai_38 : Nat → Nat → Int32) =>
        K (1 : Int32) fi fl ai_38 al)))))))))
theorem d_SS_release_0 : decode b_SS_release 0 = .ok (.iload_n 1, 1) := by decide +kernel
theorem d_SS_release_1 : decode b_SS_release 1 = .ok (.invokestatic 101, 3) := by decide +kernel
theorem d_SS_release_4 : decode b_SS_release 4 = .ok (.ifCond .eq (21), 3) := by decide +kernel
theorem d_SS_release_7 : decode b_SS_release 7 = .ok (.aload_n 0, 1) := by decide +kernel
theorem d_SS_release_8 : decode b_SS_release 8 = .ok (.getfield 55, 3) := by decide +kernel
theorem d_SS_release_11 : decode b_SS_release 11 = .ok (.iload_n 2, 1) := by decide +kernel
theorem d_SS_release_12 : decode b_SS_release 12 = .ok (.invokevirtual 77, 3) := by decide +kernel
theorem d_SS_release_15 : decode b_SS_release 15 = .ok (.ifCond .eq (10), 3) := by decide +kernel
theorem d_SS_release_18 : decode b_SS_release 18 = .ok (.iload_n 3, 1) := by decide +kernel
theorem d_SS_release_19 : decode b_SS_release 19 = .ok (.invokestatic 94, 3) := by decide +kernel
theorem d_SS_release_22 : decode b_SS_release 22 = .ok (.ifCond .ne (5), 3) := by decide +kernel
theorem d_SS_release_25 : decode b_SS_release 25 = .ok (.iconst 0, 1) := by decide +kernel
theorem d_SS_release_26 : decode b_SS_release 26 = .ok (.ireturn, 1) := by decide +kernel
theorem d_SS_release_27 : decode b_SS_release 27 = .ok (.aload_n 0, 1) := by decide +kernel
theorem d_SS_release_28 : decode b_SS_release 28 = .ok (.getfield 55, 3) := by decide +kernel
theorem d_SS_release_31 : decode b_SS_release 31 = .ok (.getfield 107, 3) := by decide +kernel
theorem d_SS_release_34 : decode b_SS_release 34 = .ok (.iload_n 1, 1) := by decide +kernel
theorem d_SS_release_35 : decode b_SS_release 35 = .ok (.aaload, 1) := by decide +kernel
theorem d_SS_release_36 : decode b_SS_release 36 = .ok (.iload_n 2, 1) := by decide +kernel
theorem d_SS_release_37 : decode b_SS_release 37 = .ok (.iload_n 3, 1) := by decide +kernel
theorem d_SS_release_38 : decode b_SS_release 38 = .ok (.iastore, 1) := by decide +kernel
theorem d_SS_release_39 : decode b_SS_release 39 = .ok (.iconst 1, 1) := by decide +kernel
theorem d_SS_release_40 : decode b_SS_release 40 = .ok (.ireturn, 1) := by decide +kernel
set_option maxHeartbeats 4000000 in
set_option maxRecDepth 100000 in
theorem c_SS_release (l : Launch) (dC : Nat → ClassId) (dI : Nat → Nat → Nat) (cI cJ cG cZ : ClassId) (a : Nat → Nat) (sz : Nat) (fi : Nat → Int32) (fl : Nat → Int64) (ai : Nat → Nat → Int32) (al : Nat → Nat → Int64) (p0 : Int32) (p1 : Int32) (p2 : Int32) (K : Int32 → (Nat → Int32) → (Nat → Int64) → (Nat → Nat → Int32) → (Nat → Nat → Int64) → Prop) (hw : SS_release_w fi fl ai al p0 p1 p2 K) : Met l y_SS_release ws_SS_release ({ frames := 2, cells := 0, slots := 0, locals := 43 }) (va_Pc [.ref (a 0), .int p0, .int p1, .int p2] (zw_Bw (dC, dI) vwCl [(cI, .int), (cJ, .long), (cG, .array .int), (cZ, .boolean)] (cw cI cJ cG cZ a fi fl ai al) sz)) (va_Qi (fun r (u : zw_Z) => K r u.1 u.2.1 u.2.2.1 u.2.2.2) (fun u t => zw_E (dC, dI) vwCl [(cI, .int), (cJ, .long), (cG, .array .int), (cZ, .boolean)] (va_A (cw cI cJ cG cZ a fi fl ai al) sz) (cw cI cJ cG cZ a u.1 u.2.1 u.2.2.1 u.2.2.2) t) (va_A (cw cI cJ cG cZ a fi fl ai al) sz)) 0 0 (va_A (cw cI cJ cG cZ a fi fl ai al) sz) := by
  refine Met.ofW (cc := b_SS_release) (maxL := 4) (ret := (Option.some FieldType.boolean)) (by decide) rfl ?_
  intro p e s m args below meth c s₁ B hml hv
  obtain ⟨rfl, hsz, hP, hK, hD0, hN⟩ := hv
  have hx := B.exec
  have hb := B.bytes
  have hr := B.returns
  have hts := atoms_spec (ws := ws_SS_release) B.pre
  have ht : ∀ w ∈ zw_tbl, w.before _ s = true := fun w h => hts w (List.mem_cons_of_mem _ h)
  have hown : s.vm.findClass R_SS = some m.cls := findClass_of_methodNamed B.named
  have hlocks := B.notSynchronized
  subst hsz
  have hD := hD0.self (sz := s.heap.size)
  generalize hAe : va_A (cw cI cJ cG cZ a fi fl ai al) s.heap.size = A at hD ⊢
  have hA : ∀ q : Nat, s.heap.size ≤ q → A q := fun q h => by rw [← hAe]; exact Or.inr h
  have hS : va_S A s.heap s.heap [] := va_S.rf
  have hl := lv_entry ([.ref (a 0), .int p0, .int p1, .int p2] : List Value) (n := 4) (Nat.le_of_ble_eq_true rfl)
  rw [lg_entry_eq]
  generalize (lg_sl ([.ref (a 0), .int p0, .int p1, .int p2] : List Value) ++ List.replicate (4 - (lg_sl ([.ref (a 0), .int p0, .int p1, .int p2] : List Value)).length) Slot.unset).toArray = ls at hl ⊢
  have hl : lv_has ls 4 [(0, .ref (a 0)), (1, .int p0), (2, .int p1), (3, .int p2)] := hl
  unfold SS_release_w at hw
  obtain ⟨H, hH⟩ : ∃ H, H = s.heap := ⟨_, rfl⟩
  obtain ⟨locs, hlo⟩ : ∃ q : List Loc, q = [] := ⟨_, rfl⟩
  have hP : va_P (dC, dI) vwCl (cw cI cJ cG cZ a fi fl ai al) H := by rw [hH]; exact hP
  have hS : va_S A s.heap H locs := by rw [hH, hlo]; exact hS
  have key : W p l e (headSpec ws_SS_release ({ frames := 2, cells := 0, slots := 0, locals := 43 })).room s m ([.ref (a 0), .int p0, .int p1, .int p2] : List Value).toArray below meth c H locs 0 0 (MQ below (va_Qi (fun r (u : zw_Z) => K r u.1 u.2.1 u.2.2.1 u.2.2.2) (fun u t => zw_E (dC, dI) vwCl [(cI, .int), (cJ, .long), (cG, .array .int), (cZ, .boolean)] A (cw cI cJ cG cZ a u.1 u.2.1 u.2.2.1 u.2.2.2) t) A) ([.ref (a 0), .int p0, .int p1, .int p2] : List Value).toArray s 0 0 A) (F0 m 0 ls []) := by
    refine lv_iload_n hx hb d_SS_release_0 rfl (lv_at hl 1 rfl) ?_
    refine vp_callSi (va_Run.run (va_runS (As := [.int p0]) (rest := []) ⟨hx, hb, hml, hown, hts⟩ (c_SS_isSupport l p0 _ hw) (va_cwS 1 hts (zw_goodS kw_295 kw_296 kw_1 kw_297) rfl rfl rfl hd_SS_isSupport.2 ⟨Nat.le_of_ble_eq_true rfl, Nat.le_of_ble_eq_true rfl⟩) zw_preS0 rfl rfl hl.1 rfl (lv_room (Nat.le_of_ble_eq_true rfl)) d_SS_release_1 ⟨Nat.le_of_ble_eq_true rfl, Nat.le_of_ble_eq_true rfl⟩)) (fun r1 hw => ?_)
    refine lv_if_eq (tgt := 25) hx hb d_SS_release_4 (by decide) (fun c4 => ?_) (fun c4 => ?_)
    · have hw := zw_ite_t c4 hw
      refine lv_iconst (v := (0 : Int32)) hx hb d_SS_release_25 (by decide) ?_
      exact W.zret (v := (0 : Int32)) (ty := .boolean) hx hb hr rfl (fun t ht hW => ⟨⟨(0 : Int32), (fi, fl, ai, al), rfl, hw, by rw [ht]; exact hP, va_K.moved hW.alike hK, hD⟩, hS.F ht⟩) hS.2.2 d_SS_release_26
    · have hw := zw_ite_f c4 hw
      refine lv_aload_n hx hb d_SS_release_7 rfl (lv_at hl 0 rfl) ?_
      refine va_get (D := (dC, dI)) (ci := 0) (v := .ref (a 19)) (C := R_SS) (T := T_SS) (N := 9) hx hb ht in_SS hown hK hP 0 rfl rfl 0 (by decide) (ht _ kw_242) (fun _ h9 => h9) rfl d_SS_release_8 ?_
      refine lv_iload_n hx hb d_SS_release_11 rfl (lv_at hl 2 rfl) ?_
      refine vp_callSi (va_Run.run (va_runV (As := [.int p1]) (rest := []) ⟨hx, hb, hml, hown, hts⟩ (c_Gi_hasPart l dC dI cI cJ cG cZ a fi fl ai al p1 _ hw) (cwV 1 hts (zw_goodV kw_274 kw_275 kw_276 kw_5 kw_277) rfl rfl rfl hd_Gi_hasPart ⟨Nat.le_of_ble_eq_true rfl, Nat.le_of_ble_eq_true rfl⟩) (zw_preV (ci := 2) (q0 := 19) hK hN hP rfl rfl) rfl rfl hl.1 rfl (lv_room (Nat.le_of_ble_eq_true rfl)) d_SS_release_12 ⟨Nat.le_of_ble_eq_true rfl, Nat.le_of_ble_eq_true rfl⟩)) (fun r12 hw => ?_)
      refine lv_if_eq (tgt := 25) hx hb d_SS_release_15 (by decide) (fun c15 => ?_) (fun c15 => ?_)
      · have hw := zw_ite_t c15 hw
        refine lv_iconst (v := (0 : Int32)) hx hb d_SS_release_25 (by decide) ?_
        exact W.zret (v := (0 : Int32)) (ty := .boolean) hx hb hr rfl (fun t ht hW => ⟨⟨(0 : Int32), (fi, fl, ai, al), rfl, hw, by rw [ht]; exact hP, va_K.moved hW.alike hK, hD⟩, hS.F ht⟩) hS.2.2 d_SS_release_26
      · have hw := zw_ite_f c15 hw
        refine lv_iload_n hx hb d_SS_release_18 rfl (lv_at hl 3 rfl) ?_
        refine vp_callSi (va_Run.run (va_runS (As := [.int p2]) (rest := []) ⟨hx, hb, hml, hown, hts⟩ (c_SS_isFactor l p2 _ hw) (va_cwS 1 hts (zw_goodS kw_288 kw_289 kw_1 kw_290) rfl rfl rfl hd_SS_isFactor.2 ⟨Nat.le_of_ble_eq_true rfl, Nat.le_of_ble_eq_true rfl⟩) zw_preS0 rfl rfl hl.1 rfl (lv_room (Nat.le_of_ble_eq_true rfl)) d_SS_release_19 ⟨Nat.le_of_ble_eq_true rfl, Nat.le_of_ble_eq_true rfl⟩)) (fun r19 hw => ?_)
        refine lv_if_ne (tgt := 27) hx hb d_SS_release_22 (by decide) (fun c22 => ?_) (fun c22 => ?_)
        · have hw := zw_ite_f c22 hw
          refine lv_aload_n hx hb d_SS_release_27 rfl (lv_at hl 0 rfl) ?_
          refine va_get (D := (dC, dI)) (ci := 0) (v := .ref (a 19)) (C := R_SS) (T := T_SS) (N := 9) hx hb ht in_SS hown hK hP 0 rfl rfl 0 (by decide) (ht _ kw_242) (fun _ h9 => h9) rfl d_SS_release_28 ?_
          refine va_get (D := (dC, dI)) (ci := 2) (v := .ref (a 35)) (C := R_Gi) (T := T_Gi) (N := 7) hx hb ht in_Gi hown hK hP 19 rfl rfl 5 (by decide) (ht _ kw_150) (fun _ h9 => h9) rfl d_SS_release_31 ?_
          refine lv_iload_n hx hb d_SS_release_34 rfl (lv_at hl 1 rfl) ?_
          obtain ⟨h35, hw⟩ := hw
          refine zw_aald (b := a (36 + p0.toNatClampNeg)) hx hb hK hP 35 2 rfl rfl h35 rfl d_SS_release_35 ?_
          refine lv_iload_n hx hb d_SS_release_36 rfl (lv_at hl 2 rfl) ?_
          refine lv_iload_n hx hb d_SS_release_37 rfl (lv_at hl 3 rfl) ?_
          obtain ⟨h38, hw⟩ := hw
          refine va_iast (f := ai (36 + p0.toNatClampNeg)) hx hb hK hP hD hS (36 + p0.toNatClampNeg) 0 (cw_row35 _ _ _ _ _ _ _ _ _ _ (zw_lt h35)) rfl h38 d_SS_release_38 (fun H locs hP hD hS => ?_)
          have hP := cwp_row35 (zw_lt h35) hP
          have hD := cwd_row35 (zw_lt h35) hD
          obtain ⟨ai_38, eai_38⟩ : ∃ z, z = va_up ai (36 + p0.toNatClampNeg) (upd (ai (36 + p0.toNatClampNeg)) p1.toNatClampNeg p2) := ⟨_, rfl⟩
          rw [← eai_38] at hP hD
          have hw := zw_nm_x eai_38 hw
          refine lv_iconst (v := (1 : Int32)) hx hb d_SS_release_39 (by decide) ?_
          exact W.zret (v := (1 : Int32)) (ty := .boolean) hx hb hr rfl (fun t ht hW => ⟨⟨(1 : Int32), (fi, fl, ai_38, al), rfl, hw, by rw [ht]; exact hP, va_K.moved hW.alike hK, hD⟩, hS.F ht⟩) hS.2.2 d_SS_release_40
        · have hw := zw_ite_t c22 hw
          refine lv_iconst (v := (0 : Int32)) hx hb d_SS_release_25 (by decide) ?_
          exact W.zret (v := (0 : Int32)) (ty := .boolean) hx hb hr rfl (fun t ht hW => ⟨⟨(0 : Int32), (fi, fl, ai, al), rfl, hw, by rw [ht]; exact hP, va_K.moved hW.alike hK, hD⟩, hS.F ht⟩) hS.2.2 d_SS_release_26
  rw [hH, hlo] at key
  exact key
def Cr_tell_w (fi : Nat → Int32) (fl : Nat → Int64) (ai : Nat → Nat → Int32) (al : Nat → Nat → Int64) (p0 : Int32) (p1 : Int32) (K : Int32 → (Nat → Int32) → (Nat → Int64) → (Nat → Nat → Int32) → (Nat → Nat → Int64) → Prop) : Prop :=
  if (8 : Int32) ≤ (fi 1) then (
    K (0 : Int32) fi fl ai al)
  else (
    SS_within_w p0 (0 : Int32) (20000 : Int32) (fun (r14 : Int32) =>
    if r14 = 0 then (
      K (0 : Int32) fi fl ai al)
    else (
      SS_within_w p1 (0 : Int32) (5000 : Int32) (fun (r25 : Int32) =>
      if r25 = 0 then (
        K (0 : Int32) fi fl ai al)
      else (
        zw_jn0 (
        vp_in (fi 1) 8 ∧ (zw_nm (va_up ai 2 (upd (ai 2) (fi 1).toNatClampNeg p0)) (fun (ai_81 : Nat → Nat → Int32) =>
        vp_in (fi 1) 8 ∧ (zw_nm (va_up ai_81 3 (upd (ai_81 3) (fi 1).toNatClampNeg p1)) (fun (ai_91 : Nat → Nat → Int32) =>
        zw_nm (va_up fi 1 ((fi 1) + (1 : Int32))) (fun (fi_99 : Nat → Int32) =>
        K (1 : Int32) fi_99 fl ai_91 al)))))) (fun J72 =>
        if (fi 1) ≤ 0 then (
          J72)
        else (
          vp_in ((fi 1) - (1 : Int32)) 8 ∧ (
          if p0 ≤ (ai 2 ((fi 1) - (1 : Int32)).toNatClampNeg) then (
            K (0 : Int32) fi fl ai al)
          else (
            vp_in ((fi 1) - (1 : Int32)) 8 ∧ (
            if (ai 3 ((fi 1) - (1 : Int32)).toNatClampNeg) ≤ p1 then (
              J72)
            else (
              K (0 : Int32) fi fl ai al)))))))))))
theorem d_Cr_tell_0 : decode b_Cr_tell 0 = .ok (.aload_n 0, 1) := by decide +kernel
theorem d_Cr_tell_1 : decode b_Cr_tell 1 = .ok (.getfield 18, 3) := by decide +kernel
theorem d_Cr_tell_4 : decode b_Cr_tell 4 = .ok (.bipush (8), 2) := by decide +kernel
theorem d_Cr_tell_6 : decode b_Cr_tell 6 = .ok (.if_icmp .ge (25), 3) := by decide +kernel
theorem d_Cr_tell_9 : decode b_Cr_tell 9 = .ok (.iload_n 1, 1) := by decide +kernel
theorem d_Cr_tell_10 : decode b_Cr_tell 10 = .ok (.iconst 0, 1) := by decide +kernel
theorem d_Cr_tell_11 : decode b_Cr_tell 11 = .ok (.sipush (20000), 3) := by decide +kernel
theorem d_Cr_tell_14 : decode b_Cr_tell 14 = .ok (.invokestatic 22, 3) := by decide +kernel
theorem d_Cr_tell_17 : decode b_Cr_tell 17 = .ok (.ifCond .eq (14), 3) := by decide +kernel
theorem d_Cr_tell_20 : decode b_Cr_tell 20 = .ok (.iload_n 2, 1) := by decide +kernel
theorem d_Cr_tell_21 : decode b_Cr_tell 21 = .ok (.iconst 0, 1) := by decide +kernel
theorem d_Cr_tell_22 : decode b_Cr_tell 22 = .ok (.sipush (5000), 3) := by decide +kernel
theorem d_Cr_tell_25 : decode b_Cr_tell 25 = .ok (.invokestatic 22, 3) := by decide +kernel
theorem d_Cr_tell_28 : decode b_Cr_tell 28 = .ok (.ifCond .ne (5), 3) := by decide +kernel
theorem d_Cr_tell_31 : decode b_Cr_tell 31 = .ok (.iconst 0, 1) := by decide +kernel
theorem d_Cr_tell_32 : decode b_Cr_tell 32 = .ok (.ireturn, 1) := by decide +kernel
theorem d_Cr_tell_33 : decode b_Cr_tell 33 = .ok (.aload_n 0, 1) := by decide +kernel
theorem d_Cr_tell_34 : decode b_Cr_tell 34 = .ok (.getfield 18, 3) := by decide +kernel
theorem d_Cr_tell_37 : decode b_Cr_tell 37 = .ok (.ifCond .le (35), 3) := by decide +kernel
theorem d_Cr_tell_40 : decode b_Cr_tell 40 = .ok (.iload_n 1, 1) := by decide +kernel
theorem d_Cr_tell_41 : decode b_Cr_tell 41 = .ok (.aload_n 0, 1) := by decide +kernel
theorem d_Cr_tell_42 : decode b_Cr_tell 42 = .ok (.getfield 9, 3) := by decide +kernel
theorem d_Cr_tell_45 : decode b_Cr_tell 45 = .ok (.aload_n 0, 1) := by decide +kernel
theorem d_Cr_tell_46 : decode b_Cr_tell 46 = .ok (.getfield 18, 3) := by decide +kernel
theorem d_Cr_tell_49 : decode b_Cr_tell 49 = .ok (.iconst 1, 1) := by decide +kernel
theorem d_Cr_tell_50 : decode b_Cr_tell 50 = .ok (.isub, 1) := by decide +kernel
theorem d_Cr_tell_51 : decode b_Cr_tell 51 = .ok (.iaload, 1) := by decide +kernel
theorem d_Cr_tell_52 : decode b_Cr_tell 52 = .ok (.if_icmp .le (18), 3) := by decide +kernel
theorem d_Cr_tell_55 : decode b_Cr_tell 55 = .ok (.iload_n 2, 1) := by decide +kernel
theorem d_Cr_tell_56 : decode b_Cr_tell 56 = .ok (.aload_n 0, 1) := by decide +kernel
theorem d_Cr_tell_57 : decode b_Cr_tell 57 = .ok (.getfield 15, 3) := by decide +kernel
theorem d_Cr_tell_60 : decode b_Cr_tell 60 = .ok (.aload_n 0, 1) := by decide +kernel
theorem d_Cr_tell_61 : decode b_Cr_tell 61 = .ok (.getfield 18, 3) := by decide +kernel
theorem d_Cr_tell_64 : decode b_Cr_tell 64 = .ok (.iconst 1, 1) := by decide +kernel
theorem d_Cr_tell_65 : decode b_Cr_tell 65 = .ok (.isub, 1) := by decide +kernel
theorem d_Cr_tell_66 : decode b_Cr_tell 66 = .ok (.iaload, 1) := by decide +kernel
theorem d_Cr_tell_67 : decode b_Cr_tell 67 = .ok (.if_icmp .ge (5), 3) := by decide +kernel
theorem d_Cr_tell_70 : decode b_Cr_tell 70 = .ok (.iconst 0, 1) := by decide +kernel
theorem d_Cr_tell_71 : decode b_Cr_tell 71 = .ok (.ireturn, 1) := by decide +kernel
theorem d_Cr_tell_72 : decode b_Cr_tell 72 = .ok (.aload_n 0, 1) := by decide +kernel
theorem d_Cr_tell_73 : decode b_Cr_tell 73 = .ok (.getfield 9, 3) := by decide +kernel
theorem d_Cr_tell_76 : decode b_Cr_tell 76 = .ok (.aload_n 0, 1) := by decide +kernel
theorem d_Cr_tell_77 : decode b_Cr_tell 77 = .ok (.getfield 18, 3) := by decide +kernel
theorem d_Cr_tell_80 : decode b_Cr_tell 80 = .ok (.iload_n 1, 1) := by decide +kernel
theorem d_Cr_tell_81 : decode b_Cr_tell 81 = .ok (.iastore, 1) := by decide +kernel
theorem d_Cr_tell_82 : decode b_Cr_tell 82 = .ok (.aload_n 0, 1) := by decide +kernel
theorem d_Cr_tell_83 : decode b_Cr_tell 83 = .ok (.getfield 15, 3) := by decide +kernel
theorem d_Cr_tell_86 : decode b_Cr_tell 86 = .ok (.aload_n 0, 1) := by decide +kernel
theorem d_Cr_tell_87 : decode b_Cr_tell 87 = .ok (.getfield 18, 3) := by decide +kernel
theorem d_Cr_tell_90 : decode b_Cr_tell 90 = .ok (.iload_n 2, 1) := by decide +kernel
theorem d_Cr_tell_91 : decode b_Cr_tell 91 = .ok (.iastore, 1) := by decide +kernel
theorem d_Cr_tell_92 : decode b_Cr_tell 92 = .ok (.aload_n 0, 1) := by decide +kernel
theorem d_Cr_tell_93 : decode b_Cr_tell 93 = .ok (.dup, 1) := by decide +kernel
theorem d_Cr_tell_94 : decode b_Cr_tell 94 = .ok (.getfield 18, 3) := by decide +kernel
theorem d_Cr_tell_97 : decode b_Cr_tell 97 = .ok (.iconst 1, 1) := by decide +kernel
theorem d_Cr_tell_98 : decode b_Cr_tell 98 = .ok (.iadd, 1) := by decide +kernel
theorem d_Cr_tell_99 : decode b_Cr_tell 99 = .ok (.putfield 18, 3) := by decide +kernel
theorem d_Cr_tell_102 : decode b_Cr_tell 102 = .ok (.iconst 1, 1) := by decide +kernel
theorem d_Cr_tell_103 : decode b_Cr_tell 103 = .ok (.ireturn, 1) := by decide +kernel
set_option maxHeartbeats 4000000 in
set_option maxRecDepth 100000 in
theorem c_Cr_tell (l : Launch) (dC : Nat → ClassId) (dI : Nat → Nat → Nat) (cI cJ cG cZ : ClassId) (a : Nat → Nat) (sz : Nat) (fi : Nat → Int32) (fl : Nat → Int64) (ai : Nat → Nat → Int32) (al : Nat → Nat → Int64) (p0 : Int32) (p1 : Int32) (K : Int32 → (Nat → Int32) → (Nat → Int64) → (Nat → Nat → Int32) → (Nat → Nat → Int64) → Prop) (hw : Cr_tell_w fi fl ai al p0 p1 K) : Met l y_Cr_tell ws_Cr_tell ({ frames := 1, cells := 0, slots := 0, locals := 22 }) (va_Pc [.ref (a 1), .int p0, .int p1] (zw_Bw (dC, dI) vwCl [(cI, .int), (cJ, .long), (cG, .array .int), (cZ, .boolean)] (cw cI cJ cG cZ a fi fl ai al) sz)) (va_Qi (fun r (u : zw_Z) => K r u.1 u.2.1 u.2.2.1 u.2.2.2) (fun u t => zw_E (dC, dI) vwCl [(cI, .int), (cJ, .long), (cG, .array .int), (cZ, .boolean)] (va_A (cw cI cJ cG cZ a fi fl ai al) sz) (cw cI cJ cG cZ a u.1 u.2.1 u.2.2.1 u.2.2.2) t) (va_A (cw cI cJ cG cZ a fi fl ai al) sz)) 0 0 (va_A (cw cI cJ cG cZ a fi fl ai al) sz) := by
  refine Met.ofW (cc := b_Cr_tell) (maxL := 3) (ret := (Option.some FieldType.boolean)) (by decide) rfl ?_
  intro p e s m args below meth c s₁ B hml hv
  obtain ⟨rfl, hsz, hP, hK, hD0, hN⟩ := hv
  have hx := B.exec
  have hb := B.bytes
  have hr := B.returns
  have hts := atoms_spec (ws := ws_Cr_tell) B.pre
  have ht : ∀ w ∈ zw_tbl, w.before _ s = true := fun w h => hts w (List.mem_cons_of_mem _ h)
  have hown : s.vm.findClass R_Cr = some m.cls := findClass_of_methodNamed B.named
  have hlocks := B.notSynchronized
  subst hsz
  have hD := hD0.self (sz := s.heap.size)
  generalize hAe : va_A (cw cI cJ cG cZ a fi fl ai al) s.heap.size = A at hD ⊢
  have hA : ∀ q : Nat, s.heap.size ≤ q → A q := fun q h => by rw [← hAe]; exact Or.inr h
  have hS : va_S A s.heap s.heap [] := va_S.rf
  have hl := lv_entry ([.ref (a 1), .int p0, .int p1] : List Value) (n := 3) (Nat.le_of_ble_eq_true rfl)
  rw [lg_entry_eq]
  generalize (lg_sl ([.ref (a 1), .int p0, .int p1] : List Value) ++ List.replicate (3 - (lg_sl ([.ref (a 1), .int p0, .int p1] : List Value)).length) Slot.unset).toArray = ls at hl ⊢
  have hl : lv_has ls 3 [(0, .ref (a 1)), (1, .int p0), (2, .int p1)] := hl
  unfold Cr_tell_w at hw
  obtain ⟨H, hH⟩ : ∃ H, H = s.heap := ⟨_, rfl⟩
  obtain ⟨locs, hlo⟩ : ∃ q : List Loc, q = [] := ⟨_, rfl⟩
  have hP : va_P (dC, dI) vwCl (cw cI cJ cG cZ a fi fl ai al) H := by rw [hH]; exact hP
  have hS : va_S A s.heap H locs := by rw [hH, hlo]; exact hS
  have key : W p l e (headSpec ws_Cr_tell ({ frames := 1, cells := 0, slots := 0, locals := 22 })).room s m ([.ref (a 1), .int p0, .int p1] : List Value).toArray below meth c H locs 0 0 (MQ below (va_Qi (fun r (u : zw_Z) => K r u.1 u.2.1 u.2.2.1 u.2.2.2) (fun u t => zw_E (dC, dI) vwCl [(cI, .int), (cJ, .long), (cG, .array .int), (cZ, .boolean)] A (cw cI cJ cG cZ a u.1 u.2.1 u.2.2.1 u.2.2.2) t) A) ([.ref (a 1), .int p0, .int p1] : List Value).toArray s 0 0 A) (F0 m 0 ls []) := by
    refine lv_aload_n hx hb d_Cr_tell_0 rfl (lv_at hl 0 rfl) ?_
    refine va_get (D := (dC, dI)) (ci := 1) (v := .int (fi 1)) (C := R_Cr) (T := T_Cr) (N := 3) hx hb ht in_Cr hown hK hP 1 rfl rfl 2 (by decide) (ht _ kw_28) (fun _ h9 => h9) rfl d_Cr_tell_1 ?_
    refine lv_bipush (v := (8 : Int32)) hx hb d_Cr_tell_4 (by decide) ?_
    refine lv_icmp_ge (tgt := 31) hx hb d_Cr_tell_6 (by decide) (fun c6 => ?_) (fun c6 => ?_)
    · have hw := zw_ite_t c6 hw
      refine lv_iconst (v := (0 : Int32)) hx hb d_Cr_tell_31 (by decide) ?_
      exact W.zret (v := (0 : Int32)) (ty := .boolean) hx hb hr rfl (fun t ht hW => ⟨⟨(0 : Int32), (fi, fl, ai, al), rfl, hw, by rw [ht]; exact hP, va_K.moved hW.alike hK, hD⟩, hS.F ht⟩) hS.2.2 d_Cr_tell_32
    · have hw := zw_ite_f c6 hw
      refine lv_iload_n hx hb d_Cr_tell_9 rfl (lv_at hl 1 rfl) ?_
      refine lv_iconst (v := (0 : Int32)) hx hb d_Cr_tell_10 (by decide) ?_
      refine lv_sipush (v := (20000 : Int32)) hx hb d_Cr_tell_11 (by decide) ?_
      refine vp_callSi (va_Run.run (va_runSN (As := [.int p0, .int (0 : Int32), .int (20000 : Int32)]) (rest := []) ⟨hx, hb, hml, hown, hts⟩ (c_SS_within l p0 (0 : Int32) (20000 : Int32) _ hw) ⟨va_cnB 3 hts (zw_goodC kw_280) rfl rfl rfl (hN _ nw_310) (ht _ kw_1) hd_SS_within.2 ⟨Nat.le_of_ble_eq_true rfl, Nat.le_of_ble_eq_true rfl⟩, ht _ kw_279, trivial⟩ zw_preS0 rfl rfl hl.1 rfl (lv_room (Nat.le_of_ble_eq_true rfl)) d_Cr_tell_14 ⟨Nat.le_of_ble_eq_true rfl, Nat.le_of_ble_eq_true rfl⟩)) (fun r14 hw => ?_)
      refine lv_if_eq (tgt := 31) hx hb d_Cr_tell_17 (by decide) (fun c17 => ?_) (fun c17 => ?_)
      · have hw := zw_ite_t c17 hw
        refine lv_iconst (v := (0 : Int32)) hx hb d_Cr_tell_31 (by decide) ?_
        exact W.zret (v := (0 : Int32)) (ty := .boolean) hx hb hr rfl (fun t ht hW => ⟨⟨(0 : Int32), (fi, fl, ai, al), rfl, hw, by rw [ht]; exact hP, va_K.moved hW.alike hK, hD⟩, hS.F ht⟩) hS.2.2 d_Cr_tell_32
      · have hw := zw_ite_f c17 hw
        refine lv_iload_n hx hb d_Cr_tell_20 rfl (lv_at hl 2 rfl) ?_
        refine lv_iconst (v := (0 : Int32)) hx hb d_Cr_tell_21 (by decide) ?_
        refine lv_sipush (v := (5000 : Int32)) hx hb d_Cr_tell_22 (by decide) ?_
        refine vp_callSi (va_Run.run (va_runSN (As := [.int p1, .int (0 : Int32), .int (5000 : Int32)]) (rest := []) ⟨hx, hb, hml, hown, hts⟩ (c_SS_within l p1 (0 : Int32) (5000 : Int32) _ hw) ⟨va_cnB 3 hts (zw_goodC kw_280) rfl rfl rfl (hN _ nw_310) (ht _ kw_1) hd_SS_within.2 ⟨Nat.le_of_ble_eq_true rfl, Nat.le_of_ble_eq_true rfl⟩, ht _ kw_279, trivial⟩ zw_preS0 rfl rfl hl.1 rfl (lv_room (Nat.le_of_ble_eq_true rfl)) d_Cr_tell_25 ⟨Nat.le_of_ble_eq_true rfl, Nat.le_of_ble_eq_true rfl⟩)) (fun r25 hw => ?_)
        refine lv_if_ne (tgt := 33) hx hb d_Cr_tell_28 (by decide) (fun c28 => ?_) (fun c28 => ?_)
        · have hw := zw_ite_f c28 hw
          refine lv_aload_n hx hb d_Cr_tell_33 rfl (lv_at hl 0 rfl) ?_
          refine va_get (D := (dC, dI)) (ci := 1) (v := .int (fi 1)) (C := R_Cr) (T := T_Cr) (N := 3) hx hb ht in_Cr hown hK hP 1 rfl rfl 2 (by decide) (ht _ kw_28) (fun _ h9 => h9) rfl d_Cr_tell_34 ?_
          refine zw_jn0_i (P := ∀ (H : Heap) (locs : List Loc) (ls : Array Slot), va_P (dC, dI) vwCl (cw cI cJ cG cZ a fi fl ai al) H → va_D A (cw cI cJ cG cZ a fi fl ai al) → va_S A s.heap H locs → lv_has ls 3 [(0, .ref (a 1)), (1, .int p0), (2, .int p1)] → W p l e (headSpec ws_Cr_tell ({ frames := 1, cells := 0, slots := 0, locals := 22 })).room s m ([.ref (a 1), .int p0, .int p1] : List Value).toArray below meth c H locs 0 0 (MQ below (va_Qi (fun r (u : zw_Z) => K r u.1 u.2.1 u.2.2.1 u.2.2.2) (fun u t => zw_E (dC, dI) vwCl [(cI, .int), (cJ, .long), (cG, .array .int), (cZ, .boolean)] A (cw cI cJ cG cZ a u.1 u.2.1 u.2.2.1 u.2.2.2) t) A) ([.ref (a 1), .int p0, .int p1] : List Value).toArray s 0 0 A) (F0 m 72 ls [])) hw (fun hw H locs ls hP hD hS hl => ?_) (fun J72 hj72 hw => ?_)
          · refine lv_aload_n hx hb d_Cr_tell_72 rfl (lv_at hl 0 rfl) ?_
            refine va_get (D := (dC, dI)) (ci := 1) (v := .ref (a 2)) (C := R_Cr) (T := T_Cr) (N := 3) hx hb ht in_Cr hown hK hP 1 rfl rfl 0 (by decide) (ht _ kw_26) (fun _ h9 => h9) rfl d_Cr_tell_73 ?_
            refine lv_aload_n hx hb d_Cr_tell_76 rfl (lv_at hl 0 rfl) ?_
            refine va_get (D := (dC, dI)) (ci := 1) (v := .int (fi 1)) (C := R_Cr) (T := T_Cr) (N := 3) hx hb ht in_Cr hown hK hP 1 rfl rfl 2 (by decide) (ht _ kw_28) (fun _ h9 => h9) rfl d_Cr_tell_77 ?_
            refine lv_iload_n hx hb d_Cr_tell_80 rfl (lv_at hl 1 rfl) ?_
            obtain ⟨h81, hw⟩ := hw
            refine va_iast (f := ai 2) hx hb hK hP hD hS 2 0 rfl rfl h81 d_Cr_tell_81 (fun H locs hP hD hS => ?_)
            have hP := cwpai_2 hP
            have hD := cwdai_2 hD
            obtain ⟨ai_81, eai_81⟩ : ∃ z, z = va_up ai 2 (upd (ai 2) (fi 1).toNatClampNeg p0) := ⟨_, rfl⟩
            rw [← eai_81] at hP hD
            have hw := zw_nm_x eai_81 hw
            refine lv_aload_n hx hb d_Cr_tell_82 rfl (lv_at hl 0 rfl) ?_
            refine va_get (D := (dC, dI)) (ci := 1) (v := .ref (a 3)) (C := R_Cr) (T := T_Cr) (N := 3) hx hb ht in_Cr hown hK hP 1 rfl rfl 1 (by decide) (ht _ kw_27) (fun _ h9 => h9) rfl d_Cr_tell_83 ?_
            refine lv_aload_n hx hb d_Cr_tell_86 rfl (lv_at hl 0 rfl) ?_
            refine va_get (D := (dC, dI)) (ci := 1) (v := .int (fi 1)) (C := R_Cr) (T := T_Cr) (N := 3) hx hb ht in_Cr hown hK hP 1 rfl rfl 2 (by decide) (ht _ kw_28) (fun _ h9 => h9) rfl d_Cr_tell_87 ?_
            refine lv_iload_n hx hb d_Cr_tell_90 rfl (lv_at hl 2 rfl) ?_
            obtain ⟨h91, hw⟩ := hw
            refine va_iast (f := ai_81 3) hx hb hK hP hD hS 3 0 rfl rfl h91 d_Cr_tell_91 (fun H locs hP hD hS => ?_)
            have hP := cwpai_3 hP
            have hD := cwdai_3 hD
            obtain ⟨ai_91, eai_91⟩ : ∃ z, z = va_up ai_81 3 (upd (ai_81 3) (fi 1).toNatClampNeg p1) := ⟨_, rfl⟩
            rw [← eai_91] at hP hD
            have hw := zw_nm_x eai_91 hw
            refine lv_aload_n hx hb d_Cr_tell_92 rfl (lv_at hl 0 rfl) ?_
            refine lv_dup hx hb d_Cr_tell_93 rfl ?_
            refine va_get (D := (dC, dI)) (ci := 1) (v := .int (fi 1)) (C := R_Cr) (T := T_Cr) (N := 3) hx hb ht in_Cr hown hK hP 1 rfl rfl 2 (by decide) (ht _ kw_28) (fun _ h9 => h9) rfl d_Cr_tell_94 ?_
            refine lv_iconst (v := (1 : Int32)) hx hb d_Cr_tell_97 (by decide) ?_
            refine lv_iadd hx hb d_Cr_tell_98 ?_
            refine va_put (D := (dC, dI)) (ci := 1) (v := .int ((fi 1) + (1 : Int32))) (ty := .int) (C := R_Cr) (T := T_Cr) (N := 3) hx hb ht in_Cr t_Cr t_Cr_ok n_Cr hown hK hP hD hS 1 rfl rfl 2 (by decide) (ht _ kw_28) (fun _ h9 => h9) rfl (by decide +kernel) rfl rfl (Nat.le_of_ble_eq_true rfl) d_Cr_tell_99 (fun H locs hP hD hS => ?_)
            have hP := cwpfi_1 hP
            have hD := cwdfi_1 hD
            obtain ⟨fi_99, efi_99⟩ : ∃ z, z = va_up fi 1 ((fi 1) + (1 : Int32)) := ⟨_, rfl⟩
            rw [← efi_99] at hP hD
            have hw := zw_nm_x efi_99 hw
            refine lv_iconst (v := (1 : Int32)) hx hb d_Cr_tell_102 (by decide) ?_
            exact W.zret (v := (1 : Int32)) (ty := .boolean) hx hb hr rfl (fun t ht hW => ⟨⟨(1 : Int32), (fi_99, fl, ai_91, al), rfl, hw, by rw [ht]; exact hP, va_K.moved hW.alike hK, hD⟩, hS.F ht⟩) hS.2.2 d_Cr_tell_103
          · refine lv_if_le (tgt := 72) hx hb d_Cr_tell_37 (by decide) (fun c37 => ?_) (fun c37 => ?_)
            · have hw := zw_ite_t c37 hw
              exact (hj72  hw) H locs ls hP hD hS (lv_sub hl [0, 1, 2] rfl)
            · have hw := zw_ite_f c37 hw
              refine lv_iload_n hx hb d_Cr_tell_40 rfl (lv_at hl 1 rfl) ?_
              refine lv_aload_n hx hb d_Cr_tell_41 rfl (lv_at hl 0 rfl) ?_
              refine va_get (D := (dC, dI)) (ci := 1) (v := .ref (a 2)) (C := R_Cr) (T := T_Cr) (N := 3) hx hb ht in_Cr hown hK hP 1 rfl rfl 0 (by decide) (ht _ kw_26) (fun _ h9 => h9) rfl d_Cr_tell_42 ?_
              refine lv_aload_n hx hb d_Cr_tell_45 rfl (lv_at hl 0 rfl) ?_
              refine va_get (D := (dC, dI)) (ci := 1) (v := .int (fi 1)) (C := R_Cr) (T := T_Cr) (N := 3) hx hb ht in_Cr hown hK hP 1 rfl rfl 2 (by decide) (ht _ kw_28) (fun _ h9 => h9) rfl d_Cr_tell_46 ?_
              refine lv_iconst (v := (1 : Int32)) hx hb d_Cr_tell_49 (by decide) ?_
              refine lv_isub hx hb d_Cr_tell_50 ?_
              obtain ⟨h51, hw⟩ := hw
              refine va_iald (f := ai 2) hx hb hK hP 2 0 rfl rfl h51 d_Cr_tell_51 ?_
              refine lv_icmp_le (tgt := 70) hx hb d_Cr_tell_52 (by decide) (fun c52 => ?_) (fun c52 => ?_)
              · have hw := zw_ite_t c52 hw
                refine lv_iconst (v := (0 : Int32)) hx hb d_Cr_tell_70 (by decide) ?_
                exact W.zret (v := (0 : Int32)) (ty := .boolean) hx hb hr rfl (fun t ht hW => ⟨⟨(0 : Int32), (fi, fl, ai, al), rfl, hw, by rw [ht]; exact hP, va_K.moved hW.alike hK, hD⟩, hS.F ht⟩) hS.2.2 d_Cr_tell_71
              · have hw := zw_ite_f c52 hw
                refine lv_iload_n hx hb d_Cr_tell_55 rfl (lv_at hl 2 rfl) ?_
                refine lv_aload_n hx hb d_Cr_tell_56 rfl (lv_at hl 0 rfl) ?_
                refine va_get (D := (dC, dI)) (ci := 1) (v := .ref (a 3)) (C := R_Cr) (T := T_Cr) (N := 3) hx hb ht in_Cr hown hK hP 1 rfl rfl 1 (by decide) (ht _ kw_27) (fun _ h9 => h9) rfl d_Cr_tell_57 ?_
                refine lv_aload_n hx hb d_Cr_tell_60 rfl (lv_at hl 0 rfl) ?_
                refine va_get (D := (dC, dI)) (ci := 1) (v := .int (fi 1)) (C := R_Cr) (T := T_Cr) (N := 3) hx hb ht in_Cr hown hK hP 1 rfl rfl 2 (by decide) (ht _ kw_28) (fun _ h9 => h9) rfl d_Cr_tell_61 ?_
                refine lv_iconst (v := (1 : Int32)) hx hb d_Cr_tell_64 (by decide) ?_
                refine lv_isub hx hb d_Cr_tell_65 ?_
                obtain ⟨h66, hw⟩ := hw
                refine va_iald (f := ai 3) hx hb hK hP 3 0 rfl rfl h66 d_Cr_tell_66 ?_
                refine lv_icmp_ge (tgt := 72) hx hb d_Cr_tell_67 (by decide) (fun c67 => ?_) (fun c67 => ?_)
                · have hw := zw_ite_t c67 hw
                  exact (hj72  hw) H locs ls hP hD hS (lv_sub hl [0, 1, 2] rfl)
                · have hw := zw_ite_f c67 hw
                  refine lv_iconst (v := (0 : Int32)) hx hb d_Cr_tell_70 (by decide) ?_
                  exact W.zret (v := (0 : Int32)) (ty := .boolean) hx hb hr rfl (fun t ht hW => ⟨⟨(0 : Int32), (fi, fl, ai, al), rfl, hw, by rw [ht]; exact hP, va_K.moved hW.alike hK, hD⟩, hS.F ht⟩) hS.2.2 d_Cr_tell_71
        · have hw := zw_ite_t c28 hw
          refine lv_iconst (v := (0 : Int32)) hx hb d_Cr_tell_31 (by decide) ?_
          exact W.zret (v := (0 : Int32)) (ty := .boolean) hx hb hr rfl (fun t ht hW => ⟨⟨(0 : Int32), (fi, fl, ai, al), rfl, hw, by rw [ht]; exact hP, va_K.moved hW.alike hK, hD⟩, hS.F ht⟩) hS.2.2 d_Cr_tell_32
  rw [hH, hlo] at key
  exact key
end
