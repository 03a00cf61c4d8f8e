section
/-- a private method of a class that the tables say can be made, by its rows of tables_1 -/
def lw_okq (q : MethodName × Nat) : Prop := (q.1.cls ≠ "java/lang/invoke/MethodHandle" ∧ q.1.cls ≠ "java/lang/invoke/VarHandle") ∧ Cond.instantiable q.1.cls q.2 ∈ tables_1 ∧ Cond.privateMethod q.1 ∈ tables_1 ∧ Cond.instanceMethod q.1 ∈ tables_1
theorem lw_p0 : lw_okq (⟨"JointPlans$Scene", "renew", "(II)V"⟩, 5) := ⟨⟨by decide +kernel, by decide +kernel⟩, List.mem_of_getElem? (i := 34) (by decide +kernel), List.mem_of_getElem? (i := 72) (by decide +kernel), List.mem_of_getElem? (i := 73) (by decide +kernel)⟩
theorem lw_p1 : lw_okq (⟨"JointPlans$Floor", "clear", "(II)V"⟩, 7) := ⟨⟨by decide +kernel, by decide +kernel⟩, List.mem_of_getElem? (i := 40) (by decide +kernel), List.mem_of_getElem? (i := 76) (by decide +kernel), List.mem_of_getElem? (i := 77) (by decide +kernel)⟩
theorem lw_p2 : lw_okq (⟨"JointPlans$Floor", "chart", "()V"⟩, 7) := ⟨⟨by decide +kernel, by decide +kernel⟩, List.mem_of_getElem? (i := 40) (by decide +kernel), List.mem_of_getElem? (i := 83) (by decide +kernel), List.mem_of_getElem? (i := 84) (by decide +kernel)⟩
theorem lw_p3 : lw_okq (⟨"JointPlans$Floor", "target", "(II)I"⟩, 7) := ⟨⟨by decide +kernel, by decide +kernel⟩, List.mem_of_getElem? (i := 40) (by decide +kernel), List.mem_of_getElem? (i := 87) (by decide +kernel), List.mem_of_getElem? (i := 88) (by decide +kernel)⟩
theorem lw_p4 : lw_okq (⟨"JointPlans$Floor", "cellAt", "(II)I"⟩, 7) := ⟨⟨by decide +kernel, by decide +kernel⟩, List.mem_of_getElem? (i := 40) (by decide +kernel), List.mem_of_getElem? (i := 98) (by decide +kernel), List.mem_of_getElem? (i := 99) (by decide +kernel)⟩
theorem lw_p5 : lw_okq (⟨"JointPlans$Floor", "isWall", "(I)Z"⟩, 7) := ⟨⟨by decide +kernel, by decide +kernel⟩, List.mem_of_getElem? (i := 40) (by decide +kernel), List.mem_of_getElem? (i := 102) (by decide +kernel), List.mem_of_getElem? (i := 103) (by decide +kernel)⟩
theorem lw_p6 : lw_okq (⟨"JointPlans$Plan", "isMade", "()Z"⟩, 4) := ⟨⟨by decide +kernel, by decide +kernel⟩, List.mem_of_getElem? (i := 192) (by decide +kernel), List.mem_of_getElem? (i := 264) (by decide +kernel), List.mem_of_getElem? (i := 265) (by decide +kernel)⟩
theorem lw_p7 : lw_okq (⟨"java/lang/Throwable", "fillInStackTrace", "(I)Ljava/lang/Throwable;"⟩, 6) := ⟨⟨by decide +kernel, by decide +kernel⟩, List.mem_of_getElem? (i := 322) (by decide +kernel), List.mem_of_getElem? (i := 320) (by decide +kernel), List.mem_of_getElem? (i := 321) (by decide +kernel)⟩
theorem lw_p8 : lw_okq (⟨"JointPlans$Plan", "drop", "()V"⟩, 4) := ⟨⟨by decide +kernel, by decide +kernel⟩, List.mem_of_getElem? (i := 192) (by decide +kernel), List.mem_of_getElem? (i := 353) (by decide +kernel), List.mem_of_getElem? (i := 354) (by decide +kernel)⟩
theorem lw_p9 : lw_okq (⟨"JointPlans$Floor", "build", "(IZ)Z"⟩, 7) := ⟨⟨by decide +kernel, by decide +kernel⟩, List.mem_of_getElem? (i := 40) (by decide +kernel), List.mem_of_getElem? (i := 407) (by decide +kernel), List.mem_of_getElem? (i := 408) (by decide +kernel)⟩
theorem lw_p10 : lw_okq (⟨"JointPlans", "settle", "([IIII)Z"⟩, 5) := ⟨⟨by decide +kernel, by decide +kernel⟩, List.mem_of_getElem? (i := 20) (by decide +kernel), List.mem_of_getElem? (i := 418) (by decide +kernel), List.mem_of_getElem? (i := 419) (by decide +kernel)⟩
theorem lw_p11 : lw_okq (⟨"JointPlans", "needRobot", "(I)V"⟩, 5) := ⟨⟨by decide +kernel, by decide +kernel⟩, List.mem_of_getElem? (i := 20) (by decide +kernel), List.mem_of_getElem? (i := 422) (by decide +kernel), List.mem_of_getElem? (i := 423) (by decide +kernel)⟩
theorem lw_p12 : lw_okq (⟨"JointPlans", "needComplete", "()V"⟩, 5) := ⟨⟨by decide +kernel, by decide +kernel⟩, List.mem_of_getElem? (i := 20) (by decide +kernel), List.mem_of_getElem? (i := 453) (by decide +kernel), List.mem_of_getElem? (i := 454) (by decide +kernel)⟩
theorem lw_p13 : lw_okq (⟨"JointPlans$Scene", "isComplete", "(I)Z"⟩, 5) := ⟨⟨by decide +kernel, by decide +kernel⟩, List.mem_of_getElem? (i := 34) (by decide +kernel), List.mem_of_getElem? (i := 457) (by decide +kernel), List.mem_of_getElem? (i := 458) (by decide +kernel)⟩
theorem lw_p14 : lw_okq (⟨"JointPlans$JointSearch", "placeOf", "([II)I"⟩, 7) := ⟨⟨by decide +kernel, by decide +kernel⟩, List.mem_of_getElem? (i := 155) (by decide +kernel), List.mem_of_getElem? (i := 473) (by decide +kernel), List.mem_of_getElem? (i := 474) (by decide +kernel)⟩
theorem lw_p15 : lw_okq (⟨"JointPlans$JointSearch", "measure", "(II)V"⟩, 7) := ⟨⟨by decide +kernel, by decide +kernel⟩, List.mem_of_getElem? (i := 155) (by decide +kernel), List.mem_of_getElem? (i := 478) (by decide +kernel), List.mem_of_getElem? (i := 479) (by decide +kernel)⟩
def lw_privs_1 : List (MethodName × Nat) := [(⟨"JointPlans$Scene", "renew", "(II)V"⟩, 5), (⟨"JointPlans$Floor", "clear", "(II)V"⟩, 7), (⟨"JointPlans$Floor", "chart", "()V"⟩, 7), (⟨"JointPlans$Floor", "target", "(II)I"⟩, 7), (⟨"JointPlans$Floor", "cellAt", "(II)I"⟩, 7), (⟨"JointPlans$Floor", "isWall", "(I)Z"⟩, 7), (⟨"JointPlans$Plan", "isMade", "()Z"⟩, 4), (⟨"java/lang/Throwable", "fillInStackTrace", "(I)Ljava/lang/Throwable;"⟩, 6), (⟨"JointPlans$Plan", "drop", "()V"⟩, 4), (⟨"JointPlans$Floor", "build", "(IZ)Z"⟩, 7), (⟨"JointPlans", "settle", "([IIII)Z"⟩, 5), (⟨"JointPlans", "needRobot", "(I)V"⟩, 5), (⟨"JointPlans", "needComplete", "()V"⟩, 5), (⟨"JointPlans$Scene", "isComplete", "(I)Z"⟩, 5), (⟨"JointPlans$JointSearch", "placeOf", "([II)I"⟩, 7), (⟨"JointPlans$JointSearch", "measure", "(II)V"⟩, 7)]
theorem lw_r1 : ∀ q ∈ lw_privs_1, lw_okq q := List.forall_mem_cons.mpr ⟨lw_p0, List.forall_mem_cons.mpr ⟨lw_p1, List.forall_mem_cons.mpr ⟨lw_p2, List.forall_mem_cons.mpr ⟨lw_p3, List.forall_mem_cons.mpr ⟨lw_p4, List.forall_mem_cons.mpr ⟨lw_p5, List.forall_mem_cons.mpr ⟨lw_p6, List.forall_mem_cons.mpr ⟨lw_p7, List.forall_mem_cons.mpr ⟨lw_p8, List.forall_mem_cons.mpr ⟨lw_p9, List.forall_mem_cons.mpr ⟨lw_p10, List.forall_mem_cons.mpr ⟨lw_p11, List.forall_mem_cons.mpr ⟨lw_p12, List.forall_mem_cons.mpr ⟨lw_p13, List.forall_mem_cons.mpr ⟨lw_p14, List.forall_mem_cons.mpr ⟨lw_p15, fun _ h => absurd h List.not_mem_nil⟩⟩⟩⟩⟩⟩⟩⟩⟩⟩⟩⟩⟩⟩⟩⟩
theorem lw_p16 : lw_okq (⟨"JointPlans$JointSearch", "reach", "(II)V"⟩, 7) := ⟨⟨by decide +kernel, by decide +kernel⟩, List.mem_of_getElem? (i := 155) (by decide +kernel), List.mem_of_getElem? (i := 483) (by decide +kernel), List.mem_of_getElem? (i := 484) (by decide +kernel)⟩
theorem lw_p17 : lw_okq (⟨"JointPlans$JointSearch", "reachFrom", "(IIII)V"⟩, 7) := ⟨⟨by decide +kernel, by decide +kernel⟩, List.mem_of_getElem? (i := 155) (by decide +kernel), List.mem_of_getElem? (i := 488) (by decide +kernel), List.mem_of_getElem? (i := 489) (by decide +kernel)⟩
theorem lw_p18 : lw_okq (⟨"JointPlans$JointSearch", "reachBefore", "(III)V"⟩, 7) := ⟨⟨by decide +kernel, by decide +kernel⟩, List.mem_of_getElem? (i := 155) (by decide +kernel), List.mem_of_getElem? (i := 492) (by decide +kernel), List.mem_of_getElem? (i := 493) (by decide +kernel)⟩
theorem lw_p19 : lw_okq (⟨"JointPlans$JointSearch", "next", "(III)I"⟩, 7) := ⟨⟨by decide +kernel, by decide +kernel⟩, List.mem_of_getElem? (i := 155) (by decide +kernel), List.mem_of_getElem? (i := 496) (by decide +kernel), List.mem_of_getElem? (i := 497) (by decide +kernel)⟩
theorem lw_p20 : lw_okq (⟨"JointPlans$Floor", "moved", "(II)I"⟩, 7) := ⟨⟨by decide +kernel, by decide +kernel⟩, List.mem_of_getElem? (i := 40) (by decide +kernel), List.mem_of_getElem? (i := 500) (by decide +kernel), List.mem_of_getElem? (i := 501) (by decide +kernel)⟩
theorem lw_p21 : lw_okq (⟨"JointPlans$JointSearch", "stepCost", "(IIII)I"⟩, 7) := ⟨⟨by decide +kernel, by decide +kernel⟩, List.mem_of_getElem? (i := 155) (by decide +kernel), List.mem_of_getElem? (i := 504) (by decide +kernel), List.mem_of_getElem? (i := 505) (by decide +kernel)⟩
theorem lw_p22 : lw_okq (⟨"JointPlans$JointSearch", "fits", "(IIII)Z"⟩, 7) := ⟨⟨by decide +kernel, by decide +kernel⟩, List.mem_of_getElem? (i := 155) (by decide +kernel), List.mem_of_getElem? (i := 511) (by decide +kernel), List.mem_of_getElem? (i := 512) (by decide +kernel)⟩
theorem lw_p23 : lw_okq (⟨"JointPlans$JointSearch", "walk", "(LJointPlans$Plan;I)I"⟩, 7) := ⟨⟨by decide +kernel, by decide +kernel⟩, List.mem_of_getElem? (i := 155) (by decide +kernel), List.mem_of_getElem? (i := 516) (by decide +kernel), List.mem_of_getElem? (i := 517) (by decide +kernel)⟩
theorem lw_p24 : lw_okq (⟨"JointPlans$JointSearch", "note", "(LJointPlans$Plan;II)V"⟩, 7) := ⟨⟨by decide +kernel, by decide +kernel⟩, List.mem_of_getElem? (i := 155) (by decide +kernel), List.mem_of_getElem? (i := 520) (by decide +kernel), List.mem_of_getElem? (i := 521) (by decide +kernel)⟩
theorem lw_p25 : lw_okq (⟨"JointPlans$Plan", "put", "(III)V"⟩, 4) := ⟨⟨by decide +kernel, by decide +kernel⟩, List.mem_of_getElem? (i := 192) (by decide +kernel), List.mem_of_getElem? (i := 524) (by decide +kernel), List.mem_of_getElem? (i := 525) (by decide +kernel)⟩
theorem lw_p26 : lw_okq (⟨"JointPlans$JointSearch", "follow", "(I)I"⟩, 7) := ⟨⟨by decide +kernel, by decide +kernel⟩, List.mem_of_getElem? (i := 155) (by decide +kernel), List.mem_of_getElem? (i := 530) (by decide +kernel), List.mem_of_getElem? (i := 531) (by decide +kernel)⟩
theorem lw_p27 : lw_okq (⟨"JointPlans$JointSearch", "keeps", "(III)Z"⟩, 7) := ⟨⟨by decide +kernel, by decide +kernel⟩, List.mem_of_getElem? (i := 155) (by decide +kernel), List.mem_of_getElem? (i := 534) (by decide +kernel), List.mem_of_getElem? (i := 535) (by decide +kernel)⟩
theorem lw_p28 : lw_okq (⟨"JointPlans$Shuffle", "reset", "()V"⟩, 2) := ⟨⟨by decide +kernel, by decide +kernel⟩, List.mem_of_getElem? (i := 140) (by decide +kernel), List.mem_of_getElem? (i := 544) (by decide +kernel), List.mem_of_getElem? (i := 545) (by decide +kernel)⟩
theorem lw_p29 : lw_okq (⟨"JointPlans$PrioritySearch", "improve", "(LJointPlans$Plan;)V"⟩, 5) := ⟨⟨by decide +kernel, by decide +kernel⟩, List.mem_of_getElem? (i := 186) (by decide +kernel), List.mem_of_getElem? (i := 548) (by decide +kernel), List.mem_of_getElem? (i := 549) (by decide +kernel)⟩
theorem lw_p30 : lw_okq (⟨"JointPlans$PrioritySearch", "tryOrder", "()V"⟩, 5) := ⟨⟨by decide +kernel, by decide +kernel⟩, List.mem_of_getElem? (i := 186) (by decide +kernel), List.mem_of_getElem? (i := 552) (by decide +kernel), List.mem_of_getElem? (i := 553) (by decide +kernel)⟩
theorem lw_p31 : lw_okq (⟨"JointPlans$PrioritySearch", "route", "(I)I"⟩, 5) := ⟨⟨by decide +kernel, by decide +kernel⟩, List.mem_of_getElem? (i := 186) (by decide +kernel), List.mem_of_getElem? (i := 559) (by decide +kernel), List.mem_of_getElem? (i := 560) (by decide +kernel)⟩
def lw_privs_2 : List (MethodName × Nat) := [(⟨"JointPlans$JointSearch", "reach", "(II)V"⟩, 7), (⟨"JointPlans$JointSearch", "reachFrom", "(IIII)V"⟩, 7), (⟨"JointPlans$JointSearch", "reachBefore", "(III)V"⟩, 7), (⟨"JointPlans$JointSearch", "next", "(III)I"⟩, 7), (⟨"JointPlans$Floor", "moved", "(II)I"⟩, 7), (⟨"JointPlans$JointSearch", "stepCost", "(IIII)I"⟩, 7), (⟨"JointPlans$JointSearch", "fits", "(IIII)Z"⟩, 7), (⟨"JointPlans$JointSearch", "walk", "(LJointPlans$Plan;I)I"⟩, 7), (⟨"JointPlans$JointSearch", "note", "(LJointPlans$Plan;II)V"⟩, 7), (⟨"JointPlans$Plan", "put", "(III)V"⟩, 4), (⟨"JointPlans$JointSearch", "follow", "(I)I"⟩, 7), (⟨"JointPlans$JointSearch", "keeps", "(III)Z"⟩, 7), (⟨"JointPlans$Shuffle", "reset", "()V"⟩, 2), (⟨"JointPlans$PrioritySearch", "improve", "(LJointPlans$Plan;)V"⟩, 5), (⟨"JointPlans$PrioritySearch", "tryOrder", "()V"⟩, 5), (⟨"JointPlans$PrioritySearch", "route", "(I)I"⟩, 5)]
theorem lw_r2 : ∀ q ∈ lw_privs_2, lw_okq q := List.forall_mem_cons.mpr ⟨lw_p16, List.forall_mem_cons.mpr ⟨lw_p17, List.forall_mem_cons.mpr ⟨lw_p18, List.forall_mem_cons.mpr ⟨lw_p19, List.forall_mem_cons.mpr ⟨lw_p20, List.forall_mem_cons.mpr ⟨lw_p21, List.forall_mem_cons.mpr ⟨lw_p22, List.forall_mem_cons.mpr ⟨lw_p23, List.forall_mem_cons.mpr ⟨lw_p24, List.forall_mem_cons.mpr ⟨lw_p25, List.forall_mem_cons.mpr ⟨lw_p26, List.forall_mem_cons.mpr ⟨lw_p27, List.forall_mem_cons.mpr ⟨lw_p28, List.forall_mem_cons.mpr ⟨lw_p29, List.forall_mem_cons.mpr ⟨lw_p30, List.forall_mem_cons.mpr ⟨lw_p31, fun _ h => absurd h List.not_mem_nil⟩⟩⟩⟩⟩⟩⟩⟩⟩⟩⟩⟩⟩⟩⟩⟩
theorem lw_p32 : lw_okq (⟨"JointPlans$PrioritySearch", "measure", "(I)V"⟩, 5) := ⟨⟨by decide +kernel, by decide +kernel⟩, List.mem_of_getElem? (i := 186) (by decide +kernel), List.mem_of_getElem? (i := 563) (by decide +kernel), List.mem_of_getElem? (i := 564) (by decide +kernel)⟩
theorem lw_p33 : lw_okq (⟨"JointPlans$PrioritySearch", "leastFrom", "(III)I"⟩, 5) := ⟨⟨by decide +kernel, by decide +kernel⟩, List.mem_of_getElem? (i := 186) (by decide +kernel), List.mem_of_getElem? (i := 568) (by decide +kernel), List.mem_of_getElem? (i := 569) (by decide +kernel)⟩
theorem lw_p34 : lw_okq (⟨"JointPlans$PrioritySearch", "costBy", "(IIII)I"⟩, 5) := ⟨⟨by decide +kernel, by decide +kernel⟩, List.mem_of_getElem? (i := 186) (by decide +kernel), List.mem_of_getElem? (i := 572) (by decide +kernel), List.mem_of_getElem? (i := 573) (by decide +kernel)⟩
theorem lw_p35 : lw_okq (⟨"JointPlans$PrioritySearch", "isBarred", "(III)Z"⟩, 5) := ⟨⟨by decide +kernel, by decide +kernel⟩, List.mem_of_getElem? (i := 186) (by decide +kernel), List.mem_of_getElem? (i := 577) (by decide +kernel), List.mem_of_getElem? (i := 578) (by decide +kernel)⟩
theorem lw_p36 : lw_okq (⟨"JointPlans$PrioritySearch", "follow", "(III)I"⟩, 5) := ⟨⟨by decide +kernel, by decide +kernel⟩, List.mem_of_getElem? (i := 186) (by decide +kernel), List.mem_of_getElem? (i := 583) (by decide +kernel), List.mem_of_getElem? (i := 584) (by decide +kernel)⟩
theorem lw_p37 : lw_okq (⟨"JointPlans$PrioritySearch", "occupy", "(I)V"⟩, 5) := ⟨⟨by decide +kernel, by decide +kernel⟩, List.mem_of_getElem? (i := 186) (by decide +kernel), List.mem_of_getElem? (i := 587) (by decide +kernel), List.mem_of_getElem? (i := 588) (by decide +kernel)⟩
theorem lw_p38 : lw_okq (⟨"JointPlans$Plan", "cellOf", "(II)I"⟩, 4) := ⟨⟨by decide +kernel, by decide +kernel⟩, List.mem_of_getElem? (i := 192) (by decide +kernel), List.mem_of_getElem? (i := 591) (by decide +kernel), List.mem_of_getElem? (i := 592) (by decide +kernel)⟩
theorem lw_p39 : lw_okq (⟨"JointPlans$PrioritySearch", "stepsOfTrial", "()I"⟩, 5) := ⟨⟨by decide +kernel, by decide +kernel⟩, List.mem_of_getElem? (i := 186) (by decide +kernel), List.mem_of_getElem? (i := 596) (by decide +kernel), List.mem_of_getElem? (i := 597) (by decide +kernel)⟩
theorem lw_p40 : lw_okq (⟨"JointPlans$PrioritySearch", "allAtEnds", "(I)Z"⟩, 5) := ⟨⟨by decide +kernel, by decide +kernel⟩, List.mem_of_getElem? (i := 186) (by decide +kernel), List.mem_of_getElem? (i := 600) (by decide +kernel), List.mem_of_getElem? (i := 601) (by decide +kernel)⟩
theorem lw_p41 : lw_okq (⟨"JointPlans$Plan", "copy", "(LJointPlans$Plan;)V"⟩, 4) := ⟨⟨by decide +kernel, by decide +kernel⟩, List.mem_of_getElem? (i := 192) (by decide +kernel), List.mem_of_getElem? (i := 605) (by decide +kernel), List.mem_of_getElem? (i := 606) (by decide +kernel)⟩
theorem lw_p42 : lw_okq (⟨"JointPlans$Shuffle", "draw", "()V"⟩, 2) := ⟨⟨by decide +kernel, by decide +kernel⟩, List.mem_of_getElem? (i := 140) (by decide +kernel), List.mem_of_getElem? (i := 609) (by decide +kernel), List.mem_of_getElem? (i := 610) (by decide +kernel)⟩
theorem lw_p43 : lw_okq (⟨"JointPlans$Shuffle", "exchange", "(II)V"⟩, 2) := ⟨⟨by decide +kernel, by decide +kernel⟩, List.mem_of_getElem? (i := 140) (by decide +kernel), List.mem_of_getElem? (i := 618) (by decide +kernel), List.mem_of_getElem? (i := 619) (by decide +kernel)⟩
theorem lw_p44 : lw_okq (⟨"JointPlans", "needPlan", "()V"⟩, 5) := ⟨⟨by decide +kernel, by decide +kernel⟩, List.mem_of_getElem? (i := 20) (by decide +kernel), List.mem_of_getElem? (i := 632) (by decide +kernel), List.mem_of_getElem? (i := 633) (by decide +kernel)⟩
theorem lw_p45 : lw_okq (⟨"JointPlans$Scene", "way", "(I)I"⟩, 5) := ⟨⟨by decide +kernel, by decide +kernel⟩, List.mem_of_getElem? (i := 34) (by decide +kernel), List.mem_of_getElem? (i := 653) (by decide +kernel), List.mem_of_getElem? (i := 654) (by decide +kernel)⟩
theorem lw_p46 : lw_okq (⟨"JointPlans$Floor", "movesBetween", "(II)I"⟩, 7) := ⟨⟨by decide +kernel, by decide +kernel⟩, List.mem_of_getElem? (i := 40) (by decide +kernel), List.mem_of_getElem? (i := 657) (by decide +kernel), List.mem_of_getElem? (i := 658) (by decide +kernel)⟩
theorem lw_p47 : lw_okq (⟨"JointPlans$Floor", "spread", "(II)I"⟩, 7) := ⟨⟨by decide +kernel, by decide +kernel⟩, List.mem_of_getElem? (i := 40) (by decide +kernel), List.mem_of_getElem? (i := 661) (by decide +kernel), List.mem_of_getElem? (i := 662) (by decide +kernel)⟩
def lw_privs_3 : List (MethodName × Nat) := [(⟨"JointPlans$PrioritySearch", "measure", "(I)V"⟩, 5), (⟨"JointPlans$PrioritySearch", "leastFrom", "(III)I"⟩, 5), (⟨"JointPlans$PrioritySearch", "costBy", "(IIII)I"⟩, 5), (⟨"JointPlans$PrioritySearch", "isBarred", "(III)Z"⟩, 5), (⟨"JointPlans$PrioritySearch", "follow", "(III)I"⟩, 5), (⟨"JointPlans$PrioritySearch", "occupy", "(I)V"⟩, 5), (⟨"JointPlans$Plan", "cellOf", "(II)I"⟩, 4), (⟨"JointPlans$PrioritySearch", "stepsOfTrial", "()I"⟩, 5), (⟨"JointPlans$PrioritySearch", "allAtEnds", "(I)Z"⟩, 5), (⟨"JointPlans$Plan", "copy", "(LJointPlans$Plan;)V"⟩, 4), (⟨"JointPlans$Shuffle", "draw", "()V"⟩, 2), (⟨"JointPlans$Shuffle", "exchange", "(II)V"⟩, 2), (⟨"JointPlans", "needPlan", "()V"⟩, 5), (⟨"JointPlans$Scene", "way", "(I)I"⟩, 5), (⟨"JointPlans$Floor", "movesBetween", "(II)I"⟩, 7), (⟨"JointPlans$Floor", "spread", "(II)I"⟩, 7)]
theorem lw_r3 : ∀ q ∈ lw_privs_3, lw_okq q := List.forall_mem_cons.mpr ⟨lw_p32, List.forall_mem_cons.mpr ⟨lw_p33, List.forall_mem_cons.mpr ⟨lw_p34, List.forall_mem_cons.mpr ⟨lw_p35, List.forall_mem_cons.mpr ⟨lw_p36, List.forall_mem_cons.mpr ⟨lw_p37, List.forall_mem_cons.mpr ⟨lw_p38, List.forall_mem_cons.mpr ⟨lw_p39, List.forall_mem_cons.mpr ⟨lw_p40, List.forall_mem_cons.mpr ⟨lw_p41, List.forall_mem_cons.mpr ⟨lw_p42, List.forall_mem_cons.mpr ⟨lw_p43, List.forall_mem_cons.mpr ⟨lw_p44, List.forall_mem_cons.mpr ⟨lw_p45, List.forall_mem_cons.mpr ⟨lw_p46, List.forall_mem_cons.mpr ⟨lw_p47, fun _ h => absurd h List.not_mem_nil⟩⟩⟩⟩⟩⟩⟩⟩⟩⟩⟩⟩⟩⟩⟩⟩
theorem lw_p48 : lw_okq (⟨"JointPlans$Scene", "allWays", "()I"⟩, 5) := ⟨⟨by decide +kernel, by decide +kernel⟩, List.mem_of_getElem? (i := 34) (by decide +kernel), List.mem_of_getElem? (i := 673) (by decide +kernel), List.mem_of_getElem? (i := 674) (by decide +kernel)⟩
theorem lw_p49 : lw_okq (⟨"JointPlansModel", "fresh", "(II)V"⟩, 17) := ⟨⟨by decide +kernel, by decide +kernel⟩, List.mem_of_getElem? (i := 702) (by decide +kernel), List.mem_of_getElem? (i := 708) (by decide +kernel), List.mem_of_getElem? (i := 709) (by decide +kernel)⟩
theorem lw_p50 : lw_okq (⟨"JointPlansModel", "noCell", "(II)Z"⟩, 17) := ⟨⟨by decide +kernel, by decide +kernel⟩, List.mem_of_getElem? (i := 702) (by decide +kernel), List.mem_of_getElem? (i := 777) (by decide +kernel), List.mem_of_getElem? (i := 778) (by decide +kernel)⟩
theorem lw_p51 : lw_okq (⟨"JointPlansModel", "used", "(I)Z"⟩, 17) := ⟨⟨by decide +kernel, by decide +kernel⟩, List.mem_of_getElem? (i := 702) (by decide +kernel), List.mem_of_getElem? (i := 781) (by decide +kernel), List.mem_of_getElem? (i := 782) (by decide +kernel)⟩
theorem lw_p52 : lw_okq (⟨"JointPlansModel", "put", "([IIII)Z"⟩, 17) := ⟨⟨by decide +kernel, by decide +kernel⟩, List.mem_of_getElem? (i := 702) (by decide +kernel), List.mem_of_getElem? (i := 789) (by decide +kernel), List.mem_of_getElem? (i := 790) (by decide +kernel)⟩
theorem lw_p53 : lw_okq (⟨"JointPlansModel", "missing", "()Z"⟩, 17) := ⟨⟨by decide +kernel, by decide +kernel⟩, List.mem_of_getElem? (i := 702) (by decide +kernel), List.mem_of_getElem? (i := 809) (by decide +kernel), List.mem_of_getElem? (i := 810) (by decide +kernel)⟩
theorem lw_p54 : lw_okq (⟨"JointPlansModel", "jointly", "()V"⟩, 17) := ⟨⟨by decide +kernel, by decide +kernel⟩, List.mem_of_getElem? (i := 702) (by decide +kernel), List.mem_of_getElem? (i := 813) (by decide +kernel), List.mem_of_getElem? (i := 814) (by decide +kernel)⟩
theorem lw_p55 : lw_okq (⟨"JointPlansModel", "goal", "(I)I"⟩, 17) := ⟨⟨by decide +kernel, by decide +kernel⟩, List.mem_of_getElem? (i := 702) (by decide +kernel), List.mem_of_getElem? (i := 818) (by decide +kernel), List.mem_of_getElem? (i := 819) (by decide +kernel)⟩
theorem lw_p56 : lw_okq (⟨"JointPlansModel", "lower", "(II)Z"⟩, 17) := ⟨⟨by decide +kernel, by decide +kernel⟩, List.mem_of_getElem? (i := 702) (by decide +kernel), List.mem_of_getElem? (i := 822) (by decide +kernel), List.mem_of_getElem? (i := 823) (by decide +kernel)⟩
theorem lw_p57 : lw_okq (⟨"JointPlansModel", "outside", "(I)Z"⟩, 17) := ⟨⟨by decide +kernel, by decide +kernel⟩, List.mem_of_getElem? (i := 702) (by decide +kernel), List.mem_of_getElem? (i := 826) (by decide +kernel), List.mem_of_getElem? (i := 827) (by decide +kernel)⟩
theorem lw_p58 : lw_okq (⟨"JointPlansModel", "through", "(IIII)I"⟩, 17) := ⟨⟨by decide +kernel, by decide +kernel⟩, List.mem_of_getElem? (i := 702) (by decide +kernel), List.mem_of_getElem? (i := 830) (by decide +kernel), List.mem_of_getElem? (i := 831) (by decide +kernel)⟩
theorem lw_p59 : lw_okq (⟨"JointPlansModel", "moved", "(II)I"⟩, 17) := ⟨⟨by decide +kernel, by decide +kernel⟩, List.mem_of_getElem? (i := 702) (by decide +kernel), List.mem_of_getElem? (i := 834) (by decide +kernel), List.mem_of_getElem? (i := 835) (by decide +kernel)⟩
theorem lw_p60 : lw_okq (⟨"JointPlansModel", "firstMove", "(II)I"⟩, 17) := ⟨⟨by decide +kernel, by decide +kernel⟩, List.mem_of_getElem? (i := 702) (by decide +kernel), List.mem_of_getElem? (i := 841) (by decide +kernel), List.mem_of_getElem? (i := 842) (by decide +kernel)⟩
theorem lw_p61 : lw_okq (⟨"JointPlansModel", "byPriorities", "(I)V"⟩, 17) := ⟨⟨by decide +kernel, by decide +kernel⟩, List.mem_of_getElem? (i := 702) (by decide +kernel), List.mem_of_getElem? (i := 845) (by decide +kernel), List.mem_of_getElem? (i := 846) (by decide +kernel)⟩
theorem lw_p62 : lw_okq (⟨"JointPlansModel", "draw", "()V"⟩, 17) := ⟨⟨by decide +kernel, by decide +kernel⟩, List.mem_of_getElem? (i := 702) (by decide +kernel), List.mem_of_getElem? (i := 849) (by decide +kernel), List.mem_of_getElem? (i := 850) (by decide +kernel)⟩
theorem lw_p63 : lw_okq (⟨"JointPlansModel", "ways", "()I"⟩, 17) := ⟨⟨by decide +kernel, by decide +kernel⟩, List.mem_of_getElem? (i := 702) (by decide +kernel), List.mem_of_getElem? (i := 857) (by decide +kernel), List.mem_of_getElem? (i := 858) (by decide +kernel)⟩
def lw_privs_4 : List (MethodName × Nat) := [(⟨"JointPlans$Scene", "allWays", "()I"⟩, 5), (⟨"JointPlansModel", "fresh", "(II)V"⟩, 17), (⟨"JointPlansModel", "noCell", "(II)Z"⟩, 17), (⟨"JointPlansModel", "used", "(I)Z"⟩, 17), (⟨"JointPlansModel", "put", "([IIII)Z"⟩, 17), (⟨"JointPlansModel", "missing", "()Z"⟩, 17), (⟨"JointPlansModel", "jointly", "()V"⟩, 17), (⟨"JointPlansModel", "goal", "(I)I"⟩, 17), (⟨"JointPlansModel", "lower", "(II)Z"⟩, 17), (⟨"JointPlansModel", "outside", "(I)Z"⟩, 17), (⟨"JointPlansModel", "through", "(IIII)I"⟩, 17), (⟨"JointPlansModel", "moved", "(II)I"⟩, 17), (⟨"JointPlansModel", "firstMove", "(II)I"⟩, 17), (⟨"JointPlansModel", "byPriorities", "(I)V"⟩, 17), (⟨"JointPlansModel", "draw", "()V"⟩, 17), (⟨"JointPlansModel", "ways", "()I"⟩, 17)]
theorem lw_r4 : ∀ q ∈ lw_privs_4, lw_okq q := List.forall_mem_cons.mpr ⟨lw_p48, List.forall_mem_cons.mpr ⟨lw_p49, List.forall_mem_cons.mpr ⟨lw_p50, List.forall_mem_cons.mpr ⟨lw_p51, List.forall_mem_cons.mpr ⟨lw_p52, List.forall_mem_cons.mpr ⟨lw_p53, List.forall_mem_cons.mpr ⟨lw_p54, List.forall_mem_cons.mpr ⟨lw_p55, List.forall_mem_cons.mpr ⟨lw_p56, List.forall_mem_cons.mpr ⟨lw_p57, List.forall_mem_cons.mpr ⟨lw_p58, List.forall_mem_cons.mpr ⟨lw_p59, List.forall_mem_cons.mpr ⟨lw_p60, List.forall_mem_cons.mpr ⟨lw_p61, List.forall_mem_cons.mpr ⟨lw_p62, List.forall_mem_cons.mpr ⟨lw_p63, fun _ h => absurd h List.not_mem_nil⟩⟩⟩⟩⟩⟩⟩⟩⟩⟩⟩⟩⟩⟩⟩⟩
theorem lw_p64 : lw_okq (⟨"JointPlansModel", "way", "(I)Z"⟩, 17) := ⟨⟨by decide +kernel, by decide +kernel⟩, List.mem_of_getElem? (i := 702) (by decide +kernel), List.mem_of_getElem? (i := 861) (by decide +kernel), List.mem_of_getElem? (i := 862) (by decide +kernel)⟩
theorem lw_p65 : lw_okq (⟨"JointPlansModel", "step", "(IIII)I"⟩, 17) := ⟨⟨by decide +kernel, by decide +kernel⟩, List.mem_of_getElem? (i := 702) (by decide +kernel), List.mem_of_getElem? (i := 865) (by decide +kernel), List.mem_of_getElem? (i := 866) (by decide +kernel)⟩
theorem lw_p66 : lw_okq (⟨"JointPlansModel", "open", "(IIII)Z"⟩, 17) := ⟨⟨by decide +kernel, by decide +kernel⟩, List.mem_of_getElem? (i := 702) (by decide +kernel), List.mem_of_getElem? (i := 869) (by decide +kernel), List.mem_of_getElem? (i := 870) (by decide +kernel)⟩
theorem lw_p67 : lw_okq (⟨"JointPlansModel", "distance", "(I)I"⟩, 17) := ⟨⟨by decide +kernel, by decide +kernel⟩, List.mem_of_getElem? (i := 702) (by decide +kernel), List.mem_of_getElem? (i := 889) (by decide +kernel), List.mem_of_getElem? (i := 890) (by decide +kernel)⟩
theorem lw_p68 : lw_okq (⟨"JointPlansModel", "boundOf", "()I"⟩, 17) := ⟨⟨by decide +kernel, by decide +kernel⟩, List.mem_of_getElem? (i := 702) (by decide +kernel), List.mem_of_getElem? (i := 897) (by decide +kernel), List.mem_of_getElem? (i := 898) (by decide +kernel)⟩
def lw_privs_5 : List (MethodName × Nat) := [(⟨"JointPlansModel", "way", "(I)Z"⟩, 17), (⟨"JointPlansModel", "step", "(IIII)I"⟩, 17), (⟨"JointPlansModel", "open", "(IIII)Z"⟩, 17), (⟨"JointPlansModel", "distance", "(I)I"⟩, 17), (⟨"JointPlansModel", "boundOf", "()I"⟩, 17)]
theorem lw_r5 : ∀ q ∈ lw_privs_5, lw_okq q := List.forall_mem_cons.mpr ⟨lw_p64, List.forall_mem_cons.mpr ⟨lw_p65, List.forall_mem_cons.mpr ⟨lw_p66, List.forall_mem_cons.mpr ⟨lw_p67, List.forall_mem_cons.mpr ⟨lw_p68, fun _ h => absurd h List.not_mem_nil⟩⟩⟩⟩⟩
def lw_privs : List (MethodName × Nat) := lw_privs_1 ++ (lw_privs_2 ++ (lw_privs_3 ++ (lw_privs_4 ++ (lw_privs_5))))
def lw_tbl : List Cond := k2_sels lw_privs ++ tables_1
theorem lw_privs_ok : ∀ q ∈ lw_privs, lw_okq q := by
  show ∀ q ∈ lw_privs_1 ++ (lw_privs_2 ++ (lw_privs_3 ++ (lw_privs_4 ++ (lw_privs_5)))), lw_okq q
  exact List.forall_mem_append.mpr ⟨lw_r1, List.forall_mem_append.mpr ⟨lw_r2, List.forall_mem_append.mpr ⟨lw_r3, List.forall_mem_append.mpr ⟨lw_r4, lw_r5⟩⟩⟩⟩
end
section
/-! ===== BEGIN words of one list among another's, by their places ===== -/
theorem goodIn_r {big : List Cond} (ws : List Cond) (ps : List Nat) (hp : ws = ps.filterMap (fun i => big[i]?)) (h : ws.all goodWord = true) : GoodIn big ws := by
  intro w hw
  have h1 := List.all_eq_true.mp h w hw
  rw [hp] at hw
  obtain ⟨i, -, hi⟩ := List.mem_filterMap.mp hw
  have hm : w ∈ big := by first | exact List.mem_of_getElem? hi | exact List.getElem?_mem hi
  exact ⟨hm, good_of_word h1⟩
theorem goodIn_app {big a b : List Cond} (ha : GoodIn big a) (hb : GoodIn big b) : GoodIn big (a ++ b) := fun w h => (List.mem_append.mp h).elim (ha w) (hb w)
theorem goodIn_ca {big a b : List Cond} {c : Cond} (ha : GoodIn big (c :: a)) (hb : GoodIn big b) : GoodIn big (c :: (a ++ b)) := fun w h => (List.mem_cons.mp h).elim (fun e => ha w (List.mem_cons.mpr (Or.inl e))) (fun h => (List.mem_append.mp h).elim (fun h => ha w (List.mem_cons.mpr (Or.inr h))) (hb w))
theorem goodIn_sub {big ws : List Cond} (hm : ∀ w ∈ ws, w ∈ big) (h : ws.all goodWord = true) : GoodIn big ws := fun w hw => ⟨hm w hw, good_of_word (List.all_eq_true.mp h w hw)⟩
/-! ===== END ===== -/

/-! ===== BEGIN exceptions that leave a method, and their catching by the caller (launches without stack traces) ===== -/
section VXA
/-! The laws vx_back, vx_callV, vx_callS, vx_callSW, vx_throw0, vx_throwS follow proofs of the library, with one case more: JvmDerived/Free/Laws.lean (Back.of_free), Shelf42/LK1.lean (callV, callS), Shelf/KitTraced.lean (throwNew0V, throwNewS). -/
/-- where a method has thrown q: the class by its name, the cell, what was written, the world -/
def vx_T (XC : String → State → State → Prop) (st : State) (q : Addr) (t : State) (mc ms : Nat) (free : Addr → Prop) : Prop :=
  ∃ (E : String) (ce : Cell) (L : List Loc), XC E st t ∧ t.heap[q]? = some ce ∧ ce.vm = .none ∧ st.vm.findClass E = some ce.cls ∧ st.WarmedH t.vm ∧ st.sameButNew ({ t with vm := st.vm } : State) L mc ms ∧ ∀ z ∈ L, free z.base
def vx_Q (Qc : Array Value → State → Outcome → State → Prop) (XC : String → State → State → Prop) (mc ms : Nat) (free : Addr → Prop) : Array Value → State → Outcome → State → Prop := fun a st o t =>
  (Qc a st o t ∧ ∃ L, FrameEnd st o t L mc ms ∧ ∀ q ∈ L, free q.base) ∨ ∃ q, o = .threw q ∧ vx_T XC st q t mc ms free
/-- a callee that returns or throws -/
def vx_Met (l : Launch) (y : MethodName) (ws : List Cond) (rm : Room) (Pc : Array Value → State → Prop) (Qc : Array Value → State → Outcome → State → Prop) (XC : String → State → State → Prop) (mc ms : Nat) (free : Addr → Prop) : Prop :=
  MetFree l y (headSpec ws rm) Pc (fun _ _ _ _ _ => True) (vx_Q Qc XC mc ms free)
def vx_Post (XC : String → State → State → Prop) (mc ms : Nat) (free : Addr → Prop) : Pt → Array Value → Addr → Pt → Prop := fun A a q B =>
  ∃ (g : JFrame) (mk : MethodId) (t : State) (L : List Loc) (E : String) (ce : Cell), B.U.heap = t.heap ∧ B.U.vm = t.vm ∧ XC E (A.U.calling g mk a) t ∧ t.heap[q]? = some ce ∧ ce.vm = .none ∧ A.U.vm.findClass E = some ce.cls ∧ B.locs = A.locs ++ L ∧ (∀ z ∈ L, free z.base) ∧ B.cells = A.cells + mc ∧ B.slots = A.slots + ms
def vx_Back (l : Launch) (R : Room) (p : Program) (e : Env) (below : List Frame) (s : State) (sargs : Array Value) (y : MethodName) (len W9 : Nat)
    (Pre : Pt → Array Value → Prop) (Post : Pt → Array Value → Option Value → Pt → Prop) (PostX : Pt → Array Value → Addr → Pt → Prop) : Prop :=
  ∀ (m : MethodId) (meth : Method) (c : Code) (A : Pt) (g : JFrame) (ig : Instr) (mk : MethodId) (a : Array Value),
    Stand p l e R s m sargs below meth c A.U A.locs A.cells A.slots → g.method = m → g.locals.size = c.maxLocals → decode c.code g.pc = .ok (ig, len) →
    2 * g.monitorRoom + (g.stack.map fun v => v.category).sum ≤ W9 → A.U.methodNamed? y = some mk → Pre A a →
    (∃ (v : Option Value) (B : Pt), Stand p l e R s m sargs below meth c B.U B.locs B.cells B.slots ∧ Post A a v B ∧
      Steps p.tables e below (doInvoke e (A.U.setTop g) [] mk a).1 (B.U.setTop { g with pc := g.pc + len, stack := v.toList ++ g.stack })) ∨
    (∃ (q : Addr) (B : Pt), Stand p l e R s m sargs below meth c B.U B.locs B.cells B.slots ∧ PostX A a q B ∧
      Steps p.tables e below (doInvoke e (A.U.setTop g) [] mk a).1 ((B.U.setTop g).pushFrame (.throwing q)))
section Payer
variable {l : Launch} {R : Room} {p : Program} {e : Env} {below : List Frame} {s : State} {sargs : Array Value} {y : MethodName} {len W9 : Nat}
theorem vx_back {ws : List Cond} {rm : Room} {Pc : Array Value → State → Prop} {Qc : Array Value → State → Outcome → State → Prop} {XC : String → State → State → Prop} {mc ms : Nat} {free : Addr → Prop} {bytes : ByteArray} {maxL : Nat} {ret : Option FieldType}
    (hM : vx_Met l y ws rm Pc Qc XC mc ms free) (hblind : FrameBlind Pc) (hrc : rm.cells = mc) (hrs : rm.slots = ms)
    (hframes : rm.frames + 1 ≤ R.frames) (hlocals : W9 + (maxL + 11) + rm.locals ≤ R.locals)
    (hws : ∀ w ∈ ws, ∀ a' U, s.WarmedH U.vm → w.before a' U = true) (hcode : Cond.code y bytes maxL ret ∈ ws) (hinit : ∀ a' U, s.WarmedH U.vm → (Cond.initialized y.cls).before a' U = true) :
    vx_Back l R p e below s sargs y len W9 (PreOf R mc ms Pc) (PostOf Qc mc ms free) (vx_Post XC mc ms free) := by
  intro m meth c A g ig mk a X hg hsize hdg hW hn hp
  have h1 : (headSpec ws rm).pre.before a A.U = true := atoms_intro fun w hw => hws w hw _ _ X.warmed
  have h2 : (Cond.code y bytes maxL ret).before a A.U = true := hws _ hcode _ _ X.warmed
  have h3 : (Cond.initialized y.cls).before a A.U = true := hinit _ _ X.warmed
  have h4 : A.cells + (headSpec ws rm).room.cells ≤ R.cells := by rw [show (headSpec ws rm).room.cells = mc from hrc]; exact hp.1
  have h5 : A.slots + (headSpec ws rm).room.slots ≤ R.slots := by rw [show (headSpec ws rm).room.slots = ms from hrs]; exact hp.2.1
  have hPc : Pc a (A.U.calling g mk a) := hblind _ _ _ _ hp.2.2
  obtain ⟨U, Ls, c0, s0⟩ := A
  dsimp only [Pt.U, Pt.locs, Pt.cells, Pt.slots] at h1 h2 h3 h4 h5 X hn hPc ⊢
  obtain ⟨methY, cY, hmY, hcY, -, hlY, -, -, -, -⟩ := Cond.code_spec hn h2
  obtain ⟨kY, hkY, -⟩ := className_of_methodNamed hn
  have hinitY : kY.init = .initialized := Cond.initialized_spec (findClass_of_methodNamed hn) hkY h3
  have h : At U g.method c below := by rw [hg]; exact X.here
  have hlocals9 : W9 + (maxL + 11) + (headSpec ws rm).room.locals ≤ R.locals := hlocals
  have happ : (headSpec ws rm).appliesLoose y e.platform (U.calling g mk a) = true :=
    Spec.appliesLoose_calling (g := g) h hdg hn hkY hinitY
      (X.room_calling (g := g) (R' := (headSpec ws rm).room) hsize hmY hcY hframes (by rw [hlY]; omega) h4 h5) h1
  obtain ⟨mid, hmid⟩ := h.above
  have hfr : (U.setTop g).frames = (.java g :: mid) ++ below := by rw [State.frames_setTop' g h.top, hmid]; rfl
  obtain ⟨o, s₂, hsteps, -, hend, hq⟩ := Steps.callFree hM p X.admits X.cas X.clock (acts := []) hfr happ hPc trivial
  have hq' : vx_Q Qc XC mc ms free a (U.calling g mk a) o s₂ := hq
  rw [State.frames_setTop' g h.top] at hend
  obtain ⟨g₀, hg0⟩ := Option.isSome_iff_exists.mp h.top
  obtain ⟨r, hr⟩ := State.topJava?_eq_some.mp hg0
  have hr' : (({ U with heap := s₂.heap, slotsUsed := s₂.slotsUsed } : State).setVm s₂.vm).frames = .java g₀ :: r := hr
  rcases hq' with ⟨hqc, L, hfe, hL⟩ | ⟨q, rfl, E, ce, L, hx, hce, hcv, hcl, hW₂, hsm, hL⟩
  · obtain ⟨⟨v, rfl⟩, hW₂, e2, q2, q3, q4, q5, q6⟩ := id hfe
    have e3 : s₂ = ({ (U.calling g mk a).setFrames s₂.frames with heap := s₂.heap, slotsUsed := s₂.slotsUsed } : State).setVm s₂.vm := by
      have : s₂ = ({ s₂ with vm := (U.calling g mk a).vm } : State).setVm s₂.vm := rfl
      rw [e2] at this
      exact this
    obtain ⟨c₂, i₂, len₂, hc₂, hd₂, hf₂⟩ := hend
    have hW' : U.WarmedH s₂.vm := hW₂
    have hcc : c₂ = c := by
      have h1 : s₂.code? g.method = U.code? g.method := by
        rw [State.code?_eq, State.code?_eq, hW'.alike.method?]
      exact Option.some.inj (hc₂.symm.trans (h1.trans h.code))
    subst hcc
    have hlen : len₂ = len := by rw [hdg] at hd₂; cases hd₂; rfl
    subst hlen
    have hs₂ : s₂ = (({ U with heap := s₂.heap, slotsUsed := s₂.slotsUsed } : State).setVm s₂.vm).setTop { g with pc := g.pc + len₂, stack := v.toList ++ g.stack } := by
      refine e3.trans ?_
      rw [hf₂, State.calling_eq h.top, State.setFrames_setFrames, State.setTop_of_frames _ hr', hr]
      rfl
    have hsame : U.sameButNew ({ U with heap := s₂.heap, slotsUsed := s₂.slotsUsed } : State) L mc ms := by
      refine ⟨?_, q2, q3, q4, q5, q6⟩
      obtain ⟨t, ht, -⟩ := State.frames_cons hr
      show ({ U with heap := s₂.heap, slotsUsed := s₂.slotsUsed } : State) = { U.setFrames U.frames with heap := s₂.heap, slotsUsed := s₂.slotsUsed }
      rw [State.setFrames_self ht]
    subst hg
    refine Or.inl ⟨v, ⟨(({ U with heap := s₂.heap, slotsUsed := s₂.slotsUsed } : State).setVm s₂.vm), Ls ++ L, c0 + mc, s0 + ms⟩,
      ⟨X.admits, X.cas, X.clock, X.frames, X.room, X.hears, X.method, X.code, (X.here.setHeapUsed s₂.heap s₂.slotsUsed).setVm hW'.alike, X.tail, State.WarmedH.trans X.warmed hW', X.limits, X.bytes, X.same.trans (hsame.setVm s.vm)⟩,
      ⟨g, mk, s₂, L, rfl, rfl, hqc, rfl, hL, rfl, rfl⟩, ?_⟩
    show Steps p.tables e below _ ((({ U with heap := s₂.heap, slotsUsed := s₂.slotsUsed } : State).setVm s₂.vm).setTop { g with pc := g.pc + len₂, stack := v.toList ++ g.stack })
    rw [← hs₂]
    exact hsteps
  · obtain ⟨e2, q2, q3, q4, q5, q6⟩ := id hsm
    have e3 : s₂ = ({ (U.calling g mk a).setFrames s₂.frames with heap := s₂.heap, slotsUsed := s₂.slotsUsed } : State).setVm s₂.vm := by
      have : s₂ = ({ s₂ with vm := (U.calling g mk a).vm } : State).setVm s₂.vm := rfl
      rw [e2] at this
      exact this
    have hf₂ : s₂.frames = .throwing q :: .java g :: U.frames.tail := hend
    have hW' : U.WarmedH s₂.vm := hW₂
    have hs₂ : s₂ = ((({ U with heap := s₂.heap, slotsUsed := s₂.slotsUsed } : State).setVm s₂.vm).setTop g).pushFrame (.throwing q) := by
      refine e3.trans ?_
      rw [hf₂, State.calling_eq h.top, State.setFrames_setFrames, State.pushFrame, State.frames_setTop _ hr', State.setTop_of_frames _ hr', State.setFrames_setFrames, hr]
      rfl
    have hsame : U.sameButNew ({ U with heap := s₂.heap, slotsUsed := s₂.slotsUsed } : State) L mc ms := by
      refine ⟨?_, q2, q3, q4, q5, q6⟩
      obtain ⟨t, ht, -⟩ := State.frames_cons hr
      show ({ U with heap := s₂.heap, slotsUsed := s₂.slotsUsed } : State) = { U.setFrames U.frames with heap := s₂.heap, slotsUsed := s₂.slotsUsed }
      rw [State.setFrames_self ht]
    subst hg
    refine Or.inr ⟨q, ⟨(({ U with heap := s₂.heap, slotsUsed := s₂.slotsUsed } : State).setVm s₂.vm), Ls ++ L, c0 + mc, s0 + ms⟩,
      ⟨X.admits, X.cas, X.clock, X.frames, X.room, X.hears, X.method, X.code, (X.here.setHeapUsed s₂.heap s₂.slotsUsed).setVm hW'.alike, X.tail, State.WarmedH.trans X.warmed hW', X.limits, X.bytes, X.same.trans (hsame.setVm s.vm)⟩,
      ⟨g, mk, s₂, L, E, ce, rfl, rfl, hx, hce, hcv, hcl, rfl, hL, rfl, rfl⟩, ?_⟩
    show Steps p.tables e below _ (((({ U with heap := s₂.heap, slotsUsed := s₂.slotsUsed } : State).setVm s₂.vm).setTop g).pushFrame (.throwing q))
    rw [← hs₂]
    exact hsteps
end Payer
section Calls
variable {p : Program} {l : Launch} {e : Env} {R : Room} {s : State} {m : MethodId} {args : Array Value} {below : List Frame} {meth : Method} {c : Code} {T : State} {locs : List Loc} {cells slots : Nat}
theorem vx_callV (X : Stand p l e R s m args below meth c T locs cells slots) (hexec : p.tables.exec = Jvm.exec) {own C : String} {index : Nat} {y : MethodName} {bytes : ByteArray} {maxL : Nat} {ret : Option FieldType}
    (hown : s.vm.findClass own = some m.cls) (hlink : (Cond.methodLink own index y).before args s = true) (hinst : (Cond.instanceMethod y).before args s = true) (hsel : (Cond.selects C y y).before args s = true)
    (hcode : (Cond.code y bytes maxL ret).before args s = true) (hy : y.cls ≠ "java/lang/invoke/MethodHandle" ∧ y.cls ≠ "java/lang/invoke/VarHandle")
    {W9 : Nat} {Pre : Pt → Array Value → Prop} {Post : Pt → Array Value → Option Value → Pt → Prop} {PostX : Pt → Array Value → Addr → Pt → Prop} (hK : vx_Back l R p e below s args y 3 W9 Pre Post PostX)
    {b : Addr} {cellB : Cell} (hcell : T.heap[b]? = some cellB) (hobj : cellB.vm.isStatics = false) (hcls : s.vm.findClass C = some cellB.cls)
    {g : JFrame} (hg : g.method = m) (hsize : g.locals.size = c.maxLocals) {argsL rest : List Value} (hlen : ∀ sig, parseMethodDescriptor y.desc = some sig → argsL.length = sig.parameters.length)
    (hstack : g.stack = argsL.reverse ++ .ref b :: rest) (hW : 2 * g.monitorRoom + (rest.map fun v => v.category).sum ≤ W9) (hdg : decode c.code g.pc = .ok (.invokevirtual index, 3))
    (hpre : ∀ vm₁, s.WarmedH vm₁ → Pre ⟨T.setVm vm₁, locs, cells, slots⟩ (Value.ref b :: argsL).toArray) :
    (∃ (v : Option Value) (vm₁ : Vm) (B : Pt), s.WarmedH vm₁ ∧ Stand p l e R s m args below meth c B.U B.locs B.cells B.slots ∧ Post ⟨T.setVm vm₁, locs, cells, slots⟩ (Value.ref b :: argsL).toArray v B ∧
      ∀ target, Steps p.tables e below (B.U.setTop { g with pc := g.pc + 3, stack := v.toList ++ rest }) target → Steps p.tables e below (T.setTop g) target) ∨
    (∃ (q : Addr) (vm₁ : Vm) (B : Pt), s.WarmedH vm₁ ∧ Stand p l e R s m args below meth c B.U B.locs B.cells B.slots ∧ PostX ⟨T.setVm vm₁, locs, cells, slots⟩ (Value.ref b :: argsL).toArray q B ∧
      Steps p.tables e below (T.setTop g) ((B.U.setTop { g with stack := rest }).pushFrame (.throwing q))) := by
  obtain ⟨mk, methM, hnamed, hmethM, hstM, habM⟩ := Cond.instanceMethod_spec hinst
  obtain ⟨methM', cM, hmethM', -, -, -, -, -, -, hsigM⟩ := Cond.code_spec hnamed hcode
  cases hmethM.symm.trans hmethM'
  obtain ⟨c2, r2, m2, q1, q2, q3, q4, kP, hkP, hkPi⟩ := Cond.selects_spec hsel
  cases hcls.symm.trans q1
  cases (State.methodFound?_of_named hnamed hy).symm.trans q2
  cases hnamed.symm.trans q3
  have hselP : selectMethod e.platform s.vm cellB.cls mk = .method mk := by rw [Launch.admits_selectMethod X.admits]; exact q4
  obtain ⟨vm₁, X₁, hstep₁⟩ := X.invokevirtual hexec hown hlink hnamed hmethM hstM hkP hkPi hy (a := b) (cell := cellB) hcell
    (fun z h => by rw [h] at hobj; cases hobj) hselP hmethM habM hkP hkPi (g := g) hg (argsL := argsL) (rest := rest) (hlen _ hsigM) hstack hdg
  rcases hK m meth c ⟨T.setVm vm₁, locs, cells, slots⟩ { g with stack := rest } (.invokevirtual index) mk (Value.ref b :: argsL).toArray X₁ hg hsize hdg hW (X₁.named hnamed) (hpre vm₁ X₁.warmed) with ⟨v, B, X', hpost, hsteps⟩ | ⟨q, B, X', hpost, hsteps⟩
  · exact Or.inl ⟨v, vm₁, B, X₁.warmed, X', hpost, fun target h => hstep₁ _ fun acts => by rw [doInvoke_state]; exact hsteps.trans h⟩
  · exact Or.inr ⟨q, vm₁, B, X₁.warmed, X', hpost, hstep₁ _ fun acts => by rw [doInvoke_state]; exact hsteps⟩
theorem vx_callS (X : Stand p l e R s m args below meth c T locs cells slots) (hexec : p.tables.exec = Jvm.exec) {own : String} {index : Nat} {y : MethodName} {bytes : ByteArray} {maxL : Nat} {ret : Option FieldType}
    (hown : s.vm.findClass own = some m.cls) (hlink : (Cond.methodLink own index y).before args s = true) (hstat : (Cond.static y).before args s = true) (hinit : (Cond.initialized y.cls).before args s = true)
    (hcode : (Cond.code y bytes maxL ret).before args s = true) (hy : y.cls ≠ "java/lang/invoke/MethodHandle" ∧ y.cls ≠ "java/lang/invoke/VarHandle")
    {W9 : Nat} {Pre : Pt → Array Value → Prop} {Post : Pt → Array Value → Option Value → Pt → Prop} {PostX : Pt → Array Value → Addr → Pt → Prop} (hK : vx_Back l R p e below s args y 3 W9 Pre Post PostX)
    {g : JFrame} (hg : g.method = m) (hsize : g.locals.size = c.maxLocals) {argsL rest : List Value} (hlen : ∀ sig, parseMethodDescriptor y.desc = some sig → argsL.length = sig.parameters.length)
    (hstack : g.stack = argsL.reverse ++ rest) (hW : 2 * g.monitorRoom + (rest.map fun v => v.category).sum ≤ W9) (hdg : decode c.code g.pc = .ok (.invokestatic index, 3))
    (hpre : ∀ vm₁, s.WarmedH vm₁ → Pre ⟨T.setVm vm₁, locs, cells, slots⟩ argsL.toArray) :
    (∃ (v : Option Value) (vm₁ : Vm) (B : Pt), s.WarmedH vm₁ ∧ Stand p l e R s m args below meth c B.U B.locs B.cells B.slots ∧ Post ⟨T.setVm vm₁, locs, cells, slots⟩ argsL.toArray v B ∧
      ∀ target, Steps p.tables e below (B.U.setTop { g with pc := g.pc + 3, stack := v.toList ++ rest }) target → Steps p.tables e below (T.setTop g) target) ∨
    (∃ (q : Addr) (vm₁ : Vm) (B : Pt), s.WarmedH vm₁ ∧ Stand p l e R s m args below meth c B.U B.locs B.cells B.slots ∧ PostX ⟨T.setVm vm₁, locs, cells, slots⟩ argsL.toArray q B ∧
      Steps p.tables e below (T.setTop g) ((B.U.setTop { g with stack := rest }).pushFrame (.throwing q))) := by
  obtain ⟨mk, hnamed⟩ := Cond.code_named hcode
  obtain ⟨methM, cM, hmethM, -, -, -, -, -, -, hsigM⟩ := Cond.code_spec hnamed hcode
  have hstatic : methM.isStatic = true := Cond.static_spec hnamed hmethM hstat
  obtain ⟨kP, hkP, -⟩ := className_of_methodNamed hnamed
  have hinitP : kP.init = .initialized := Cond.initialized_spec (findClass_of_methodNamed hnamed) hkP hinit
  obtain ⟨vm₁, X₁, hstep₁⟩ := X.invokestatic hexec hown hlink hnamed hmethM hstatic hkP hinitP hy (g := g) hg (argsL := argsL) (rest := rest) (hlen _ hsigM) hstack hdg
  rcases hK m meth c ⟨T.setVm vm₁, locs, cells, slots⟩ { g with stack := rest } (.invokestatic index) mk argsL.toArray X₁ hg hsize hdg hW (X₁.named hnamed) (hpre vm₁ X₁.warmed) with ⟨v, B, X', hpost, hsteps⟩ | ⟨q, B, X', hpost, hsteps⟩
  · exact Or.inl ⟨v, vm₁, B, X₁.warmed, X', hpost, fun target h => hstep₁ _ fun acts => by rw [doInvoke_state]; exact hsteps.trans h⟩
  · exact Or.inr ⟨q, vm₁, B, X₁.warmed, X', hpost, hstep₁ _ fun acts => by rw [doInvoke_state]; exact hsteps⟩
end Calls
theorem vx_cls {s : State} {T : State} {vm₁ : Vm} {E : String} {k : ClassId} (hW : s.WarmedH vm₁) (h : (T.setVm vm₁).vm.findClass E = some k) : s.vm.findClass E = some k := by
  have h1 : vm₁.findClass E = some k := h
  rw [hW.alike.findClass] at h1
  exact h1
/-- the method's frame g, with q thrown over it -/
def vx_W (p : Program) (l : Launch) (e : Env) (R : Room) (s : State) (m : MethodId) (args : Array Value) (below : List Frame) (meth : Method) (c : Code) (H : Heap) (locs : List Loc) (cells slots : Nat) (Q : State → Prop) (g : JFrame) (q : Addr) : Prop :=
  ∀ T : State, T.heap = H → Stand p l e R s m args below meth c T locs cells slots → ∃ t, Steps p.tables e below ((T.setTop g).pushFrame (.throwing q)) t ∧ Q t
def vx_Run (p : Program) (l : Launch) (e : Env) (R : Room) (s : State) (m : MethodId) (args : Array Value) (below : List Frame) (meth : Method) (c : Code) (H : Heap) (locs : List Loc) (cells slots mc ms : Nat) (g : JFrame) (rest : List Value) (Qa : State → Outcome → State → Prop) (XC : String → State → State → Prop) (free : Addr → Prop) : Prop :=
  ∀ T : State, T.heap = H → Stand p l e R s m args below meth c T locs cells slots →
    (∃ (v : Option Value) (st₀ t T' : State) (L : List Loc), st₀.heap = H ∧ Stand p l e R s m args below meth c T' (locs ++ L) (cells + mc) (slots + ms) ∧ (∀ q ∈ L, free q.base) ∧ T'.heap = t.heap ∧ T'.vm = t.vm ∧ Qa st₀ (.returned v) t ∧
      Goes p e below T g T' { g with pc := g.pc + 3, stack := v.toList ++ rest }) ∨
    (∃ (q : Addr) (st₀ t T' : State) (L : List Loc) (E : String) (ce : Cell), st₀.heap = H ∧ Stand p l e R s m args below meth c T' (locs ++ L) (cells + mc) (slots + ms) ∧ (∀ z ∈ L, free z.base) ∧ T'.heap = t.heap ∧ T'.vm = t.vm ∧ XC E st₀ t ∧ t.heap[q]? = some ce ∧ ce.vm = .none ∧ s.vm.findClass E = some ce.cls ∧
      Steps p.tables e below (T.setTop g) ((T'.setTop { g with stack := rest }).pushFrame (.throwing q)))
def vx_X {S : Type} (px : S → Prop) (B : String → S → State → Prop) (A : Nat → Prop) : String → State → State → Prop := fun E st t => ∃ u : S, px u ∧ B E u t ∧ va_F A st t
section Runs
variable {p : Program} {l : Launch} {e : Env} {R : Room} {s : State} {m : MethodId} {args : Array Value} {below : List Frame} {meth : Method} {c : Code} {H : Heap} {locs : List Loc} {cells slots : Nat}
variable {y : MethodName} {bytes cc : ByteArray} {maxL nL mc ms n index : Nat} {ret : Option FieldType} {ws : List Cond} {rm : Room} {Pc : Array Value → State → Prop} {Qc : Array Value → State → Outcome → State → Prop} {XC : String → State → State → Prop} {free : Addr → Prop} {Ts : List Cond} {own C : String} {b : Addr} {As rest : List Value} {g : JFrame}
theorem vx_callBack (cb : CallB R s args own index y bytes maxL ret ws rm mc ms n) (hM : vx_Met l y ws rm Pc Qc XC mc ms free) (hbl : FrameBlind Pc) : vx_Back l R p e below s args y 3 8 (PreOf R mc ms Pc) (PostOf Qc mc ms free) (vx_Post XC mc ms free) := by
  obtain ⟨hrc, hrs, hfr, hlo, hws, hcw, -, hini, -⟩ := cb
  exact vx_back (bytes := bytes) (maxL := maxL) (ret := ret) hM hbl hrc hrs hfr hlo hws hcw (fun a' U hW => word_at hW (Or.inl (by first | rfl | simp [Cond.onTables, Cond.keeps, Cond.steady])) hini)
theorem vx_runV (S : CallFix p m c cc nL s args Ts own) (hM : vx_Met l y ws rm Pc Qc XC mc ms free) (cw : CallW R s args own C index y bytes maxL ret ws rm mc ms n) (hp : PreV s H C b Pc As)
    (hg : g.method = m) (hn : As.length = n) (hsize : g.locals.size = nL) (hstack : g.stack = As.reverse ++ .ref b :: rest) (hW : 2 * g.monitorRoom + (rest.map fun v => v.category).sum ≤ 8) (hdg : decode cc g.pc = .ok (.invokevirtual index, 3)) (hf : cells + mc ≤ R.cells ∧ slots + ms ≤ R.slots) :
    vx_Run p l e R s m args below meth c H locs cells slots mc ms g rest (Qc (Value.ref b :: As).toArray) XC free := by
  have hK : vx_Back l R p e below s args y 3 8 (PreOf R mc ms Pc) (PostOf Qc mc ms free) (vx_Post XC mc ms free) := vx_callBack cw.1 hM hp.1
  obtain ⟨⟨-, -, -, -, -, -, hcode, -, hy, hlen, hl⟩, hin, hse⟩ := cw
  obtain ⟨hx, hb, hml, ho, -⟩ := S
  obtain ⟨-, ⟨cellB, hcB, hoB, hclB⟩, hPc⟩ := hp
  intro T hT X
  rcases vx_callV X hx (C := C) (bytes := bytes) (maxL := maxL) (ret := ret) ho hl hin hse hcode hy hK (by rw [hT]; exact hcB) hoB hclB hg (hsize.trans hml.symm) (argsL := As) (rest := rest) (fun sig h => hn.trans (hlen sig h)) hstack hW (by rw [hb]; exact hdg)
    (fun vm₁ hW₁ => ⟨hf.1, hf.2, hPc (T.setVm vm₁) hT hW₁⟩) with ⟨v, vm₁, ⟨U', l2, c2, s2⟩, hW₁, X', ⟨g', mk, t, L, e1, e2, hq, h1, hL, h2, h3⟩, st⟩ | ⟨q, vm₁, ⟨U', l2, c2, s2⟩, hW₁, X', ⟨g', mk, t, L, E, ce, e1, e2, hq, hce, hcv, hcl, h1, hL, h2, h3⟩, st⟩
  · dsimp only [Pt.U, Pt.locs, Pt.cells, Pt.slots] at X' e1 e2 h1 h2 h3 st
    subst h1; subst h2; subst h3
    exact Or.inl ⟨v, (T.setVm vm₁).calling g' mk (Value.ref b :: As).toArray, t, U', L, hT, X', hL, e1, e2, hq, st⟩
  · dsimp only [Pt.U, Pt.locs, Pt.cells, Pt.slots] at X' e1 e2 h1 h2 h3 st hcl
    subst h1; subst h2; subst h3
    exact Or.inr ⟨q, (T.setVm vm₁).calling g' mk (Value.ref b :: As).toArray, t, U', L, E, ce, hT, X', hL, e1, e2, hq, hce, hcv, vx_cls hW₁ hcl, st⟩
theorem vx_runS (S : CallFix p m c cc nL s args Ts own) (hM : vx_Met l y ws rm Pc Qc XC mc ms free) (cw : CallB R s args own index y bytes maxL ret ws rm mc ms n ∧ (Cond.static y).before args s = true) (hp : PreS s H Pc As)
    (hg : g.method = m) (hn : As.length = n) (hsize : g.locals.size = nL) (hstack : g.stack = As.reverse ++ rest) (hW : 2 * g.monitorRoom + (rest.map fun v => v.category).sum ≤ 8) (hdg : decode cc g.pc = .ok (.invokestatic index, 3)) (hf : cells + mc ≤ R.cells ∧ slots + ms ≤ R.slots) :
    vx_Run p l e R s m args below meth c H locs cells slots mc ms g rest (Qc As.toArray) XC free := by
  have hK : vx_Back l R p e below s args y 3 8 (PreOf R mc ms Pc) (PostOf Qc mc ms free) (vx_Post XC mc ms free) := vx_callBack cw.1 hM hp.1
  obtain ⟨⟨-, -, -, -, -, -, hcode, hini, hy, hlen, hl⟩, hstt⟩ := cw
  obtain ⟨hx, hb, hml, ho, -⟩ := S
  intro T hT X
  rcases vx_callS X hx (bytes := bytes) (maxL := maxL) (ret := ret) ho hl hstt hini hcode hy hK hg (hsize.trans hml.symm) (argsL := As) (rest := rest) (fun sig h => hn.trans (hlen sig h)) hstack hW (by rw [hb]; exact hdg)
    (fun vm₁ hW₁ => ⟨hf.1, hf.2, hp.2 (T.setVm vm₁) hT hW₁⟩) with ⟨v, vm₁, ⟨U', l2, c2, s2⟩, hW₁, X', ⟨g', mk, t, L, e1, e2, hq, h1, hL, h2, h3⟩, st⟩ | ⟨q, vm₁, ⟨U', l2, c2, s2⟩, hW₁, X', ⟨g', mk, t, L, E, ce, e1, e2, hq, hce, hcv, hcl, h1, hL, h2, h3⟩, st⟩
  · dsimp only [Pt.U, Pt.locs, Pt.cells, Pt.slots] at X' e1 e2 h1 h2 h3 st
    subst h1; subst h2; subst h3
    exact Or.inl ⟨v, (T.setVm vm₁).calling g' mk As.toArray, t, U', L, hT, X', hL, e1, e2, hq, st⟩
  · dsimp only [Pt.U, Pt.locs, Pt.cells, Pt.slots] at X' e1 e2 h1 h2 h3 st hcl
    subst h1; subst h2; subst h3
    exact Or.inr ⟨q, (T.setVm vm₁).calling g' mk As.toArray, t, U', L, E, ce, hT, X', hL, e1, e2, hq, hce, hcv, vx_cls hW₁ hcl, st⟩
end Runs
section Rows
variable {p : Program} {l : Launch} {e : Env} {R : Room} {s : State} {m : MethodId} {args : Array Value} {below : List Frame} {meth : Method} {c : Code} {H : Heap} {locs : List Loc} {cells slots : Nat} {Q : State → Prop}
variable {mc ms : Nat} {free : Addr → Prop} {A0 A1 : Nat → Prop} {H0 : Heap} {a : Array Value} {pc : Nat} {ls : Array Slot} {st0 rest : List Value}
theorem vx_keep {st₀ t T' : State} {L : List Loc} (h0 : st₀.heap = H) (e1 : T'.heap = t.heap) (hS : va_S A0 H0 H locs) (hA : ∀ q, q < H.size → A1 q → A0 q) (hf : ∀ q, free q → A0 q) (hL : ∀ q ∈ L, free q.base) (hF : va_F A1 st₀ t) :
    H.size ≤ T'.heap.size ∧ (∀ q : Nat, q < H.size → ¬ A1 q → T'.heap[q]? = H[q]?) ∧ va_S A0 H0 T'.heap (locs ++ L) := by
  obtain ⟨hz, hk⟩ := hF
  rw [h0] at hz hk
  exact ⟨by rw [e1]; exact hz, fun q h1 h2 => by rw [e1]; exact hk q h1 h2,
    ⟨Nat.le_trans hS.1 (by rw [e1]; exact hz), fun q h1 h2 => by rw [e1, hk q (Nat.lt_of_lt_of_le h1 hS.1) (fun z => h2 (hA q (Nat.lt_of_lt_of_le h1 hS.1) z))]; exact hS.2.1 q h1 h2, fun q hq => by
      rcases List.mem_append.mp hq with h | h
      · exact hS.2.2 q h
      · exact hf _ (hL q h)⟩⟩
theorem vx_calli {S SX : Type} {post : Int32 → S → Prop} {px : SX → Prop} {B : S → State → Prop} {BX : String → SX → State → Prop} {AX : Nat → Prop} (hr : vx_Run p l e R s m args below meth c H locs cells slots mc ms (F0 m pc ls st0) rest (va_Qi post B A1 a) (vx_X px BX AX) free) (hS : va_S A0 H0 H locs) (hA : ∀ q, q < H.size → A1 q → A0 q) (hf : ∀ q, free q → A0 q) (hAX : ∀ q, q < H.size → AX q → A0 q)
    (kx : ∀ (E : String) (ce : Cell) (q9 : Addr) (u : SX) (t : State) (H1 : Heap) (locs1 : List Loc), t.heap = H1 → s.vm.Alike t.vm → px u → BX E u t → H.size ≤ H1.size → (∀ q : Nat, q < H.size → ¬ AX q → H1[q]? = H[q]?) → va_S A0 H0 H1 locs1 → H1[q9]? = some ce → ce.vm = .none → s.vm.findClass E = some ce.cls → vx_W p l e R s m args below meth c H1 locs1 (cells + mc) (slots + ms) Q (F0 m pc ls rest) q9)
    (kk : ∀ (r : Int32) (u : S) (t : State) (H1 : Heap) (locs1 : List Loc), t.heap = H1 → s.vm.Alike t.vm → post r u → B u t → H.size ≤ H1.size → (∀ q : Nat, q < H.size → ¬ A1 q → H1[q]? = H[q]?) → va_S A0 H0 H1 locs1 → W p l e R s m args below meth c H1 locs1 (cells + mc) (slots + ms) Q (F0 m (pc + 3) ls (.int r :: rest))) : W p l e R s m args below meth c H locs cells slots Q (F0 m pc ls st0) := by
  intro T hT X
  rcases hr T hT X with ⟨v, st₀, t, T', L, h0, X', hL, e1, e2, ⟨⟨r, u, hv, hp, hb⟩, hF⟩, st⟩ | ⟨q, st₀, t, T', L, E, ce, h0, X', hL, e1, e2, ⟨u, hp, hb, hF⟩, hce, hcv, hcl, st⟩
  · cases hv
    obtain ⟨k1, k2, k3⟩ := vx_keep h0 e1 hS hA hf hL hF
    obtain ⟨t2, a1, b1⟩ := kk r u t T'.heap (locs ++ L) e1.symm (by rw [← e2]; exact X'.warmed.alike) hp hb k1 k2 k3 T' rfl X'
    exact ⟨t2, st t2 a1, b1⟩
  · obtain ⟨k1, k2, k3⟩ := vx_keep h0 e1 hS hAX hf hL hF
    obtain ⟨t2, a1, b1⟩ := kx E ce q u t T'.heap (locs ++ L) e1.symm (by rw [← e2]; exact X'.warmed.alike) hp hb k1 k2 k3 (by rw [e1]; exact hce) hcv hcl T' rfl X'
    exact ⟨t2, st.trans a1, b1⟩
theorem vx_calll {S SX : Type} {post : Int64 → S → Prop} {px : SX → Prop} {B : S → State → Prop} {BX : String → SX → State → Prop} {AX : Nat → Prop} (hr : vx_Run p l e R s m args below meth c H locs cells slots mc ms (F0 m pc ls st0) rest (va_Ql post B A1 a) (vx_X px BX AX) free) (hS : va_S A0 H0 H locs) (hA : ∀ q, q < H.size → A1 q → A0 q) (hf : ∀ q, free q → A0 q) (hAX : ∀ q, q < H.size → AX q → A0 q)
    (kx : ∀ (E : String) (ce : Cell) (q9 : Addr) (u : SX) (t : State) (H1 : Heap) (locs1 : List Loc), t.heap = H1 → s.vm.Alike t.vm → px u → BX E u t → H.size ≤ H1.size → (∀ q : Nat, q < H.size → ¬ AX q → H1[q]? = H[q]?) → va_S A0 H0 H1 locs1 → H1[q9]? = some ce → ce.vm = .none → s.vm.findClass E = some ce.cls → vx_W p l e R s m args below meth c H1 locs1 (cells + mc) (slots + ms) Q (F0 m pc ls rest) q9)
    (kk : ∀ (r : Int64) (u : S) (t : State) (H1 : Heap) (locs1 : List Loc), t.heap = H1 → s.vm.Alike t.vm → post r u → B u t → H.size ≤ H1.size → (∀ q : Nat, q < H.size → ¬ A1 q → H1[q]? = H[q]?) → va_S A0 H0 H1 locs1 → W p l e R s m args below meth c H1 locs1 (cells + mc) (slots + ms) Q (F0 m (pc + 3) ls (.long r :: rest))) : W p l e R s m args below meth c H locs cells slots Q (F0 m pc ls st0) := by
  intro T hT X
  rcases hr T hT X with ⟨v, st₀, t, T', L, h0, X', hL, e1, e2, ⟨⟨r, u, hv, hp, hb⟩, hF⟩, st⟩ | ⟨q, st₀, t, T', L, E, ce, h0, X', hL, e1, e2, ⟨u, hp, hb, hF⟩, hce, hcv, hcl, st⟩
  · cases hv
    obtain ⟨k1, k2, k3⟩ := vx_keep h0 e1 hS hA hf hL hF
    obtain ⟨t2, a1, b1⟩ := kk r u t T'.heap (locs ++ L) e1.symm (by rw [← e2]; exact X'.warmed.alike) hp hb k1 k2 k3 T' rfl X'
    exact ⟨t2, st t2 a1, b1⟩
  · obtain ⟨k1, k2, k3⟩ := vx_keep h0 e1 hS hAX hf hL hF
    obtain ⟨t2, a1, b1⟩ := kx E ce q u t T'.heap (locs ++ L) e1.symm (by rw [← e2]; exact X'.warmed.alike) hp hb k1 k2 k3 (by rw [e1]; exact hce) hcv hcl T' rfl X'
    exact ⟨t2, st.trans a1, b1⟩
theorem vx_callf {S SX : Type} {post : UInt32 → S → Prop} {px : SX → Prop} {B : S → State → Prop} {BX : String → SX → State → Prop} {AX : Nat → Prop} (hr : vx_Run p l e R s m args below meth c H locs cells slots mc ms (F0 m pc ls st0) rest (va_Qf post B A1 a) (vx_X px BX AX) free) (hS : va_S A0 H0 H locs) (hA : ∀ q, q < H.size → A1 q → A0 q) (hf : ∀ q, free q → A0 q) (hAX : ∀ q, q < H.size → AX q → A0 q)
    (kx : ∀ (E : String) (ce : Cell) (q9 : Addr) (u : SX) (t : State) (H1 : Heap) (locs1 : List Loc), t.heap = H1 → s.vm.Alike t.vm → px u → BX E u t → H.size ≤ H1.size → (∀ q : Nat, q < H.size → ¬ AX q → H1[q]? = H[q]?) → va_S A0 H0 H1 locs1 → H1[q9]? = some ce → ce.vm = .none → s.vm.findClass E = some ce.cls → vx_W p l e R s m args below meth c H1 locs1 (cells + mc) (slots + ms) Q (F0 m pc ls rest) q9)
    (kk : ∀ (r : UInt32) (u : S) (t : State) (H1 : Heap) (locs1 : List Loc), t.heap = H1 → s.vm.Alike t.vm → post r u → B u t → H.size ≤ H1.size → (∀ q : Nat, q < H.size → ¬ A1 q → H1[q]? = H[q]?) → va_S A0 H0 H1 locs1 → W p l e R s m args below meth c H1 locs1 (cells + mc) (slots + ms) Q (F0 m (pc + 3) ls (.float r :: rest))) : W p l e R s m args below meth c H locs cells slots Q (F0 m pc ls st0) := by
  intro T hT X
  rcases hr T hT X with ⟨v, st₀, t, T', L, h0, X', hL, e1, e2, ⟨⟨r, u, hv, hp, hb⟩, hF⟩, st⟩ | ⟨q, st₀, t, T', L, E, ce, h0, X', hL, e1, e2, ⟨u, hp, hb, hF⟩, hce, hcv, hcl, st⟩
  · cases hv
    obtain ⟨k1, k2, k3⟩ := vx_keep h0 e1 hS hA hf hL hF
    obtain ⟨t2, a1, b1⟩ := kk r u t T'.heap (locs ++ L) e1.symm (by rw [← e2]; exact X'.warmed.alike) hp hb k1 k2 k3 T' rfl X'
    exact ⟨t2, st t2 a1, b1⟩
  · obtain ⟨k1, k2, k3⟩ := vx_keep h0 e1 hS hAX hf hL hF
    obtain ⟨t2, a1, b1⟩ := kx E ce q u t T'.heap (locs ++ L) e1.symm (by rw [← e2]; exact X'.warmed.alike) hp hb k1 k2 k3 (by rw [e1]; exact hce) hcv hcl T' rfl X'
    exact ⟨t2, st.trans a1, b1⟩
theorem vx_calld {S SX : Type} {post : UInt64 → S → Prop} {px : SX → Prop} {B : S → State → Prop} {BX : String → SX → State → Prop} {AX : Nat → Prop} (hr : vx_Run p l e R s m args below meth c H locs cells slots mc ms (F0 m pc ls st0) rest (va_Qd post B A1 a) (vx_X px BX AX) free) (hS : va_S A0 H0 H locs) (hA : ∀ q, q < H.size → A1 q → A0 q) (hf : ∀ q, free q → A0 q) (hAX : ∀ q, q < H.size → AX q → A0 q)
    (kx : ∀ (E : String) (ce : Cell) (q9 : Addr) (u : SX) (t : State) (H1 : Heap) (locs1 : List Loc), t.heap = H1 → s.vm.Alike t.vm → px u → BX E u t → H.size ≤ H1.size → (∀ q : Nat, q < H.size → ¬ AX q → H1[q]? = H[q]?) → va_S A0 H0 H1 locs1 → H1[q9]? = some ce → ce.vm = .none → s.vm.findClass E = some ce.cls → vx_W p l e R s m args below meth c H1 locs1 (cells + mc) (slots + ms) Q (F0 m pc ls rest) q9)
    (kk : ∀ (r : UInt64) (u : S) (t : State) (H1 : Heap) (locs1 : List Loc), t.heap = H1 → s.vm.Alike t.vm → post r u → B u t → H.size ≤ H1.size → (∀ q : Nat, q < H.size → ¬ A1 q → H1[q]? = H[q]?) → va_S A0 H0 H1 locs1 → W p l e R s m args below meth c H1 locs1 (cells + mc) (slots + ms) Q (F0 m (pc + 3) ls (.double r :: rest))) : W p l e R s m args below meth c H locs cells slots Q (F0 m pc ls st0) := by
  intro T hT X
  rcases hr T hT X with ⟨v, st₀, t, T', L, h0, X', hL, e1, e2, ⟨⟨r, u, hv, hp, hb⟩, hF⟩, st⟩ | ⟨q, st₀, t, T', L, E, ce, h0, X', hL, e1, e2, ⟨u, hp, hb, hF⟩, hce, hcv, hcl, st⟩
  · cases hv
    obtain ⟨k1, k2, k3⟩ := vx_keep h0 e1 hS hA hf hL hF
    obtain ⟨t2, a1, b1⟩ := kk r u t T'.heap (locs ++ L) e1.symm (by rw [← e2]; exact X'.warmed.alike) hp hb k1 k2 k3 T' rfl X'
    exact ⟨t2, st t2 a1, b1⟩
  · obtain ⟨k1, k2, k3⟩ := vx_keep h0 e1 hS hAX hf hL hF
    obtain ⟨t2, a1, b1⟩ := kx E ce q u t T'.heap (locs ++ L) e1.symm (by rw [← e2]; exact X'.warmed.alike) hp hb k1 k2 k3 (by rw [e1]; exact hce) hcv hcl T' rfl X'
    exact ⟨t2, st.trans a1, b1⟩
theorem vx_callv {S SX : Type} {post : S → Prop} {px : SX → Prop} {B : S → State → Prop} {BX : String → SX → State → Prop} {AX : Nat → Prop} (hr : vx_Run p l e R s m args below meth c H locs cells slots mc ms (F0 m pc ls st0) rest (va_Qv post B A1 a) (vx_X px BX AX) free) (hS : va_S A0 H0 H locs) (hA : ∀ q, q < H.size → A1 q → A0 q) (hf : ∀ q, free q → A0 q) (hAX : ∀ q, q < H.size → AX q → A0 q)
    (kx : ∀ (E : String) (ce : Cell) (q9 : Addr) (u : SX) (t : State) (H1 : Heap) (locs1 : List Loc), t.heap = H1 → s.vm.Alike t.vm → px u → BX E u t → H.size ≤ H1.size → (∀ q : Nat, q < H.size → ¬ AX q → H1[q]? = H[q]?) → va_S A0 H0 H1 locs1 → H1[q9]? = some ce → ce.vm = .none → s.vm.findClass E = some ce.cls → vx_W p l e R s m args below meth c H1 locs1 (cells + mc) (slots + ms) Q (F0 m pc ls rest) q9)
    (kk : ∀ (u : S) (t : State) (H1 : Heap) (locs1 : List Loc), t.heap = H1 → s.vm.Alike t.vm → post u → B u t → H.size ≤ H1.size → (∀ q : Nat, q < H.size → ¬ A1 q → H1[q]? = H[q]?) → va_S A0 H0 H1 locs1 → W p l e R s m args below meth c H1 locs1 (cells + mc) (slots + ms) Q (F0 m (pc + 3) ls (rest))) : W p l e R s m args below meth c H locs cells slots Q (F0 m pc ls st0) := by
  intro T hT X
  rcases hr T hT X with ⟨v, st₀, t, T', L, h0, X', hL, e1, e2, ⟨⟨u, hv, hp, hb⟩, hF⟩, st⟩ | ⟨q, st₀, t, T', L, E, ce, h0, X', hL, e1, e2, ⟨u, hp, hb, hF⟩, hce, hcv, hcl, st⟩
  · cases hv
    obtain ⟨k1, k2, k3⟩ := vx_keep h0 e1 hS hA hf hL hF
    obtain ⟨t2, a1, b1⟩ := kk u t T'.heap (locs ++ L) e1.symm (by rw [← e2]; exact X'.warmed.alike) hp hb k1 k2 k3 T' rfl X'
    exact ⟨t2, st t2 a1, b1⟩
  · obtain ⟨k1, k2, k3⟩ := vx_keep h0 e1 hS hAX hf hL hF
    obtain ⟨t2, a1, b1⟩ := kx E ce q u t T'.heap (locs ++ L) e1.symm (by rw [← e2]; exact X'.warmed.alike) hp hb k1 k2 k3 (by rw [e1]; exact hce) hcv hcl T' rfl X'
    exact ⟨t2, st.trans a1, b1⟩
end Rows
section Ends
variable {p : Program} {l : Launch} {e : Env} {R : Room} {s : State} {m : MethodId} {args : Array Value} {below : List Frame} {meth : Method} {c : Code} {H : Heap} {locs : List Loc} {cells slots : Nat} {Q : State → Prop}
variable {mc ms : Nat} {free : Addr → Prop} {A0 A1 : Nat → Prop} {H0 : Heap} {a : Array Value} {ls : Array Slot} {st0 rest : List Value}
variable {Qc : Array Value → State → Outcome → State → Prop} {XC : String → State → State → Prop}
/-- what a body that may throw owes at its end -/
def vx_MQ (below : List Frame) (Qc : Array Value → State → Outcome → State → Prop) (XC : String → State → State → Prop) (a : Array Value) (s : State) (mc ms : Nat) (free : Addr → Prop) : State → Prop := fun t =>
  ∃ o, t.status = .running ∧ Ended t below o ∧ vx_Q Qc XC mc ms free a s o t
theorem vx_ret {g : JFrame} {mc ms : Nat} (k : W p l e R s m args below meth c H locs cells slots (MQ below Qc args s mc ms free) g) : W p l e R s m args below meth c H locs cells slots (vx_MQ below Qc XC args s mc ms free) g := by
  intro T hT X
  obtain ⟨t, a1, o, b1, b2, b3, b4⟩ := k T hT X
  exact ⟨t, a1, o, b1, b2, Or.inl ⟨b3, b4⟩⟩
/-- not caught here: it goes on to the caller -/
theorem vx_widen {g : JFrame} {q : Addr} {k n : Nat} (h1 : cells ≤ k) (h2 : slots ≤ n) (kk : vx_W p l e R s m args below meth c H locs k n Q g q) : vx_W p l e R s m args below meth c H locs cells slots Q g q := fun T hT X => kk T hT (stand_widen X h1 h2)
theorem vx_out {pc : Nat} {E : String} {ce : Cell} {q : Addr} {mc ms : Nat} (hout : ∀ x ∈ c.exceptionTable.toList, covers x pc = false) (hlocks : meth.locks = false) (hcell : H[q]? = some ce) (hv : ce.vm = .none) (hcl : s.vm.findClass E = some ce.cls)
    (hx : ∀ t : State, t.heap = H → s.vm.Alike t.vm → XC E s t) (hf : ∀ z ∈ locs, free z.base) (hc : cells ≤ mc) (hs : slots ≤ ms) :
    vx_W p l e R s m args below meth c H locs cells slots (vx_MQ below Qc XC args s mc ms free) (F0 m pc ls rest) q := by
  intro T hT X
  obtain ⟨st1, hrun, hend, hW, hsm⟩ := X.leaveThrown q (g := F0 m pc ls rest) rfl rfl rfl hout hlocks
  have hcell9 : (T.setFrames (.throwing q :: below)).heap[q]? = some ce := by
    show T.heap[q]? = some ce
    rw [hT]; exact hcell
  exact ⟨_, st1, .threw q, hrun, hend, Or.inr ⟨q, rfl, E, ce, locs, hx _ hT hW.alike, hcell9, hv, hcl, hW, hsm.mono hc hs, hf⟩⟩
theorem vx_frame {U : State} {k n : Nat} (h : s.sameButNew ({ U with vm := s.vm } : State) locs k n) : s.heap.size ≤ U.heap.size ∧ ∀ q : Nat, q < s.heap.size → (∀ z ∈ locs, z.base ≠ q) → U.heap[q]? = s.heap[q]? := by
  obtain ⟨-, h2, -, -, -, h6⟩ := h
  refine ⟨h2, fun q hq hz => ?_⟩
  obtain ⟨c9, e1, e2, e3, e4⟩ := h6 q _ (Array.getElem?_eq_getElem hq)
  have hs : c9.slots = (s.heap[q]).slots := Array.ext_getElem? fun i => e4 i fun hm => hz _ hm rfl
  have h9 : c9 = s.heap[q] := by
    rw [hs] at e2
    exact e2
  have e5 : U.heap[q]? = some c9 := e1
  rw [e5, h9, Array.getElem?_eq_getElem hq]
/-- the words of a throw but the four that speak of the heap -/
def vx_no (w : Cond) : Bool := decide (w ≠ .isRef (.static Bundle.tN "UNASSIGNED_STACK" Bundle.steD)) && decide (w ≠ .isRef (.static Bundle.tN "SUPPRESSED_SENTINEL" Bundle.listD)) && decide (w ≠ .laysStatic Bundle.tN "UNASSIGNED_STACK" Bundle.steD) && decide (w ≠ .laysStatic Bundle.tN "SUPPRESSED_SENTINEL" Bundle.listD)
def vx_at0 (own : String) (ic : Nat) (X : String) (names : List String) : List Cond := (Bundle.ownAtoms0 own ic X names).filter vx_no
def vx_atS (own : String) (ic : Nat) (X : String) (names : List String) : List Cond := (Bundle.ownAtoms own ic X names).filter vx_no
/-- a word that the tables alone decide, or a good one -/
def vx_ot (w : Cond) : Bool := w.onTables || goodWord w
theorem vx_ot_at {args a' : Array Value} {s U : State} {w : Cond} (hW : s.WarmedH U.vm) (hvm : s.vm = U.vm) (hg : vx_ot w = true) (h : w.before args s = true) : w.before a' U = true := by
  simp only [vx_ot, Bool.or_eq_true] at hg
  rcases hg with hg | hg
  · exact va_tabs hg hvm h
  · exact word_at hW (good_of_word hg) h
/-- a list's words: the good ones out of the method's own list, the others by premises of their own -/
theorem vx_hat {args : Array Value} {s : State} {L B : List Cond} (h1 : ∀ w ∈ L.filter goodWord, w.before args s = true) (h2 : ∀ w ∈ L.filter (fun w => !goodWord w), w ∈ B) (h3 : ∀ w ∈ B, w.before args s = true) : ∀ w ∈ L, w.before args s = true := by
  intro w hw
  by_cases g : goodWord w = true
  · exact h1 w (List.mem_filter.mpr ⟨hw, g⟩)
  · refine h3 w (h2 w (List.mem_filter.mpr ⟨hw, ?_⟩))
    show (!goodWord w) = true
    cases hgw : goodWord w
    · rfl
    · exact absurd hgw g
theorem vx_c {args : Array Value} {s : State} {w : Cond} {B : List Cond} (h : w.before args s = true) (t : ∀ w ∈ B, w.before args s = true) : ∀ w' ∈ w :: B, w'.before args s = true := fun w' h' => (List.mem_cons.mp h').elim (fun e => by rw [e]; exact h) (t w')
theorem vx_n {args : Array Value} {s : State} : ∀ w ∈ ([] : List Cond), w.before args s = true := fun _ h => nomatch h
theorem vx_own {args : Array Value} {s : State} {L : List Cond} (h1 : ∀ w ∈ L.filter vx_no, w.before args s = true)
    (hU : (Cond.isRef (.static Bundle.tN "UNASSIGNED_STACK" Bundle.steD)).before args s = true) (hN : (Cond.isRef (.static Bundle.tN "SUPPRESSED_SENTINEL" Bundle.listD)).before args s = true)
    (lU : (Cond.laysStatic Bundle.tN "UNASSIGNED_STACK" Bundle.steD).before args s = true) (lN : (Cond.laysStatic Bundle.tN "SUPPRESSED_SENTINEL" Bundle.listD).before args s = true) : ∀ w ∈ L, w.before args s = true := by
  intro w hw
  by_cases e1 : w = .isRef (.static Bundle.tN "UNASSIGNED_STACK" Bundle.steD)
  · rw [e1]; exact hU
  · by_cases e2 : w = .isRef (.static Bundle.tN "SUPPRESSED_SENTINEL" Bundle.listD)
    · rw [e2]; exact hN
    · by_cases e3 : w = .laysStatic Bundle.tN "UNASSIGNED_STACK" Bundle.steD
      · rw [e3]; exact lU
      · by_cases e4 : w = .laysStatic Bundle.tN "SUPPRESSED_SENTINEL" Bundle.listD
        · rw [e4]; exact lN
        · exact h1 w (List.mem_filter.mpr ⟨hw, by unfold vx_no; rw [decide_eq_true e1, decide_eq_true e2, decide_eq_true e3, decide_eq_true e4]; rfl⟩)
/-- where a static field lies, its class's statics cell in H -/
def vx_L (C n d : String) (A : Nat → Prop) (U : State) (H : Heap) : Prop := ∃ (c : ClassId) (k : Class) (i : Nat) (f : Field) (a : Nat) (cell : Cell), U.vm.findClass C = some c ∧ U.fieldFound? C n d = some (c, k, i, f) ∧ f.isStatic = true ∧ k.statics = some a ∧ H[a]? = some cell ∧ cell.vm.isStatics = true ∧ cell.cls = c ∧ f.slot < cell.slots.size ∧ k.staticTypes[f.slot]? = some f.type ∧ ¬ A a
theorem vx_L.moved {C n d : String} {A : Nat → Prop} {u U : State} {H : Heap} (hvm : u.vm.Alike U.vm) (h : vx_L C n d A u H) : vx_L C n d A U H := by
  obtain ⟨c, k, i, f, a, cell, h1, h2, h3, h4, h5, h6, h7, h8, h9, h10⟩ := h
  obtain ⟨k', hi', he⟩ := State.fieldFound?_setVm hvm h2
  exact ⟨c, k', i, f, a, cell, by rw [hvm.findClass]; exact h1, hi', h3, by rw [he]; exact h4, h5, h6, h7, h8, by rw [he]; exact h9, h10⟩
theorem vx_L.kept {C n d : String} {A : Nat → Prop} {U : State} {H H1 : Heap} (h : vx_L C n d A U H) (hq : ∀ a : Nat, a < H.size → ¬ A a → H1[a]? = H[a]?) : vx_L C n d A U H1 := by
  obtain ⟨c, k, i, f, a, cell, h1, h2, h3, h4, h5, h6, h7, h8, h9, h10⟩ := h
  exact ⟨c, k, i, f, a, cell, h1, h2, h3, h4, by rw [hq a (Array.getElem?_eq_some_iff.mp h5).1 h10]; exact h5, h6, h7, h8, h9, h10⟩
theorem vx_L.narrow {C n d : String} {A B : Nat → Prop} {U : State} {H : Heap} (h : vx_L C n d A U H) (hAB : ∀ q, B q → A q) : vx_L C n d B U H := by
  obtain ⟨c, k, i, f, a, cell, h1, h2, h3, h4, h5, h6, h7, h8, h9, h10⟩ := h
  exact ⟨c, k, i, f, a, cell, h1, h2, h3, h4, h5, h6, h7, h8, h9, fun z => h10 (hAB _ z)⟩
theorem vx_L.word {C n d : String} {A : Nat → Prop} {s : State} {args : Array Value} (h : vx_L C n d A s s.heap) : (Cond.laysStatic C n d).before args s = true := by
  obtain ⟨c, k, i, f, a, cell, h1, h2, h3, h4, h5, h6, h7, h8, h9, -⟩ := h
  show (Cond.laysStatic C n d).holds args s none s [] = true
  exact Cond.laysStatic_of h1 h2 h3 h4 h5 h6 h7 h8 h9
/-- .. and what it holds: null or some reference -/
def vx_Zq (C n d : String) (A : Nat → Prop) (U : State) (H : Heap) : Prop := va_Zq C n d A U H ∧ vx_L C n d A U H
theorem vx_Zq.moved {C n d : String} {A : Nat → Prop} {u U : State} {H : Heap} (hvm : u.vm.Alike U.vm) (h : vx_Zq C n d A u H) : vx_Zq C n d A U H := ⟨va_Zq.moved hvm h.1, vx_L.moved hvm h.2⟩
theorem vx_Zq.kept {C n d : String} {A : Nat → Prop} {U : State} {H H1 : Heap} (h : vx_Zq C n d A U H) (hq : ∀ a : Nat, a < H.size → ¬ A a → H1[a]? = H[a]?) : vx_Zq C n d A U H1 := ⟨va_Zq.kept h.1 hq, vx_L.kept h.2 hq⟩
theorem vx_Zq.narrow {C n d : String} {A B : Nat → Prop} {U : State} {H : Heap} (h : vx_Zq C n d A U H) (hAB : ∀ q, B q → A q) : vx_Zq C n d B U H := ⟨va_Zq.narrow h.1 hAB, vx_L.narrow h.2 hAB⟩
theorem vx_Zqof {args : Array Value} {s : State} {C n d : String} {A : Nat → Prop} (hl : (Cond.laysStatic C n d).before args s = true) (hini : (Cond.initialized C).before args s = true) (h : (Cond.isRef (.static C n d)).before args s = true) (hA : ∀ a : Nat, a < s.heap.size → ¬ A a) : vx_Zq C n d A s s.heap := by
  refine ⟨va_Zqof hl hini h hA, ?_⟩
  obtain ⟨c, k, i, f, a, cell, h1, h2, h3, h4, h5, h6, h7, h8, h9⟩ := Cond.laysStatic_spec hl
  exact ⟨c, k, i, f, a, cell, h1, h2, h3, h4, h5, h6, h7, h8, h9, hA a (Array.getElem?_eq_some_iff.mp h5).1⟩
theorem vx_isRef {C n d : String} {v : Value} {A : Nat → Prop} {s : State} {args : Array Value} (h : va_Z C n d v A s s.heap) (hv : v.isRef = true) : (Cond.isRef (.static C n d)).before args s = true := by
  obtain ⟨cf, kf, fi, f, a, cell, h1, h2, h3, h4, h5, h6, h7, -⟩ := h
  have he : (Term.static C n d).eval args s none [] s = some v := by
    simp [Term.eval, State.fieldNamed?, h1, h2, h4, h5, h6, h7]
  simp only [Cond.before, Cond.holds, Cond.value, he]
  cases v <;> simp_all [Value.isRef]
theorem vx_isRefq {C n d : String} {A : Nat → Prop} {s : State} {args : Array Value} (h : va_Zq C n d A s s.heap) : (Cond.isRef (.static C n d)).before args s = true := by
  rcases h with h | ⟨t, h⟩
  · exact vx_isRef h rfl
  · exact vx_isRef h rfl
/-- the same frame, seen from here: as if the method were called anew in this heap -/
theorem vx_rebase {T : State} (X : Stand p l e R s m args below meth c T locs cells slots) {R' : Room} (hf : R'.frames ≤ R.frames) (hl : R'.locals ≤ R.locals) (hc : cells + R'.cells ≤ R.cells) (hs : slots + R'.slots ≤ R.slots) :
    Stand p l e R' ((T.setVm s.vm).setFrames (.invoking m args :: below)) m args below meth c T [] 0 0 := by
  have htop : (T.setVm s.vm).topJava?.isSome := X.here.top
  have hF : ((T.setVm s.vm).setFrames (.invoking m args :: below)).frames = .invoking m args :: below := State.frames_setFrames _ (State.cur_lt_of_top htop)
  obtain ⟨g₀, hg0⟩ := Option.isSome_iff_exists.mp htop
  obtain ⟨r, hr⟩ := State.topJava?_eq_some.mp hg0
  have hl9 : e.platform.stackLimits (T.setVm s.vm).me = e.platform.stackLimits s.me := X.limits
  have hb9 : (T.setVm s.vm).me.stackBytes = s.me.stackBytes := X.bytes
  refine ⟨X.admits, X.cas, X.clock, hF, ?_, X.hears, X.method, X.code, X.here, X.tail, X.warmed, ?_, ?_, ?_⟩
  · have h := X.room
    have hU : ((T.setVm s.vm).setFrames (.invoking m args :: below)).localsInUse = s.localsInUse := by
      rw [State.localsInUse_invoking hF (meth := meth) (c := c) X.method X.code, State.localsInUse_invoking X.frames X.method X.code]
    simp only [State.hasRoom, Bool.and_eq_true, decide_eq_true_eq] at h ⊢
    obtain ⟨⟨⟨⟨h1, h2, h3, h4, h5, h6⟩, h7⟩, h8⟩, h9⟩ := h
    rw [X.frames, List.length_cons] at h2 h3
    have q1 := X.heapSize
    have q2 := X.used
    simp only [hF, hU, List.length_cons, State.stackLimits_setFrames, State.stackBytes_setFrames, hl9, hb9]
    refine ⟨⟨⟨⟨by omega, by omega, by omega, by omega, by omega, h6⟩, ?_⟩, ?_⟩, X.book⟩
    · show T.heap.size + R'.cells ≤ e.platform.maxCells
      omega
    · show T.slotsUsed + R'.slots ≤ e.platform.maxSlots
      omega
  · rw [State.stackLimits_setFrames]; rfl
  · rw [State.stackBytes_setFrames]; rfl
  · refine ⟨?_, Nat.le_refl _, Nat.le_refl _, ?_, ?_, fun a c9 h9 => ⟨c9, h9, rfl, rfl, fun _ _ => rfl⟩⟩
    · obtain ⟨t, ht, -⟩ := State.frames_cons hr
      show T.setVm s.vm = { ((T.setVm s.vm).setFrames (.invoking m args :: below)).setFrames (T.setVm s.vm).frames with heap := T.heap, slotsUsed := T.slotsUsed }
      rw [State.setFrames_setFrames, State.setFrames_self ht]
      rfl
    · show T.slotsUsed = T.slotsUsed + ((T.heap.toList.drop T.heap.size).map (·.slots.size)).sum
      rw [List.drop_eq_nil_of_le (Nat.le_of_eq Array.length_toList)]
      rfl
    · show ((T.heap.toList.drop T.heap.size).map (·.slots.size)).sum ≤ 0
      rw [List.drop_eq_nil_of_le (Nat.le_of_eq Array.length_toList)]
      exact Nat.le_refl _
/-- 'throw new E()': new; dup; invokespecial; athrow -/
theorem vx_throw0 {cc : ByteArray} {pc : Nat} (hexec : p.tables.exec = Jvm.exec) (hb : c.code = cc) (hl : l.stackTraces = false) {own cls : String} {names : List String} {ik ic mc ms : Nat} {A : Nat → Prop}
    (hown : s.vm.findClass own = some m.cls) (hcls : Bundle.fit cls = true) (hnames : ∀ n ∈ names, Bundle.fit n = true)
    (hk : (Cond.classLink own ik cls).before args s = true) (hini : (Cond.initialized cls).before args s = true) (hat : ∀ w ∈ vx_at0 own ic cls names, w.before args s = true)
    (hgood : ∀ w ∈ Cond.classLink own ik cls :: Cond.initialized cls :: vx_at0 own ic cls names, vx_ot w = true)
    (hU : vx_Zq Bundle.tN "UNASSIGNED_STACK" Bundle.steD A s s.heap) (hN : vx_Zq Bundle.tN "SUPPRESSED_SENTINEL" Bundle.listD A s s.heap) (hS : va_S A s.heap H locs) (hsize : ls.size = c.maxLocals)
    (d0 : decode cc pc = .ok (.new ik, 3)) (d3 : decode cc (pc + 3) = .ok (.dup, 1)) (d4 : decode cc (pc + 4) = .ok (.invokespecial ic, 3)) (d7 : decode cc (pc + 7) = .ok (.athrow, 1))
    (hout : ∀ x ∈ c.exceptionTable.toList, covers x (pc + 7) = false)
    (hRframes : names.length + 3 < R.frames) (hRlocals : (rest.map fun v => v.category).sum + (13 * (names.length + 1) + 42) ≤ R.locals) (hRcells : cells + 1 ≤ R.cells) (hRslots : slots + 6 ≤ R.slots) (hlocks : meth.locks = false)
    (hx : ∀ t : State, s.vm.Alike t.vm → H.size ≤ t.heap.size → (∀ q : Nat, q < H.size → t.heap[q]? = H[q]?) → XC cls s t)
    (hf : ∀ z ∈ locs, free z.base) (hc : cells + 1 ≤ mc) (hs : slots + 6 ≤ ms) :
    W p l e R s m args below meth c H locs cells slots (vx_MQ below Qc XC args s mc ms free) (F0 m pc ls rest) := by
  intro T hT X
  have htr : e.platform.stackTraces = false := (show e.platform.stackTraces = l.stackTraces by rw [X.admits.platform]).trans hl
  have Y := vx_rebase X (R' := { frames := R.frames, locals := R.locals, cells := 1, slots := 6 }) (Nat.le_refl _) (Nat.le_refl _) hRcells hRslots
  obtain ⟨s', hA⟩ : ∃ z, z = (T.setVm s.vm).setFrames (.invoking m args :: below) := ⟨_, rfl⟩
  rw [← hA] at Y
  have hvm : s'.vm = s.vm := by rw [hA]; rfl
  have hhp : s'.heap = H := by rw [hA]; exact hT
  have hW0 : s.WarmedH s'.vm := by rw [hvm]; exact State.WarmedH.refl s
  have hat' : ∀ w ∈ vx_at0 own ic cls names, w.before args s' = true := fun w hw => vx_ot_at hW0 hvm.symm (hgood w (List.mem_cons_of_mem _ (List.mem_cons_of_mem _ hw))) (hat w hw)
  have hk' : (Cond.classLink own ik cls).before args s' = true := vx_ot_at hW0 hvm.symm (hgood _ List.mem_cons_self) hk
  have hini' : (Cond.initialized cls).before args s' = true := vx_ot_at hW0 hvm.symm (hgood _ (List.mem_cons_of_mem _ List.mem_cons_self)) hini
  have hU' : vx_Zq Bundle.tN "UNASSIGNED_STACK" Bundle.steD A s' s'.heap := by rw [hhp]; exact vx_Zq.moved hW0.alike (hU.kept hS.2.1)
  have hN' : vx_Zq Bundle.tN "SUPPRESSED_SENTINEL" Bundle.listD A s' s'.heap := by rw [hhp]; exact vx_Zq.moved hW0.alike (hN.kept hS.2.1)
  have h : ∀ w ∈ Bundle.ownAtoms0 own ic cls names, w.before args s' = true := vx_own hat' (vx_isRefq hU'.1) (vx_isRefq hN'.1) hU'.2.word hN'.2.word
  have hown' : s'.vm.findClass own = some m.cls := by rw [hvm]; exact hown
  have hins : (Cond.instantiable cls 6).before args s' = true := h _ (by simp [Bundle.ownAtoms0])
  obtain ⟨vm₁, cX, kX, hfX, hkX, -, -, X₁, st1⟩ := Y.newCold hexec (own := own) (C := cls) (index := ik) (n := 6) hown' hk' hins hini'
    (g := F0 m pc ls rest) rfl (by rw [hb]; exact d0) (Nat.le_refl _) (Nat.le_refl _)
  generalize hT1 : (T.setVm vm₁).pushCell { cls := cX, slots := kX.instanceTypes.map defaultValue, vm := .none } = T1 at X₁ st1
  have hcat : (Value.ref T.heap.size).category = 1 := rfl
  have hcellA : T1.heap[T.heap.size]? = some (freshCell cX kX) := by rw [← hT1]; exact State.heap_pushCell_size _ _
  have d3' : decode c.code (pc + 3) = .ok (.dup, 1) := by rw [hb]; exact d3
  obtain ⟨U, hsteps, hrun, hend, hW, hsame, ce, hce, hO⟩ := X₁.ctorThrow0 hexec htr (own := own) (cls := cls) (names := names) (ic := ic) hown' hcls hnames h (fun x hx => nomatch hx) hfX hkX hcellA (by rw [hhp, hT]; exact Nat.le_refl _)
    (g := { method := m, pc := pc + 4, locals := ls, stack := .ref T.heap.size :: .ref T.heap.size :: rest, locked := none }) rfl hsize rfl rfl (rest := rest) rfl
    (by rw [hb]; exact d4) (by rw [hb]; exact d7) hout hRframes (by simp only [List.map_cons, List.sum_cons, hcat]; omega) hlocks
  obtain ⟨f1, f2⟩ := vx_frame hsame
  rw [hhp] at f1 f2
  have hWs : s.WarmedH U.vm := State.WarmedH.trans hW0 hW
  have hcl : s.vm.findClass cls = some ce.cls := by
    have h9 := hO.cls
    rw [hvm] at h9
    exact h9
  have hall : s.sameButNew ({ U with vm := s.vm } : State) locs mc ms := by
    subst hA
    obtain ⟨e1, e2⟩ := hsame
    rw [State.setFrames_setFrames] at e1
    have h2 : (T.setVm s.vm).sameButNew ({ U with vm := s.vm } : State) [] (0 + 1) (0 + 6) := ⟨e1, e2⟩
    have h3 := X.same.trans h2
    rw [List.append_nil] at h3
    exact h3.mono hc hs
  refine ⟨U, ?_, .threw T.heap.size, hrun, hend, Or.inr ⟨T.heap.size, rfl, cls, ce, locs, hx U hWs.alike f1 (fun q hq => f2 q hq (fun z hz => nomatch hz)), hce, hO.vm, hcl, hWs, hall, hf⟩⟩
  refine st1 _ ?_
  show Steps p.tables e below (T1.setTop { method := m, pc := pc + 3, locals := ls, stack := .ref T.heap.size :: rest, locked := none }) _
  jvm_step X₁.here [X₁.here.top, hexec, d3', Value.category]
  exact hsteps
/-- 'throw new E("text")': new; dup; ldc; invokespecial; athrow -/
theorem vx_throwS {cc : ByteArray} {pc : Nat} (hexec : p.tables.exec = Jvm.exec) (hb : c.code = cc) (hl : l.stackTraces = false) {own cls text : String} {names : List String} {ik is ic mc ms sa : Nat} {A : Nat → Prop}
    (hown : s.vm.findClass own = some m.cls) (hcls : Bundle.fit cls = true) (hnames : ∀ n ∈ names, Bundle.fit n = true)
    (hk : (Cond.classLink own ik cls).before args s = true) (hini : (Cond.initialized cls).before args s = true) (hstr : vk_R own is text sa s) (hat : ∀ w ∈ vx_atS own ic cls names, w.before args s = true)
    (hgood : ∀ w ∈ Cond.classLink own ik cls :: Cond.initialized cls :: vx_atS own ic cls names, vx_ot w = true)
    (hU : vx_Zq Bundle.tN "UNASSIGNED_STACK" Bundle.steD A s s.heap) (hN : vx_Zq Bundle.tN "SUPPRESSED_SENTINEL" Bundle.listD A s s.heap) (hS : va_S A s.heap H locs) (hsize : ls.size = c.maxLocals)
    (d0 : decode cc pc = .ok (.new ik, 3)) (d3 : decode cc (pc + 3) = .ok (.dup, 1)) (d4 : decode cc (pc + 4) = .ok (.ldc is, 2)) (d6 : decode cc (pc + 6) = .ok (.invokespecial ic, 3)) (d9 : decode cc (pc + 9) = .ok (.athrow, 1))
    (hout : ∀ x ∈ c.exceptionTable.toList, covers x (pc + 9) = false)
    (hRframes : names.length + 3 < R.frames) (hRlocals : (rest.map fun v => v.category).sum + (13 * (names.length + 1) + 43) ≤ R.locals) (hRcells : cells + 1 ≤ R.cells) (hRslots : slots + 6 ≤ R.slots) (hlocks : meth.locks = false)
    (hx : ∀ t : State, s.vm.Alike t.vm → H.size ≤ t.heap.size → (∀ q : Nat, q < H.size → t.heap[q]? = H[q]?) → XC cls s t)
    (hf : ∀ z ∈ locs, free z.base) (hc : cells + 1 ≤ mc) (hs : slots + 6 ≤ ms) :
    W p l e R s m args below meth c H locs cells slots (vx_MQ below Qc XC args s mc ms free) (F0 m pc ls rest) := by
  intro T hT X
  have htr : e.platform.stackTraces = false := (show e.platform.stackTraces = l.stackTraces by rw [X.admits.platform]).trans hl
  have Y := vx_rebase X (R' := { frames := R.frames, locals := R.locals, cells := 1, slots := 6 }) (Nat.le_refl _) (Nat.le_refl _) hRcells hRslots
  obtain ⟨s', hA⟩ : ∃ z, z = (T.setVm s.vm).setFrames (.invoking m args :: below) := ⟨_, rfl⟩
  rw [← hA] at Y
  have hvm : s'.vm = s.vm := by rw [hA]; rfl
  have hhp : s'.heap = H := by rw [hA]; exact hT
  have hW0 : s.WarmedH s'.vm := by rw [hvm]; exact State.WarmedH.refl s
  have hat' : ∀ w ∈ vx_atS own ic cls names, w.before args s' = true := fun w hw => vx_ot_at hW0 hvm.symm (hgood w (List.mem_cons_of_mem _ (List.mem_cons_of_mem _ hw))) (hat w hw)
  have hk' : (Cond.classLink own ik cls).before args s' = true := vx_ot_at hW0 hvm.symm (hgood _ List.mem_cons_self) hk
  have hini' : (Cond.initialized cls).before args s' = true := vx_ot_at hW0 hvm.symm (hgood _ (List.mem_cons_of_mem _ List.mem_cons_self)) hini
  have hU' : vx_Zq Bundle.tN "UNASSIGNED_STACK" Bundle.steD A s' s'.heap := by rw [hhp]; exact vx_Zq.moved hW0.alike (hU.kept hS.2.1)
  have hN' : vx_Zq Bundle.tN "SUPPRESSED_SENTINEL" Bundle.listD A s' s'.heap := by rw [hhp]; exact vx_Zq.moved hW0.alike (hN.kept hS.2.1)
  have h : ∀ w ∈ Bundle.ownAtoms own ic cls names, w.before args s' = true := vx_own hat' (vx_isRefq hU'.1) (vx_isRefq hN'.1) hU'.2.word hN'.2.word
  have hown' : s'.vm.findClass own = some m.cls := by rw [hvm]; exact hown
  have hins : (Cond.instantiable cls 6).before args s' = true := h _ (by simp [Bundle.ownAtoms])
  obtain ⟨vm₁, cX, kX, hfX, hkX, -, -, X₁, st1⟩ := Y.newCold hexec (own := own) (C := cls) (index := ik) (n := 6) hown' hk' hins hini'
    (g := F0 m pc ls rest) rfl (by rw [hb]; exact d0) (Nat.le_refl _) (Nat.le_refl _)
  generalize hT1 : (T.setVm vm₁).pushCell { cls := cX, slots := kX.instanceTypes.map defaultValue, vm := .none } = T1 at X₁ st1
  have hcat : (Value.ref T.heap.size).category = 1 := rfl
  have hcellA : T1.heap[T.heap.size]? = some (freshCell cX kX) := by rw [← hT1]; exact State.heap_pushCell_size _ _
  have d3' : decode c.code (pc + 3) = .ok (.dup, 1) := by rw [hb]; exact d3
  have d4' : decode c.code (pc + 4) = .ok (.ldc is, 2) := by rw [hb]; exact d4
  have hstr' : vk_R own is text sa s' := vk_R.warm hW0 hstr
  obtain ⟨U, hsteps, hrun, hend, hW, hsame, ce, hce, hO⟩ := X₁.ctorThrowS hexec htr (own := own) (cls := cls) (names := names) (ic := ic) hown' hcls hnames h (fun x hx => nomatch hx) hfX hkX hcellA (by rw [hhp, hT]; exact Nat.le_refl _) (msg := .ref sa) rfl
    (g := { method := m, pc := pc + 6, locals := ls, stack := .ref sa :: .ref T.heap.size :: .ref T.heap.size :: rest, locked := none }) rfl hsize rfl rfl (rest := rest) rfl
    (by rw [hb]; exact d6) (by rw [hb]; exact d9) hout hRframes (by simp only [List.map_cons, List.sum_cons, hcat]; omega) hlocks
  obtain ⟨f1, f2⟩ := vx_frame hsame
  rw [hhp] at f1 f2
  have hWs : s.WarmedH U.vm := State.WarmedH.trans hW0 hW
  have hcl : s.vm.findClass cls = some ce.cls := by
    have h9 := hO.cls
    rw [hvm] at h9
    exact h9
  have hall : s.sameButNew ({ U with vm := s.vm } : State) locs mc ms := by
    subst hA
    obtain ⟨e1, e2⟩ := hsame
    rw [State.setFrames_setFrames] at e1
    have h2 : (T.setVm s.vm).sameButNew ({ U with vm := s.vm } : State) [] (0 + 1) (0 + 6) := ⟨e1, e2⟩
    have h3 := X.same.trans h2
    rw [List.append_nil] at h3
    exact h3.mono hc hs
  refine ⟨U, ?_, .threw T.heap.size, hrun, hend, Or.inr ⟨T.heap.size, rfl, cls, ce, locs, hx U hWs.alike f1 (fun q hq => f2 q hq (fun z hz => nomatch hz)), hce, hO.vm, hcl, hWs, hall, hf⟩⟩
  refine st1 _ ?_
  show Steps p.tables e below (T1.setTop { method := m, pc := pc + 3, locals := ls, stack := .ref T.heap.size :: rest, locked := none }) _
  jvm_step X₁.here [X₁.here.top, hexec, d3', Value.category]
  exact X₁.ldcString hexec (own := own) (text := text) (index := is) (a := sa) hown' hstr'.1 hstr'.2
    (g := { method := m, pc := pc + 4, locals := ls, stack := .ref T.heap.size :: .ref T.heap.size :: rest, locked := none }) rfl d4' _ hsteps
/-- 'throw new E("text")', the text by a wide index -/
theorem vx_throwSW {cc : ByteArray} {pc : Nat} (hexec : p.tables.exec = Jvm.exec) (hb : c.code = cc) (hl : l.stackTraces = false) {own cls text : String} {names : List String} {ik is ic mc ms sa : Nat} {A : Nat → Prop}
    (hown : s.vm.findClass own = some m.cls) (hcls : Bundle.fit cls = true) (hnames : ∀ n ∈ names, Bundle.fit n = true)
    (hk : (Cond.classLink own ik cls).before args s = true) (hini : (Cond.initialized cls).before args s = true) (hstr : vk_R own is text sa s) (hat : ∀ w ∈ vx_atS own ic cls names, w.before args s = true)
    (hgood : ∀ w ∈ Cond.classLink own ik cls :: Cond.initialized cls :: vx_atS own ic cls names, vx_ot w = true)
    (hU : vx_Zq Bundle.tN "UNASSIGNED_STACK" Bundle.steD A s s.heap) (hN : vx_Zq Bundle.tN "SUPPRESSED_SENTINEL" Bundle.listD A s s.heap) (hS : va_S A s.heap H locs) (hsize : ls.size = c.maxLocals)
    (d0 : decode cc pc = .ok (.new ik, 3)) (d3 : decode cc (pc + 3) = .ok (.dup, 1)) (d4 : decode cc (pc + 4) = .ok (.ldc_w is, 3)) (d7 : decode cc (pc + 7) = .ok (.invokespecial ic, 3)) (d10 : decode cc (pc + 10) = .ok (.athrow, 1))
    (hout : ∀ x ∈ c.exceptionTable.toList, covers x (pc + 10) = false)
    (hRframes : names.length + 3 < R.frames) (hRlocals : (rest.map fun v => v.category).sum + (13 * (names.length + 1) + 43) ≤ R.locals) (hRcells : cells + 1 ≤ R.cells) (hRslots : slots + 6 ≤ R.slots) (hlocks : meth.locks = false)
    (hx : ∀ t : State, s.vm.Alike t.vm → H.size ≤ t.heap.size → (∀ q : Nat, q < H.size → t.heap[q]? = H[q]?) → XC cls s t)
    (hf : ∀ z ∈ locs, free z.base) (hc : cells + 1 ≤ mc) (hs : slots + 6 ≤ ms) :
    W p l e R s m args below meth c H locs cells slots (vx_MQ below Qc XC args s mc ms free) (F0 m pc ls rest) := by
  intro T hT X
  have htr : e.platform.stackTraces = false := (show e.platform.stackTraces = l.stackTraces by rw [X.admits.platform]).trans hl
  have Y := vx_rebase X (R' := { frames := R.frames, locals := R.locals, cells := 1, slots := 6 }) (Nat.le_refl _) (Nat.le_refl _) hRcells hRslots
  obtain ⟨s', hA⟩ : ∃ z, z = (T.setVm s.vm).setFrames (.invoking m args :: below) := ⟨_, rfl⟩
  rw [← hA] at Y
  have hvm : s'.vm = s.vm := by rw [hA]; rfl
  have hhp : s'.heap = H := by rw [hA]; exact hT
  have hW0 : s.WarmedH s'.vm := by rw [hvm]; exact State.WarmedH.refl s
  have hat' : ∀ w ∈ vx_atS own ic cls names, w.before args s' = true := fun w hw => vx_ot_at hW0 hvm.symm (hgood w (List.mem_cons_of_mem _ (List.mem_cons_of_mem _ hw))) (hat w hw)
  have hk' : (Cond.classLink own ik cls).before args s' = true := vx_ot_at hW0 hvm.symm (hgood _ List.mem_cons_self) hk
  have hini' : (Cond.initialized cls).before args s' = true := vx_ot_at hW0 hvm.symm (hgood _ (List.mem_cons_of_mem _ List.mem_cons_self)) hini
  have hU' : vx_Zq Bundle.tN "UNASSIGNED_STACK" Bundle.steD A s' s'.heap := by rw [hhp]; exact vx_Zq.moved hW0.alike (hU.kept hS.2.1)
  have hN' : vx_Zq Bundle.tN "SUPPRESSED_SENTINEL" Bundle.listD A s' s'.heap := by rw [hhp]; exact vx_Zq.moved hW0.alike (hN.kept hS.2.1)
  have h : ∀ w ∈ Bundle.ownAtoms own ic cls names, w.before args s' = true := vx_own hat' (vx_isRefq hU'.1) (vx_isRefq hN'.1) hU'.2.word hN'.2.word
  have hown' : s'.vm.findClass own = some m.cls := by rw [hvm]; exact hown
  have hins : (Cond.instantiable cls 6).before args s' = true := h _ (by simp [Bundle.ownAtoms])
  obtain ⟨vm₁, cX, kX, hfX, hkX, -, -, X₁, st1⟩ := Y.newCold hexec (own := own) (C := cls) (index := ik) (n := 6) hown' hk' hins hini'
    (g := F0 m pc ls rest) rfl (by rw [hb]; exact d0) (Nat.le_refl _) (Nat.le_refl _)
  generalize hT1 : (T.setVm vm₁).pushCell { cls := cX, slots := kX.instanceTypes.map defaultValue, vm := .none } = T1 at X₁ st1
  have hcat : (Value.ref T.heap.size).category = 1 := rfl
  have hcellA : T1.heap[T.heap.size]? = some (freshCell cX kX) := by rw [← hT1]; exact State.heap_pushCell_size _ _
  have d3' : decode c.code (pc + 3) = .ok (.dup, 1) := by rw [hb]; exact d3
  have d4' : decode c.code (pc + 4) = .ok (.ldc_w is, 3) := by rw [hb]; exact d4
  have hstr' : vk_R own is text sa s' := vk_R.warm hW0 hstr
  obtain ⟨U, hsteps, hrun, hend, hW, hsame, ce, hce, hO⟩ := X₁.ctorThrowS hexec htr (own := own) (cls := cls) (names := names) (ic := ic) hown' hcls hnames h (fun x hx => nomatch hx) hfX hkX hcellA (by rw [hhp, hT]; exact Nat.le_refl _) (msg := .ref sa) rfl
    (g := { method := m, pc := pc + 7, locals := ls, stack := .ref sa :: .ref T.heap.size :: .ref T.heap.size :: rest, locked := none }) rfl hsize rfl rfl (rest := rest) rfl
    (by rw [hb]; exact d7) (by rw [hb]; exact d10) hout hRframes (by simp only [List.map_cons, List.sum_cons, hcat]; omega) hlocks
  obtain ⟨f1, f2⟩ := vx_frame hsame
  rw [hhp] at f1 f2
  have hWs : s.WarmedH U.vm := State.WarmedH.trans hW0 hW
  have hcl : s.vm.findClass cls = some ce.cls := by
    have h9 := hO.cls
    rw [hvm] at h9
    exact h9
  have hall : s.sameButNew ({ U with vm := s.vm } : State) locs mc ms := by
    subst hA
    obtain ⟨e1, e2⟩ := hsame
    rw [State.setFrames_setFrames] at e1
    have h2 : (T.setVm s.vm).sameButNew ({ U with vm := s.vm } : State) [] (0 + 1) (0 + 6) := ⟨e1, e2⟩
    have h3 := X.same.trans h2
    rw [List.append_nil] at h3
    exact h3.mono hc hs
  refine ⟨U, ?_, .threw T.heap.size, hrun, hend, Or.inr ⟨T.heap.size, rfl, cls, ce, locs, hx U hWs.alike f1 (fun q hq => f2 q hq (fun z hz => nomatch hz)), hce, hO.vm, hcl, hWs, hall, hf⟩⟩
  refine st1 _ ?_
  show Steps p.tables e below (T1.setTop { method := m, pc := pc + 3, locals := ls, stack := .ref T.heap.size :: rest, locked := none }) _
  jvm_step X₁.here [X₁.here.top, hexec, d3', Value.category]
  exact X₁.ldcStringW hexec (own := own) (text := text) (index := is) (a := sa) hown' hstr'.1 hstr'.2
    (g := { method := m, pc := pc + 4, locals := ls, stack := .ref T.heap.size :: .ref T.heap.size :: rest, locked := none }) rfl d4' _ hsteps
end Ends
section Bodies
variable {l : Launch}
theorem vx_ofW {y : MethodName} {ws ws' : List Cond} {rm : Room} {Pc : Array Value → State → Prop} {Qc : Array Value → State → Outcome → State → Prop} {XC : String → State → State → Prop} {mc ms : Nat} {free : Addr → Prop} {cc : ByteArray} {maxL : Nat} {ret : Option FieldType}
    (hy : plainName y.cls = true) (hw : ws = Cond.code y cc maxL ret :: ws')
    (body : ∀ p e s m args below meth c s₁, BodyLoose p l y (headSpec ws rm) cc maxL ret e s m args below meth c s₁ → c.maxLocals = maxL → (∀ x ∈ c.exceptionTable.toList, False) → Pc args s →
      W p l e (headSpec ws rm).room s m args below meth c s.heap [] 0 0 (vx_MQ below Qc XC args s mc ms free) (entryFrame m args maxL)) : vx_Met l y ws rm Pc Qc XC mc ms free := by
  refine MetFree.of_bodyS (code := cc) (maxLocals := maxL) (ret := ret) hy ?_ ?_
  · intro args s m h hn
    obtain ⟨meth, c, h1, h2, h3, h4, h5, h6, -, -⟩ := Cond.code_spec hn (atoms_spec (ws := ws) h _ (by rw [hw]; exact List.mem_cons_self))
    exact ⟨meth, c, h1, h2, h3, h4, h5, h6⟩
  · intro p e s m args below meth c s₁ B hml hP _
    have hh0 : s₁.heap = s.heap := by rw [B.state]; rfl
    have ht : ∀ x ∈ c.exceptionTable.toList, False := by
      obtain ⟨meth9, c9, h1, h2, -, -, -, -, h7, -⟩ := Cond.code_spec B.named (atoms_spec (ws := ws) B.pre _ (by rw [hw]; exact List.mem_cons_self))
      cases Option.some.inj (h1.symm.trans B.method)
      cases Option.some.inj (h2.symm.trans (Stand.of_body B).code)
      intro x hx
      rw [Array.isEmpty_iff.mp h7] at hx
      cases hx
    obtain ⟨t, a1, o, b1, b2, b3⟩ := body p e s m args below meth c s₁ B hml ht hP s₁ hh0 (Stand.of_body B)
    exact ⟨t, o, a1, b1, b2, b3⟩
/-- the table of a body with handlers -/
theorem vx_table {p : Program} {x y : MethodName} {S : Spec} {cc bytes : ByteArray} {maxL maxL' : Nat} {ret ret' : Option FieldType} {e : Env} {s s₁ : State} {m : MethodId} {args : Array Value} {below : List Frame} {meth : Method} {c : Code} {hh : List (Nat × Nat × Nat × Nat)}
    (B : BodyLoose p l y S cc maxL ret e s m args below meth c s₁) (h : (Cond.codeWith y bytes maxL' ret' hh).before args s = true) : c.exceptionTable.toList = tableOf hh := by
  obtain ⟨m9, meth9, c9, hn9, h1, h2, -, -, h6, -⟩ := Cond.codeWith_spec h
  cases Option.some.inj (hn9.symm.trans B.named)
  cases Option.some.inj (h1.symm.trans B.method)
  cases Option.some.inj (h2.symm.trans (Stand.of_body B).code)
  rw [← h6, table_eq]
end Bodies
end VXA
/-! ===== END ===== -/
/-! ===== BEGIN a static call of a method with an exception table ===== -/
section VXS
variable {p : Program} {l : Launch} {e : Env} {R : Room} {s : State} {m : MethodId} {args : Array Value} {below : List Frame} {meth : Method} {c : Code} {T : State} {H : Heap} {locs : List Loc} {cells slots : Nat}
abbrev vx_CSW (R : Room) (s : State) (args : Array Value) (own : String) (index : Nat) (y : MethodName) (bytes : ByteArray) (maxL : Nat) (ret : Option FieldType) (hh : List (Nat × Nat × Nat × Nat)) (ws : List Cond) (rm : Room) (mc ms n : Nat) : Prop :=
  (rm.cells = mc ∧ rm.slots = ms ∧ rm.frames + 1 ≤ R.frames ∧ 8 + (maxL + 11) + rm.locals ≤ R.locals ∧ (∀ w ∈ ws, ∀ (a' : Array Value) (U : State), s.WarmedH U.vm → w.before a' U = true) ∧ Cond.codeWith y bytes maxL ret hh ∈ ws) ∧
  (Cond.codeWith y bytes maxL ret hh).before args s = true ∧ (Cond.initialized y.cls).before args s = true ∧ (y.cls ≠ "java/lang/invoke/MethodHandle" ∧ y.cls ≠ "java/lang/invoke/VarHandle") ∧
  (∀ sig, parseMethodDescriptor y.desc = some sig → n = sig.parameters.length) ∧ (Cond.methodLink own index y).before args s = true ∧ (Cond.static y).before args s = true
theorem vx_cwSW {own : String} {index maxL mc ms : Nat} {y : MethodName} {bytes : ByteArray} {ret : Option FieldType} {hh : List (Nat × Nat × Nat × Nat)} {Ts ws ws' : List Cond} {rm : Room} (n : Nat) (ht : ∀ w ∈ Ts, w.before args s = true) (hT : GoodIn Ts (va_wsS own index y ws)) (hw : ws = Cond.codeWith y bytes maxL ret hh :: ws') (hrc : rm.cells = mc) (hrs : rm.slots = ms)
    (hd : y.cls ≠ "java/lang/invoke/MethodHandle" ∧ y.cls ≠ "java/lang/invoke/VarHandle" ∧ (parseMethodDescriptor y.desc).map (fun d => d.parameters.length) = some n) (hR : rm.frames + 1 ≤ R.frames ∧ 8 + (maxL + 11) + rm.locals ≤ R.locals) :
    vx_CSW R s args own index y bytes maxL ret hh ws rm mc ms n := by
  have ok : ∀ w ∈ va_wsS own index y ws, w.before args s = true := fun w h => ht w (hT w h).1
  have hG : GoodIn Ts ws := fun w h => hT w (by unfold va_wsS; exact List.mem_append_right _ h)
  have hc : Cond.codeWith y bytes maxL ret hh ∈ ws := by rw [hw]; exact List.mem_cons_self
  refine ⟨⟨hrc, hrs, hR.1, hR.2, pay_in ht hG, hc⟩, ht _ (hG _ hc).1, ok _ (by simp [va_wsS]), ⟨hd.1, hd.2.1⟩, fun sig h => ?_, ok _ (by simp [va_wsS]), ok _ (by simp [va_wsS])⟩
  have h2 := hd.2.2
  rw [h] at h2
  exact (Option.some.inj h2).symm
theorem vx_callSW (X : Stand p l e R s m args below meth c T locs cells slots) (hexec : p.tables.exec = Jvm.exec) {own : String} {index : Nat} {y : MethodName} {bytes : ByteArray} {maxL : Nat} {ret : Option FieldType} {hh : List (Nat × Nat × Nat × Nat)}
    (hown : s.vm.findClass own = some m.cls) (hlink : (Cond.methodLink own index y).before args s = true) (hstat : (Cond.static y).before args s = true) (hinit : (Cond.initialized y.cls).before args s = true)
    (hcode : (Cond.codeWith y bytes maxL ret hh).before args s = true) (hy : y.cls ≠ "java/lang/invoke/MethodHandle" ∧ y.cls ≠ "java/lang/invoke/VarHandle")
    {W9 : Nat} {Pre : Pt → Array Value → Prop} {Post : Pt → Array Value → Option Value → Pt → Prop} (hK : Back l R p e below s args y 3 W9 Pre Post)
    {g : JFrame} (hg : g.method = m) (hsize : g.locals.size = c.maxLocals) {argsL rest : List Value} (hlen : ∀ sig, parseMethodDescriptor y.desc = some sig → argsL.length = sig.parameters.length)
    (hstack : g.stack = argsL.reverse ++ rest) (hW : 2 * g.monitorRoom + (rest.map fun v => v.category).sum ≤ W9) (hdg : decode c.code g.pc = .ok (.invokestatic index, 3))
    (hpre : ∀ vm₁, s.WarmedH vm₁ → Pre ⟨T.setVm vm₁, locs, cells, slots⟩ argsL.toArray) :
    ∃ (v : Option Value) (vm₁ : Vm) (B : Pt), s.WarmedH vm₁ ∧ Stand p l e R s m args below meth c B.U B.locs B.cells B.slots ∧ Post ⟨T.setVm vm₁, locs, cells, slots⟩ argsL.toArray v B ∧
      ∀ target, Steps p.tables e below (B.U.setTop { g with pc := g.pc + 3, stack := v.toList ++ rest }) target → Steps p.tables e below (T.setTop g) target := by
  obtain ⟨mk, methM, cM, hnamed, hmethM, -, -, -, -, -, -, hsigM⟩ := Cond.codeWith_spec hcode
  have hstatic : methM.isStatic = true := Cond.static_spec hnamed hmethM hstat
  obtain ⟨kP, hkP, -⟩ := className_of_methodNamed hnamed
  have hinitP : kP.init = .initialized := Cond.initialized_spec (findClass_of_methodNamed hnamed) hkP hinit
  obtain ⟨vm₁, X₁, hstep₁⟩ := X.invokestatic hexec hown hlink hnamed hmethM hstatic hkP hinitP hy (g := g) hg (argsL := argsL) (rest := rest) (hlen _ hsigM) hstack hdg
  obtain ⟨v, B, X', hpost, hsteps⟩ := hK m meth c ⟨T.setVm vm₁, locs, cells, slots⟩ { g with stack := rest } (.invokestatic index) mk argsL.toArray X₁ hg hsize hdg hW (X₁.named hnamed) (hpre vm₁ X₁.warmed)
  exact ⟨v, vm₁, B, X₁.warmed, X', hpost, fun target h => hstep₁ _ fun acts => by rw [doInvoke_state]; exact hsteps.trans h⟩
theorem vx_runSW {y : MethodName} {bytes cc : ByteArray} {maxL nL mc ms n index : Nat} {ret : Option FieldType} {hh : List (Nat × Nat × Nat × Nat)} {ws : List Cond} {rm : Room} {Pc : Array Value → State → Prop} {Qc : Array Value → State → Outcome → State → Prop} {free : Addr → Prop} {Ts : List Cond} {own : String} {As rest : List Value} {g : JFrame}
    (S : CallFix p m c cc nL s args Ts own) (hM : Met l y ws rm Pc Qc mc ms free) (cw : vx_CSW R s args own index y bytes maxL ret hh ws rm mc ms n) (hp : PreS s H Pc As)
    (hg : g.method = m) (hn : As.length = n) (hsize : g.locals.size = nL) (hstack : g.stack = As.reverse ++ rest) (hW : 2 * g.monitorRoom + (rest.map fun v => v.category).sum ≤ 8) (hdg : decode cc g.pc = .ok (.invokestatic index, 3)) (hf : cells + mc ≤ R.cells ∧ slots + ms ≤ R.slots) :
    va_Run p l e R s m args below meth c H locs cells slots mc ms g rest (Qc As.toArray) (free) := by
  obtain ⟨⟨hrc, hrs, hfr, hlo, hws, hcw⟩, hcode, hini, hy, hlen, hl, hstt⟩ := cw
  have hK : Back l R p e below s args y 3 8 (PreOf R mc ms Pc) (PostOf Qc mc ms free) := va_backW (hh := hh) (bytes := bytes) (maxL := maxL) (ret := ret) hM hp.1 hrc hrs hfr hlo hws hcw (fun a' U hW => word_at hW (Or.inl (by first | rfl | simp [Cond.onTables, Cond.keeps, Cond.steady])) hini)
  obtain ⟨hx, hb, hml, ho, -⟩ := S
  intro T hT X
  obtain ⟨v, vm₁, ⟨U', l2, c2, s2⟩, hW₁, X', ⟨g', mk, t, L, e1, e2, hq, h1, hL, h2, h3⟩, st⟩ := vx_callSW X hx (hh := hh) (bytes := bytes) (maxL := maxL) (ret := ret) ho hl hstt hini hcode hy hK hg (hsize.trans hml.symm) (argsL := As) (rest := rest) (fun sig h => hn.trans (hlen sig h)) hstack hW (by rw [hb]; exact hdg)
    (fun vm₁ hW₁ => ⟨hf.1, hf.2, hp.2 (T.setVm vm₁) hT hW₁⟩)
  dsimp only [Pt.U, Pt.locs, Pt.cells, Pt.slots] at X' e1 e2 h1 h2 h3 st
  subst h1; subst h2; subst h3
  exact ⟨v, (T.setVm vm₁).calling g' mk As.toArray, t, U', L, hT, X', hL, e1, e2, hq, st⟩
/-- a thing of a world lies in the heap -/
theorem vx_lt {D : va_G} {cl : List vw_C} {ws : va_W} {H1 : Heap} (h : va_P D cl ws H1) {k : Nat} {q : Nat × va_E} (hk : ws[k]? = some q) : q.1 < H1.size := (h k q hk).lt
end VXS
/-! ===== END ===== -/
/-! ===== BEGIN methods with a table of their own: called by a name, returning or throwing ===== -/
section VXH
/-! vx_backW, vx_callVX, vx_callSX, vx_callVW, vx_runVW, vx_runVX, vx_runSX, vx_ofWH follow the same proofs as their sisters above (Free/Laws.lean, Shelf42/LK1.lean); vx_outP calls Shelf42/NT130.lean (outThrough). -/
section
variable {l : Launch} {R : Room} {p : Program} {e : Env} {below : List Frame} {s : State} {sargs : Array Value} {y : MethodName} {len W9 : Nat}
theorem vx_backW {ws : List Cond} {rm : Room} {Pc : Array Value → State → Prop} {Qc : Array Value → State → Outcome → State → Prop} {XC : String → State → State → Prop} {mc ms : Nat} {free : Addr → Prop} {bytes : ByteArray} {maxL : Nat} {ret : Option FieldType} {hh : List (Nat × Nat × Nat × Nat)}
    (hM : vx_Met l y ws rm Pc Qc XC mc ms free) (hblind : FrameBlind Pc) (hrc : rm.cells = mc) (hrs : rm.slots = ms)
    (hframes : rm.frames + 1 ≤ R.frames) (hlocals : W9 + (maxL + 11) + rm.locals ≤ R.locals)
    (hws : ∀ w ∈ ws, ∀ a' U, s.WarmedH U.vm → w.before a' U = true) (hcode : Cond.codeWith y bytes maxL ret hh ∈ ws) (hinit : ∀ a' U, s.WarmedH U.vm → (Cond.initialized y.cls).before a' U = true) :
    vx_Back l R p e below s sargs y len W9 (PreOf R mc ms Pc) (PostOf Qc mc ms free) (vx_Post XC mc ms free) := by
  intro m meth c A g ig mk a X hg hsize hdg hW hn hp
  have h1 : (headSpec ws rm).pre.before a A.U = true := atoms_intro fun w hw => hws w hw _ _ X.warmed
  have h2 : (Cond.codeWith y bytes maxL ret hh).before a A.U = true := hws _ hcode _ _ X.warmed
  have h3 : (Cond.initialized y.cls).before a A.U = true := hinit _ _ X.warmed
  have h4 : A.cells + (headSpec ws rm).room.cells ≤ R.cells := by rw [show (headSpec ws rm).room.cells = mc from hrc]; exact hp.1
  have h5 : A.slots + (headSpec ws rm).room.slots ≤ R.slots := by rw [show (headSpec ws rm).room.slots = ms from hrs]; exact hp.2.1
  have hPc : Pc a (A.U.calling g mk a) := hblind _ _ _ _ hp.2.2
  obtain ⟨U, Ls, c0, s0⟩ := A
  dsimp only [Pt.U, Pt.locs, Pt.cells, Pt.slots] at h1 h2 h3 h4 h5 X hn hPc ⊢
  obtain ⟨m9, methY, cY, hn9, hmY, hcY, -, hlY, -⟩ := Cond.codeWith_spec h2
  cases Option.some.inj (hn9.symm.trans hn)
  obtain ⟨kY, hkY, -⟩ := className_of_methodNamed hn
  have hinitY : kY.init = .initialized := Cond.initialized_spec (findClass_of_methodNamed hn) hkY h3
  have h : At U g.method c below := by rw [hg]; exact X.here
  have hlocals9 : W9 + (maxL + 11) + (headSpec ws rm).room.locals ≤ R.locals := hlocals
  have happ : (headSpec ws rm).appliesLoose y e.platform (U.calling g mk a) = true :=
    Spec.appliesLoose_calling (g := g) h hdg hn hkY hinitY
      (X.room_calling (g := g) (R' := (headSpec ws rm).room) hsize hmY hcY hframes (by rw [hlY]; omega) h4 h5) h1
  obtain ⟨mid, hmid⟩ := h.above
  have hfr : (U.setTop g).frames = (.java g :: mid) ++ below := by rw [State.frames_setTop' g h.top, hmid]; rfl
  obtain ⟨o, s₂, hsteps, -, hend, hq⟩ := Steps.callFree hM p X.admits X.cas X.clock (acts := []) hfr happ hPc trivial
  have hq' : vx_Q Qc XC mc ms free a (U.calling g mk a) o s₂ := hq
  rw [State.frames_setTop' g h.top] at hend
  obtain ⟨g₀, hg0⟩ := Option.isSome_iff_exists.mp h.top
  obtain ⟨r, hr⟩ := State.topJava?_eq_some.mp hg0
  have hr' : (({ U with heap := s₂.heap, slotsUsed := s₂.slotsUsed } : State).setVm s₂.vm).frames = .java g₀ :: r := hr
  rcases hq' with ⟨hqc, L, hfe, hL⟩ | ⟨q, rfl, E, ce, L, hx, hce, hcv, hcl, hW₂, hsm, hL⟩
  · obtain ⟨⟨v, rfl⟩, hW₂, e2, q2, q3, q4, q5, q6⟩ := id hfe
    have e3 : s₂ = ({ (U.calling g mk a).setFrames s₂.frames with heap := s₂.heap, slotsUsed := s₂.slotsUsed } : State).setVm s₂.vm := by
      have : s₂ = ({ s₂ with vm := (U.calling g mk a).vm } : State).setVm s₂.vm := rfl
      rw [e2] at this
      exact this
    obtain ⟨c₂, i₂, len₂, hc₂, hd₂, hf₂⟩ := hend
    have hW' : U.WarmedH s₂.vm := hW₂
    have hcc : c₂ = c := by
      have h1 : s₂.code? g.method = U.code? g.method := by
        rw [State.code?_eq, State.code?_eq, hW'.alike.method?]
      exact Option.some.inj (hc₂.symm.trans (h1.trans h.code))
    subst hcc
    have hlen : len₂ = len := by rw [hdg] at hd₂; cases hd₂; rfl
    subst hlen
    have hs₂ : s₂ = (({ U with heap := s₂.heap, slotsUsed := s₂.slotsUsed } : State).setVm s₂.vm).setTop { g with pc := g.pc + len₂, stack := v.toList ++ g.stack } := by
      refine e3.trans ?_
      rw [hf₂, State.calling_eq h.top, State.setFrames_setFrames, State.setTop_of_frames _ hr', hr]
      rfl
    have hsame : U.sameButNew ({ U with heap := s₂.heap, slotsUsed := s₂.slotsUsed } : State) L mc ms := by
      refine ⟨?_, q2, q3, q4, q5, q6⟩
      obtain ⟨t, ht, -⟩ := State.frames_cons hr
      show ({ U with heap := s₂.heap, slotsUsed := s₂.slotsUsed } : State) = { U.setFrames U.frames with heap := s₂.heap, slotsUsed := s₂.slotsUsed }
      rw [State.setFrames_self ht]
    subst hg
    refine Or.inl ⟨v, ⟨(({ U with heap := s₂.heap, slotsUsed := s₂.slotsUsed } : State).setVm s₂.vm), Ls ++ L, c0 + mc, s0 + ms⟩,
      ⟨X.admits, X.cas, X.clock, X.frames, X.room, X.hears, X.method, X.code, (X.here.setHeapUsed s₂.heap s₂.slotsUsed).setVm hW'.alike, X.tail, State.WarmedH.trans X.warmed hW', X.limits, X.bytes, X.same.trans (hsame.setVm s.vm)⟩,
      ⟨g, mk, s₂, L, rfl, rfl, hqc, rfl, hL, rfl, rfl⟩, ?_⟩
    show Steps p.tables e below _ ((({ U with heap := s₂.heap, slotsUsed := s₂.slotsUsed } : State).setVm s₂.vm).setTop { g with pc := g.pc + len₂, stack := v.toList ++ g.stack })
    rw [← hs₂]
    exact hsteps
  · obtain ⟨e2, q2, q3, q4, q5, q6⟩ := id hsm
    have e3 : s₂ = ({ (U.calling g mk a).setFrames s₂.frames with heap := s₂.heap, slotsUsed := s₂.slotsUsed } : State).setVm s₂.vm := by
      have : s₂ = ({ s₂ with vm := (U.calling g mk a).vm } : State).setVm s₂.vm := rfl
      rw [e2] at this
      exact this
    have hf₂ : s₂.frames = .throwing q :: .java g :: U.frames.tail := hend
    have hW' : U.WarmedH s₂.vm := hW₂
    have hs₂ : s₂ = ((({ U with heap := s₂.heap, slotsUsed := s₂.slotsUsed } : State).setVm s₂.vm).setTop g).pushFrame (.throwing q) := by
      refine e3.trans ?_
      rw [hf₂, State.calling_eq h.top, State.setFrames_setFrames, State.pushFrame, State.frames_setTop _ hr', State.setTop_of_frames _ hr', State.setFrames_setFrames, hr]
      rfl
    have hsame : U.sameButNew ({ U with heap := s₂.heap, slotsUsed := s₂.slotsUsed } : State) L mc ms := by
      refine ⟨?_, q2, q3, q4, q5, q6⟩
      obtain ⟨t, ht, -⟩ := State.frames_cons hr
      show ({ U with heap := s₂.heap, slotsUsed := s₂.slotsUsed } : State) = { U.setFrames U.frames with heap := s₂.heap, slotsUsed := s₂.slotsUsed }
      rw [State.setFrames_self ht]
    subst hg
    refine Or.inr ⟨q, ⟨(({ U with heap := s₂.heap, slotsUsed := s₂.slotsUsed } : State).setVm s₂.vm), Ls ++ L, c0 + mc, s0 + ms⟩,
      ⟨X.admits, X.cas, X.clock, X.frames, X.room, X.hears, X.method, X.code, (X.here.setHeapUsed s₂.heap s₂.slotsUsed).setVm hW'.alike, X.tail, State.WarmedH.trans X.warmed hW', X.limits, X.bytes, X.same.trans (hsame.setVm s.vm)⟩,
      ⟨g, mk, s₂, L, E, ce, rfl, rfl, hx, hce, hcv, hcl, rfl, hL, rfl, rfl⟩, ?_⟩
    show Steps p.tables e below _ (((({ U with heap := s₂.heap, slotsUsed := s₂.slotsUsed } : State).setVm s₂.vm).setTop g).pushFrame (.throwing q))
    rw [← hs₂]
    exact hsteps
end
variable {p : Program} {l : Launch} {e : Env} {R : Room} {s : State} {m : MethodId} {args : Array Value} {below : List Frame} {meth : Method} {c : Code} {T : State} {H : Heap} {locs : List Loc} {cells slots : Nat}
theorem vx_callVX (X : Stand p l e R s m args below meth c T locs cells slots) (hexec : p.tables.exec = Jvm.exec) {own C : String} {index : Nat} {y : MethodName} {bytes : ByteArray} {maxL : Nat} {ret : Option FieldType} {hh : List (Nat × Nat × Nat × Nat)}
    (hown : s.vm.findClass own = some m.cls) (hlink : (Cond.methodLink own index y).before args s = true) (hinst : (Cond.instanceMethod y).before args s = true) (hsel : (Cond.selects C y y).before args s = true)
    (hcode : (Cond.codeWith y bytes maxL ret hh).before args s = true) (hy : y.cls ≠ "java/lang/invoke/MethodHandle" ∧ y.cls ≠ "java/lang/invoke/VarHandle")
    {W9 : Nat} {Pre : Pt → Array Value → Prop} {Post : Pt → Array Value → Option Value → Pt → Prop} {PostX : Pt → Array Value → Addr → Pt → Prop} (hK : vx_Back l R p e below s args y 3 W9 Pre Post PostX)
    {b : Addr} {cellB : Cell} (hcell : T.heap[b]? = some cellB) (hobj : cellB.vm.isStatics = false) (hcls : s.vm.findClass C = some cellB.cls)
    {g : JFrame} (hg : g.method = m) (hsize : g.locals.size = c.maxLocals) {argsL rest : List Value} (hlen : ∀ sig, parseMethodDescriptor y.desc = some sig → argsL.length = sig.parameters.length)
    (hstack : g.stack = argsL.reverse ++ .ref b :: rest) (hW : 2 * g.monitorRoom + (rest.map fun v => v.category).sum ≤ W9) (hdg : decode c.code g.pc = .ok (.invokevirtual index, 3))
    (hpre : ∀ vm₁, s.WarmedH vm₁ → Pre ⟨T.setVm vm₁, locs, cells, slots⟩ (Value.ref b :: argsL).toArray) :
    (∃ (v : Option Value) (vm₁ : Vm) (B : Pt), s.WarmedH vm₁ ∧ Stand p l e R s m args below meth c B.U B.locs B.cells B.slots ∧ Post ⟨T.setVm vm₁, locs, cells, slots⟩ (Value.ref b :: argsL).toArray v B ∧
      ∀ target, Steps p.tables e below (B.U.setTop { g with pc := g.pc + 3, stack := v.toList ++ rest }) target → Steps p.tables e below (T.setTop g) target) ∨
    (∃ (q : Addr) (vm₁ : Vm) (B : Pt), s.WarmedH vm₁ ∧ Stand p l e R s m args below meth c B.U B.locs B.cells B.slots ∧ PostX ⟨T.setVm vm₁, locs, cells, slots⟩ (Value.ref b :: argsL).toArray q B ∧
      Steps p.tables e below (T.setTop g) ((B.U.setTop { g with stack := rest }).pushFrame (.throwing q))) := by
  obtain ⟨mk, methM, hnamed, hmethM, hstM, habM⟩ := Cond.instanceMethod_spec hinst
  obtain ⟨m8, methM', cM, hn8, hmethM', -, -, -, -, -, -, hsigM⟩ := Cond.codeWith_spec hcode
  cases Option.some.inj (hn8.symm.trans hnamed)
  cases hmethM.symm.trans hmethM'
  obtain ⟨c2, r2, m2, q1, q2, q3, q4, kP, hkP, hkPi⟩ := Cond.selects_spec hsel
  cases hcls.symm.trans q1
  cases (State.methodFound?_of_named hnamed hy).symm.trans q2
  cases hnamed.symm.trans q3
  have hselP : selectMethod e.platform s.vm cellB.cls mk = .method mk := by rw [Launch.admits_selectMethod X.admits]; exact q4
  obtain ⟨vm₁, X₁, hstep₁⟩ := X.invokevirtual hexec hown hlink hnamed hmethM hstM hkP hkPi hy (a := b) (cell := cellB) hcell
    (fun z h => by rw [h] at hobj; cases hobj) hselP hmethM habM hkP hkPi (g := g) hg (argsL := argsL) (rest := rest) (hlen _ hsigM) hstack hdg
  rcases hK m meth c ⟨T.setVm vm₁, locs, cells, slots⟩ { g with stack := rest } (.invokevirtual index) mk (Value.ref b :: argsL).toArray X₁ hg hsize hdg hW (X₁.named hnamed) (hpre vm₁ X₁.warmed) with ⟨v, B, X', hpost, hsteps⟩ | ⟨q, B, X', hpost, hsteps⟩
  · exact Or.inl ⟨v, vm₁, B, X₁.warmed, X', hpost, fun target h => hstep₁ _ fun acts => by rw [doInvoke_state]; exact hsteps.trans h⟩
  · exact Or.inr ⟨q, vm₁, B, X₁.warmed, X', hpost, hstep₁ _ fun acts => by rw [doInvoke_state]; exact hsteps⟩
theorem vx_callSX (X : Stand p l e R s m args below meth c T locs cells slots) (hexec : p.tables.exec = Jvm.exec) {own : String} {index : Nat} {y : MethodName} {bytes : ByteArray} {maxL : Nat} {ret : Option FieldType} {hh : List (Nat × Nat × Nat × Nat)}
    (hown : s.vm.findClass own = some m.cls) (hlink : (Cond.methodLink own index y).before args s = true) (hstat : (Cond.static y).before args s = true) (hinit : (Cond.initialized y.cls).before args s = true)
    (hcode : (Cond.codeWith y bytes maxL ret hh).before args s = true) (hy : y.cls ≠ "java/lang/invoke/MethodHandle" ∧ y.cls ≠ "java/lang/invoke/VarHandle")
    {W9 : Nat} {Pre : Pt → Array Value → Prop} {Post : Pt → Array Value → Option Value → Pt → Prop} {PostX : Pt → Array Value → Addr → Pt → Prop} (hK : vx_Back l R p e below s args y 3 W9 Pre Post PostX)
    {g : JFrame} (hg : g.method = m) (hsize : g.locals.size = c.maxLocals) {argsL rest : List Value} (hlen : ∀ sig, parseMethodDescriptor y.desc = some sig → argsL.length = sig.parameters.length)
    (hstack : g.stack = argsL.reverse ++ rest) (hW : 2 * g.monitorRoom + (rest.map fun v => v.category).sum ≤ W9) (hdg : decode c.code g.pc = .ok (.invokestatic index, 3))
    (hpre : ∀ vm₁, s.WarmedH vm₁ → Pre ⟨T.setVm vm₁, locs, cells, slots⟩ argsL.toArray) :
    (∃ (v : Option Value) (vm₁ : Vm) (B : Pt), s.WarmedH vm₁ ∧ Stand p l e R s m args below meth c B.U B.locs B.cells B.slots ∧ Post ⟨T.setVm vm₁, locs, cells, slots⟩ argsL.toArray v B ∧
      ∀ target, Steps p.tables e below (B.U.setTop { g with pc := g.pc + 3, stack := v.toList ++ rest }) target → Steps p.tables e below (T.setTop g) target) ∨
    (∃ (q : Addr) (vm₁ : Vm) (B : Pt), s.WarmedH vm₁ ∧ Stand p l e R s m args below meth c B.U B.locs B.cells B.slots ∧ PostX ⟨T.setVm vm₁, locs, cells, slots⟩ argsL.toArray q B ∧
      Steps p.tables e below (T.setTop g) ((B.U.setTop { g with stack := rest }).pushFrame (.throwing q))) := by
  obtain ⟨mk, methM, cM, hnamed, hmethM, -, -, -, -, -, -, hsigM⟩ := Cond.codeWith_spec hcode
  have hstatic : methM.isStatic = true := Cond.static_spec hnamed hmethM hstat
  obtain ⟨kP, hkP, -⟩ := className_of_methodNamed hnamed
  have hinitP : kP.init = .initialized := Cond.initialized_spec (findClass_of_methodNamed hnamed) hkP hinit
  obtain ⟨vm₁, X₁, hstep₁⟩ := X.invokestatic hexec hown hlink hnamed hmethM hstatic hkP hinitP hy (g := g) hg (argsL := argsL) (rest := rest) (hlen _ hsigM) hstack hdg
  rcases hK m meth c ⟨T.setVm vm₁, locs, cells, slots⟩ { g with stack := rest } (.invokestatic index) mk argsL.toArray X₁ hg hsize hdg hW (X₁.named hnamed) (hpre vm₁ X₁.warmed) with ⟨v, B, X', hpost, hsteps⟩ | ⟨q, B, X', hpost, hsteps⟩
  · exact Or.inl ⟨v, vm₁, B, X₁.warmed, X', hpost, fun target h => hstep₁ _ fun acts => by rw [doInvoke_state]; exact hsteps.trans h⟩
  · exact Or.inr ⟨q, vm₁, B, X₁.warmed, X', hpost, hstep₁ _ fun acts => by rw [doInvoke_state]; exact hsteps⟩
theorem vx_callVW (X : Stand p l e R s m args below meth c T locs cells slots) (hexec : p.tables.exec = Jvm.exec) {own C : String} {index : Nat} {y : MethodName} {bytes : ByteArray} {maxL : Nat} {ret : Option FieldType} {hh : List (Nat × Nat × Nat × Nat)}
    (hown : s.vm.findClass own = some m.cls) (hlink : (Cond.methodLink own index y).before args s = true) (hinst : (Cond.instanceMethod y).before args s = true) (hsel : (Cond.selects C y y).before args s = true)
    (hcode : (Cond.codeWith y bytes maxL ret hh).before args s = true) (hy : y.cls ≠ "java/lang/invoke/MethodHandle" ∧ y.cls ≠ "java/lang/invoke/VarHandle")
    {W9 : Nat} {Pre : Pt → Array Value → Prop} {Post : Pt → Array Value → Option Value → Pt → Prop} (hK : Back l R p e below s args y 3 W9 Pre Post)
    {b : Addr} {cellB : Cell} (hcell : T.heap[b]? = some cellB) (hobj : cellB.vm.isStatics = false) (hcls : s.vm.findClass C = some cellB.cls)
    {g : JFrame} (hg : g.method = m) (hsize : g.locals.size = c.maxLocals) {argsL rest : List Value} (hlen : ∀ sig, parseMethodDescriptor y.desc = some sig → argsL.length = sig.parameters.length)
    (hstack : g.stack = argsL.reverse ++ .ref b :: rest) (hW : 2 * g.monitorRoom + (rest.map fun v => v.category).sum ≤ W9) (hdg : decode c.code g.pc = .ok (.invokevirtual index, 3))
    (hpre : ∀ vm₁, s.WarmedH vm₁ → Pre ⟨T.setVm vm₁, locs, cells, slots⟩ (Value.ref b :: argsL).toArray) :
    ∃ (v : Option Value) (vm₁ : Vm) (B : Pt), s.WarmedH vm₁ ∧ Stand p l e R s m args below meth c B.U B.locs B.cells B.slots ∧ Post ⟨T.setVm vm₁, locs, cells, slots⟩ (Value.ref b :: argsL).toArray v B ∧
      ∀ target, Steps p.tables e below (B.U.setTop { g with pc := g.pc + 3, stack := v.toList ++ rest }) target → Steps p.tables e below (T.setTop g) target := by
  obtain ⟨mk, methM, hnamed, hmethM, hstM, habM⟩ := Cond.instanceMethod_spec hinst
  obtain ⟨m8, methM', cM, hn8, hmethM', -, -, -, -, -, -, hsigM⟩ := Cond.codeWith_spec hcode
  cases Option.some.inj (hn8.symm.trans hnamed)
  cases hmethM.symm.trans hmethM'
  obtain ⟨c2, r2, m2, q1, q2, q3, q4, kP, hkP, hkPi⟩ := Cond.selects_spec hsel
  cases hcls.symm.trans q1
  cases (State.methodFound?_of_named hnamed hy).symm.trans q2
  cases hnamed.symm.trans q3
  have hselP : selectMethod e.platform s.vm cellB.cls mk = .method mk := by rw [Launch.admits_selectMethod X.admits]; exact q4
  obtain ⟨vm₁, X₁, hstep₁⟩ := X.invokevirtual hexec hown hlink hnamed hmethM hstM hkP hkPi hy (a := b) (cell := cellB) hcell
    (fun z h => by rw [h] at hobj; cases hobj) hselP hmethM habM hkP hkPi (g := g) hg (argsL := argsL) (rest := rest) (hlen _ hsigM) hstack hdg
  obtain ⟨v, B, X', hpost, hsteps⟩ := hK m meth c ⟨T.setVm vm₁, locs, cells, slots⟩ { g with stack := rest } (.invokevirtual index) mk (Value.ref b :: argsL).toArray X₁ hg hsize hdg hW (X₁.named hnamed) (hpre vm₁ X₁.warmed)
  exact ⟨v, vm₁, B, X₁.warmed, X', hpost, fun target h => hstep₁ _ fun acts => by rw [doInvoke_state]; exact hsteps.trans h⟩
abbrev vx_CVW (R : Room) (s : State) (args : Array Value) (own C : String) (index : Nat) (y : MethodName) (bytes : ByteArray) (maxL : Nat) (ret : Option FieldType) (hh : List (Nat × Nat × Nat × Nat)) (ws : List Cond) (rm : Room) (mc ms n : Nat) : Prop :=
  (rm.cells = mc ∧ rm.slots = ms ∧ rm.frames + 1 ≤ R.frames ∧ 8 + (maxL + 11) + rm.locals ≤ R.locals ∧ (∀ w ∈ ws, ∀ (a' : Array Value) (U : State), s.WarmedH U.vm → w.before a' U = true) ∧ Cond.codeWith y bytes maxL ret hh ∈ ws) ∧
  (Cond.codeWith y bytes maxL ret hh).before args s = true ∧ (Cond.initialized y.cls).before args s = true ∧ (y.cls ≠ "java/lang/invoke/MethodHandle" ∧ y.cls ≠ "java/lang/invoke/VarHandle") ∧
  (∀ sig, parseMethodDescriptor y.desc = some sig → n = sig.parameters.length) ∧ (Cond.methodLink own index y).before args s = true ∧ (Cond.instanceMethod y).before args s = true ∧ (Cond.selects C y y).before args s = true
theorem vx_cwVW {own C : String} {index maxL mc ms : Nat} {y : MethodName} {bytes : ByteArray} {ret : Option FieldType} {hh : List (Nat × Nat × Nat × Nat)} {Ts ws ws' : List Cond} {rm : Room} (n : Nat) (ht : ∀ w ∈ Ts, w.before args s = true) (hT : GoodIn Ts (wsV own index C y ws)) (hw : ws = Cond.codeWith y bytes maxL ret hh :: ws') (hrc : rm.cells = mc) (hrs : rm.slots = ms)
    (hd : y.cls = C ∧ y.cls ≠ "java/lang/invoke/MethodHandle" ∧ y.cls ≠ "java/lang/invoke/VarHandle" ∧ (parseMethodDescriptor y.desc).map (fun d => d.parameters.length) = some n) (hR : rm.frames + 1 ≤ R.frames ∧ 8 + (maxL + 11) + rm.locals ≤ R.locals) :
    vx_CVW R s args own C index y bytes maxL ret hh ws rm mc ms n := by
  obtain ⟨hC, hd⟩ := hd
  subst hC
  have ok : ∀ w ∈ wsV own index y.cls y ws, w.before args s = true := fun w h => ht w (hT w h).1
  have hG : GoodIn Ts ws := fun w h => hT w (by unfold wsV; exact List.mem_append_right _ h)
  have hc : Cond.codeWith y bytes maxL ret hh ∈ ws := by rw [hw]; exact List.mem_cons_self
  refine ⟨⟨hrc, hrs, hR.1, hR.2, pay_in ht hG, hc⟩, ht _ (hG _ hc).1, ok _ (by simp [wsV]), ⟨hd.1, hd.2.1⟩, fun sig h => ?_, ok _ (by simp [wsV]), ok _ (by simp [wsV]), ok _ (by simp [wsV])⟩
  have h2 := hd.2.2
  rw [h] at h2
  exact (Option.some.inj h2).symm
theorem vx_runVW {y : MethodName} {bytes cc : ByteArray} {maxL nL mc ms n index : Nat} {ret : Option FieldType} {hh : List (Nat × Nat × Nat × Nat)} {ws : List Cond} {rm : Room} {Pc : Array Value → State → Prop} {Qc : Array Value → State → Outcome → State → Prop} {free : Addr → Prop} {Ts : List Cond} {own C : String} {b : Addr} {As rest : List Value} {g : JFrame}
    (S : CallFix p m c cc nL s args Ts own) (hM : Met l y ws rm Pc Qc mc ms free) (cw : vx_CVW R s args own C index y bytes maxL ret hh ws rm mc ms n) (hp : PreV s H C b Pc As)
    (hg : g.method = m) (hn : As.length = n) (hsize : g.locals.size = nL) (hstack : g.stack = As.reverse ++ .ref b :: rest) (hW : 2 * g.monitorRoom + (rest.map fun v => v.category).sum ≤ 8) (hdg : decode cc g.pc = .ok (.invokevirtual index, 3)) (hf : cells + mc ≤ R.cells ∧ slots + ms ≤ R.slots) :
    va_Run p l e R s m args below meth c H locs cells slots mc ms g rest (Qc (Value.ref b :: As).toArray) free := by
  obtain ⟨⟨hrc, hrs, hfr, hlo, hws, hcw⟩, hcode, hini, hy, hlen, hl, hin, hse⟩ := cw
  have hK : Back l R p e below s args y 3 8 (PreOf R mc ms Pc) (PostOf Qc mc ms free) := va_backW (hh := hh) (bytes := bytes) (maxL := maxL) (ret := ret) hM hp.1 hrc hrs hfr hlo hws hcw (fun a' U hW => word_at hW (Or.inl (by first | rfl | simp [Cond.onTables, Cond.keeps, Cond.steady])) hini)
  obtain ⟨hx, hb, hml, ho, -⟩ := S
  obtain ⟨-, ⟨cellB, hcB, hoB, hclB⟩, hPc⟩ := hp
  intro T hT X
  obtain ⟨v, vm₁, ⟨U', l2, c2, s2⟩, hW₁, X', ⟨g', mk, t, L, e1, e2, hq, h1, hL, h2, h3⟩, st⟩ := vx_callVW X hx (C := C) (hh := hh) (bytes := bytes) (maxL := maxL) (ret := ret) ho hl hin hse hcode hy hK (by rw [hT]; exact hcB) hoB hclB hg (hsize.trans hml.symm) (argsL := As) (rest := rest) (fun sig h => hn.trans (hlen sig h)) hstack hW (by rw [hb]; exact hdg)
    (fun vm₁ hW₁ => ⟨hf.1, hf.2, hPc (T.setVm vm₁) hT hW₁⟩)
  dsimp only [Pt.U, Pt.locs, Pt.cells, Pt.slots] at X' e1 e2 h1 h2 h3 st
  subst h1; subst h2; subst h3
  exact ⟨v, (T.setVm vm₁).calling g' mk (Value.ref b :: As).toArray, t, U', L, hT, X', hL, e1, e2, hq, st⟩
section
variable {y : MethodName} {bytes cc : ByteArray} {maxL nL mc ms n index : Nat} {ret : Option FieldType} {ws : List Cond} {rm : Room} {Pc : Array Value → State → Prop} {Qc : Array Value → State → Outcome → State → Prop} {XC : String → State → State → Prop} {free : Addr → Prop} {Ts : List Cond} {own C : String} {b : Addr} {As rest : List Value} {g : JFrame}
theorem vx_runVX {hh : List (Nat × Nat × Nat × Nat)} (S : CallFix p m c cc nL s args Ts own) (hM : vx_Met l y ws rm Pc Qc XC mc ms free) (cw : vx_CVW R s args own C index y bytes maxL ret hh ws rm mc ms n) (hp : PreV s H C b Pc As)
    (hg : g.method = m) (hn : As.length = n) (hsize : g.locals.size = nL) (hstack : g.stack = As.reverse ++ .ref b :: rest) (hW : 2 * g.monitorRoom + (rest.map fun v => v.category).sum ≤ 8) (hdg : decode cc g.pc = .ok (.invokevirtual index, 3)) (hf : cells + mc ≤ R.cells ∧ slots + ms ≤ R.slots) :
    vx_Run p l e R s m args below meth c H locs cells slots mc ms g rest (Qc (Value.ref b :: As).toArray) XC free := by
  obtain ⟨⟨hrc, hrs, hfr, hlo, hws, hcw⟩, hcode, hini, hy, hlen, hl, hin, hse⟩ := cw
  have hK : vx_Back l R p e below s args y 3 8 (PreOf R mc ms Pc) (PostOf Qc mc ms free) (vx_Post XC mc ms free) := vx_backW (hh := hh) (bytes := bytes) (maxL := maxL) (ret := ret) hM hp.1 hrc hrs hfr hlo hws hcw (fun a' U hW => word_at hW (Or.inl (by first | rfl | simp [Cond.onTables, Cond.keeps, Cond.steady])) hini)
  obtain ⟨hx, hb, hml, ho, -⟩ := S
  obtain ⟨-, ⟨cellB, hcB, hoB, hclB⟩, hPc⟩ := hp
  intro T hT X
  rcases vx_callVX X hx (C := C) (hh := hh) (bytes := bytes) (maxL := maxL) (ret := ret) ho hl hin hse hcode hy hK (by rw [hT]; exact hcB) hoB hclB hg (hsize.trans hml.symm) (argsL := As) (rest := rest) (fun sig h => hn.trans (hlen sig h)) hstack hW (by rw [hb]; exact hdg)
    (fun vm₁ hW₁ => ⟨hf.1, hf.2, hPc (T.setVm vm₁) hT hW₁⟩) with ⟨v, vm₁, ⟨U', l2, c2, s2⟩, hW₁, X', ⟨g', mk, t, L, e1, e2, hq, h1, hL, h2, h3⟩, st⟩ | ⟨q, vm₁, ⟨U', l2, c2, s2⟩, hW₁, X', ⟨g', mk, t, L, E, ce, e1, e2, hq, hce, hcv, hcl, h1, hL, h2, h3⟩, st⟩
  · dsimp only [Pt.U, Pt.locs, Pt.cells, Pt.slots] at X' e1 e2 h1 h2 h3 st
    subst h1; subst h2; subst h3
    exact Or.inl ⟨v, (T.setVm vm₁).calling g' mk (Value.ref b :: As).toArray, t, U', L, hT, X', hL, e1, e2, hq, st⟩
  · dsimp only [Pt.U, Pt.locs, Pt.cells, Pt.slots] at X' e1 e2 h1 h2 h3 st hcl
    subst h1; subst h2; subst h3
    exact Or.inr ⟨q, (T.setVm vm₁).calling g' mk (Value.ref b :: As).toArray, t, U', L, E, ce, hT, X', hL, e1, e2, hq, hce, hcv, vx_cls hW₁ hcl, st⟩
theorem vx_runSX {hh : List (Nat × Nat × Nat × Nat)} (S : CallFix p m c cc nL s args Ts own) (hM : vx_Met l y ws rm Pc Qc XC mc ms free) (cw : vx_CSW R s args own index y bytes maxL ret hh ws rm mc ms n) (hp : PreS s H Pc As)
    (hg : g.method = m) (hn : As.length = n) (hsize : g.locals.size = nL) (hstack : g.stack = As.reverse ++ rest) (hW : 2 * g.monitorRoom + (rest.map fun v => v.category).sum ≤ 8) (hdg : decode cc g.pc = .ok (.invokestatic index, 3)) (hf : cells + mc ≤ R.cells ∧ slots + ms ≤ R.slots) :
    vx_Run p l e R s m args below meth c H locs cells slots mc ms g rest (Qc As.toArray) XC free := by
  obtain ⟨⟨hrc, hrs, hfr, hlo, hws, hcw⟩, hcode, hini, hy, hlen, hl, hstt⟩ := cw
  have hK : vx_Back l R p e below s args y 3 8 (PreOf R mc ms Pc) (PostOf Qc mc ms free) (vx_Post XC mc ms free) := vx_backW (hh := hh) (bytes := bytes) (maxL := maxL) (ret := ret) hM hp.1 hrc hrs hfr hlo hws hcw (fun a' U hW => word_at hW (Or.inl (by first | rfl | simp [Cond.onTables, Cond.keeps, Cond.steady])) hini)
  obtain ⟨hx, hb, hml, ho, -⟩ := S
  intro T hT X
  rcases vx_callSX X hx (hh := hh) (bytes := bytes) (maxL := maxL) (ret := ret) ho hl hstt hini hcode hy hK hg (hsize.trans hml.symm) (argsL := As) (rest := rest) (fun sig h => hn.trans (hlen sig h)) hstack hW (by rw [hb]; exact hdg)
    (fun vm₁ hW₁ => ⟨hf.1, hf.2, hp.2 (T.setVm vm₁) hT hW₁⟩) with ⟨v, vm₁, ⟨U', l2, c2, s2⟩, hW₁, X', ⟨g', mk, t, L, e1, e2, hq, h1, hL, h2, h3⟩, st⟩ | ⟨q, vm₁, ⟨U', l2, c2, s2⟩, hW₁, X', ⟨g', mk, t, L, E, ce, e1, e2, hq, hce, hcv, hcl, h1, hL, h2, h3⟩, st⟩
  · dsimp only [Pt.U, Pt.locs, Pt.cells, Pt.slots] at X' e1 e2 h1 h2 h3 st
    subst h1; subst h2; subst h3
    exact Or.inl ⟨v, (T.setVm vm₁).calling g' mk As.toArray, t, U', L, hT, X', hL, e1, e2, hq, st⟩
  · dsimp only [Pt.U, Pt.locs, Pt.cells, Pt.slots] at X' e1 e2 h1 h2 h3 st hcl
    subst h1; subst h2; subst h3
    exact Or.inr ⟨q, (T.setVm vm₁).calling g' mk As.toArray, t, U', L, E, ce, hT, X', hL, e1, e2, hq, hce, hcv, vx_cls hW₁ hcl, st⟩
end
end VXH
theorem vx_ofWH {l : Launch} {y : MethodName} {ws ws' : List Cond} {rm : Room} {Pc : Array Value → State → Prop} {Qc : Array Value → State → Outcome → State → Prop} {XC : String → State → State → Prop} {mc ms : Nat} {free : Addr → Prop} {cc : ByteArray} {maxL : Nat} {ret : Option FieldType} {hh : List (Nat × Nat × Nat × Nat)}
    (hy : plainName y.cls = true) (hw : ws = Cond.codeWith y cc maxL ret hh :: ws')
    (body : ∀ p e s m args below meth c s₁, BodyLoose p l y (headSpec ws rm) cc maxL ret e s m args below meth c s₁ → c.maxLocals = maxL → Pc args s →
      W p l e (headSpec ws rm).room s m args below meth c s.heap [] 0 0 (vx_MQ below Qc XC args s mc ms free) (entryFrame m args maxL)) : vx_Met l y ws rm Pc Qc XC mc ms free := by
  refine MetFree.of_bodyS (code := cc) (maxLocals := maxL) (ret := ret) hy ?_ ?_
  · intro args s m h hn
    obtain ⟨m9, meth, c, hn9, h1, h2, h3, h4, -, h5, h6, -⟩ := Cond.codeWith_spec (atoms_spec (ws := ws) h _ (by rw [hw]; exact List.mem_cons_self))
    cases hn.symm.trans hn9
    exact ⟨meth, c, h1, h2, h3, h4, h5, h6⟩
  · intro p e s m args below meth c s₁ B hml hP _
    have hh0 : s₁.heap = s.heap := by rw [B.state]; rfl
    obtain ⟨t, a1, o, b1, b2, b3⟩ := body p e s m args below meth c s₁ B hml hP s₁ hh0 (Stand.of_body B)
    exact ⟨t, o, a1, b1, b2, b3⟩
/-! ===== END ===== -/
end
section
def RX0 : String := "JointPlans$Floor"
def TX0 : u_T := fun k => match k with
  | 0 => ("JointPlans$Floor", "wallAt", "[I", true)
  | 1 => ("JointPlans$Floor", "after", "[I", true)
  | 2 => ("JointPlans$Floor", "distance", "[I", true)
  | 3 => ("JointPlans$Floor", "queue", "[I", true)
  | 4 => ("JointPlans$Floor", "width", "I", false)
  | 5 => ("JointPlans$Floor", "height", "I", false)
  | _ => ("JointPlans$Floor", "walls", "I", false)
def tyX0 : Nat → FieldType := fun k => match k with
  | 0 => .array .int
  | 1 => .array .int
  | 2 => .array .int
  | 3 => .array .int
  | 4 => .int
  | 5 => .int
  | _ => .int
abbrev wsX00 : List Cond := u_ws RX0 TX0 7
theorem nmX0 : ∀ a, a < 7 → ∀ b, b < 7 → a ≠ b → (TX0 a).2.1 ≠ (TX0 b).2.1 := by decide +kernel
theorem tyX0_ok : ∀ k, k < 7 → parseFieldDescriptor (TX0 k).2.2.1 = some (tyX0 k) := by decide +kernel
abbrev cX0_init : ByteArray := prog_2_method_1_code
def yX0_init : MethodName := ⟨RX0, "<init>", "()V"⟩
abbrev cX0_clear : ByteArray := prog_2_method_2_code
def yX0_clear : MethodName := ⟨RX0, "clear", "(II)V"⟩
abbrev cX0_cellAt : ByteArray := prog_2_method_3_code
def yX0_cellAt : MethodName := ⟨RX0, "cellAt", "(II)I"⟩
abbrev cX0_isWall : ByteArray := prog_2_method_4_code
def yX0_isWall : MethodName := ⟨RX0, "isWall", "(I)Z"⟩
abbrev cX0_build : ByteArray := prog_2_method_5_code
def yX0_build : MethodName := ⟨RX0, "build", "(IZ)Z"⟩
abbrev cX0_chart : ByteArray := prog_2_method_6_code
def yX0_chart : MethodName := ⟨RX0, "chart", "()V"⟩
abbrev cX0_target : ByteArray := prog_2_method_7_code
def yX0_target : MethodName := ⟨RX0, "target", "(II)I"⟩
abbrev cX0_moved : ByteArray := prog_2_method_8_code
def yX0_moved : MethodName := ⟨RX0, "moved", "(II)I"⟩
abbrev cX0_movesBetween : ByteArray := prog_2_method_9_code
def yX0_movesBetween : MethodName := ⟨RX0, "movesBetween", "(II)I"⟩
abbrev cX0_spread : ByteArray := prog_2_method_10_code
def yX0_spread : MethodName := ⟨RX0, "spread", "(II)I"⟩
def RX1 : String := "JointPlans$JointSearch"
def TX1 : u_T := fun k => match k with
  | 0 => ("JointPlans$JointSearch", "scene", "LJointPlans$Scene;", true)
  | 1 => ("JointPlans$JointSearch", "robots", "I", true)
  | 2 => ("JointPlans$JointSearch", "left", "[I", true)
  | 3 => ("JointPlans$JointSearch", "reached", "[I", true)
  | 4 => ("JointPlans$JointSearch", "reachedCount", "I", false)
  | 5 => ("JointPlans$JointSearch", "firstEnd", "I", false)
  | _ => ("JointPlans$JointSearch", "secondEnd", "I", false)
def tyX1 : Nat → FieldType := fun k => match k with
  | 0 => .object "JointPlans$Scene"
  | 1 => .int
  | 2 => .array .int
  | 3 => .array .int
  | 4 => .int
  | 5 => .int
  | _ => .int
abbrev wsX10 : List Cond := u_ws RX1 TX1 7
theorem nmX1 : ∀ a, a < 7 → ∀ b, b < 7 → a ≠ b → (TX1 a).2.1 ≠ (TX1 b).2.1 := by decide +kernel
theorem tyX1_ok : ∀ k, k < 7 → parseFieldDescriptor (TX1 k).2.2.1 = some (tyX1 k) := by decide +kernel
abbrev cX1_init : ByteArray := prog_3_method_1_code
def yX1_init : MethodName := ⟨RX1, "<init>", "(LJointPlans$Scene;)V"⟩
abbrev cX1_make : ByteArray := prog_3_method_2_code
def yX1_make : MethodName := ⟨RX1, "make", "(LJointPlans$Plan;I)V"⟩
abbrev cX1_placeOf : ByteArray := prog_3_method_3_code
def yX1_placeOf : MethodName := ⟨RX1, "placeOf", "([II)I"⟩
abbrev cX1_measure : ByteArray := prog_3_method_4_code
def yX1_measure : MethodName := ⟨RX1, "measure", "(II)V"⟩
abbrev cX1_reachFrom : ByteArray := prog_3_method_5_code
def yX1_reachFrom : MethodName := ⟨RX1, "reachFrom", "(IIII)V"⟩
abbrev cX1_reachBefore : ByteArray := prog_3_method_6_code
def yX1_reachBefore : MethodName := ⟨RX1, "reachBefore", "(III)V"⟩
abbrev cX1_reach : ByteArray := prog_3_method_7_code
def yX1_reach : MethodName := ⟨RX1, "reach", "(II)V"⟩
abbrev cX1_walk : ByteArray := prog_3_method_8_code
def yX1_walk : MethodName := ⟨RX1, "walk", "(LJointPlans$Plan;I)I"⟩
abbrev cX1_note : ByteArray := prog_3_method_9_code
def yX1_note : MethodName := ⟨RX1, "note", "(LJointPlans$Plan;II)V"⟩
abbrev cX1_follow : ByteArray := prog_3_method_10_code
def yX1_follow : MethodName := ⟨RX1, "follow", "(I)I"⟩
abbrev cX1_keeps : ByteArray := prog_3_method_11_code
def yX1_keeps : MethodName := ⟨RX1, "keeps", "(III)Z"⟩
abbrev cX1_next : ByteArray := prog_3_method_12_code
def yX1_next : MethodName := ⟨RX1, "next", "(III)I"⟩
abbrev cX1_stepCost : ByteArray := prog_3_method_13_code
def yX1_stepCost : MethodName := ⟨RX1, "stepCost", "(IIII)I"⟩
abbrev cX1_fits : ByteArray := prog_3_method_14_code
def yX1_fits : MethodName := ⟨RX1, "fits", "(IIII)Z"⟩
def RX2 : String := "JointPlans$Plan"
def TX2 : u_T := fun k => match k with
  | 0 => ("JointPlans$Plan", "robots", "I", true)
  | 1 => ("JointPlans$Plan", "cells", "[I", true)
  | 2 => ("JointPlans$Plan", "steps", "I", false)
  | _ => ("JointPlans$Plan", "cost", "I", false)
def tyX2 : Nat → FieldType := fun k => match k with
  | 0 => .int
  | 1 => .array .int
  | 2 => .int
  | _ => .int
abbrev wsX20 : List Cond := u_ws RX2 TX2 4
theorem nmX2 : ∀ a, a < 4 → ∀ b, b < 4 → a ≠ b → (TX2 a).2.1 ≠ (TX2 b).2.1 := by decide +kernel
theorem tyX2_ok : ∀ k, k < 4 → parseFieldDescriptor (TX2 k).2.2.1 = some (tyX2 k) := by decide +kernel
abbrev cX2_init : ByteArray := prog_4_method_1_code
def yX2_init : MethodName := ⟨RX2, "<init>", "(II)V"⟩
abbrev cX2_isMade : ByteArray := prog_4_method_2_code
def yX2_isMade : MethodName := ⟨RX2, "isMade", "()Z"⟩
abbrev cX2_drop : ByteArray := prog_4_method_3_code
def yX2_drop : MethodName := ⟨RX2, "drop", "()V"⟩
abbrev cX2_cellOf : ByteArray := prog_4_method_4_code
def yX2_cellOf : MethodName := ⟨RX2, "cellOf", "(II)I"⟩
abbrev cX2_put : ByteArray := prog_4_method_5_code
def yX2_put : MethodName := ⟨RX2, "put", "(III)V"⟩
abbrev cX2_copy : ByteArray := prog_4_method_6_code
def yX2_copy : MethodName := ⟨RX2, "copy", "(LJointPlans$Plan;)V"⟩
def RX3 : String := "JointPlans$Planner"
def TX3 : u_T := fun k => match k with
  | _ => ("", "", "", false)
def tyX3 : Nat → FieldType := fun k => match k with
  | _ => .int
abbrev wsX30 : List Cond := u_ws RX3 TX3 0
theorem nmX3 : ∀ a, a < 0 → ∀ b, b < 0 → a ≠ b → (TX3 a).2.1 ≠ (TX3 b).2.1 := by decide +kernel
theorem tyX3_ok : ∀ k, k < 0 → parseFieldDescriptor (TX3 k).2.2.1 = some (tyX3 k) := by decide +kernel
def RX4 : String := "JointPlans$PrioritySearch"
def TX4 : u_T := fun k => match k with
  | 0 => ("JointPlans$PrioritySearch", "scene", "LJointPlans$Scene;", true)
  | 1 => ("JointPlans$PrioritySearch", "shuffle", "LJointPlans$Shuffle;", true)
  | 2 => ("JointPlans$PrioritySearch", "trial", "LJointPlans$Plan;", true)
  | 3 => ("JointPlans$PrioritySearch", "left", "[I", true)
  | _ => ("JointPlans$PrioritySearch", "taken", "[I", true)
def tyX4 : Nat → FieldType := fun k => match k with
  | 0 => .object "JointPlans$Scene"
  | 1 => .object "JointPlans$Shuffle"
  | 2 => .object "JointPlans$Plan"
  | 3 => .array .int
  | _ => .array .int
abbrev wsX40 : List Cond := u_ws RX4 TX4 5
theorem nmX4 : ∀ a, a < 5 → ∀ b, b < 5 → a ≠ b → (TX4 a).2.1 ≠ (TX4 b).2.1 := by decide +kernel
theorem tyX4_ok : ∀ k, k < 5 → parseFieldDescriptor (TX4 k).2.2.1 = some (tyX4 k) := by decide +kernel
abbrev cX4_init : ByteArray := prog_6_method_1_code
def yX4_init : MethodName := ⟨RX4, "<init>", "(LJointPlans$Scene;LJointPlans$Shuffle;)V"⟩
abbrev cX4_make : ByteArray := prog_6_method_2_code
def yX4_make : MethodName := ⟨RX4, "make", "(LJointPlans$Plan;I)V"⟩
abbrev cX4_improve : ByteArray := prog_6_method_3_code
def yX4_improve : MethodName := ⟨RX4, "improve", "(LJointPlans$Plan;)V"⟩
abbrev cX4_tryOrder : ByteArray := prog_6_method_4_code
def yX4_tryOrder : MethodName := ⟨RX4, "tryOrder", "()V"⟩
abbrev cX4_route : ByteArray := prog_6_method_5_code
def yX4_route : MethodName := ⟨RX4, "route", "(I)I"⟩
abbrev cX4_occupy : ByteArray := prog_6_method_6_code
def yX4_occupy : MethodName := ⟨RX4, "occupy", "(I)V"⟩
abbrev cX4_measure : ByteArray := prog_6_method_7_code
def yX4_measure : MethodName := ⟨RX4, "measure", "(I)V"⟩
abbrev cX4_leastFrom : ByteArray := prog_6_method_8_code
def yX4_leastFrom : MethodName := ⟨RX4, "leastFrom", "(III)I"⟩
abbrev cX4_costBy : ByteArray := prog_6_method_9_code
def yX4_costBy : MethodName := ⟨RX4, "costBy", "(IIII)I"⟩
abbrev cX4_isBarred : ByteArray := prog_6_method_10_code
def yX4_isBarred : MethodName := ⟨RX4, "isBarred", "(III)Z"⟩
abbrev cX4_follow : ByteArray := prog_6_method_11_code
def yX4_follow : MethodName := ⟨RX4, "follow", "(III)I"⟩
abbrev cX4_stepsOfTrial : ByteArray := prog_6_method_12_code
def yX4_stepsOfTrial : MethodName := ⟨RX4, "stepsOfTrial", "()I"⟩
abbrev cX4_allAtEnds : ByteArray := prog_6_method_13_code
def yX4_allAtEnds : MethodName := ⟨RX4, "allAtEnds", "(I)Z"⟩
def RX5 : String := "JointPlans$Scene"
def TX5 : u_T := fun k => match k with
  | 0 => ("JointPlans$Scene", "robots", "I", true)
  | 1 => ("JointPlans$Scene", "floor", "LJointPlans$Floor;", true)
  | 2 => ("JointPlans$Scene", "starts", "[I", true)
  | 3 => ("JointPlans$Scene", "ends", "[I", true)
  | _ => ("JointPlans$Scene", "swapsBarred", "Z", false)
def tyX5 : Nat → FieldType := fun k => match k with
  | 0 => .int
  | 1 => .object "JointPlans$Floor"
  | 2 => .array .int
  | 3 => .array .int
  | _ => .boolean
abbrev wsX50 : List Cond := u_ws RX5 TX5 5
theorem nmX5 : ∀ a, a < 5 → ∀ b, b < 5 → a ≠ b → (TX5 a).2.1 ≠ (TX5 b).2.1 := by decide +kernel
theorem tyX5_ok : ∀ k, k < 5 → parseFieldDescriptor (TX5 k).2.2.1 = some (tyX5 k) := by decide +kernel
abbrev cX5_init : ByteArray := prog_7_method_1_code
def yX5_init : MethodName := ⟨RX5, "<init>", "(I)V"⟩
abbrev cX5_renew : ByteArray := prog_7_method_2_code
def yX5_renew : MethodName := ⟨RX5, "renew", "(II)V"⟩
abbrev cX5_isComplete : ByteArray := prog_7_method_3_code
def yX5_isComplete : MethodName := ⟨RX5, "isComplete", "(I)Z"⟩
abbrev cX5_way : ByteArray := prog_7_method_4_code
def yX5_way : MethodName := ⟨RX5, "way", "(I)I"⟩
abbrev cX5_allWays : ByteArray := prog_7_method_5_code
def yX5_allWays : MethodName := ⟨RX5, "allWays", "()I"⟩
def RX6 : String := "JointPlans$Shuffle"
def TX6 : u_T := fun k => match k with
  | 0 => ("JointPlans$Shuffle", "order", "[I", true)
  | _ => ("JointPlans$Shuffle", "state", "J", false)
def tyX6 : Nat → FieldType := fun k => match k with
  | 0 => .array .int
  | _ => .long
abbrev wsX60 : List Cond := u_ws RX6 TX6 2
theorem nmX6 : ∀ a, a < 2 → ∀ b, b < 2 → a ≠ b → (TX6 a).2.1 ≠ (TX6 b).2.1 := by decide +kernel
theorem tyX6_ok : ∀ k, k < 2 → parseFieldDescriptor (TX6 k).2.2.1 = some (tyX6 k) := by decide +kernel
abbrev cX6_init : ByteArray := prog_8_method_1_code
def yX6_init : MethodName := ⟨RX6, "<init>", "(I)V"⟩
abbrev cX6_reset : ByteArray := prog_8_method_2_code
def yX6_reset : MethodName := ⟨RX6, "reset", "()V"⟩
abbrev cX6_draw : ByteArray := prog_8_method_3_code
def yX6_draw : MethodName := ⟨RX6, "draw", "()V"⟩
abbrev cX6_exchange : ByteArray := prog_8_method_4_code
def yX6_exchange : MethodName := ⟨RX6, "exchange", "(II)V"⟩
def RX7 : String := "JointPlans"
def TX7 : u_T := fun k => match k with
  | 0 => ("JointPlans", "robots", "I", true)
  | 1 => ("JointPlans", "scene", "LJointPlans$Scene;", true)
  | 2 => ("JointPlans", "shuffle", "LJointPlans$Shuffle;", true)
  | 3 => ("JointPlans", "planner", "LJointPlans$Planner;", true)
  | _ => ("JointPlans", "plan", "LJointPlans$Plan;", true)
def tyX7 : Nat → FieldType := fun k => match k with
  | 0 => .int
  | 1 => .object "JointPlans$Scene"
  | 2 => .object "JointPlans$Shuffle"
  | 3 => .object "JointPlans$Planner"
  | _ => .object "JointPlans$Plan"
abbrev wsX70 : List Cond := u_ws RX7 TX7 5
theorem nmX7 : ∀ a, a < 5 → ∀ b, b < 5 → a ≠ b → (TX7 a).2.1 ≠ (TX7 b).2.1 := by decide +kernel
theorem tyX7_ok : ∀ k, k < 5 → parseFieldDescriptor (TX7 k).2.2.1 = some (tyX7 k) := by decide +kernel
abbrev cX7_init : ByteArray := prog_1_method_1_code
def yX7_init : MethodName := ⟨RX7, "<init>", "(I)V"⟩
abbrev cX7_grid : ByteArray := prog_1_method_2_code
def yX7_grid : MethodName := ⟨RX7, "grid", "(II)V"⟩
abbrev cX7_wall : ByteArray := prog_1_method_3_code
def yX7_wall : MethodName := ⟨RX7, "wall", "(IIZ)Z"⟩
abbrev cX7_start : ByteArray := prog_1_method_4_code
def yX7_start : MethodName := ⟨RX7, "start", "(III)Z"⟩
abbrev cX7_end : ByteArray := prog_1_method_5_code
def yX7_end : MethodName := ⟨RX7, "end", "(III)Z"⟩
abbrev cX7_swap : ByteArray := prog_1_method_6_code
def yX7_swap : MethodName := ⟨RX7, "swap", "(Z)Z"⟩
abbrev cX7_seed : ByteArray := prog_1_method_7_code
def yX7_seed : MethodName := ⟨RX7, "seed", "(I)V"⟩
abbrev cX7_solve : ByteArray := prog_1_method_8_code
def yX7_solve : MethodName := ⟨RX7, "solve", "(I)I"⟩
abbrev cX7_exact : ByteArray := prog_1_method_9_code
def yX7_exact : MethodName := ⟨RX7, "exact", "()Z"⟩
abbrev cX7_at : ByteArray := prog_1_method_10_code
def yX7_at : MethodName := ⟨RX7, "at", "(III)I"⟩
abbrev cX7_last : ByteArray := prog_1_method_11_code
def yX7_last : MethodName := ⟨RX7, "last", "()I"⟩
abbrev cX7_alone : ByteArray := prog_1_method_12_code
def yX7_alone : MethodName := ⟨RX7, "alone", "(I)I"⟩
abbrev cX7_bound : ByteArray := prog_1_method_13_code
def yX7_bound : MethodName := ⟨RX7, "bound", "()I"⟩
abbrev cX7_share : ByteArray := prog_1_method_14_code
def yX7_share : MethodName := ⟨RX7, "share", "()I"⟩
abbrev cX7_count : ByteArray := prog_1_method_15_code
def yX7_count : MethodName := ⟨RX7, "count", "(I)I"⟩
abbrev cX7_settle : ByteArray := prog_1_method_16_code
def yX7_settle : MethodName := ⟨RX7, "settle", "([IIII)Z"⟩
abbrev cX7_needRobot : ByteArray := prog_1_method_17_code
def yX7_needRobot : MethodName := ⟨RX7, "needRobot", "(I)V"⟩
abbrev cX7_needComplete : ByteArray := prog_1_method_18_code
def yX7_needComplete : MethodName := ⟨RX7, "needComplete", "()V"⟩
abbrev cX7_needPlan : ByteArray := prog_1_method_19_code
def yX7_needPlan : MethodName := ⟨RX7, "needPlan", "()V"⟩
abbrev cX7_mostSteps : ByteArray := prog_1_method_20_code
def yX7_mostSteps : MethodName := ⟨RX7, "mostSteps", "(I)I"⟩
abbrev cX7_jointStates : ByteArray := prog_1_method_21_code
def yX7_jointStates : MethodName := ⟨RX7, "jointStates", "(I)I"⟩
abbrev cX7_ownerOf : ByteArray := prog_1_method_22_code
def yX7_ownerOf : MethodName := ⟨RX7, "ownerOf", "([II)I"⟩
abbrev cX7_ownCost : ByteArray := prog_1_method_23_code
def yX7_ownCost : MethodName := ⟨RX7, "ownCost", "(III)I"⟩
abbrev cX7_read : ByteArray := prog_1_method_24_code
def yX7_read : MethodName := ⟨RX7, "read", "([II)I"⟩
abbrev cX7_write : ByteArray := prog_1_method_25_code
def yX7_write : MethodName := ⟨RX7, "write", "([III)V"⟩
def RX8 : String := "JointPlansModel"
def TX8 : u_T := fun k => match k with
  | 0 => ("JointPlansModel", "thrownCode", "I", false)
  | 1 => ("JointPlansModel", "robots", "I", true)
  | 2 => ("JointPlansModel", "width", "I", false)
  | 3 => ("JointPlansModel", "height", "I", false)
  | 4 => ("JointPlansModel", "wall", "[Z", true)
  | 5 => ("JointPlansModel", "start", "[I", true)
  | 6 => ("JointPlansModel", "end", "[I", true)
  | 7 => ("JointPlansModel", "barred", "Z", false)
  | 8 => ("JointPlansModel", "seed", "J", false)
  | 9 => ("JointPlansModel", "planned", "Z", false)
  | 10 => ("JointPlansModel", "joint", "Z", false)
  | 11 => ("JointPlansModel", "cost", "I", false)
  | 12 => ("JointPlansModel", "steps", "I", false)
  | 13 => ("JointPlansModel", "plan", "[I", true)
  | 14 => ("JointPlansModel", "trial", "[I", true)
  | 15 => ("JointPlansModel", "order", "[I", true)
  | _ => ("JointPlansModel", "costs", "[I", true)
def tyX8 : Nat → FieldType := fun k => match k with
  | 0 => .int
  | 1 => .int
  | 2 => .int
  | 3 => .int
  | 4 => .array .boolean
  | 5 => .array .int
  | 6 => .array .int
  | 7 => .boolean
  | 8 => .long
  | 9 => .boolean
  | 10 => .boolean
  | 11 => .int
  | 12 => .int
  | 13 => .array .int
  | 14 => .array .int
  | 15 => .array .int
  | _ => .array .int
abbrev wsX80 : List Cond := u_ws RX8 TX8 17
theorem nmX8 : ∀ a, a < 17 → ∀ b, b < 17 → a ≠ b → (TX8 a).2.1 ≠ (TX8 b).2.1 := by decide +kernel
theorem tyX8_ok : ∀ k, k < 17 → parseFieldDescriptor (TX8 k).2.2.1 = some (tyX8 k) := by decide +kernel
abbrev cX8_init : ByteArray := prog_10_method_1_code
def yX8_init : MethodName := ⟨RX8, "<init>", "(I)V"⟩
abbrev cX8_fresh : ByteArray := prog_10_method_2_code
def yX8_fresh : MethodName := ⟨RX8, "fresh", "(II)V"⟩
abbrev cX8_noCell : ByteArray := prog_10_method_3_code
def yX8_noCell : MethodName := ⟨RX8, "noCell", "(II)Z"⟩
abbrev cX8_moved : ByteArray := prog_10_method_4_code
def yX8_moved : MethodName := ⟨RX8, "moved", "(II)I"⟩
abbrev cX8_stays : ByteArray := prog_10_method_5_code
def yX8_stays : MethodName := ⟨RX8, "stays", "(III)I"⟩
abbrev cX8_goal : ByteArray := prog_10_method_6_code
def yX8_goal : MethodName := ⟨RX8, "goal", "(I)I"⟩
abbrev cX8_through : ByteArray := prog_10_method_7_code
def yX8_through : MethodName := ⟨RX8, "through", "(IIII)I"⟩
abbrev cX8_jointly : ByteArray := prog_10_method_8_code
def yX8_jointly : MethodName := ⟨RX8, "jointly", "()V"⟩
abbrev cX8_outside : ByteArray := prog_10_method_9_code
def yX8_outside : MethodName := ⟨RX8, "outside", "(I)Z"⟩
abbrev cX8_lower : ByteArray := prog_10_method_10_code
def yX8_lower : MethodName := ⟨RX8, "lower", "(II)Z"⟩
abbrev cX8_firstMove : ByteArray := prog_10_method_11_code
def yX8_firstMove : MethodName := ⟨RX8, "firstMove", "(II)I"⟩
abbrev cX8_open : ByteArray := prog_10_method_12_code
def yX8_open : MethodName := ⟨RX8, "open", "(IIII)Z"⟩
abbrev cX8_way : ByteArray := prog_10_method_13_code
def yX8_way : MethodName := ⟨RX8, "way", "(I)Z"⟩
abbrev cX8_step : ByteArray := prog_10_method_14_code
def yX8_step : MethodName := ⟨RX8, "step", "(IIII)I"⟩
abbrev cX8_ways : ByteArray := prog_10_method_15_code
def yX8_ways : MethodName := ⟨RX8, "ways", "()I"⟩
abbrev cX8_draw : ByteArray := prog_10_method_16_code
def yX8_draw : MethodName := ⟨RX8, "draw", "()V"⟩
abbrev cX8_byPriorities : ByteArray := prog_10_method_17_code
def yX8_byPriorities : MethodName := ⟨RX8, "byPriorities", "(I)V"⟩
abbrev cX8_distance : ByteArray := prog_10_method_18_code
def yX8_distance : MethodName := ⟨RX8, "distance", "(I)I"⟩
abbrev cX8_missing : ByteArray := prog_10_method_19_code
def yX8_missing : MethodName := ⟨RX8, "missing", "()Z"⟩
abbrev cX8_boundOf : ByteArray := prog_10_method_20_code
def yX8_boundOf : MethodName := ⟨RX8, "boundOf", "()I"⟩
abbrev cX8_thrown : ByteArray := prog_10_method_21_code
def yX8_thrown : MethodName := ⟨RX8, "thrown", "()I"⟩
abbrev cX8_grid : ByteArray := prog_10_method_22_code
def yX8_grid : MethodName := ⟨RX8, "grid", "(II)V"⟩
abbrev cX8_used : ByteArray := prog_10_method_23_code
def yX8_used : MethodName := ⟨RX8, "used", "(I)Z"⟩
abbrev cX8_wall : ByteArray := prog_10_method_24_code
def yX8_wall : MethodName := ⟨RX8, "wall", "(IIZ)Z"⟩
abbrev cX8_put : ByteArray := prog_10_method_25_code
def yX8_put : MethodName := ⟨RX8, "put", "([IIII)Z"⟩
abbrev cX8_start : ByteArray := prog_10_method_26_code
def yX8_start : MethodName := ⟨RX8, "start", "(III)Z"⟩
abbrev cX8_end : ByteArray := prog_10_method_27_code
def yX8_end : MethodName := ⟨RX8, "end", "(III)Z"⟩
abbrev cX8_swap : ByteArray := prog_10_method_28_code
def yX8_swap : MethodName := ⟨RX8, "swap", "(Z)Z"⟩
abbrev cX8_seed : ByteArray := prog_10_method_29_code
def yX8_seed : MethodName := ⟨RX8, "seed", "(I)V"⟩
abbrev cX8_solve : ByteArray := prog_10_method_30_code
def yX8_solve : MethodName := ⟨RX8, "solve", "(I)I"⟩
abbrev cX8_exact : ByteArray := prog_10_method_31_code
def yX8_exact : MethodName := ⟨RX8, "exact", "()Z"⟩
abbrev cX8_at : ByteArray := prog_10_method_32_code
def yX8_at : MethodName := ⟨RX8, "at", "(III)I"⟩
abbrev cX8_last : ByteArray := prog_10_method_33_code
def yX8_last : MethodName := ⟨RX8, "last", "()I"⟩
abbrev cX8_alone : ByteArray := prog_10_method_34_code
def yX8_alone : MethodName := ⟨RX8, "alone", "(I)I"⟩
abbrev cX8_bound : ByteArray := prog_10_method_35_code
def yX8_bound : MethodName := ⟨RX8, "bound", "()I"⟩
abbrev cX8_share : ByteArray := prog_10_method_36_code
def yX8_share : MethodName := ⟨RX8, "share", "()I"⟩
abbrev cX8_count : ByteArray := prog_10_method_37_code
def yX8_count : MethodName := ⟨RX8, "count", "(I)I"⟩
def RJx00060 : String := "java/lang/ArrayIndexOutOfBoundsException"
def TJx00060 : u_T := fun k => match k with
  | 0 => ("java/lang/Throwable", "cause", "Ljava/lang/Throwable;", false)
  | 1 => ("java/lang/Throwable", "stackTrace", "[Ljava/lang/StackTraceElement;", false)
  | 2 => ("java/lang/Throwable", "suppressedExceptions", "Ljava/util/List;", false)
  | 3 => ("java/lang/Throwable", "detailMessage", "Ljava/lang/String;", false)
  | 4 => ("java/lang/Throwable", "backtrace", "Ljava/lang/Object;", false)
  | _ => ("java/lang/Throwable", "depth", "I", false)
def tyJx00060 : Nat → FieldType := fun k => match k with
  | 0 => .object "java/lang/Throwable"
  | 1 => .array (.object "java/lang/StackTraceElement")
  | 2 => .object "java/util/List"
  | 3 => .object "java/lang/String"
  | 4 => .object "java/lang/Object"
  | _ => .int
abbrev wsJx000600 : List Cond := u_ws RJx00060 TJx00060 6
theorem nmJx00060 : ∀ a, a < 6 → ∀ b, b < 6 → a ≠ b → (TJx00060 a).2.1 ≠ (TJx00060 b).2.1 := by decide +kernel
theorem tyJx00060_ok : ∀ k, k < 6 → parseFieldDescriptor (TJx00060 k).2.2.1 = some (tyJx00060 k) := by decide +kernel
abbrev cJx00060_init_a7421 : ByteArray := prog_12_method_2_code
def yJx00060_init_a7421 : MethodName := ⟨RJx00060, "<init>", "(Ljava/lang/String;)V"⟩
def RJ9 : String := "java/lang/Math"
def TJ9 : u_T := fun k => match k with
  | _ => ("", "", "", false)
def tyJ9 : Nat → FieldType := fun k => match k with
  | _ => .int
abbrev wsJ90 : List Cond := u_ws RJ9 TJ9 0
theorem nmJ9 : ∀ a, a < 0 → ∀ b, b < 0 → a ≠ b → (TJ9 a).2.1 ≠ (TJ9 b).2.1 := by decide +kernel
theorem tyJ9_ok : ∀ k, k < 0 → parseFieldDescriptor (TJ9 k).2.2.1 = some (tyJ9 k) := by decide +kernel
abbrev cJ9_max_7cf53 : ByteArray := prog_17_method_65_code
def yJ9_max_7cf53 : MethodName := ⟨RJ9, "max", "(II)I"⟩
abbrev cJ9_min_7cf53 : ByteArray := prog_17_method_69_code
def yJ9_min_7cf53 : MethodName := ⟨RJ9, "min", "(II)I"⟩
def RJ0 : String := "java/lang/String"
def TJ0 : u_T := fun k => match k with
  | _ => ("", "", "", false)
def tyJ0 : Nat → FieldType := fun k => match k with
  | _ => .int
abbrev wsJ00 : List Cond := u_ws RJ0 TJ0 0
theorem nmJ0 : ∀ a, a < 0 → ∀ b, b < 0 → a ≠ b → (TJ0 a).2.1 ≠ (TJ0 b).2.1 := by decide +kernel
theorem tyJ0_ok : ∀ k, k < 0 → parseFieldDescriptor (TJ0 k).2.2.1 = some (tyJ0 k) := by decide +kernel
def RJ7 : String := "java/util/Arrays"
def TJ7 : u_T := fun k => match k with
  | _ => ("", "", "", false)
def tyJ7 : Nat → FieldType := fun k => match k with
  | _ => .int
abbrev wsJ70 : List Cond := u_ws RJ7 TJ7 0
theorem nmJ7 : ∀ a, a < 0 → ∀ b, b < 0 → a ≠ b → (TJ7 a).2.1 ≠ (TJ7 b).2.1 := by decide +kernel
theorem tyJ7_ok : ∀ k, k < 0 → parseFieldDescriptor (TJ7 k).2.2.1 = some (tyJ7 k) := by decide +kernel
abbrev cJ7_fill_53178 : ByteArray := prog_21_method_103_code
def yJ7_fill_53178 : MethodName := ⟨RJ7, "fill", "([II)V"⟩
def RL : String := "JointPlansLaw"
abbrev cL_cell : ByteArray := method_2_code
def yL_cell : MethodName := ⟨RL, "cell", "([II)I"⟩
abbrev cL_grid : ByteArray := method_3_code
def yL_grid : MethodName := ⟨RL, "grid", "(LJointPlans;II)I"⟩
abbrev cL_wall : ByteArray := method_4_code
def yL_wall : MethodName := ⟨RL, "wall", "(LJointPlans;IIZ[J)I"⟩
abbrev cL_start : ByteArray := method_5_code
def yL_start : MethodName := ⟨RL, "start", "(LJointPlans;III[J)I"⟩
abbrev cL_end : ByteArray := method_6_code
def yL_end : MethodName := ⟨RL, "end", "(LJointPlans;III[J)I"⟩
abbrev cL_seed : ByteArray := method_7_code
def yL_seed : MethodName := ⟨RL, "seed", "(LJointPlans;I)I"⟩
abbrev cL_solve : ByteArray := method_8_code
def yL_solve : MethodName := ⟨RL, "solve", "(LJointPlans;I[J)I"⟩
abbrev cL_at : ByteArray := method_9_code
def yL_at : MethodName := ⟨RL, "at", "(LJointPlans;III[J)I"⟩
abbrev cL_last : ByteArray := method_10_code
def yL_last : MethodName := ⟨RL, "last", "(LJointPlans;[J)I"⟩
abbrev cL_alone : ByteArray := method_11_code
def yL_alone : MethodName := ⟨RL, "alone", "(LJointPlans;I[J)I"⟩
abbrev cL_bound : ByteArray := method_12_code
def yL_bound : MethodName := ⟨RL, "bound", "(LJointPlans;[J)I"⟩
abbrev cL_share : ByteArray := method_13_code
def yL_share : MethodName := ⟨RL, "share", "(LJointPlans;[J)I"⟩
abbrev cL_law : ByteArray := code
def yL_law : MethodName := ⟨RL, "law", "([I)Z"⟩
end
section
/-- the words that every contract here carries: the good ones of the tables -/
def jp_ws : List Cond := lw_tbl.filter goodWord
theorem jp_in {w : Cond} {i : Nat} (h : lw_tbl[i]? = some w) (g : goodWord w = true) : w ∈ jp_ws := List.mem_filter.mpr ⟨List.mem_of_getElem? h, g⟩
theorem jp_sub : ∀ w ∈ jp_ws, w ∈ lw_tbl := fun _ h => (List.mem_filter.mp h).1
theorem jp_gd : ∀ w ∈ jp_ws, goodWord w = true := fun _ h => (List.mem_filter.mp h).2
theorem jp_fX0 : ∀ w ∈ wsX00, w ∈ jp_ws := by
  have h : (wsX00.all fun w => decide (w ∈ lw_tbl) && goodWord w) = true := by decide +kernel
  intro w hw
  have h1 := List.all_eq_true.mp h w hw
  simp only [Bool.and_eq_true, decide_eq_true_eq] at h1
  exact List.mem_filter.mpr h1
theorem jp_fX1 : ∀ w ∈ wsX10, w ∈ jp_ws := by
  have h : (wsX10.all fun w => decide (w ∈ lw_tbl) && goodWord w) = true := by decide +kernel
  intro w hw
  have h1 := List.all_eq_true.mp h w hw
  simp only [Bool.and_eq_true, decide_eq_true_eq] at h1
  exact List.mem_filter.mpr h1
theorem jp_fX2 : ∀ w ∈ wsX20, w ∈ jp_ws := by
  have h : (wsX20.all fun w => decide (w ∈ lw_tbl) && goodWord w) = true := by decide +kernel
  intro w hw
  have h1 := List.all_eq_true.mp h w hw
  simp only [Bool.and_eq_true, decide_eq_true_eq] at h1
  exact List.mem_filter.mpr h1
theorem jp_fX4 : ∀ w ∈ wsX40, w ∈ jp_ws := by
  have h : (wsX40.all fun w => decide (w ∈ lw_tbl) && goodWord w) = true := by decide +kernel
  intro w hw
  have h1 := List.all_eq_true.mp h w hw
  simp only [Bool.and_eq_true, decide_eq_true_eq] at h1
  exact List.mem_filter.mpr h1
theorem jp_fX5 : ∀ w ∈ wsX50, w ∈ jp_ws := by
  have h : (wsX50.all fun w => decide (w ∈ lw_tbl) && goodWord w) = true := by decide +kernel
  intro w hw
  have h1 := List.all_eq_true.mp h w hw
  simp only [Bool.and_eq_true, decide_eq_true_eq] at h1
  exact List.mem_filter.mpr h1
theorem jp_fX6 : ∀ w ∈ wsX60, w ∈ jp_ws := by
  have h : (wsX60.all fun w => decide (w ∈ lw_tbl) && goodWord w) = true := by decide +kernel
  intro w hw
  have h1 := List.all_eq_true.mp h w hw
  simp only [Bool.and_eq_true, decide_eq_true_eq] at h1
  exact List.mem_filter.mpr h1
theorem jp_fX7 : ∀ w ∈ wsX70, w ∈ jp_ws := by
  have h : (wsX70.all fun w => decide (w ∈ lw_tbl) && goodWord w) = true := by decide +kernel
  intro w hw
  have h1 := List.all_eq_true.mp h w hw
  simp only [Bool.and_eq_true, decide_eq_true_eq] at h1
  exact List.mem_filter.mpr h1
theorem jp_fX8 : ∀ w ∈ wsX80, w ∈ jp_ws := by
  have h : (wsX80.all fun w => decide (w ∈ lw_tbl) && goodWord w) = true := by decide +kernel
  intro w hw
  have h1 := List.all_eq_true.mp h w hw
  simp only [Bool.and_eq_true, decide_eq_true_eq] at h1
  exact List.mem_filter.mpr h1
theorem jp_fJx00060 : ∀ w ∈ wsJx000600, w ∈ jp_ws := by
  have h : (wsJx000600.all fun w => decide (w ∈ lw_tbl) && goodWord w) = true := by decide +kernel
  intro w hw
  have h1 := List.all_eq_true.mp h w hw
  simp only [Bool.and_eq_true, decide_eq_true_eq] at h1
  exact List.mem_filter.mpr h1
/-- the words on private members of a nest mate: they aren't good ones, so they go along in the world -/
def jp_isN (w : Cond) : Bool := match w with
  | .fieldLinkNest _ _ _ _ _ _ => true
  | .methodLinkNest _ _ _ _ => true
  | _ => false
def jp_ns : List Cond := lw_tbl.filter jp_isN
theorem jp_nin {w : Cond} {i : Nat} (h : lw_tbl[i]? = some w) (g : jp_isN w = true) : w ∈ jp_ns := List.mem_filter.mpr ⟨List.mem_of_getElem? h, g⟩
end
section
theorem mw_0 : (Cond.classLink RL 8 RX7) ∈ jp_ws := jp_in (i := 88) (by decide +kernel) (by decide +kernel)
theorem mw_1 : (Cond.instantiable RX7 5) ∈ jp_ws := jp_in (i := 89) (by decide +kernel) (by decide +kernel)
theorem mw_2 : (Cond.initialized RX7) ∈ jp_ws := jp_in (i := 70) (by decide +kernel) (by decide +kernel)
theorem mw_3 : (Cond.classLink RL 65 RX8) ∈ jp_ws := jp_in (i := 770) (by decide +kernel) (by decide +kernel)
theorem mw_4 : (Cond.instantiable RX8 17) ∈ jp_ws := jp_in (i := 771) (by decide +kernel) (by decide +kernel)
theorem mw_5 : (Cond.initialized RX8) ∈ jp_ws := jp_in (i := 79) (by decide +kernel) (by decide +kernel)
theorem mw_6 : (Cond.arrayClass .long) ∈ jp_ws := jp_in (i := 977) (by decide +kernel) (by decide +kernel)
theorem mw_7 : (Cond.methodLink RL 57 yL_cell) ∈ jp_ws := jp_in (i := 340) (by decide +kernel) (by decide +kernel)
theorem mw_8 : (Cond.static yL_cell) ∈ jp_ws := jp_in (i := 341) (by decide +kernel) (by decide +kernel)
theorem mw_9 : (Cond.initialized RL) ∈ jp_ws := jp_in (i := 69) (by decide +kernel) (by decide +kernel)
theorem mw_10 : (Cond.code yL_cell cL_cell 2 (some .int)) ∈ jp_ws := jp_in (i := 342) (by decide +kernel) (by decide +kernel)
theorem mw_11 : (Cond.methodLink RL 63 yX7_init) ∈ jp_ws := jp_in (i := 90) (by decide +kernel) (by decide +kernel)
theorem mw_12 : (Cond.instanceMethod yX7_init) ∈ jp_ws := jp_in (i := 91) (by decide +kernel) (by decide +kernel)
theorem mw_13 : (Cond.code yX7_init cX7_init 2 none) ∈ jp_ws := jp_in (i := 92) (by decide +kernel) (by decide +kernel)
theorem mw_14 : (Cond.methodLink RX7 1 objectInit) ∈ jp_ws := jp_in (i := 93) (by decide +kernel) (by decide +kernel)
theorem mw_15 : (Cond.instanceMethod objectInit) ∈ jp_ws := jp_in (i := 94) (by decide +kernel) (by decide +kernel)
theorem mw_16 : (Cond.code objectInit ⟨#[0xb1]⟩ 1 none) ∈ jp_ws := jp_in (i := 95) (by decide +kernel) (by decide +kernel)
theorem mw_17 : (Cond.methodLink RX7 9 Lib.Math.min.name) ∈ jp_ws := jp_in (i := 96) (by decide +kernel) (by decide +kernel)
theorem mw_18 : (Cond.static Lib.Math.min.name) ∈ jp_ws := jp_in (i := 97) (by decide +kernel) (by decide +kernel)
theorem mw_19 : (Cond.initialized "java/lang/Math") ∈ jp_ws := jp_in (i := 71) (by decide +kernel) (by decide +kernel)
theorem mw_20 : (Cond.code Lib.Math.min.name Lib.Math.min.code 2 (some .int)) ∈ jp_ws := jp_in (i := 98) (by decide +kernel) (by decide +kernel)
theorem mw_21 : (Cond.methodLink RX7 15 Lib.Math.max.name) ∈ jp_ws := jp_in (i := 99) (by decide +kernel) (by decide +kernel)
theorem mw_22 : (Cond.static Lib.Math.max.name) ∈ jp_ws := jp_in (i := 100) (by decide +kernel) (by decide +kernel)
theorem mw_23 : (Cond.code Lib.Math.max.name Lib.Math.max.code 2 (some .int)) ∈ jp_ws := jp_in (i := 101) (by decide +kernel) (by decide +kernel)
theorem mw_24 : (Cond.fieldLink RX7 18 "JointPlans" "robots" "I") ∈ jp_ws := jp_in (i := 308) (by decide +kernel) (by decide +kernel)
theorem mw_25 : (Cond.classLink RX7 22 RX5) ∈ jp_ws := jp_in (i := 102) (by decide +kernel) (by decide +kernel)
theorem mw_26 : (Cond.instantiable RX5 5) ∈ jp_ws := jp_in (i := 103) (by decide +kernel) (by decide +kernel)
theorem mw_27 : (Cond.initialized RX5) ∈ jp_ws := jp_in (i := 72) (by decide +kernel) (by decide +kernel)
theorem mw_28 : (Cond.fieldLink RX7 27 "JointPlans" "scene" "LJointPlans$Scene;") ∈ jp_ws := jp_in (i := 309) (by decide +kernel) (by decide +kernel)
theorem mw_29 : (Cond.classLink RX7 31 RX6) ∈ jp_ws := jp_in (i := 208) (by decide +kernel) (by decide +kernel)
theorem mw_30 : (Cond.instantiable RX6 2) ∈ jp_ws := jp_in (i := 209) (by decide +kernel) (by decide +kernel)
theorem mw_31 : (Cond.initialized RX6) ∈ jp_ws := jp_in (i := 75) (by decide +kernel) (by decide +kernel)
theorem mw_32 : (Cond.fieldLink RX7 34 "JointPlans" "shuffle" "LJointPlans$Shuffle;") ∈ jp_ws := jp_in (i := 310) (by decide +kernel) (by decide +kernel)
theorem mw_33 : (Cond.classLink RX7 38 RX1) ∈ jp_ws := jp_in (i := 223) (by decide +kernel) (by decide +kernel)
theorem mw_34 : (Cond.instantiable RX1 7) ∈ jp_ws := jp_in (i := 224) (by decide +kernel) (by decide +kernel)
theorem mw_35 : (Cond.initialized RX1) ∈ jp_ws := jp_in (i := 76) (by decide +kernel) (by decide +kernel)
theorem mw_36 : (Cond.classLink RX7 43 RX4) ∈ jp_ws := jp_in (i := 254) (by decide +kernel) (by decide +kernel)
theorem mw_37 : (Cond.instantiable RX4 5) ∈ jp_ws := jp_in (i := 255) (by decide +kernel) (by decide +kernel)
theorem mw_38 : (Cond.initialized RX4) ∈ jp_ws := jp_in (i := 77) (by decide +kernel) (by decide +kernel)
theorem mw_39 : (Cond.fieldLink RX7 48 "JointPlans" "planner" "LJointPlans$Planner;") ∈ jp_ws := jp_in (i := 311) (by decide +kernel) (by decide +kernel)
theorem mw_40 : (Cond.classLink RX7 52 RX2) ∈ jp_ws := jp_in (i := 305) (by decide +kernel) (by decide +kernel)
theorem mw_41 : (Cond.instantiable RX2 4) ∈ jp_ws := jp_in (i := 261) (by decide +kernel) (by decide +kernel)
theorem mw_42 : (Cond.initialized RX2) ∈ jp_ws := jp_in (i := 78) (by decide +kernel) (by decide +kernel)
theorem mw_43 : (Cond.fieldLink RX7 61 "JointPlans" "plan" "LJointPlans$Plan;") ∈ jp_ws := jp_in (i := 312) (by decide +kernel) (by decide +kernel)
theorem mw_44 : (Cond.instanceMethod yX5_init) ∈ jp_ws := jp_in (i := 105) (by decide +kernel) (by decide +kernel)
theorem mw_45 : (Cond.code yX5_init cX5_init 2 none) ∈ jp_ws := jp_in (i := 106) (by decide +kernel) (by decide +kernel)
theorem mw_46 : (Cond.methodLink RX5 3 objectInit) ∈ jp_ws := jp_in (i := 107) (by decide +kernel) (by decide +kernel)
theorem mw_47 : (Cond.classLink RX5 9 RX0) ∈ jp_ws := jp_in (i := 108) (by decide +kernel) (by decide +kernel)
theorem mw_48 : (Cond.instantiable RX0 7) ∈ jp_ws := jp_in (i := 109) (by decide +kernel) (by decide +kernel)
theorem mw_49 : (Cond.initialized RX0) ∈ jp_ws := jp_in (i := 73) (by decide +kernel) (by decide +kernel)
theorem mw_50 : (Cond.fieldLink RX5 12 "JointPlans$Scene" "floor" "LJointPlans$Floor;") ∈ jp_ws := jp_in (i := 181) (by decide +kernel) (by decide +kernel)
theorem mw_51 : (Cond.fieldLink RX5 18 "JointPlans$Scene" "swapsBarred" "Z") ∈ jp_ws := jp_in (i := 193) (by decide +kernel) (by decide +kernel)
theorem mw_52 : (Cond.fieldLink RX5 22 "JointPlans$Scene" "robots" "I") ∈ jp_ws := jp_in (i := 179) (by decide +kernel) (by decide +kernel)
theorem mw_53 : (Cond.arrayClass .int) ∈ jp_ws := jp_in (i := 139) (by decide +kernel) (by decide +kernel)
theorem mw_54 : (Cond.fieldLink RX5 26 "JointPlans$Scene" "starts" "[I") ∈ jp_ws := jp_in (i := 185) (by decide +kernel) (by decide +kernel)
theorem mw_55 : (Cond.fieldLink RX5 30 "JointPlans$Scene" "ends" "[I") ∈ jp_ws := jp_in (i := 189) (by decide +kernel) (by decide +kernel)
theorem mw_56 : (Cond.instanceMethod yX0_init) ∈ jp_ws := jp_in (i := 111) (by decide +kernel) (by decide +kernel)
theorem mw_57 : (Cond.code yX0_init cX0_init 1 none) ∈ jp_ws := jp_in (i := 112) (by decide +kernel) (by decide +kernel)
theorem mw_58 : (Cond.methodLink RX0 3 objectInit) ∈ jp_ws := jp_in (i := 113) (by decide +kernel) (by decide +kernel)
theorem mw_59 : (Cond.fieldLink RX0 9 "JointPlans$Floor" "wallAt" "[I") ∈ jp_ws := jp_in (i := 114) (by decide +kernel) (by decide +kernel)
theorem mw_60 : (Cond.fieldLink RX0 15 "JointPlans$Floor" "after" "[I") ∈ jp_ws := jp_in (i := 115) (by decide +kernel) (by decide +kernel)
theorem mw_61 : (Cond.fieldLink RX0 18 "JointPlans$Floor" "distance" "[I") ∈ jp_ws := jp_in (i := 116) (by decide +kernel) (by decide +kernel)
theorem mw_62 : (Cond.fieldLink RX0 21 "JointPlans$Floor" "queue" "[I") ∈ jp_ws := jp_in (i := 117) (by decide +kernel) (by decide +kernel)
theorem mw_63 : (Cond.methodLink RX5 33 yX5_renew) ∈ jp_ws := jp_in (i := 140) (by decide +kernel) (by decide +kernel)
theorem mw_64 : (Cond.instanceMethod yX5_renew) ∈ jp_ws := jp_in (i := 142) (by decide +kernel) (by decide +kernel)
theorem mw_65 : (Cond.selects RX5 yX5_renew yX5_renew) ∈ jp_ws := jp_in (i := 0) (by decide +kernel) (by decide +kernel)
theorem mw_66 : (Cond.code yX5_renew cX5_renew 3 none) ∈ jp_ws := jp_in (i := 143) (by decide +kernel) (by decide +kernel)
theorem mw_67 : (Cond.instanceMethod yX0_clear) ∈ jp_ws := jp_in (i := 146) (by decide +kernel) (by decide +kernel)
theorem mw_68 : (Cond.selects RX0 yX0_clear yX0_clear) ∈ jp_ws := jp_in (i := 1) (by decide +kernel) (by decide +kernel)
theorem mw_69 : (Cond.code yX0_clear cX0_clear 3 none) ∈ jp_ws := jp_in (i := 147) (by decide +kernel) (by decide +kernel)
theorem mw_70 : (Cond.fieldLink RX0 24 "JointPlans$Floor" "width" "I") ∈ jp_ws := jp_in (i := 118) (by decide +kernel) (by decide +kernel)
theorem mw_71 : (Cond.fieldLink RX0 28 "JointPlans$Floor" "height" "I") ∈ jp_ws := jp_in (i := 120) (by decide +kernel) (by decide +kernel)
theorem mw_72 : (Cond.fieldLink RX0 31 "JointPlans$Floor" "walls" "I") ∈ jp_ws := jp_in (i := 122) (by decide +kernel) (by decide +kernel)
theorem mw_73 : (Cond.methodLink RX0 34 yJ7_fill_53178) ∈ jp_ws := jp_in (i := 148) (by decide +kernel) (by decide +kernel)
theorem mw_74 : (Cond.static yJ7_fill_53178) ∈ jp_ws := jp_in (i := 149) (by decide +kernel) (by decide +kernel)
theorem mw_75 : (Cond.initialized RJ7) ∈ jp_ws := jp_in (i := 74) (by decide +kernel) (by decide +kernel)
theorem mw_76 : (Cond.code yJ7_fill_53178 cJ7_fill_53178 4 none) ∈ jp_ws := jp_in (i := 150) (by decide +kernel) (by decide +kernel)
theorem mw_77 : (Cond.methodLink RX0 40 yX0_chart) ∈ jp_ws := jp_in (i := 151) (by decide +kernel) (by decide +kernel)
theorem mw_78 : (Cond.instanceMethod yX0_chart) ∈ jp_ws := jp_in (i := 153) (by decide +kernel) (by decide +kernel)
theorem mw_79 : (Cond.selects RX0 yX0_chart yX0_chart) ∈ jp_ws := jp_in (i := 2) (by decide +kernel) (by decide +kernel)
theorem mw_80 : (Cond.code yX0_chart cX0_chart 3 none) ∈ jp_ws := jp_in (i := 154) (by decide +kernel) (by decide +kernel)
theorem mw_81 : (Cond.methodLink RX0 55 yX0_target) ∈ jp_ws := jp_in (i := 155) (by decide +kernel) (by decide +kernel)
theorem mw_82 : (Cond.instanceMethod yX0_target) ∈ jp_ws := jp_in (i := 157) (by decide +kernel) (by decide +kernel)
theorem mw_83 : (Cond.selects RX0 yX0_target yX0_target) ∈ jp_ws := jp_in (i := 3) (by decide +kernel) (by decide +kernel)
theorem mw_84 : (Cond.code yX0_target cX0_target 7 (some .int)) ∈ jp_ws := jp_in (i := 158) (by decide +kernel) (by decide +kernel)
theorem mw_85 : (Cond.static yX7_read) ∈ jp_ws := jp_in (i := 162) (by decide +kernel) (by decide +kernel)
theorem mw_86 : (Cond.code yX7_read cX7_read 2 (some .int)) ∈ jp_ws := jp_in (i := 163) (by decide +kernel) (by decide +kernel)
theorem mw_87 : (Cond.methodLink RX0 65 yX0_cellAt) ∈ jp_ws := jp_in (i := 166) (by decide +kernel) (by decide +kernel)
theorem mw_88 : (Cond.instanceMethod yX0_cellAt) ∈ jp_ws := jp_in (i := 168) (by decide +kernel) (by decide +kernel)
theorem mw_89 : (Cond.selects RX0 yX0_cellAt yX0_cellAt) ∈ jp_ws := jp_in (i := 4) (by decide +kernel) (by decide +kernel)
theorem mw_90 : (Cond.code yX0_cellAt cX0_cellAt 3 (some .int)) ∈ jp_ws := jp_in (i := 169) (by decide +kernel) (by decide +kernel)
theorem mw_91 : (Cond.methodLink RX0 47 yX0_isWall) ∈ jp_ws := jp_in (i := 170) (by decide +kernel) (by decide +kernel)
theorem mw_92 : (Cond.instanceMethod yX0_isWall) ∈ jp_ws := jp_in (i := 172) (by decide +kernel) (by decide +kernel)
theorem mw_93 : (Cond.selects RX0 yX0_isWall yX0_isWall) ∈ jp_ws := jp_in (i := 5) (by decide +kernel) (by decide +kernel)
theorem mw_94 : (Cond.code yX0_isWall cX0_isWall 2 (some .boolean)) ∈ jp_ws := jp_in (i := 173) (by decide +kernel) (by decide +kernel)
theorem mw_95 : (Cond.static yX7_write) ∈ jp_ws := jp_in (i := 175) (by decide +kernel) (by decide +kernel)
theorem mw_96 : (Cond.code yX7_write cX7_write 3 none) ∈ jp_ws := jp_in (i := 176) (by decide +kernel) (by decide +kernel)
theorem mw_97 : (Cond.methodLink RX5 40 yJ7_fill_53178) ∈ jp_ws := jp_in (i := 177) (by decide +kernel) (by decide +kernel)
theorem mw_98 : (Cond.instanceMethod yX6_init) ∈ jp_ws := jp_in (i := 211) (by decide +kernel) (by decide +kernel)
theorem mw_99 : (Cond.code yX6_init cX6_init 2 none) ∈ jp_ws := jp_in (i := 212) (by decide +kernel) (by decide +kernel)
theorem mw_100 : (Cond.methodLink RX6 1 objectInit) ∈ jp_ws := jp_in (i := 213) (by decide +kernel) (by decide +kernel)
theorem mw_101 : (Cond.fieldLink RX6 7 "JointPlans$Shuffle" "state" "J") ∈ jp_ws := jp_in (i := 216) (by decide +kernel) (by decide +kernel)
theorem mw_102 : (Cond.fieldLink RX6 13 "JointPlans$Shuffle" "order" "[I") ∈ jp_ws := jp_in (i := 214) (by decide +kernel) (by decide +kernel)
theorem mw_103 : (Cond.instanceMethod yX1_init) ∈ jp_ws := jp_in (i := 226) (by decide +kernel) (by decide +kernel)
theorem mw_104 : (Cond.code yX1_init cX1_init 2 none) ∈ jp_ws := jp_in (i := 227) (by decide +kernel) (by decide +kernel)
theorem mw_105 : (Cond.methodLink RX1 3 objectInit) ∈ jp_ws := jp_in (i := 228) (by decide +kernel) (by decide +kernel)
theorem mw_106 : (Cond.fieldLink RX1 9 "JointPlans$JointSearch" "scene" "LJointPlans$Scene;") ∈ jp_ws := jp_in (i := 232) (by decide +kernel) (by decide +kernel)
theorem mw_107 : (Cond.fieldLink RX1 21 "JointPlans$JointSearch" "robots" "I") ∈ jp_ws := jp_in (i := 233) (by decide +kernel) (by decide +kernel)
theorem mw_108 : (Cond.fieldLink RX1 26 "JointPlans$JointSearch" "left" "[I") ∈ jp_ws := jp_in (i := 234) (by decide +kernel) (by decide +kernel)
theorem mw_109 : (Cond.fieldLink RX1 30 "JointPlans$JointSearch" "reached" "[I") ∈ jp_ws := jp_in (i := 235) (by decide +kernel) (by decide +kernel)
theorem mw_110 : (Cond.static yX7_jointStates) ∈ jp_ws := jp_in (i := 230) (by decide +kernel) (by decide +kernel)
theorem mw_111 : (Cond.code yX7_jointStates cX7_jointStates 1 (some .int)) ∈ jp_ws := jp_in (i := 231) (by decide +kernel) (by decide +kernel)
theorem mw_112 : (Cond.instanceMethod yX4_init) ∈ jp_ws := jp_in (i := 257) (by decide +kernel) (by decide +kernel)
theorem mw_113 : (Cond.code yX4_init cX4_init 3 none) ∈ jp_ws := jp_in (i := 258) (by decide +kernel) (by decide +kernel)
theorem mw_114 : (Cond.methodLink RX4 3 objectInit) ∈ jp_ws := jp_in (i := 259) (by decide +kernel) (by decide +kernel)
theorem mw_115 : (Cond.fieldLink RX4 9 "JointPlans$PrioritySearch" "left" "[I") ∈ jp_ws := jp_in (i := 292) (by decide +kernel) (by decide +kernel)
theorem mw_116 : (Cond.fieldLink RX4 15 "JointPlans$PrioritySearch" "taken" "[I") ∈ jp_ws := jp_in (i := 293) (by decide +kernel) (by decide +kernel)
theorem mw_117 : (Cond.fieldLink RX4 18 "JointPlans$PrioritySearch" "scene" "LJointPlans$Scene;") ∈ jp_ws := jp_in (i := 289) (by decide +kernel) (by decide +kernel)
theorem mw_118 : (Cond.fieldLink RX4 22 "JointPlans$PrioritySearch" "shuffle" "LJointPlans$Shuffle;") ∈ jp_ws := jp_in (i := 290) (by decide +kernel) (by decide +kernel)
theorem mw_119 : (Cond.classLink RX4 26 RX2) ∈ jp_ws := jp_in (i := 260) (by decide +kernel) (by decide +kernel)
theorem mw_120 : (Cond.fieldLink RX4 41 "JointPlans$PrioritySearch" "trial" "LJointPlans$Plan;") ∈ jp_ws := jp_in (i := 291) (by decide +kernel) (by decide +kernel)
theorem mw_121 : (Cond.static yX7_mostSteps) ∈ jp_ws := jp_in (i := 263) (by decide +kernel) (by decide +kernel)
theorem mw_122 : (Cond.code yX7_mostSteps cX7_mostSteps 1 (some .int)) ∈ jp_ws := jp_in (i := 264) (by decide +kernel) (by decide +kernel)
theorem mw_123 : (Cond.methodLink RX7 200 yX7_jointStates) ∈ jp_ws := jp_in (i := 265) (by decide +kernel) (by decide +kernel)
theorem mw_124 : (Cond.instanceMethod yX2_init) ∈ jp_ws := jp_in (i := 267) (by decide +kernel) (by decide +kernel)
theorem mw_125 : (Cond.code yX2_init cX2_init 3 none) ∈ jp_ws := jp_in (i := 268) (by decide +kernel) (by decide +kernel)
theorem mw_126 : (Cond.methodLink RX2 3 objectInit) ∈ jp_ws := jp_in (i := 269) (by decide +kernel) (by decide +kernel)
theorem mw_127 : (Cond.fieldLink RX2 9 "JointPlans$Plan" "cost" "I") ∈ jp_ws := jp_in (i := 276) (by decide +kernel) (by decide +kernel)
theorem mw_128 : (Cond.fieldLink RX2 15 "JointPlans$Plan" "robots" "I") ∈ jp_ws := jp_in (i := 270) (by decide +kernel) (by decide +kernel)
theorem mw_129 : (Cond.fieldLink RX2 18 "JointPlans$Plan" "cells" "[I") ∈ jp_ws := jp_in (i := 271) (by decide +kernel) (by decide +kernel)
theorem mw_130 : (Cond.methodLink RX7 54 yX7_mostSteps) ∈ jp_ws := jp_in (i := 306) (by decide +kernel) (by decide +kernel)
theorem mw_131 : (Cond.methodLink RL 67 yX8_init) ∈ jp_ws := jp_in (i := 772) (by decide +kernel) (by decide +kernel)
theorem mw_132 : (Cond.instanceMethod yX8_init) ∈ jp_ws := jp_in (i := 773) (by decide +kernel) (by decide +kernel)
theorem mw_133 : (Cond.code yX8_init cX8_init 2 none) ∈ jp_ws := jp_in (i := 774) (by decide +kernel) (by decide +kernel)
theorem mw_134 : (Cond.methodLink RX8 1 objectInit) ∈ jp_ws := jp_in (i := 775) (by decide +kernel) (by decide +kernel)
theorem mw_135 : (Cond.fieldLink RX8 7 "JointPlansModel" "thrownCode" "I") ∈ jp_ws := jp_in (i := 780) (by decide +kernel) (by decide +kernel)
theorem mw_136 : (Cond.fieldLink RX8 13 "JointPlansModel" "width" "I") ∈ jp_ws := jp_in (i := 782) (by decide +kernel) (by decide +kernel)
theorem mw_137 : (Cond.fieldLink RX8 16 "JointPlansModel" "height" "I") ∈ jp_ws := jp_in (i := 783) (by decide +kernel) (by decide +kernel)
theorem mw_138 : (Cond.arrayClass .boolean) ∈ jp_ws := jp_in (i := 832) (by decide +kernel) (by decide +kernel)
theorem mw_139 : (Cond.fieldLink RX8 19 "JointPlansModel" "wall" "[Z") ∈ jp_ws := jp_in (i := 784) (by decide +kernel) (by decide +kernel)
theorem mw_140 : (Cond.fieldLink RX8 23 "JointPlansModel" "start" "[I") ∈ jp_ws := jp_in (i := 785) (by decide +kernel) (by decide +kernel)
theorem mw_141 : (Cond.fieldLink RX8 27 "JointPlansModel" "end" "[I") ∈ jp_ws := jp_in (i := 786) (by decide +kernel) (by decide +kernel)
theorem mw_142 : (Cond.fieldLink RX8 30 "JointPlansModel" "barred" "Z") ∈ jp_ws := jp_in (i := 787) (by decide +kernel) (by decide +kernel)
theorem mw_143 : (Cond.fieldLink RX8 34 "JointPlansModel" "seed" "J") ∈ jp_ws := jp_in (i := 788) (by decide +kernel) (by decide +kernel)
theorem mw_144 : (Cond.fieldLink RX8 38 "JointPlansModel" "planned" "Z") ∈ jp_ws := jp_in (i := 789) (by decide +kernel) (by decide +kernel)
theorem mw_145 : (Cond.fieldLink RX8 41 "JointPlansModel" "joint" "Z") ∈ jp_ws := jp_in (i := 790) (by decide +kernel) (by decide +kernel)
theorem mw_146 : (Cond.fieldLink RX8 44 "JointPlansModel" "cost" "I") ∈ jp_ws := jp_in (i := 791) (by decide +kernel) (by decide +kernel)
theorem mw_147 : (Cond.fieldLink RX8 47 "JointPlansModel" "steps" "I") ∈ jp_ws := jp_in (i := 792) (by decide +kernel) (by decide +kernel)
theorem mw_148 : (Cond.fieldLink RX8 50 "JointPlansModel" "plan" "[I") ∈ jp_ws := jp_in (i := 793) (by decide +kernel) (by decide +kernel)
theorem mw_149 : (Cond.fieldLink RX8 53 "JointPlansModel" "trial" "[I") ∈ jp_ws := jp_in (i := 794) (by decide +kernel) (by decide +kernel)
theorem mw_150 : (Cond.fieldLink RX8 56 "JointPlansModel" "order" "[I") ∈ jp_ws := jp_in (i := 795) (by decide +kernel) (by decide +kernel)
theorem mw_151 : (Cond.fieldLink RX8 59 "JointPlansModel" "costs" "[I") ∈ jp_ws := jp_in (i := 796) (by decide +kernel) (by decide +kernel)
theorem mw_152 : (Cond.fieldLink RX8 62 "JointPlansModel" "robots" "I") ∈ jp_ws := jp_in (i := 781) (by decide +kernel) (by decide +kernel)
theorem mw_153 : (Cond.methodLink RX8 65 yX8_fresh) ∈ jp_ws := jp_in (i := 776) (by decide +kernel) (by decide +kernel)
theorem mw_154 : (Cond.instanceMethod yX8_fresh) ∈ jp_ws := jp_in (i := 778) (by decide +kernel) (by decide +kernel)
theorem mw_155 : (Cond.selects RX8 yX8_fresh yX8_fresh) ∈ jp_ws := jp_in (i := 49) (by decide +kernel) (by decide +kernel)
theorem mw_156 : (Cond.code yX8_fresh cX8_fresh 4 none) ∈ jp_ws := jp_in (i := 779) (by decide +kernel) (by decide +kernel)
theorem mw_157 : (Cond.methodLink RL 68 yL_grid) ∈ jp_ws := jp_in (i := 343) (by decide +kernel) (by decide +kernel)
theorem mw_158 : (Cond.static yL_grid) ∈ jp_ws := jp_in (i := 344) (by decide +kernel) (by decide +kernel)
theorem mw_159 : (Cond.codeWith yL_grid cL_grid 4 (some .int) [(0, 6, 9, 13)]) ∈ jp_ws := jp_in (i := 345) (by decide +kernel) (by decide +kernel)
theorem mw_160 : (Cond.classLink RL 13 "java/lang/IllegalArgumentException") ∈ jp_ws := jp_in (i := 346) (by decide +kernel) (by decide +kernel)
theorem mw_161 : (Cond.methodLink RL 7 yX7_grid) ∈ jp_ws := jp_in (i := 347) (by decide +kernel) (by decide +kernel)
theorem mw_162 : (Cond.instanceMethod yX7_grid) ∈ jp_ws := jp_in (i := 348) (by decide +kernel) (by decide +kernel)
theorem mw_163 : (Cond.selects RX7 yX7_grid yX7_grid) ∈ jp_ws := jp_in (i := 349) (by decide +kernel) (by decide +kernel)
theorem mw_164 : (Cond.code yX7_grid cX7_grid 3 none) ∈ jp_ws := jp_in (i := 350) (by decide +kernel) (by decide +kernel)
theorem mw_165 : (Cond.classLink RX7 65 "java/lang/IllegalArgumentException") ∈ jp_ws := jp_in (i := 351) (by decide +kernel) (by decide +kernel)
theorem mw_166 : (Cond.initialized "java/lang/IllegalArgumentException") ∈ jp_ws := jp_in (i := 83) (by decide +kernel) (by decide +kernel)
theorem mw_167 : (Cond.instanceMethod yX2_drop) ∈ jp_ws := jp_in (i := 423) (by decide +kernel) (by decide +kernel)
theorem mw_168 : (Cond.selects RX2 yX2_drop yX2_drop) ∈ jp_ws := jp_in (i := 8) (by decide +kernel) (by decide +kernel)
theorem mw_169 : (Cond.code yX2_drop cX2_drop 1 none) ∈ jp_ws := jp_in (i := 424) (by decide +kernel) (by decide +kernel)
theorem mw_170 : (Cond.fieldLink RX2 22 "JointPlans$Plan" "steps" "I") ∈ jp_ws := jp_in (i := 273) (by decide +kernel) (by decide +kernel)
theorem mw_171 : (Cond.methodLink RL 71 yX8_grid) ∈ jp_ws := jp_in (i := 837) (by decide +kernel) (by decide +kernel)
theorem mw_172 : (Cond.instanceMethod yX8_grid) ∈ jp_ws := jp_in (i := 838) (by decide +kernel) (by decide +kernel)
theorem mw_173 : (Cond.selects RX8 yX8_grid yX8_grid) ∈ jp_ws := jp_in (i := 839) (by decide +kernel) (by decide +kernel)
theorem mw_174 : (Cond.code yX8_grid cX8_grid 3 none) ∈ jp_ws := jp_in (i := 840) (by decide +kernel) (by decide +kernel)
theorem mw_175 : (Cond.methodLink RL 72 yX8_thrown) ∈ jp_ws := jp_in (i := 833) (by decide +kernel) (by decide +kernel)
theorem mw_176 : (Cond.instanceMethod yX8_thrown) ∈ jp_ws := jp_in (i := 834) (by decide +kernel) (by decide +kernel)
theorem mw_177 : (Cond.selects RX8 yX8_thrown yX8_thrown) ∈ jp_ws := jp_in (i := 835) (by decide +kernel) (by decide +kernel)
theorem mw_178 : (Cond.code yX8_thrown cX8_thrown 1 (some .int)) ∈ jp_ws := jp_in (i := 836) (by decide +kernel) (by decide +kernel)
theorem mw_179 : (Cond.methodLink RL 75 yL_wall) ∈ jp_ws := jp_in (i := 425) (by decide +kernel) (by decide +kernel)
theorem mw_180 : (Cond.static yL_wall) ∈ jp_ws := jp_in (i := 426) (by decide +kernel) (by decide +kernel)
theorem mw_181 : (Cond.codeWith yL_wall cL_wall 6 (some .int) [(0, 19, 22, 19), (0, 19, 26, 21)]) ∈ jp_ws := jp_in (i := 427) (by decide +kernel) (by decide +kernel)
theorem mw_182 : (Cond.classLink RL 19 "java/lang/ArrayIndexOutOfBoundsException") ∈ jp_ws := jp_in (i := 428) (by decide +kernel) (by decide +kernel)
theorem mw_183 : (Cond.classLink RL 21 "java/lang/IllegalStateException") ∈ jp_ws := jp_in (i := 429) (by decide +kernel) (by decide +kernel)
theorem mw_184 : (Cond.methodLink RL 15 yX7_wall) ∈ jp_ws := jp_in (i := 430) (by decide +kernel) (by decide +kernel)
theorem mw_185 : (Cond.instanceMethod yX7_wall) ∈ jp_ws := jp_in (i := 431) (by decide +kernel) (by decide +kernel)
theorem mw_186 : (Cond.selects RX7 yX7_wall yX7_wall) ∈ jp_ws := jp_in (i := 432) (by decide +kernel) (by decide +kernel)
theorem mw_187 : (Cond.code yX7_wall cX7_wall 5 (some .boolean)) ∈ jp_ws := jp_in (i := 433) (by decide +kernel) (by decide +kernel)
theorem mw_188 : (Cond.classLink RX7 103 "java/lang/IllegalStateException") ∈ jp_ws := jp_in (i := 459) (by decide +kernel) (by decide +kernel)
theorem mw_189 : (Cond.initialized "java/lang/IllegalStateException") ∈ jp_ws := jp_in (i := 86) (by decide +kernel) (by decide +kernel)
theorem mw_190 : (Cond.classLink RX7 87 RJx00060) ∈ jp_ws := jp_in (i := 435) (by decide +kernel) (by decide +kernel)
theorem mw_191 : (Cond.instantiable RJx00060 6) ∈ jp_ws := jp_in (i := 436) (by decide +kernel) (by decide +kernel)
theorem mw_192 : (Cond.initialized RJx00060) ∈ jp_ws := jp_in (i := 85) (by decide +kernel) (by decide +kernel)
theorem mw_193 : (Cond.methodLink RX7 96 yX7_ownerOf) ∈ jp_ws := jp_in (i := 456) (by decide +kernel) (by decide +kernel)
theorem mw_194 : (Cond.static yX7_ownerOf) ∈ jp_ws := jp_in (i := 457) (by decide +kernel) (by decide +kernel)
theorem mw_195 : (Cond.code yX7_ownerOf cX7_ownerOf 3 (some .int)) ∈ jp_ws := jp_in (i := 458) (by decide +kernel) (by decide +kernel)
theorem mw_196 : (Cond.instanceMethod yX0_build) ∈ jp_ws := jp_in (i := 477) (by decide +kernel) (by decide +kernel)
theorem mw_197 : (Cond.selects RX0 yX0_build yX0_build) ∈ jp_ws := jp_in (i := 9) (by decide +kernel) (by decide +kernel)
theorem mw_198 : (Cond.code yX0_build cX0_build 4 (some .boolean)) ∈ jp_ws := jp_in (i := 478) (by decide +kernel) (by decide +kernel)
theorem mw_199 : (Cond.methodLink RL 78 yX8_wall) ∈ jp_ws := jp_in (i := 841) (by decide +kernel) (by decide +kernel)
end
section
theorem mw_200 : (Cond.instanceMethod yX8_wall) ∈ jp_ws := jp_in (i := 842) (by decide +kernel) (by decide +kernel)
theorem mw_201 : (Cond.selects RX8 yX8_wall yX8_wall) ∈ jp_ws := jp_in (i := 843) (by decide +kernel) (by decide +kernel)
theorem mw_202 : (Cond.code yX8_wall cX8_wall 5 (some .boolean)) ∈ jp_ws := jp_in (i := 844) (by decide +kernel) (by decide +kernel)
theorem mw_203 : (Cond.methodLink RX8 69 yX8_noCell) ∈ jp_ws := jp_in (i := 845) (by decide +kernel) (by decide +kernel)
theorem mw_204 : (Cond.instanceMethod yX8_noCell) ∈ jp_ws := jp_in (i := 847) (by decide +kernel) (by decide +kernel)
theorem mw_205 : (Cond.selects RX8 yX8_noCell yX8_noCell) ∈ jp_ws := jp_in (i := 50) (by decide +kernel) (by decide +kernel)
theorem mw_206 : (Cond.code yX8_noCell cX8_noCell 3 (some .boolean)) ∈ jp_ws := jp_in (i := 848) (by decide +kernel) (by decide +kernel)
theorem mw_207 : (Cond.methodLink RX8 128 yX8_used) ∈ jp_ws := jp_in (i := 849) (by decide +kernel) (by decide +kernel)
theorem mw_208 : (Cond.instanceMethod yX8_used) ∈ jp_ws := jp_in (i := 851) (by decide +kernel) (by decide +kernel)
theorem mw_209 : (Cond.selects RX8 yX8_used yX8_used) ∈ jp_ws := jp_in (i := 51) (by decide +kernel) (by decide +kernel)
theorem mw_210 : (Cond.code yX8_used cX8_used 3 (some .boolean)) ∈ jp_ws := jp_in (i := 852) (by decide +kernel) (by decide +kernel)
theorem mw_211 : (Cond.methodLink RL 79 yL_start) ∈ jp_ws := jp_in (i := 479) (by decide +kernel) (by decide +kernel)
theorem mw_212 : (Cond.static yL_start) ∈ jp_ws := jp_in (i := 480) (by decide +kernel) (by decide +kernel)
theorem mw_213 : (Cond.codeWith yL_start cL_start 6 (some .int) [(0, 19, 22, 13), (0, 19, 26, 21)]) ∈ jp_ws := jp_in (i := 481) (by decide +kernel) (by decide +kernel)
theorem mw_214 : (Cond.methodLink RL 23 yX7_start) ∈ jp_ws := jp_in (i := 482) (by decide +kernel) (by decide +kernel)
theorem mw_215 : (Cond.instanceMethod yX7_start) ∈ jp_ws := jp_in (i := 483) (by decide +kernel) (by decide +kernel)
theorem mw_216 : (Cond.selects RX7 yX7_start yX7_start) ∈ jp_ws := jp_in (i := 484) (by decide +kernel) (by decide +kernel)
theorem mw_217 : (Cond.code yX7_start cX7_start 4 (some .boolean)) ∈ jp_ws := jp_in (i := 485) (by decide +kernel) (by decide +kernel)
theorem mw_218 : (Cond.methodLink RX7 112 yX7_settle) ∈ jp_ws := jp_in (i := 486) (by decide +kernel) (by decide +kernel)
theorem mw_219 : (Cond.instanceMethod yX7_settle) ∈ jp_ws := jp_in (i := 488) (by decide +kernel) (by decide +kernel)
theorem mw_220 : (Cond.selects RX7 yX7_settle yX7_settle) ∈ jp_ws := jp_in (i := 10) (by decide +kernel) (by decide +kernel)
theorem mw_221 : (Cond.code yX7_settle cX7_settle 7 (some .boolean)) ∈ jp_ws := jp_in (i := 489) (by decide +kernel) (by decide +kernel)
theorem mw_222 : (Cond.methodLink RX7 144 yX7_needRobot) ∈ jp_ws := jp_in (i := 490) (by decide +kernel) (by decide +kernel)
theorem mw_223 : (Cond.instanceMethod yX7_needRobot) ∈ jp_ws := jp_in (i := 492) (by decide +kernel) (by decide +kernel)
theorem mw_224 : (Cond.selects RX7 yX7_needRobot yX7_needRobot) ∈ jp_ws := jp_in (i := 11) (by decide +kernel) (by decide +kernel)
theorem mw_225 : (Cond.code yX7_needRobot cX7_needRobot 2 none) ∈ jp_ws := jp_in (i := 493) (by decide +kernel) (by decide +kernel)
theorem mw_226 : (Cond.methodLink RX7 190 yX7_write) ∈ jp_ws := jp_in (i := 497) (by decide +kernel) (by decide +kernel)
theorem mw_227 : (Cond.methodLink RL 82 yX8_start) ∈ jp_ws := jp_in (i := 853) (by decide +kernel) (by decide +kernel)
theorem mw_228 : (Cond.instanceMethod yX8_start) ∈ jp_ws := jp_in (i := 854) (by decide +kernel) (by decide +kernel)
theorem mw_229 : (Cond.selects RX8 yX8_start yX8_start) ∈ jp_ws := jp_in (i := 855) (by decide +kernel) (by decide +kernel)
theorem mw_230 : (Cond.code yX8_start cX8_start 4 (some .boolean)) ∈ jp_ws := jp_in (i := 856) (by decide +kernel) (by decide +kernel)
theorem mw_231 : (Cond.methodLink RX8 131 yX8_put) ∈ jp_ws := jp_in (i := 857) (by decide +kernel) (by decide +kernel)
theorem mw_232 : (Cond.instanceMethod yX8_put) ∈ jp_ws := jp_in (i := 859) (by decide +kernel) (by decide +kernel)
theorem mw_233 : (Cond.selects RX8 yX8_put yX8_put) ∈ jp_ws := jp_in (i := 52) (by decide +kernel) (by decide +kernel)
theorem mw_234 : (Cond.code yX8_put cX8_put 7 (some .boolean)) ∈ jp_ws := jp_in (i := 860) (by decide +kernel) (by decide +kernel)
theorem mw_235 : (Cond.methodLink RL 83 yL_end) ∈ jp_ws := jp_in (i := 498) (by decide +kernel) (by decide +kernel)
theorem mw_236 : (Cond.static yL_end) ∈ jp_ws := jp_in (i := 499) (by decide +kernel) (by decide +kernel)
theorem mw_237 : (Cond.codeWith yL_end cL_end 6 (some .int) [(0, 19, 22, 13), (0, 19, 26, 21)]) ∈ jp_ws := jp_in (i := 500) (by decide +kernel) (by decide +kernel)
theorem mw_238 : (Cond.methodLink RL 27 yX7_end) ∈ jp_ws := jp_in (i := 501) (by decide +kernel) (by decide +kernel)
theorem mw_239 : (Cond.instanceMethod yX7_end) ∈ jp_ws := jp_in (i := 502) (by decide +kernel) (by decide +kernel)
theorem mw_240 : (Cond.selects RX7 yX7_end yX7_end) ∈ jp_ws := jp_in (i := 503) (by decide +kernel) (by decide +kernel)
theorem mw_241 : (Cond.code yX7_end cX7_end 4 (some .boolean)) ∈ jp_ws := jp_in (i := 504) (by decide +kernel) (by decide +kernel)
theorem mw_242 : (Cond.methodLink RL 85 yX8_end) ∈ jp_ws := jp_in (i := 861) (by decide +kernel) (by decide +kernel)
theorem mw_243 : (Cond.instanceMethod yX8_end) ∈ jp_ws := jp_in (i := 862) (by decide +kernel) (by decide +kernel)
theorem mw_244 : (Cond.selects RX8 yX8_end yX8_end) ∈ jp_ws := jp_in (i := 863) (by decide +kernel) (by decide +kernel)
theorem mw_245 : (Cond.code yX8_end cX8_end 4 (some .boolean)) ∈ jp_ws := jp_in (i := 864) (by decide +kernel) (by decide +kernel)
theorem mw_246 : (Cond.methodLink RL 86 yX7_swap) ∈ jp_ws := jp_in (i := 324) (by decide +kernel) (by decide +kernel)
theorem mw_247 : (Cond.instanceMethod yX7_swap) ∈ jp_ws := jp_in (i := 325) (by decide +kernel) (by decide +kernel)
theorem mw_248 : (Cond.selects RX7 yX7_swap yX7_swap) ∈ jp_ws := jp_in (i := 326) (by decide +kernel) (by decide +kernel)
theorem mw_249 : (Cond.code yX7_swap cX7_swap 3 (some .boolean)) ∈ jp_ws := jp_in (i := 327) (by decide +kernel) (by decide +kernel)
theorem mw_250 : (Cond.methodLink RL 90 yX8_swap) ∈ jp_ws := jp_in (i := 865) (by decide +kernel) (by decide +kernel)
theorem mw_251 : (Cond.instanceMethod yX8_swap) ∈ jp_ws := jp_in (i := 866) (by decide +kernel) (by decide +kernel)
theorem mw_252 : (Cond.selects RX8 yX8_swap yX8_swap) ∈ jp_ws := jp_in (i := 867) (by decide +kernel) (by decide +kernel)
theorem mw_253 : (Cond.code yX8_swap cX8_swap 3 (some .boolean)) ∈ jp_ws := jp_in (i := 868) (by decide +kernel) (by decide +kernel)
theorem mw_254 : (Cond.methodLink RL 91 yL_seed) ∈ jp_ws := jp_in (i := 505) (by decide +kernel) (by decide +kernel)
theorem mw_255 : (Cond.static yL_seed) ∈ jp_ws := jp_in (i := 506) (by decide +kernel) (by decide +kernel)
theorem mw_256 : (Cond.codeWith yL_seed cL_seed 3 (some .int) [(0, 5, 8, 13)]) ∈ jp_ws := jp_in (i := 507) (by decide +kernel) (by decide +kernel)
theorem mw_257 : (Cond.methodLink RL 30 yX7_seed) ∈ jp_ws := jp_in (i := 508) (by decide +kernel) (by decide +kernel)
theorem mw_258 : (Cond.instanceMethod yX7_seed) ∈ jp_ws := jp_in (i := 509) (by decide +kernel) (by decide +kernel)
theorem mw_259 : (Cond.selects RX7 yX7_seed yX7_seed) ∈ jp_ws := jp_in (i := 510) (by decide +kernel) (by decide +kernel)
theorem mw_260 : (Cond.code yX7_seed cX7_seed 2 none) ∈ jp_ws := jp_in (i := 511) (by decide +kernel) (by decide +kernel)
theorem mw_261 : (Cond.methodLink RL 94 yX8_seed) ∈ jp_ws := jp_in (i := 869) (by decide +kernel) (by decide +kernel)
theorem mw_262 : (Cond.instanceMethod yX8_seed) ∈ jp_ws := jp_in (i := 870) (by decide +kernel) (by decide +kernel)
theorem mw_263 : (Cond.selects RX8 yX8_seed yX8_seed) ∈ jp_ws := jp_in (i := 871) (by decide +kernel) (by decide +kernel)
theorem mw_264 : (Cond.code yX8_seed cX8_seed 2 none) ∈ jp_ws := jp_in (i := 872) (by decide +kernel) (by decide +kernel)
theorem mw_265 : (Cond.methodLink RL 95 yL_solve) ∈ jp_ws := jp_in (i := 513) (by decide +kernel) (by decide +kernel)
theorem mw_266 : (Cond.static yL_solve) ∈ jp_ws := jp_in (i := 514) (by decide +kernel) (by decide +kernel)
theorem mw_267 : (Cond.codeWith yL_solve cL_solve 4 (some .int) [(0, 9, 12, 13), (0, 9, 15, 21)]) ∈ jp_ws := jp_in (i := 515) (by decide +kernel) (by decide +kernel)
theorem mw_268 : (Cond.methodLink RL 34 yX7_solve) ∈ jp_ws := jp_in (i := 516) (by decide +kernel) (by decide +kernel)
theorem mw_269 : (Cond.instanceMethod yX7_solve) ∈ jp_ws := jp_in (i := 517) (by decide +kernel) (by decide +kernel)
theorem mw_270 : (Cond.selects RX7 yX7_solve yX7_solve) ∈ jp_ws := jp_in (i := 518) (by decide +kernel) (by decide +kernel)
theorem mw_271 : (Cond.code yX7_solve cX7_solve 2 (some .int)) ∈ jp_ws := jp_in (i := 519) (by decide +kernel) (by decide +kernel)
theorem mw_272 : (Cond.methodLink RX7 128 yX7_needComplete) ∈ jp_ws := jp_in (i := 521) (by decide +kernel) (by decide +kernel)
theorem mw_273 : (Cond.instanceMethod yX7_needComplete) ∈ jp_ws := jp_in (i := 523) (by decide +kernel) (by decide +kernel)
theorem mw_274 : (Cond.selects RX7 yX7_needComplete yX7_needComplete) ∈ jp_ws := jp_in (i := 12) (by decide +kernel) (by decide +kernel)
theorem mw_275 : (Cond.code yX7_needComplete cX7_needComplete 2 none) ∈ jp_ws := jp_in (i := 524) (by decide +kernel) (by decide +kernel)
theorem mw_276 : (Cond.instanceMethod yX5_isComplete) ∈ jp_ws := jp_in (i := 527) (by decide +kernel) (by decide +kernel)
theorem mw_277 : (Cond.selects RX5 yX5_isComplete yX5_isComplete) ∈ jp_ws := jp_in (i := 13) (by decide +kernel) (by decide +kernel)
theorem mw_278 : (Cond.code yX5_isComplete cX5_isComplete 2 (some .boolean)) ∈ jp_ws := jp_in (i := 528) (by decide +kernel) (by decide +kernel)
theorem mw_279 : (Cond.methodLink RX7 131 ⟨"JointPlans$Planner", "make", "(LJointPlans$Plan;I)V"⟩) ∈ jp_ws := jp_in (i := 532) (by decide +kernel) (by decide +kernel)
theorem mw_280 : (Cond.selects RX1 ⟨"JointPlans$Planner", "make", "(LJointPlans$Plan;I)V"⟩ yX1_make) ∈ jp_ws := jp_in (i := 536) (by decide +kernel) (by decide +kernel)
theorem mw_281 : (Cond.instanceMethod yX1_make) ∈ jp_ws := jp_in (i := 538) (by decide +kernel) (by decide +kernel)
theorem mw_282 : (Cond.code yX1_make cX1_make 4 none) ∈ jp_ws := jp_in (i := 540) (by decide +kernel) (by decide +kernel)
theorem mw_283 : (Cond.fieldLink RX1 40 "JointPlans$JointSearch" "firstEnd" "I") ∈ jp_ws := jp_in (i := 237) (by decide +kernel) (by decide +kernel)
theorem mw_284 : (Cond.fieldLink RX1 43 "JointPlans$JointSearch" "secondEnd" "I") ∈ jp_ws := jp_in (i := 238) (by decide +kernel) (by decide +kernel)
theorem mw_285 : (Cond.methodLink RX1 36 yX1_placeOf) ∈ jp_ws := jp_in (i := 541) (by decide +kernel) (by decide +kernel)
theorem mw_286 : (Cond.instanceMethod yX1_placeOf) ∈ jp_ws := jp_in (i := 543) (by decide +kernel) (by decide +kernel)
theorem mw_287 : (Cond.selects RX1 yX1_placeOf yX1_placeOf) ∈ jp_ws := jp_in (i := 14) (by decide +kernel) (by decide +kernel)
theorem mw_288 : (Cond.code yX1_placeOf cX1_placeOf 3 (some .int)) ∈ jp_ws := jp_in (i := 544) (by decide +kernel) (by decide +kernel)
theorem mw_289 : (Cond.methodLink RX1 49 yX1_measure) ∈ jp_ws := jp_in (i := 546) (by decide +kernel) (by decide +kernel)
theorem mw_290 : (Cond.instanceMethod yX1_measure) ∈ jp_ws := jp_in (i := 548) (by decide +kernel) (by decide +kernel)
theorem mw_291 : (Cond.selects RX1 yX1_measure yX1_measure) ∈ jp_ws := jp_in (i := 15) (by decide +kernel) (by decide +kernel)
theorem mw_292 : (Cond.code yX1_measure cX1_measure 7 none) ∈ jp_ws := jp_in (i := 549) (by decide +kernel) (by decide +kernel)
theorem mw_293 : (Cond.fieldLink RX1 78 "JointPlans$JointSearch" "reachedCount" "I") ∈ jp_ws := jp_in (i := 236) (by decide +kernel) (by decide +kernel)
theorem mw_294 : (Cond.methodLink RX1 72 yJ7_fill_53178) ∈ jp_ws := jp_in (i := 550) (by decide +kernel) (by decide +kernel)
theorem mw_295 : (Cond.methodLink RX1 81 yX1_reach) ∈ jp_ws := jp_in (i := 551) (by decide +kernel) (by decide +kernel)
theorem mw_296 : (Cond.instanceMethod yX1_reach) ∈ jp_ws := jp_in (i := 553) (by decide +kernel) (by decide +kernel)
theorem mw_297 : (Cond.selects RX1 yX1_reach yX1_reach) ∈ jp_ws := jp_in (i := 16) (by decide +kernel) (by decide +kernel)
theorem mw_298 : (Cond.code yX1_reach cX1_reach 3 none) ∈ jp_ws := jp_in (i := 554) (by decide +kernel) (by decide +kernel)
theorem mw_299 : (Cond.methodLink RX1 84 yX1_reachFrom) ∈ jp_ws := jp_in (i := 556) (by decide +kernel) (by decide +kernel)
theorem mw_300 : (Cond.instanceMethod yX1_reachFrom) ∈ jp_ws := jp_in (i := 558) (by decide +kernel) (by decide +kernel)
theorem mw_301 : (Cond.selects RX1 yX1_reachFrom yX1_reachFrom) ∈ jp_ws := jp_in (i := 17) (by decide +kernel) (by decide +kernel)
theorem mw_302 : (Cond.code yX1_reachFrom cX1_reachFrom 6 none) ∈ jp_ws := jp_in (i := 559) (by decide +kernel) (by decide +kernel)
theorem mw_303 : (Cond.methodLink RX1 88 yX1_reachBefore) ∈ jp_ws := jp_in (i := 560) (by decide +kernel) (by decide +kernel)
theorem mw_304 : (Cond.instanceMethod yX1_reachBefore) ∈ jp_ws := jp_in (i := 562) (by decide +kernel) (by decide +kernel)
theorem mw_305 : (Cond.selects RX1 yX1_reachBefore yX1_reachBefore) ∈ jp_ws := jp_in (i := 18) (by decide +kernel) (by decide +kernel)
theorem mw_306 : (Cond.code yX1_reachBefore cX1_reachBefore 10 none) ∈ jp_ws := jp_in (i := 563) (by decide +kernel) (by decide +kernel)
theorem mw_307 : (Cond.methodLink RX1 92 yX1_next) ∈ jp_ws := jp_in (i := 564) (by decide +kernel) (by decide +kernel)
theorem mw_308 : (Cond.instanceMethod yX1_next) ∈ jp_ws := jp_in (i := 566) (by decide +kernel) (by decide +kernel)
theorem mw_309 : (Cond.selects RX1 yX1_next yX1_next) ∈ jp_ws := jp_in (i := 19) (by decide +kernel) (by decide +kernel)
theorem mw_310 : (Cond.code yX1_next cX1_next 4 (some .int)) ∈ jp_ws := jp_in (i := 567) (by decide +kernel) (by decide +kernel)
theorem mw_311 : (Cond.instanceMethod yX0_moved) ∈ jp_ws := jp_in (i := 570) (by decide +kernel) (by decide +kernel)
theorem mw_312 : (Cond.selects RX0 yX0_moved yX0_moved) ∈ jp_ws := jp_in (i := 20) (by decide +kernel) (by decide +kernel)
theorem mw_313 : (Cond.code yX0_moved cX0_moved 3 (some .int)) ∈ jp_ws := jp_in (i := 571) (by decide +kernel) (by decide +kernel)
theorem mw_314 : (Cond.methodLink RX1 96 yX1_stepCost) ∈ jp_ws := jp_in (i := 572) (by decide +kernel) (by decide +kernel)
theorem mw_315 : (Cond.instanceMethod yX1_stepCost) ∈ jp_ws := jp_in (i := 574) (by decide +kernel) (by decide +kernel)
theorem mw_316 : (Cond.selects RX1 yX1_stepCost yX1_stepCost) ∈ jp_ws := jp_in (i := 21) (by decide +kernel) (by decide +kernel)
theorem mw_317 : (Cond.code yX1_stepCost cX1_stepCost 5 (some .int)) ∈ jp_ws := jp_in (i := 575) (by decide +kernel) (by decide +kernel)
theorem mw_318 : (Cond.static yX7_ownCost) ∈ jp_ws := jp_in (i := 577) (by decide +kernel) (by decide +kernel)
theorem mw_319 : (Cond.code yX7_ownCost cX7_ownCost 3 (some .int)) ∈ jp_ws := jp_in (i := 578) (by decide +kernel) (by decide +kernel)
theorem mw_320 : (Cond.methodLink RX1 100 yX1_fits) ∈ jp_ws := jp_in (i := 579) (by decide +kernel) (by decide +kernel)
theorem mw_321 : (Cond.instanceMethod yX1_fits) ∈ jp_ws := jp_in (i := 581) (by decide +kernel) (by decide +kernel)
theorem mw_322 : (Cond.selects RX1 yX1_fits yX1_fits) ∈ jp_ws := jp_in (i := 22) (by decide +kernel) (by decide +kernel)
theorem mw_323 : (Cond.code yX1_fits cX1_fits 6 (some .boolean)) ∈ jp_ws := jp_in (i := 582) (by decide +kernel) (by decide +kernel)
theorem mw_324 : (Cond.instanceMethod yX2_isMade) ∈ jp_ws := jp_in (i := 334) (by decide +kernel) (by decide +kernel)
theorem mw_325 : (Cond.selects RX2 yX2_isMade yX2_isMade) ∈ jp_ws := jp_in (i := 6) (by decide +kernel) (by decide +kernel)
theorem mw_326 : (Cond.code yX2_isMade cX2_isMade 1 (some .boolean)) ∈ jp_ws := jp_in (i := 335) (by decide +kernel) (by decide +kernel)
theorem mw_327 : (Cond.methodLink RX1 65 yX1_walk) ∈ jp_ws := jp_in (i := 584) (by decide +kernel) (by decide +kernel)
theorem mw_328 : (Cond.instanceMethod yX1_walk) ∈ jp_ws := jp_in (i := 586) (by decide +kernel) (by decide +kernel)
theorem mw_329 : (Cond.selects RX1 yX1_walk yX1_walk) ∈ jp_ws := jp_in (i := 23) (by decide +kernel) (by decide +kernel)
theorem mw_330 : (Cond.code yX1_walk cX1_walk 5 (some .int)) ∈ jp_ws := jp_in (i := 587) (by decide +kernel) (by decide +kernel)
theorem mw_331 : (Cond.methodLink RX1 108 yX1_note) ∈ jp_ws := jp_in (i := 588) (by decide +kernel) (by decide +kernel)
theorem mw_332 : (Cond.instanceMethod yX1_note) ∈ jp_ws := jp_in (i := 590) (by decide +kernel) (by decide +kernel)
theorem mw_333 : (Cond.selects RX1 yX1_note yX1_note) ∈ jp_ws := jp_in (i := 24) (by decide +kernel) (by decide +kernel)
theorem mw_334 : (Cond.code yX1_note cX1_note 4 none) ∈ jp_ws := jp_in (i := 591) (by decide +kernel) (by decide +kernel)
theorem mw_335 : (Cond.instanceMethod yX2_put) ∈ jp_ws := jp_in (i := 594) (by decide +kernel) (by decide +kernel)
theorem mw_336 : (Cond.selects RX2 yX2_put yX2_put) ∈ jp_ws := jp_in (i := 25) (by decide +kernel) (by decide +kernel)
theorem mw_337 : (Cond.code yX2_put cX2_put 4 none) ∈ jp_ws := jp_in (i := 595) (by decide +kernel) (by decide +kernel)
theorem mw_338 : (Cond.methodLink RX1 115 yX1_follow) ∈ jp_ws := jp_in (i := 598) (by decide +kernel) (by decide +kernel)
theorem mw_339 : (Cond.instanceMethod yX1_follow) ∈ jp_ws := jp_in (i := 600) (by decide +kernel) (by decide +kernel)
theorem mw_340 : (Cond.selects RX1 yX1_follow yX1_follow) ∈ jp_ws := jp_in (i := 26) (by decide +kernel) (by decide +kernel)
theorem mw_341 : (Cond.code yX1_follow cX1_follow 8 (some .int)) ∈ jp_ws := jp_in (i := 601) (by decide +kernel) (by decide +kernel)
theorem mw_342 : (Cond.methodLink RX1 121 yX1_keeps) ∈ jp_ws := jp_in (i := 602) (by decide +kernel) (by decide +kernel)
theorem mw_343 : (Cond.instanceMethod yX1_keeps) ∈ jp_ws := jp_in (i := 604) (by decide +kernel) (by decide +kernel)
theorem mw_344 : (Cond.selects RX1 yX1_keeps yX1_keeps) ∈ jp_ws := jp_in (i := 27) (by decide +kernel) (by decide +kernel)
theorem mw_345 : (Cond.code yX1_keeps cX1_keeps 5 (some .boolean)) ∈ jp_ws := jp_in (i := 605) (by decide +kernel) (by decide +kernel)
theorem mw_346 : (Cond.selects RX4 ⟨"JointPlans$Planner", "make", "(LJointPlans$Plan;I)V"⟩ yX4_make) ∈ jp_ws := jp_in (i := 607) (by decide +kernel) (by decide +kernel)
theorem mw_347 : (Cond.instanceMethod yX4_make) ∈ jp_ws := jp_in (i := 609) (by decide +kernel) (by decide +kernel)
theorem mw_348 : (Cond.code yX4_make cX4_make 4 none) ∈ jp_ws := jp_in (i := 611) (by decide +kernel) (by decide +kernel)
theorem mw_349 : (Cond.instanceMethod yX6_reset) ∈ jp_ws := jp_in (i := 614) (by decide +kernel) (by decide +kernel)
theorem mw_350 : (Cond.selects RX6 yX6_reset yX6_reset) ∈ jp_ws := jp_in (i := 28) (by decide +kernel) (by decide +kernel)
theorem mw_351 : (Cond.code yX6_reset cX6_reset 2 none) ∈ jp_ws := jp_in (i := 615) (by decide +kernel) (by decide +kernel)
theorem mw_352 : (Cond.methodLink RX4 50 yX4_improve) ∈ jp_ws := jp_in (i := 616) (by decide +kernel) (by decide +kernel)
theorem mw_353 : (Cond.instanceMethod yX4_improve) ∈ jp_ws := jp_in (i := 618) (by decide +kernel) (by decide +kernel)
theorem mw_354 : (Cond.selects RX4 yX4_improve yX4_improve) ∈ jp_ws := jp_in (i := 29) (by decide +kernel) (by decide +kernel)
theorem mw_355 : (Cond.code yX4_improve cX4_improve 2 none) ∈ jp_ws := jp_in (i := 619) (by decide +kernel) (by decide +kernel)
theorem mw_356 : (Cond.methodLink RX4 57 yX4_tryOrder) ∈ jp_ws := jp_in (i := 620) (by decide +kernel) (by decide +kernel)
theorem mw_357 : (Cond.instanceMethod yX4_tryOrder) ∈ jp_ws := jp_in (i := 622) (by decide +kernel) (by decide +kernel)
theorem mw_358 : (Cond.selects RX4 yX4_tryOrder yX4_tryOrder) ∈ jp_ws := jp_in (i := 30) (by decide +kernel) (by decide +kernel)
theorem mw_359 : (Cond.code yX4_tryOrder cX4_tryOrder 4 none) ∈ jp_ws := jp_in (i := 623) (by decide +kernel) (by decide +kernel)
theorem mw_360 : (Cond.methodLink RX4 70 yJ7_fill_53178) ∈ jp_ws := jp_in (i := 624) (by decide +kernel) (by decide +kernel)
theorem mw_361 : (Cond.methodLink RX4 86 yX4_route) ∈ jp_ws := jp_in (i := 627) (by decide +kernel) (by decide +kernel)
theorem mw_362 : (Cond.instanceMethod yX4_route) ∈ jp_ws := jp_in (i := 629) (by decide +kernel) (by decide +kernel)
theorem mw_363 : (Cond.selects RX4 yX4_route yX4_route) ∈ jp_ws := jp_in (i := 31) (by decide +kernel) (by decide +kernel)
theorem mw_364 : (Cond.code yX4_route cX4_route 6 (some .int)) ∈ jp_ws := jp_in (i := 630) (by decide +kernel) (by decide +kernel)
theorem mw_365 : (Cond.methodLink RX4 102 yX4_measure) ∈ jp_ws := jp_in (i := 631) (by decide +kernel) (by decide +kernel)
theorem mw_366 : (Cond.instanceMethod yX4_measure) ∈ jp_ws := jp_in (i := 633) (by decide +kernel) (by decide +kernel)
theorem mw_367 : (Cond.selects RX4 yX4_measure yX4_measure) ∈ jp_ws := jp_in (i := 32) (by decide +kernel) (by decide +kernel)
theorem mw_368 : (Cond.code yX4_measure cX4_measure 4 none) ∈ jp_ws := jp_in (i := 634) (by decide +kernel) (by decide +kernel)
theorem mw_369 : (Cond.methodLink RX4 125 yX4_leastFrom) ∈ jp_ws := jp_in (i := 636) (by decide +kernel) (by decide +kernel)
theorem mw_370 : (Cond.instanceMethod yX4_leastFrom) ∈ jp_ws := jp_in (i := 638) (by decide +kernel) (by decide +kernel)
theorem mw_371 : (Cond.selects RX4 yX4_leastFrom yX4_leastFrom) ∈ jp_ws := jp_in (i := 33) (by decide +kernel) (by decide +kernel)
theorem mw_372 : (Cond.code yX4_leastFrom cX4_leastFrom 7 (some .int)) ∈ jp_ws := jp_in (i := 639) (by decide +kernel) (by decide +kernel)
theorem mw_373 : (Cond.methodLink RX4 128 yX4_costBy) ∈ jp_ws := jp_in (i := 640) (by decide +kernel) (by decide +kernel)
theorem mw_374 : (Cond.instanceMethod yX4_costBy) ∈ jp_ws := jp_in (i := 642) (by decide +kernel) (by decide +kernel)
theorem mw_375 : (Cond.selects RX4 yX4_costBy yX4_costBy) ∈ jp_ws := jp_in (i := 34) (by decide +kernel) (by decide +kernel)
theorem mw_376 : (Cond.code yX4_costBy cX4_costBy 7 (some .int)) ∈ jp_ws := jp_in (i := 643) (by decide +kernel) (by decide +kernel)
theorem mw_377 : (Cond.methodLink RX4 141 yX4_isBarred) ∈ jp_ws := jp_in (i := 645) (by decide +kernel) (by decide +kernel)
theorem mw_378 : (Cond.instanceMethod yX4_isBarred) ∈ jp_ws := jp_in (i := 647) (by decide +kernel) (by decide +kernel)
theorem mw_379 : (Cond.selects RX4 yX4_isBarred yX4_isBarred) ∈ jp_ws := jp_in (i := 35) (by decide +kernel) (by decide +kernel)
theorem mw_380 : (Cond.code yX4_isBarred cX4_isBarred 5 (some .boolean)) ∈ jp_ws := jp_in (i := 648) (by decide +kernel) (by decide +kernel)
theorem mw_381 : (Cond.methodLink RX4 110 yX4_follow) ∈ jp_ws := jp_in (i := 651) (by decide +kernel) (by decide +kernel)
theorem mw_382 : (Cond.instanceMethod yX4_follow) ∈ jp_ws := jp_in (i := 653) (by decide +kernel) (by decide +kernel)
theorem mw_383 : (Cond.selects RX4 yX4_follow yX4_follow) ∈ jp_ws := jp_in (i := 36) (by decide +kernel) (by decide +kernel)
theorem mw_384 : (Cond.code yX4_follow cX4_follow 6 (some .int)) ∈ jp_ws := jp_in (i := 654) (by decide +kernel) (by decide +kernel)
theorem mw_385 : (Cond.methodLink RX4 114 yX4_occupy) ∈ jp_ws := jp_in (i := 655) (by decide +kernel) (by decide +kernel)
theorem mw_386 : (Cond.instanceMethod yX4_occupy) ∈ jp_ws := jp_in (i := 657) (by decide +kernel) (by decide +kernel)
theorem mw_387 : (Cond.selects RX4 yX4_occupy yX4_occupy) ∈ jp_ws := jp_in (i := 37) (by decide +kernel) (by decide +kernel)
theorem mw_388 : (Cond.code yX4_occupy cX4_occupy 3 none) ∈ jp_ws := jp_in (i := 658) (by decide +kernel) (by decide +kernel)
theorem mw_389 : (Cond.instanceMethod yX2_cellOf) ∈ jp_ws := jp_in (i := 661) (by decide +kernel) (by decide +kernel)
theorem mw_390 : (Cond.selects RX2 yX2_cellOf yX2_cellOf) ∈ jp_ws := jp_in (i := 38) (by decide +kernel) (by decide +kernel)
theorem mw_391 : (Cond.code yX2_cellOf cX2_cellOf 3 (some .int)) ∈ jp_ws := jp_in (i := 662) (by decide +kernel) (by decide +kernel)
theorem mw_392 : (Cond.methodLink RX4 89 yX4_stepsOfTrial) ∈ jp_ws := jp_in (i := 664) (by decide +kernel) (by decide +kernel)
theorem mw_393 : (Cond.instanceMethod yX4_stepsOfTrial) ∈ jp_ws := jp_in (i := 666) (by decide +kernel) (by decide +kernel)
theorem mw_394 : (Cond.selects RX4 yX4_stepsOfTrial yX4_stepsOfTrial) ∈ jp_ws := jp_in (i := 39) (by decide +kernel) (by decide +kernel)
theorem mw_395 : (Cond.code yX4_stepsOfTrial cX4_stepsOfTrial 2 (some .int)) ∈ jp_ws := jp_in (i := 667) (by decide +kernel) (by decide +kernel)
theorem mw_396 : (Cond.methodLink RX4 152 yX4_allAtEnds) ∈ jp_ws := jp_in (i := 668) (by decide +kernel) (by decide +kernel)
theorem mw_397 : (Cond.instanceMethod yX4_allAtEnds) ∈ jp_ws := jp_in (i := 670) (by decide +kernel) (by decide +kernel)
theorem mw_398 : (Cond.selects RX4 yX4_allAtEnds yX4_allAtEnds) ∈ jp_ws := jp_in (i := 40) (by decide +kernel) (by decide +kernel)
theorem mw_399 : (Cond.code yX4_allAtEnds cX4_allAtEnds 3 (some .boolean)) ∈ jp_ws := jp_in (i := 671) (by decide +kernel) (by decide +kernel)
end
section
theorem mw_400 : (Cond.instanceMethod yX2_copy) ∈ jp_ws := jp_in (i := 675) (by decide +kernel) (by decide +kernel)
theorem mw_401 : (Cond.selects RX2 yX2_copy yX2_copy) ∈ jp_ws := jp_in (i := 41) (by decide +kernel) (by decide +kernel)
theorem mw_402 : (Cond.code yX2_copy cX2_copy 3 none) ∈ jp_ws := jp_in (i := 676) (by decide +kernel) (by decide +kernel)
theorem mw_403 : (Cond.instanceMethod yX6_draw) ∈ jp_ws := jp_in (i := 679) (by decide +kernel) (by decide +kernel)
theorem mw_404 : (Cond.selects RX6 yX6_draw yX6_draw) ∈ jp_ws := jp_in (i := 42) (by decide +kernel) (by decide +kernel)
theorem mw_405 : (Cond.code yX6_draw cX6_draw 2 none) ∈ jp_ws := jp_in (i := 680) (by decide +kernel) (by decide +kernel)
theorem mw_406 : (Cond.constantLong RX6 20 (1103515245)) ∈ jp_ws := jp_in (i := 682) (by decide +kernel) (by decide +kernel)
theorem mw_407 : (Cond.constantLong RX6 22 (12345)) ∈ jp_ws := jp_in (i := 683) (by decide +kernel) (by decide +kernel)
theorem mw_408 : (Cond.constantLong RX6 24 (2147483648)) ∈ jp_ws := jp_in (i := 684) (by decide +kernel) (by decide +kernel)
theorem mw_409 : (Cond.constantLong RX6 26 (65536)) ∈ jp_ws := jp_in (i := 685) (by decide +kernel) (by decide +kernel)
theorem mw_410 : (Cond.methodLink RX6 17 yX6_reset) ∈ jp_ws := jp_in (i := 681) (by decide +kernel) (by decide +kernel)
theorem mw_411 : (Cond.methodLink RX6 28 yX6_exchange) ∈ jp_ws := jp_in (i := 686) (by decide +kernel) (by decide +kernel)
theorem mw_412 : (Cond.instanceMethod yX6_exchange) ∈ jp_ws := jp_in (i := 688) (by decide +kernel) (by decide +kernel)
theorem mw_413 : (Cond.selects RX6 yX6_exchange yX6_exchange) ∈ jp_ws := jp_in (i := 43) (by decide +kernel) (by decide +kernel)
theorem mw_414 : (Cond.code yX6_exchange cX6_exchange 4 none) ∈ jp_ws := jp_in (i := 689) (by decide +kernel) (by decide +kernel)
theorem mw_415 : (Cond.methodLink RL 98 yX8_solve) ∈ jp_ws := jp_in (i := 873) (by decide +kernel) (by decide +kernel)
theorem mw_416 : (Cond.instanceMethod yX8_solve) ∈ jp_ws := jp_in (i := 874) (by decide +kernel) (by decide +kernel)
theorem mw_417 : (Cond.selects RX8 yX8_solve yX8_solve) ∈ jp_ws := jp_in (i := 875) (by decide +kernel) (by decide +kernel)
theorem mw_418 : (Cond.code yX8_solve cX8_solve 2 (some .int)) ∈ jp_ws := jp_in (i := 876) (by decide +kernel) (by decide +kernel)
theorem mw_419 : (Cond.methodLink RX8 135 yX8_missing) ∈ jp_ws := jp_in (i := 877) (by decide +kernel) (by decide +kernel)
theorem mw_420 : (Cond.instanceMethod yX8_missing) ∈ jp_ws := jp_in (i := 879) (by decide +kernel) (by decide +kernel)
theorem mw_421 : (Cond.selects RX8 yX8_missing yX8_missing) ∈ jp_ws := jp_in (i := 53) (by decide +kernel) (by decide +kernel)
theorem mw_422 : (Cond.code yX8_missing cX8_missing 2 (some .boolean)) ∈ jp_ws := jp_in (i := 880) (by decide +kernel) (by decide +kernel)
theorem mw_423 : (Cond.methodLink RX8 139 yX8_jointly) ∈ jp_ws := jp_in (i := 881) (by decide +kernel) (by decide +kernel)
theorem mw_424 : (Cond.instanceMethod yX8_jointly) ∈ jp_ws := jp_in (i := 883) (by decide +kernel) (by decide +kernel)
theorem mw_425 : (Cond.selects RX8 yX8_jointly yX8_jointly) ∈ jp_ws := jp_in (i := 54) (by decide +kernel) (by decide +kernel)
theorem mw_426 : (Cond.code yX8_jointly cX8_jointly 5 none) ∈ jp_ws := jp_in (i := 884) (by decide +kernel) (by decide +kernel)
theorem mw_427 : (Cond.constant RX8 77 (1000000)) ∈ jp_ws := jp_in (i := 885) (by decide +kernel) (by decide +kernel)
theorem mw_428 : (Cond.methodLink RX8 78 yX8_goal) ∈ jp_ws := jp_in (i := 886) (by decide +kernel) (by decide +kernel)
theorem mw_429 : (Cond.instanceMethod yX8_goal) ∈ jp_ws := jp_in (i := 888) (by decide +kernel) (by decide +kernel)
theorem mw_430 : (Cond.selects RX8 yX8_goal yX8_goal) ∈ jp_ws := jp_in (i := 55) (by decide +kernel) (by decide +kernel)
theorem mw_431 : (Cond.code yX8_goal cX8_goal 2 (some .int)) ∈ jp_ws := jp_in (i := 889) (by decide +kernel) (by decide +kernel)
theorem mw_432 : (Cond.methodLink RX8 86 yX8_lower) ∈ jp_ws := jp_in (i := 890) (by decide +kernel) (by decide +kernel)
theorem mw_433 : (Cond.instanceMethod yX8_lower) ∈ jp_ws := jp_in (i := 892) (by decide +kernel) (by decide +kernel)
theorem mw_434 : (Cond.selects RX8 yX8_lower yX8_lower) ∈ jp_ws := jp_in (i := 56) (by decide +kernel) (by decide +kernel)
theorem mw_435 : (Cond.code yX8_lower cX8_lower 6 (some .boolean)) ∈ jp_ws := jp_in (i := 893) (by decide +kernel) (by decide +kernel)
theorem mw_436 : (Cond.methodLink RX8 92 yX8_outside) ∈ jp_ws := jp_in (i := 894) (by decide +kernel) (by decide +kernel)
theorem mw_437 : (Cond.instanceMethod yX8_outside) ∈ jp_ws := jp_in (i := 896) (by decide +kernel) (by decide +kernel)
theorem mw_438 : (Cond.selects RX8 yX8_outside yX8_outside) ∈ jp_ws := jp_in (i := 57) (by decide +kernel) (by decide +kernel)
theorem mw_439 : (Cond.code yX8_outside cX8_outside 2 (some .boolean)) ∈ jp_ws := jp_in (i := 897) (by decide +kernel) (by decide +kernel)
theorem mw_440 : (Cond.methodLink RX8 96 yX8_through) ∈ jp_ws := jp_in (i := 898) (by decide +kernel) (by decide +kernel)
theorem mw_441 : (Cond.instanceMethod yX8_through) ∈ jp_ws := jp_in (i := 900) (by decide +kernel) (by decide +kernel)
theorem mw_442 : (Cond.selects RX8 yX8_through yX8_through) ∈ jp_ws := jp_in (i := 58) (by decide +kernel) (by decide +kernel)
theorem mw_443 : (Cond.code yX8_through cX8_through 8 (some .int)) ∈ jp_ws := jp_in (i := 901) (by decide +kernel) (by decide +kernel)
theorem mw_444 : (Cond.methodLink RX8 73 yX8_moved) ∈ jp_ws := jp_in (i := 902) (by decide +kernel) (by decide +kernel)
theorem mw_445 : (Cond.instanceMethod yX8_moved) ∈ jp_ws := jp_in (i := 904) (by decide +kernel) (by decide +kernel)
theorem mw_446 : (Cond.selects RX8 yX8_moved yX8_moved) ∈ jp_ws := jp_in (i := 59) (by decide +kernel) (by decide +kernel)
theorem mw_447 : (Cond.code yX8_moved cX8_moved 5 (some .int)) ∈ jp_ws := jp_in (i := 905) (by decide +kernel) (by decide +kernel)
theorem mw_448 : (Cond.methodLink RX8 82 yX8_stays) ∈ jp_ws := jp_in (i := 906) (by decide +kernel) (by decide +kernel)
theorem mw_449 : (Cond.static yX8_stays) ∈ jp_ws := jp_in (i := 907) (by decide +kernel) (by decide +kernel)
theorem mw_450 : (Cond.code yX8_stays cX8_stays 3 (some .int)) ∈ jp_ws := jp_in (i := 908) (by decide +kernel) (by decide +kernel)
theorem mw_451 : (Cond.methodLink RX8 89 yX8_firstMove) ∈ jp_ws := jp_in (i := 909) (by decide +kernel) (by decide +kernel)
theorem mw_452 : (Cond.instanceMethod yX8_firstMove) ∈ jp_ws := jp_in (i := 911) (by decide +kernel) (by decide +kernel)
theorem mw_453 : (Cond.selects RX8 yX8_firstMove yX8_firstMove) ∈ jp_ws := jp_in (i := 60) (by decide +kernel) (by decide +kernel)
theorem mw_454 : (Cond.code yX8_firstMove cX8_firstMove 4 (some .int)) ∈ jp_ws := jp_in (i := 912) (by decide +kernel) (by decide +kernel)
theorem mw_455 : (Cond.methodLink RX8 142 yX8_byPriorities) ∈ jp_ws := jp_in (i := 913) (by decide +kernel) (by decide +kernel)
theorem mw_456 : (Cond.instanceMethod yX8_byPriorities) ∈ jp_ws := jp_in (i := 915) (by decide +kernel) (by decide +kernel)
theorem mw_457 : (Cond.selects RX8 yX8_byPriorities yX8_byPriorities) ∈ jp_ws := jp_in (i := 61) (by decide +kernel) (by decide +kernel)
theorem mw_458 : (Cond.code yX8_byPriorities cX8_byPriorities 5 none) ∈ jp_ws := jp_in (i := 916) (by decide +kernel) (by decide +kernel)
theorem mw_459 : (Cond.methodLink RX8 118 yX8_draw) ∈ jp_ws := jp_in (i := 917) (by decide +kernel) (by decide +kernel)
theorem mw_460 : (Cond.instanceMethod yX8_draw) ∈ jp_ws := jp_in (i := 919) (by decide +kernel) (by decide +kernel)
theorem mw_461 : (Cond.selects RX8 yX8_draw yX8_draw) ∈ jp_ws := jp_in (i := 62) (by decide +kernel) (by decide +kernel)
theorem mw_462 : (Cond.code yX8_draw cX8_draw 4 none) ∈ jp_ws := jp_in (i := 920) (by decide +kernel) (by decide +kernel)
theorem mw_463 : (Cond.constantLong RX8 110 (1103515245)) ∈ jp_ws := jp_in (i := 921) (by decide +kernel) (by decide +kernel)
theorem mw_464 : (Cond.constantLong RX8 112 (12345)) ∈ jp_ws := jp_in (i := 922) (by decide +kernel) (by decide +kernel)
theorem mw_465 : (Cond.constantLong RX8 114 (2147483648)) ∈ jp_ws := jp_in (i := 923) (by decide +kernel) (by decide +kernel)
theorem mw_466 : (Cond.constantLong RX8 116 (65536)) ∈ jp_ws := jp_in (i := 924) (by decide +kernel) (by decide +kernel)
theorem mw_467 : (Cond.methodLink RX8 121 yX8_ways) ∈ jp_ws := jp_in (i := 925) (by decide +kernel) (by decide +kernel)
theorem mw_468 : (Cond.instanceMethod yX8_ways) ∈ jp_ws := jp_in (i := 927) (by decide +kernel) (by decide +kernel)
theorem mw_469 : (Cond.selects RX8 yX8_ways yX8_ways) ∈ jp_ws := jp_in (i := 63) (by decide +kernel) (by decide +kernel)
theorem mw_470 : (Cond.code yX8_ways cX8_ways 3 (some .int)) ∈ jp_ws := jp_in (i := 928) (by decide +kernel) (by decide +kernel)
theorem mw_471 : (Cond.methodLink RX8 107 yX8_way) ∈ jp_ws := jp_in (i := 929) (by decide +kernel) (by decide +kernel)
theorem mw_472 : (Cond.instanceMethod yX8_way) ∈ jp_ws := jp_in (i := 931) (by decide +kernel) (by decide +kernel)
theorem mw_473 : (Cond.selects RX8 yX8_way yX8_way) ∈ jp_ws := jp_in (i := 64) (by decide +kernel) (by decide +kernel)
theorem mw_474 : (Cond.code yX8_way cX8_way 7 (some .boolean)) ∈ jp_ws := jp_in (i := 932) (by decide +kernel) (by decide +kernel)
theorem mw_475 : (Cond.methodLink RX8 100 yX8_step) ∈ jp_ws := jp_in (i := 933) (by decide +kernel) (by decide +kernel)
theorem mw_476 : (Cond.instanceMethod yX8_step) ∈ jp_ws := jp_in (i := 935) (by decide +kernel) (by decide +kernel)
theorem mw_477 : (Cond.selects RX8 yX8_step yX8_step) ∈ jp_ws := jp_in (i := 65) (by decide +kernel) (by decide +kernel)
theorem mw_478 : (Cond.code yX8_step cX8_step 7 (some .int)) ∈ jp_ws := jp_in (i := 936) (by decide +kernel) (by decide +kernel)
theorem mw_479 : (Cond.methodLink RX8 103 yX8_open) ∈ jp_ws := jp_in (i := 937) (by decide +kernel) (by decide +kernel)
theorem mw_480 : (Cond.instanceMethod yX8_open) ∈ jp_ws := jp_in (i := 939) (by decide +kernel) (by decide +kernel)
theorem mw_481 : (Cond.selects RX8 yX8_open yX8_open) ∈ jp_ws := jp_in (i := 66) (by decide +kernel) (by decide +kernel)
theorem mw_482 : (Cond.code yX8_open cX8_open 8 (some .boolean)) ∈ jp_ws := jp_in (i := 940) (by decide +kernel) (by decide +kernel)
theorem mw_483 : (Cond.methodLink RL 99 yX7_exact) ∈ jp_ws := jp_in (i := 328) (by decide +kernel) (by decide +kernel)
theorem mw_484 : (Cond.instanceMethod yX7_exact) ∈ jp_ws := jp_in (i := 329) (by decide +kernel) (by decide +kernel)
theorem mw_485 : (Cond.selects RX7 yX7_exact yX7_exact) ∈ jp_ws := jp_in (i := 330) (by decide +kernel) (by decide +kernel)
theorem mw_486 : (Cond.code yX7_exact cX7_exact 1 (some .boolean)) ∈ jp_ws := jp_in (i := 331) (by decide +kernel) (by decide +kernel)
theorem mw_487 : (Cond.methodLink RL 103 yX8_exact) ∈ jp_ws := jp_in (i := 941) (by decide +kernel) (by decide +kernel)
theorem mw_488 : (Cond.instanceMethod yX8_exact) ∈ jp_ws := jp_in (i := 942) (by decide +kernel) (by decide +kernel)
theorem mw_489 : (Cond.selects RX8 yX8_exact yX8_exact) ∈ jp_ws := jp_in (i := 943) (by decide +kernel) (by decide +kernel)
theorem mw_490 : (Cond.code yX8_exact cX8_exact 1 (some .boolean)) ∈ jp_ws := jp_in (i := 944) (by decide +kernel) (by decide +kernel)
theorem mw_491 : (Cond.methodLink RL 104 yL_at) ∈ jp_ws := jp_in (i := 692) (by decide +kernel) (by decide +kernel)
theorem mw_492 : (Cond.static yL_at) ∈ jp_ws := jp_in (i := 693) (by decide +kernel) (by decide +kernel)
theorem mw_493 : (Cond.codeWith yL_at cL_at 6 (some .int) [(0, 12, 15, 13), (0, 12, 19, 21)]) ∈ jp_ws := jp_in (i := 694) (by decide +kernel) (by decide +kernel)
theorem mw_494 : (Cond.methodLink RL 38 yX7_at) ∈ jp_ws := jp_in (i := 695) (by decide +kernel) (by decide +kernel)
theorem mw_495 : (Cond.instanceMethod yX7_at) ∈ jp_ws := jp_in (i := 696) (by decide +kernel) (by decide +kernel)
theorem mw_496 : (Cond.selects RX7 yX7_at yX7_at) ∈ jp_ws := jp_in (i := 697) (by decide +kernel) (by decide +kernel)
theorem mw_497 : (Cond.code yX7_at cX7_at 5 (some .int)) ∈ jp_ws := jp_in (i := 698) (by decide +kernel) (by decide +kernel)
theorem mw_498 : (Cond.methodLink RX7 149 yX7_needPlan) ∈ jp_ws := jp_in (i := 700) (by decide +kernel) (by decide +kernel)
theorem mw_499 : (Cond.instanceMethod yX7_needPlan) ∈ jp_ws := jp_in (i := 702) (by decide +kernel) (by decide +kernel)
theorem mw_500 : (Cond.selects RX7 yX7_needPlan yX7_needPlan) ∈ jp_ws := jp_in (i := 44) (by decide +kernel) (by decide +kernel)
theorem mw_501 : (Cond.code yX7_needPlan cX7_needPlan 1 none) ∈ jp_ws := jp_in (i := 703) (by decide +kernel) (by decide +kernel)
theorem mw_502 : (Cond.methodLink RL 106 yX8_at) ∈ jp_ws := jp_in (i := 945) (by decide +kernel) (by decide +kernel)
theorem mw_503 : (Cond.instanceMethod yX8_at) ∈ jp_ws := jp_in (i := 946) (by decide +kernel) (by decide +kernel)
theorem mw_504 : (Cond.selects RX8 yX8_at yX8_at) ∈ jp_ws := jp_in (i := 947) (by decide +kernel) (by decide +kernel)
theorem mw_505 : (Cond.code yX8_at cX8_at 5 (some .int)) ∈ jp_ws := jp_in (i := 948) (by decide +kernel) (by decide +kernel)
theorem mw_506 : (Cond.methodLink RL 107 yL_last) ∈ jp_ws := jp_in (i := 706) (by decide +kernel) (by decide +kernel)
theorem mw_507 : (Cond.static yL_last) ∈ jp_ws := jp_in (i := 707) (by decide +kernel) (by decide +kernel)
theorem mw_508 : (Cond.codeWith yL_last cL_last 3 (some .int) [(0, 8, 11, 21)]) ∈ jp_ws := jp_in (i := 708) (by decide +kernel) (by decide +kernel)
theorem mw_509 : (Cond.methodLink RL 42 yX7_last) ∈ jp_ws := jp_in (i := 709) (by decide +kernel) (by decide +kernel)
theorem mw_510 : (Cond.instanceMethod yX7_last) ∈ jp_ws := jp_in (i := 710) (by decide +kernel) (by decide +kernel)
theorem mw_511 : (Cond.selects RX7 yX7_last yX7_last) ∈ jp_ws := jp_in (i := 711) (by decide +kernel) (by decide +kernel)
theorem mw_512 : (Cond.code yX7_last cX7_last 1 (some .int)) ∈ jp_ws := jp_in (i := 712) (by decide +kernel) (by decide +kernel)
theorem mw_513 : (Cond.methodLink RL 110 yX8_last) ∈ jp_ws := jp_in (i := 949) (by decide +kernel) (by decide +kernel)
theorem mw_514 : (Cond.instanceMethod yX8_last) ∈ jp_ws := jp_in (i := 950) (by decide +kernel) (by decide +kernel)
theorem mw_515 : (Cond.selects RX8 yX8_last yX8_last) ∈ jp_ws := jp_in (i := 951) (by decide +kernel) (by decide +kernel)
theorem mw_516 : (Cond.code yX8_last cX8_last 1 (some .int)) ∈ jp_ws := jp_in (i := 952) (by decide +kernel) (by decide +kernel)
theorem mw_517 : (Cond.methodLink RL 111 yL_alone) ∈ jp_ws := jp_in (i := 713) (by decide +kernel) (by decide +kernel)
theorem mw_518 : (Cond.static yL_alone) ∈ jp_ws := jp_in (i := 714) (by decide +kernel) (by decide +kernel)
theorem mw_519 : (Cond.codeWith yL_alone cL_alone 4 (some .int) [(0, 9, 12, 13), (0, 9, 15, 21)]) ∈ jp_ws := jp_in (i := 715) (by decide +kernel) (by decide +kernel)
theorem mw_520 : (Cond.methodLink RL 46 yX7_alone) ∈ jp_ws := jp_in (i := 716) (by decide +kernel) (by decide +kernel)
theorem mw_521 : (Cond.instanceMethod yX7_alone) ∈ jp_ws := jp_in (i := 717) (by decide +kernel) (by decide +kernel)
theorem mw_522 : (Cond.selects RX7 yX7_alone yX7_alone) ∈ jp_ws := jp_in (i := 718) (by decide +kernel) (by decide +kernel)
theorem mw_523 : (Cond.code yX7_alone cX7_alone 2 (some .int)) ∈ jp_ws := jp_in (i := 719) (by decide +kernel) (by decide +kernel)
theorem mw_524 : (Cond.instanceMethod yX5_way) ∈ jp_ws := jp_in (i := 723) (by decide +kernel) (by decide +kernel)
theorem mw_525 : (Cond.selects RX5 yX5_way yX5_way) ∈ jp_ws := jp_in (i := 45) (by decide +kernel) (by decide +kernel)
theorem mw_526 : (Cond.code yX5_way cX5_way 2 (some .int)) ∈ jp_ws := jp_in (i := 724) (by decide +kernel) (by decide +kernel)
theorem mw_527 : (Cond.instanceMethod yX0_movesBetween) ∈ jp_ws := jp_in (i := 727) (by decide +kernel) (by decide +kernel)
theorem mw_528 : (Cond.selects RX0 yX0_movesBetween yX0_movesBetween) ∈ jp_ws := jp_in (i := 46) (by decide +kernel) (by decide +kernel)
theorem mw_529 : (Cond.code yX0_movesBetween cX0_movesBetween 5 (some .int)) ∈ jp_ws := jp_in (i := 728) (by decide +kernel) (by decide +kernel)
theorem mw_530 : (Cond.methodLink RX0 68 yX0_spread) ∈ jp_ws := jp_in (i := 729) (by decide +kernel) (by decide +kernel)
theorem mw_531 : (Cond.instanceMethod yX0_spread) ∈ jp_ws := jp_in (i := 731) (by decide +kernel) (by decide +kernel)
theorem mw_532 : (Cond.selects RX0 yX0_spread yX0_spread) ∈ jp_ws := jp_in (i := 47) (by decide +kernel) (by decide +kernel)
theorem mw_533 : (Cond.code yX0_spread cX0_spread 6 (some .int)) ∈ jp_ws := jp_in (i := 732) (by decide +kernel) (by decide +kernel)
theorem mw_534 : (Cond.methodLink RX0 71 yX0_moved) ∈ jp_ws := jp_in (i := 733) (by decide +kernel) (by decide +kernel)
theorem mw_535 : (Cond.methodLink RL 113 yX8_alone) ∈ jp_ws := jp_in (i := 953) (by decide +kernel) (by decide +kernel)
theorem mw_536 : (Cond.instanceMethod yX8_alone) ∈ jp_ws := jp_in (i := 954) (by decide +kernel) (by decide +kernel)
theorem mw_537 : (Cond.selects RX8 yX8_alone yX8_alone) ∈ jp_ws := jp_in (i := 955) (by decide +kernel) (by decide +kernel)
theorem mw_538 : (Cond.code yX8_alone cX8_alone 2 (some .int)) ∈ jp_ws := jp_in (i := 956) (by decide +kernel) (by decide +kernel)
theorem mw_539 : (Cond.methodLink RX8 125 yX8_distance) ∈ jp_ws := jp_in (i := 957) (by decide +kernel) (by decide +kernel)
theorem mw_540 : (Cond.instanceMethod yX8_distance) ∈ jp_ws := jp_in (i := 959) (by decide +kernel) (by decide +kernel)
theorem mw_541 : (Cond.selects RX8 yX8_distance yX8_distance) ∈ jp_ws := jp_in (i := 67) (by decide +kernel) (by decide +kernel)
theorem mw_542 : (Cond.code yX8_distance cX8_distance 6 (some .int)) ∈ jp_ws := jp_in (i := 960) (by decide +kernel) (by decide +kernel)
theorem mw_543 : (Cond.methodLink RL 114 yL_bound) ∈ jp_ws := jp_in (i := 734) (by decide +kernel) (by decide +kernel)
theorem mw_544 : (Cond.static yL_bound) ∈ jp_ws := jp_in (i := 735) (by decide +kernel) (by decide +kernel)
theorem mw_545 : (Cond.codeWith yL_bound cL_bound 3 (some .int) [(0, 8, 11, 21)]) ∈ jp_ws := jp_in (i := 736) (by decide +kernel) (by decide +kernel)
theorem mw_546 : (Cond.methodLink RL 49 yX7_bound) ∈ jp_ws := jp_in (i := 737) (by decide +kernel) (by decide +kernel)
theorem mw_547 : (Cond.instanceMethod yX7_bound) ∈ jp_ws := jp_in (i := 738) (by decide +kernel) (by decide +kernel)
theorem mw_548 : (Cond.selects RX7 yX7_bound yX7_bound) ∈ jp_ws := jp_in (i := 739) (by decide +kernel) (by decide +kernel)
theorem mw_549 : (Cond.code yX7_bound cX7_bound 1 (some .int)) ∈ jp_ws := jp_in (i := 740) (by decide +kernel) (by decide +kernel)
theorem mw_550 : (Cond.instanceMethod yX5_allWays) ∈ jp_ws := jp_in (i := 743) (by decide +kernel) (by decide +kernel)
theorem mw_551 : (Cond.selects RX5 yX5_allWays yX5_allWays) ∈ jp_ws := jp_in (i := 48) (by decide +kernel) (by decide +kernel)
theorem mw_552 : (Cond.code yX5_allWays cX5_allWays 4 (some .int)) ∈ jp_ws := jp_in (i := 744) (by decide +kernel) (by decide +kernel)
theorem mw_553 : (Cond.methodLink RX5 54 yX5_way) ∈ jp_ws := jp_in (i := 745) (by decide +kernel) (by decide +kernel)
theorem mw_554 : (Cond.methodLink RL 116 yX8_bound) ∈ jp_ws := jp_in (i := 961) (by decide +kernel) (by decide +kernel)
theorem mw_555 : (Cond.instanceMethod yX8_bound) ∈ jp_ws := jp_in (i := 962) (by decide +kernel) (by decide +kernel)
theorem mw_556 : (Cond.selects RX8 yX8_bound yX8_bound) ∈ jp_ws := jp_in (i := 963) (by decide +kernel) (by decide +kernel)
theorem mw_557 : (Cond.code yX8_bound cX8_bound 1 (some .int)) ∈ jp_ws := jp_in (i := 964) (by decide +kernel) (by decide +kernel)
theorem mw_558 : (Cond.methodLink RX8 146 yX8_boundOf) ∈ jp_ws := jp_in (i := 965) (by decide +kernel) (by decide +kernel)
theorem mw_559 : (Cond.instanceMethod yX8_boundOf) ∈ jp_ws := jp_in (i := 967) (by decide +kernel) (by decide +kernel)
theorem mw_560 : (Cond.selects RX8 yX8_boundOf yX8_boundOf) ∈ jp_ws := jp_in (i := 68) (by decide +kernel) (by decide +kernel)
theorem mw_561 : (Cond.code yX8_boundOf cX8_boundOf 4 (some .int)) ∈ jp_ws := jp_in (i := 968) (by decide +kernel) (by decide +kernel)
theorem mw_562 : (Cond.methodLink RL 117 yL_share) ∈ jp_ws := jp_in (i := 746) (by decide +kernel) (by decide +kernel)
theorem mw_563 : (Cond.static yL_share) ∈ jp_ws := jp_in (i := 747) (by decide +kernel) (by decide +kernel)
theorem mw_564 : (Cond.codeWith yL_share cL_share 3 (some .int) [(0, 8, 11, 21), (0, 8, 14, 55)]) ∈ jp_ws := jp_in (i := 748) (by decide +kernel) (by decide +kernel)
theorem mw_565 : (Cond.classLink RL 55 "java/lang/ArithmeticException") ∈ jp_ws := jp_in (i := 749) (by decide +kernel) (by decide +kernel)
theorem mw_566 : (Cond.methodLink RL 52 yX7_share) ∈ jp_ws := jp_in (i := 750) (by decide +kernel) (by decide +kernel)
theorem mw_567 : (Cond.instanceMethod yX7_share) ∈ jp_ws := jp_in (i := 751) (by decide +kernel) (by decide +kernel)
theorem mw_568 : (Cond.selects RX7 yX7_share yX7_share) ∈ jp_ws := jp_in (i := 752) (by decide +kernel) (by decide +kernel)
theorem mw_569 : (Cond.code yX7_share cX7_share 2 (some .int)) ∈ jp_ws := jp_in (i := 753) (by decide +kernel) (by decide +kernel)
theorem mw_570 : (Cond.classLink RX7 171 "java/lang/ArithmeticException") ∈ jp_ws := jp_in (i := 754) (by decide +kernel) (by decide +kernel)
theorem mw_571 : (Cond.initialized "java/lang/ArithmeticException") ∈ jp_ws := jp_in (i := 87) (by decide +kernel) (by decide +kernel)
theorem mw_572 : (Cond.methodLink RL 119 yX8_share) ∈ jp_ws := jp_in (i := 969) (by decide +kernel) (by decide +kernel)
theorem mw_573 : (Cond.instanceMethod yX8_share) ∈ jp_ws := jp_in (i := 970) (by decide +kernel) (by decide +kernel)
theorem mw_574 : (Cond.selects RX8 yX8_share yX8_share) ∈ jp_ws := jp_in (i := 971) (by decide +kernel) (by decide +kernel)
theorem mw_575 : (Cond.code yX8_share cX8_share 1 (some .int)) ∈ jp_ws := jp_in (i := 972) (by decide +kernel) (by decide +kernel)
theorem mw_576 : (Cond.methodLink RL 120 yX7_count) ∈ jp_ws := jp_in (i := 336) (by decide +kernel) (by decide +kernel)
theorem mw_577 : (Cond.instanceMethod yX7_count) ∈ jp_ws := jp_in (i := 337) (by decide +kernel) (by decide +kernel)
theorem mw_578 : (Cond.selects RX7 yX7_count yX7_count) ∈ jp_ws := jp_in (i := 338) (by decide +kernel) (by decide +kernel)
theorem mw_579 : (Cond.code yX7_count cX7_count 2 (some .int)) ∈ jp_ws := jp_in (i := 339) (by decide +kernel) (by decide +kernel)
theorem mw_580 : (Cond.methodLink RL 123 yX8_count) ∈ jp_ws := jp_in (i := 973) (by decide +kernel) (by decide +kernel)
theorem mw_581 : (Cond.instanceMethod yX8_count) ∈ jp_ws := jp_in (i := 974) (by decide +kernel) (by decide +kernel)
theorem mw_582 : (Cond.selects RX8 yX8_count yX8_count) ∈ jp_ws := jp_in (i := 975) (by decide +kernel) (by decide +kernel)
theorem mw_583 : (Cond.code yX8_count cX8_count 4 (some .int)) ∈ jp_ws := jp_in (i := 976) (by decide +kernel) (by decide +kernel)
end
section
theorem dX0_init_0 : decode cX0_init 0 = .ok (.aload_n 0, 1) := by decide +kernel
theorem dX0_init_1 : decode cX0_init 1 = .ok (.invokespecial 3, 3) := by decide +kernel
theorem dX0_init_4 : decode cX0_init 4 = .ok (.aload_n 0, 1) := by decide +kernel
theorem dX0_init_5 : decode cX0_init 5 = .ok (.bipush 36, 2) := by decide +kernel
theorem dX0_init_7 : decode cX0_init 7 = .ok (.newarray .int, 2) := by decide +kernel
theorem dX0_init_9 : decode cX0_init 9 = .ok (.putfield 9, 3) := by decide +kernel
theorem dX0_init_12 : decode cX0_init 12 = .ok (.aload_n 0, 1) := by decide +kernel
theorem dX0_init_13 : decode cX0_init 13 = .ok (.sipush 180, 3) := by decide +kernel
theorem dX0_init_16 : decode cX0_init 16 = .ok (.newarray .int, 2) := by decide +kernel
theorem dX0_init_18 : decode cX0_init 18 = .ok (.putfield 15, 3) := by decide +kernel
theorem dX0_init_21 : decode cX0_init 21 = .ok (.aload_n 0, 1) := by decide +kernel
theorem dX0_init_22 : decode cX0_init 22 = .ok (.bipush 36, 2) := by decide +kernel
theorem dX0_init_24 : decode cX0_init 24 = .ok (.newarray .int, 2) := by decide +kernel
theorem dX0_init_26 : decode cX0_init 26 = .ok (.putfield 18, 3) := by decide +kernel
theorem dX0_init_29 : decode cX0_init 29 = .ok (.aload_n 0, 1) := by decide +kernel
theorem dX0_init_30 : decode cX0_init 30 = .ok (.bipush 36, 2) := by decide +kernel
theorem dX0_init_32 : decode cX0_init 32 = .ok (.newarray .int, 2) := by decide +kernel
theorem dX0_init_34 : decode cX0_init 34 = .ok (.putfield 21, 3) := by decide +kernel
theorem dX0_init_37 : decode cX0_init 37 = .ok (.return_, 1) := by decide +kernel
theorem dX0_clear_0 : decode cX0_clear 0 = .ok (.aload_n 0, 1) := by decide +kernel
theorem dX0_clear_1 : decode cX0_clear 1 = .ok (.iload_n 1, 1) := by decide +kernel
theorem dX0_clear_2 : decode cX0_clear 2 = .ok (.putfield 24, 3) := by decide +kernel
theorem dX0_clear_5 : decode cX0_clear 5 = .ok (.aload_n 0, 1) := by decide +kernel
theorem dX0_clear_6 : decode cX0_clear 6 = .ok (.iload_n 2, 1) := by decide +kernel
theorem dX0_clear_7 : decode cX0_clear 7 = .ok (.putfield 28, 3) := by decide +kernel
theorem dX0_clear_10 : decode cX0_clear 10 = .ok (.aload_n 0, 1) := by decide +kernel
theorem dX0_clear_11 : decode cX0_clear 11 = .ok (.iconst 0, 1) := by decide +kernel
theorem dX0_clear_12 : decode cX0_clear 12 = .ok (.putfield 31, 3) := by decide +kernel
theorem dX0_clear_15 : decode cX0_clear 15 = .ok (.aload_n 0, 1) := by decide +kernel
theorem dX0_clear_16 : decode cX0_clear 16 = .ok (.getfield 9, 3) := by decide +kernel
theorem dX0_clear_19 : decode cX0_clear 19 = .ok (.iconst 0, 1) := by decide +kernel
theorem dX0_clear_20 : decode cX0_clear 20 = .ok (.invokestatic 34, 3) := by decide +kernel
theorem dX0_clear_23 : decode cX0_clear 23 = .ok (.aload_n 0, 1) := by decide +kernel
theorem dX0_clear_24 : decode cX0_clear 24 = .ok (.invokevirtual 40, 3) := by decide +kernel
theorem dX0_clear_27 : decode cX0_clear 27 = .ok (.return_, 1) := by decide +kernel
theorem dX0_cellAt_0 : decode cX0_cellAt 0 = .ok (.iload_n 1, 1) := by decide +kernel
theorem dX0_cellAt_1 : decode cX0_cellAt 1 = .ok (.ifCond .lt 32, 3) := by decide +kernel
theorem dX0_cellAt_4 : decode cX0_cellAt 4 = .ok (.iload_n 1, 1) := by decide +kernel
theorem dX0_cellAt_5 : decode cX0_cellAt 5 = .ok (.aload_n 0, 1) := by decide +kernel
theorem dX0_cellAt_6 : decode cX0_cellAt 6 = .ok (.getfield 24, 3) := by decide +kernel
theorem dX0_cellAt_9 : decode cX0_cellAt 9 = .ok (.if_icmp .ge 24, 3) := by decide +kernel
theorem dX0_cellAt_12 : decode cX0_cellAt 12 = .ok (.iload_n 2, 1) := by decide +kernel
theorem dX0_cellAt_13 : decode cX0_cellAt 13 = .ok (.ifCond .lt 20, 3) := by decide +kernel
theorem dX0_cellAt_16 : decode cX0_cellAt 16 = .ok (.iload_n 2, 1) := by decide +kernel
theorem dX0_cellAt_17 : decode cX0_cellAt 17 = .ok (.aload_n 0, 1) := by decide +kernel
theorem dX0_cellAt_18 : decode cX0_cellAt 18 = .ok (.getfield 28, 3) := by decide +kernel
theorem dX0_cellAt_21 : decode cX0_cellAt 21 = .ok (.if_icmp .ge 12, 3) := by decide +kernel
theorem dX0_cellAt_24 : decode cX0_cellAt 24 = .ok (.iload_n 1, 1) := by decide +kernel
theorem dX0_cellAt_25 : decode cX0_cellAt 25 = .ok (.bipush 6, 2) := by decide +kernel
theorem dX0_cellAt_27 : decode cX0_cellAt 27 = .ok (.iload_n 2, 1) := by decide +kernel
theorem dX0_cellAt_28 : decode cX0_cellAt 28 = .ok (.imul, 1) := by decide +kernel
theorem dX0_cellAt_29 : decode cX0_cellAt 29 = .ok (.iadd, 1) := by decide +kernel
theorem dX0_cellAt_30 : decode cX0_cellAt 30 = .ok (.goto 4, 3) := by decide +kernel
theorem dX0_cellAt_33 : decode cX0_cellAt 33 = .ok (.iconst (-1), 1) := by decide +kernel
theorem dX0_cellAt_34 : decode cX0_cellAt 34 = .ok (.ireturn, 1) := by decide +kernel
theorem dX0_isWall_0 : decode cX0_isWall 0 = .ok (.aload_n 0, 1) := by decide +kernel
theorem dX0_isWall_1 : decode cX0_isWall 1 = .ok (.getfield 9, 3) := by decide +kernel
theorem dX0_isWall_4 : decode cX0_isWall 4 = .ok (.iload_n 1, 1) := by decide +kernel
theorem dX0_isWall_5 : decode cX0_isWall 5 = .ok (.invokestatic 43, 3) := by decide +kernel
theorem dX0_isWall_8 : decode cX0_isWall 8 = .ok (.iconst 1, 1) := by decide +kernel
theorem dX0_isWall_9 : decode cX0_isWall 9 = .ok (.if_icmp .ne 7, 3) := by decide +kernel
theorem dX0_isWall_12 : decode cX0_isWall 12 = .ok (.iconst 1, 1) := by decide +kernel
theorem dX0_isWall_13 : decode cX0_isWall 13 = .ok (.goto 4, 3) := by decide +kernel
theorem dX0_isWall_16 : decode cX0_isWall 16 = .ok (.iconst 0, 1) := by decide +kernel
theorem dX0_isWall_17 : decode cX0_isWall 17 = .ok (.ireturn, 1) := by decide +kernel
theorem dX0_build_0 : decode cX0_build 0 = .ok (.aload_n 0, 1) := by decide +kernel
theorem dX0_build_1 : decode cX0_build 1 = .ok (.iload_n 1, 1) := by decide +kernel
theorem dX0_build_2 : decode cX0_build 2 = .ok (.invokevirtual 47, 3) := by decide +kernel
theorem dX0_build_5 : decode cX0_build 5 = .ok (.istore_n 3, 1) := by decide +kernel
theorem dX0_build_6 : decode cX0_build 6 = .ok (.iload_n 3, 1) := by decide +kernel
theorem dX0_build_7 : decode cX0_build 7 = .ok (.iload_n 2, 1) := by decide +kernel
theorem dX0_build_8 : decode cX0_build 8 = .ok (.if_icmp .eq 42, 3) := by decide +kernel
theorem dX0_build_11 : decode cX0_build 11 = .ok (.aload_n 0, 1) := by decide +kernel
theorem dX0_build_12 : decode cX0_build 12 = .ok (.getfield 9, 3) := by decide +kernel
theorem dX0_build_15 : decode cX0_build 15 = .ok (.iload_n 1, 1) := by decide +kernel
theorem dX0_build_16 : decode cX0_build 16 = .ok (.iload_n 2, 1) := by decide +kernel
theorem dX0_build_17 : decode cX0_build 17 = .ok (.ifCond .eq 7, 3) := by decide +kernel
theorem dX0_build_20 : decode cX0_build 20 = .ok (.iconst 1, 1) := by decide +kernel
theorem dX0_build_21 : decode cX0_build 21 = .ok (.goto 4, 3) := by decide +kernel
theorem dX0_build_24 : decode cX0_build 24 = .ok (.iconst 0, 1) := by decide +kernel
theorem dX0_build_25 : decode cX0_build 25 = .ok (.invokestatic 51, 3) := by decide +kernel
theorem dX0_build_28 : decode cX0_build 28 = .ok (.aload_n 0, 1) := by decide +kernel
theorem dX0_build_29 : decode cX0_build 29 = .ok (.dup, 1) := by decide +kernel
theorem dX0_build_30 : decode cX0_build 30 = .ok (.getfield 31, 3) := by decide +kernel
theorem dX0_build_33 : decode cX0_build 33 = .ok (.iload_n 2, 1) := by decide +kernel
theorem dX0_build_34 : decode cX0_build 34 = .ok (.ifCond .eq 7, 3) := by decide +kernel
theorem dX0_build_37 : decode cX0_build 37 = .ok (.iconst 1, 1) := by decide +kernel
theorem dX0_build_38 : decode cX0_build 38 = .ok (.goto 4, 3) := by decide +kernel
theorem dX0_build_41 : decode cX0_build 41 = .ok (.iconst (-1), 1) := by decide +kernel
theorem dX0_build_42 : decode cX0_build 42 = .ok (.iadd, 1) := by decide +kernel
theorem dX0_build_43 : decode cX0_build 43 = .ok (.putfield 31, 3) := by decide +kernel
theorem dX0_build_46 : decode cX0_build 46 = .ok (.aload_n 0, 1) := by decide +kernel
theorem dX0_build_47 : decode cX0_build 47 = .ok (.invokevirtual 40, 3) := by decide +kernel
theorem dX0_build_50 : decode cX0_build 50 = .ok (.iload_n 3, 1) := by decide +kernel
theorem dX0_build_51 : decode cX0_build 51 = .ok (.ireturn, 1) := by decide +kernel
theorem dX0_chart_0 : decode cX0_chart 0 = .ok (.iconst 0, 1) := by decide +kernel
theorem dX0_chart_1 : decode cX0_chart 1 = .ok (.istore_n 1, 1) := by decide +kernel
theorem dX0_chart_2 : decode cX0_chart 2 = .ok (.iload_n 1, 1) := by decide +kernel
theorem dX0_chart_3 : decode cX0_chart 3 = .ok (.bipush 36, 2) := by decide +kernel
theorem dX0_chart_5 : decode cX0_chart 5 = .ok (.if_icmp .ge 40, 3) := by decide +kernel
theorem dX0_chart_8 : decode cX0_chart 8 = .ok (.iconst 0, 1) := by decide +kernel
theorem dX0_chart_9 : decode cX0_chart 9 = .ok (.istore_n 2, 1) := by decide +kernel
theorem dX0_chart_10 : decode cX0_chart 10 = .ok (.iload_n 2, 1) := by decide +kernel
theorem dX0_chart_11 : decode cX0_chart 11 = .ok (.iconst 5, 1) := by decide +kernel
theorem dX0_chart_12 : decode cX0_chart 12 = .ok (.if_icmp .ge 27, 3) := by decide +kernel
theorem dX0_chart_15 : decode cX0_chart 15 = .ok (.aload_n 0, 1) := by decide +kernel
theorem dX0_chart_16 : decode cX0_chart 16 = .ok (.getfield 15, 3) := by decide +kernel
theorem dX0_chart_19 : decode cX0_chart 19 = .ok (.iload_n 1, 1) := by decide +kernel
theorem dX0_chart_20 : decode cX0_chart 20 = .ok (.iconst 5, 1) := by decide +kernel
theorem dX0_chart_21 : decode cX0_chart 21 = .ok (.imul, 1) := by decide +kernel
theorem dX0_chart_22 : decode cX0_chart 22 = .ok (.iload_n 2, 1) := by decide +kernel
theorem dX0_chart_23 : decode cX0_chart 23 = .ok (.iadd, 1) := by decide +kernel
theorem dX0_chart_24 : decode cX0_chart 24 = .ok (.aload_n 0, 1) := by decide +kernel
theorem dX0_chart_25 : decode cX0_chart 25 = .ok (.iload_n 1, 1) := by decide +kernel
theorem dX0_chart_26 : decode cX0_chart 26 = .ok (.iload_n 2, 1) := by decide +kernel
theorem dX0_chart_27 : decode cX0_chart 27 = .ok (.invokevirtual 55, 3) := by decide +kernel
theorem dX0_chart_30 : decode cX0_chart 30 = .ok (.invokestatic 51, 3) := by decide +kernel
theorem dX0_chart_33 : decode cX0_chart 33 = .ok (.iinc 2 1, 3) := by decide +kernel
theorem dX0_chart_36 : decode cX0_chart 36 = .ok (.goto (-26), 3) := by decide +kernel
theorem dX0_chart_39 : decode cX0_chart 39 = .ok (.iinc 1 1, 3) := by decide +kernel
theorem dX0_chart_42 : decode cX0_chart 42 = .ok (.goto (-40), 3) := by decide +kernel
theorem dX0_chart_45 : decode cX0_chart 45 = .ok (.return_, 1) := by decide +kernel
theorem dX0_target_0 : decode cX0_target 0 = .ok (.iload_n 1, 1) := by decide +kernel
theorem dX0_target_1 : decode cX0_target 1 = .ok (.bipush 6, 2) := by decide +kernel
theorem dX0_target_3 : decode cX0_target 3 = .ok (.irem, 1) := by decide +kernel
theorem dX0_target_4 : decode cX0_target 4 = .ok (.istore_n 3, 1) := by decide +kernel
theorem dX0_target_5 : decode cX0_target 5 = .ok (.iload_n 1, 1) := by decide +kernel
theorem dX0_target_6 : decode cX0_target 6 = .ok (.bipush 6, 2) := by decide +kernel
theorem dX0_target_8 : decode cX0_target 8 = .ok (.idiv, 1) := by decide +kernel
theorem dX0_target_9 : decode cX0_target 9 = .ok (.istore 4, 2) := by decide +kernel
theorem dX0_target_11 : decode cX0_target 11 = .ok (.aload_n 0, 1) := by decide +kernel
theorem dX0_target_12 : decode cX0_target 12 = .ok (.iload_n 3, 1) := by decide +kernel
theorem dX0_target_13 : decode cX0_target 13 = .ok (.getstatic 59, 3) := by decide +kernel
theorem dX0_target_16 : decode cX0_target 16 = .ok (.iload_n 2, 1) := by decide +kernel
theorem dX0_target_17 : decode cX0_target 17 = .ok (.invokestatic 43, 3) := by decide +kernel
theorem dX0_target_20 : decode cX0_target 20 = .ok (.iadd, 1) := by decide +kernel
theorem dX0_target_21 : decode cX0_target 21 = .ok (.iload 4, 2) := by decide +kernel
theorem dX0_target_23 : decode cX0_target 23 = .ok (.getstatic 62, 3) := by decide +kernel
theorem dX0_target_26 : decode cX0_target 26 = .ok (.iload_n 2, 1) := by decide +kernel
theorem dX0_target_27 : decode cX0_target 27 = .ok (.invokestatic 43, 3) := by decide +kernel
theorem dX0_target_30 : decode cX0_target 30 = .ok (.iadd, 1) := by decide +kernel
theorem dX0_target_31 : decode cX0_target 31 = .ok (.invokevirtual 65, 3) := by decide +kernel
theorem dX0_target_34 : decode cX0_target 34 = .ok (.istore 5, 2) := by decide +kernel
theorem dX0_target_36 : decode cX0_target 36 = .ok (.aload_n 0, 1) := by decide +kernel
theorem dX0_target_37 : decode cX0_target 37 = .ok (.iload_n 3, 1) := by decide +kernel
theorem dX0_target_38 : decode cX0_target 38 = .ok (.iload 4, 2) := by decide +kernel
theorem dX0_target_40 : decode cX0_target 40 = .ok (.invokevirtual 65, 3) := by decide +kernel
theorem dX0_target_43 : decode cX0_target 43 = .ok (.iconst (-1), 1) := by decide +kernel
theorem dX0_target_44 : decode cX0_target 44 = .ok (.if_icmp .eq 15, 3) := by decide +kernel
theorem dX0_target_47 : decode cX0_target 47 = .ok (.aload_n 0, 1) := by decide +kernel
theorem dX0_target_48 : decode cX0_target 48 = .ok (.iload_n 1, 1) := by decide +kernel
theorem dX0_target_49 : decode cX0_target 49 = .ok (.invokevirtual 47, 3) := by decide +kernel
theorem dX0_target_52 : decode cX0_target 52 = .ok (.ifCond .ne 7, 3) := by decide +kernel
theorem dX0_target_55 : decode cX0_target 55 = .ok (.iconst 1, 1) := by decide +kernel
theorem dX0_target_56 : decode cX0_target 56 = .ok (.goto 4, 3) := by decide +kernel
theorem dX0_target_59 : decode cX0_target 59 = .ok (.iconst 0, 1) := by decide +kernel
theorem dX0_target_60 : decode cX0_target 60 = .ok (.istore 6, 2) := by decide +kernel
theorem dX0_target_62 : decode cX0_target 62 = .ok (.iload 6, 2) := by decide +kernel
theorem dX0_target_64 : decode cX0_target 64 = .ok (.ifCond .eq 23, 3) := by decide +kernel
theorem dX0_target_67 : decode cX0_target 67 = .ok (.iload 5, 2) := by decide +kernel
theorem dX0_target_69 : decode cX0_target 69 = .ok (.iconst (-1), 1) := by decide +kernel
theorem dX0_target_70 : decode cX0_target 70 = .ok (.if_icmp .eq 17, 3) := by decide +kernel
theorem dX0_target_73 : decode cX0_target 73 = .ok (.aload_n 0, 1) := by decide +kernel
theorem dX0_target_74 : decode cX0_target 74 = .ok (.iload 5, 2) := by decide +kernel
theorem dX0_target_76 : decode cX0_target 76 = .ok (.invokevirtual 47, 3) := by decide +kernel
theorem dX0_target_79 : decode cX0_target 79 = .ok (.ifCond .ne 8, 3) := by decide +kernel
theorem dX0_target_82 : decode cX0_target 82 = .ok (.iload 5, 2) := by decide +kernel
theorem dX0_target_84 : decode cX0_target 84 = .ok (.goto 4, 3) := by decide +kernel
theorem dX0_target_87 : decode cX0_target 87 = .ok (.iconst (-1), 1) := by decide +kernel
theorem dX0_target_88 : decode cX0_target 88 = .ok (.ireturn, 1) := by decide +kernel
theorem dX0_moved_0 : decode cX0_moved 0 = .ok (.iload_n 1, 1) := by decide +kernel
theorem dX0_moved_1 : decode cX0_moved 1 = .ok (.iconst (-1), 1) := by decide +kernel
theorem dX0_moved_2 : decode cX0_moved 2 = .ok (.if_icmp .ne 7, 3) := by decide +kernel
theorem dX0_moved_5 : decode cX0_moved 5 = .ok (.iconst (-1), 1) := by decide +kernel
theorem dX0_moved_6 : decode cX0_moved 6 = .ok (.goto 15, 3) := by decide +kernel
theorem dX0_moved_9 : decode cX0_moved 9 = .ok (.aload_n 0, 1) := by decide +kernel
theorem dX0_moved_10 : decode cX0_moved 10 = .ok (.getfield 15, 3) := by decide +kernel
theorem dX0_moved_13 : decode cX0_moved 13 = .ok (.iload_n 1, 1) := by decide +kernel
theorem dX0_moved_14 : decode cX0_moved 14 = .ok (.iconst 5, 1) := by decide +kernel
theorem dX0_moved_15 : decode cX0_moved 15 = .ok (.imul, 1) := by decide +kernel
theorem dX0_moved_16 : decode cX0_moved 16 = .ok (.iload_n 2, 1) := by decide +kernel
theorem dX0_moved_17 : decode cX0_moved 17 = .ok (.iadd, 1) := by decide +kernel
theorem dX0_moved_18 : decode cX0_moved 18 = .ok (.invokestatic 43, 3) := by decide +kernel
theorem dX0_moved_21 : decode cX0_moved 21 = .ok (.ireturn, 1) := by decide +kernel
theorem dX0_movesBetween_0 : decode cX0_movesBetween 0 = .ok (.aload_n 0, 1) := by decide +kernel
theorem dX0_movesBetween_1 : decode cX0_movesBetween 1 = .ok (.getfield 18, 3) := by decide +kernel
theorem dX0_movesBetween_4 : decode cX0_movesBetween 4 = .ok (.iconst (-1), 1) := by decide +kernel
theorem dX0_movesBetween_5 : decode cX0_movesBetween 5 = .ok (.invokestatic 34, 3) := by decide +kernel
theorem dX0_movesBetween_8 : decode cX0_movesBetween 8 = .ok (.aload_n 0, 1) := by decide +kernel
theorem dX0_movesBetween_9 : decode cX0_movesBetween 9 = .ok (.getfield 18, 3) := by decide +kernel
theorem dX0_movesBetween_12 : decode cX0_movesBetween 12 = .ok (.iload_n 1, 1) := by decide +kernel
theorem dX0_movesBetween_13 : decode cX0_movesBetween 13 = .ok (.iconst 0, 1) := by decide +kernel
theorem dX0_movesBetween_14 : decode cX0_movesBetween 14 = .ok (.invokestatic 51, 3) := by decide +kernel
theorem dX0_movesBetween_17 : decode cX0_movesBetween 17 = .ok (.aload_n 0, 1) := by decide +kernel
theorem dX0_movesBetween_18 : decode cX0_movesBetween 18 = .ok (.getfield 21, 3) := by decide +kernel
theorem dX0_movesBetween_21 : decode cX0_movesBetween 21 = .ok (.iconst 0, 1) := by decide +kernel
theorem dX0_movesBetween_22 : decode cX0_movesBetween 22 = .ok (.iload_n 1, 1) := by decide +kernel
theorem dX0_movesBetween_23 : decode cX0_movesBetween 23 = .ok (.invokestatic 51, 3) := by decide +kernel
theorem dX0_movesBetween_26 : decode cX0_movesBetween 26 = .ok (.iconst 1, 1) := by decide +kernel
theorem dX0_movesBetween_27 : decode cX0_movesBetween 27 = .ok (.istore_n 3, 1) := by decide +kernel
theorem dX0_movesBetween_28 : decode cX0_movesBetween 28 = .ok (.iconst 0, 1) := by decide +kernel
theorem dX0_movesBetween_29 : decode cX0_movesBetween 29 = .ok (.istore 4, 2) := by decide +kernel
theorem dX0_movesBetween_31 : decode cX0_movesBetween 31 = .ok (.iload 4, 2) := by decide +kernel
theorem dX0_movesBetween_33 : decode cX0_movesBetween 33 = .ok (.iload_n 3, 1) := by decide +kernel
theorem dX0_movesBetween_34 : decode cX0_movesBetween 34 = .ok (.if_icmp .ge 29, 3) := by decide +kernel
theorem dX0_movesBetween_37 : decode cX0_movesBetween 37 = .ok (.iload 4, 2) := by decide +kernel
theorem dX0_movesBetween_39 : decode cX0_movesBetween 39 = .ok (.bipush 36, 2) := by decide +kernel
theorem dX0_movesBetween_41 : decode cX0_movesBetween 41 = .ok (.if_icmp .ge 22, 3) := by decide +kernel
theorem dX0_movesBetween_44 : decode cX0_movesBetween 44 = .ok (.aload_n 0, 1) := by decide +kernel
theorem dX0_movesBetween_45 : decode cX0_movesBetween 45 = .ok (.aload_n 0, 1) := by decide +kernel
theorem dX0_movesBetween_46 : decode cX0_movesBetween 46 = .ok (.getfield 21, 3) := by decide +kernel
theorem dX0_movesBetween_49 : decode cX0_movesBetween 49 = .ok (.iload 4, 2) := by decide +kernel
theorem dX0_movesBetween_51 : decode cX0_movesBetween 51 = .ok (.iaload, 1) := by decide +kernel
theorem dX0_movesBetween_52 : decode cX0_movesBetween 52 = .ok (.iload_n 3, 1) := by decide +kernel
theorem dX0_movesBetween_53 : decode cX0_movesBetween 53 = .ok (.invokevirtual 68, 3) := by decide +kernel
theorem dX0_movesBetween_56 : decode cX0_movesBetween 56 = .ok (.istore_n 3, 1) := by decide +kernel
theorem dX0_movesBetween_57 : decode cX0_movesBetween 57 = .ok (.iinc 4 1, 3) := by decide +kernel
theorem dX0_movesBetween_60 : decode cX0_movesBetween 60 = .ok (.goto (-29), 3) := by decide +kernel
theorem dX0_movesBetween_63 : decode cX0_movesBetween 63 = .ok (.aload_n 0, 1) := by decide +kernel
theorem dX0_movesBetween_64 : decode cX0_movesBetween 64 = .ok (.getfield 18, 3) := by decide +kernel
theorem dX0_movesBetween_67 : decode cX0_movesBetween 67 = .ok (.iload_n 2, 1) := by decide +kernel
theorem dX0_movesBetween_68 : decode cX0_movesBetween 68 = .ok (.invokestatic 43, 3) := by decide +kernel
theorem dX0_movesBetween_71 : decode cX0_movesBetween 71 = .ok (.ireturn, 1) := by decide +kernel
theorem dX0_spread_0 : decode cX0_spread 0 = .ok (.iload_n 2, 1) := by decide +kernel
theorem dX0_spread_1 : decode cX0_spread 1 = .ok (.istore_n 3, 1) := by decide +kernel
theorem dX0_spread_2 : decode cX0_spread 2 = .ok (.iconst 0, 1) := by decide +kernel
theorem dX0_spread_3 : decode cX0_spread 3 = .ok (.istore 4, 2) := by decide +kernel
theorem dX0_spread_5 : decode cX0_spread 5 = .ok (.iload 4, 2) := by decide +kernel
theorem dX0_spread_7 : decode cX0_spread 7 = .ok (.iconst 5, 1) := by decide +kernel
theorem dX0_spread_8 : decode cX0_spread 8 = .ok (.if_icmp .ge 69, 3) := by decide +kernel
theorem dX0_spread_11 : decode cX0_spread 11 = .ok (.aload_n 0, 1) := by decide +kernel
theorem dX0_spread_12 : decode cX0_spread 12 = .ok (.iload_n 1, 1) := by decide +kernel
theorem dX0_spread_13 : decode cX0_spread 13 = .ok (.iload 4, 2) := by decide +kernel
theorem dX0_spread_15 : decode cX0_spread 15 = .ok (.invokevirtual 71, 3) := by decide +kernel
theorem dX0_spread_18 : decode cX0_spread 18 = .ok (.istore 5, 2) := by decide +kernel
theorem dX0_spread_20 : decode cX0_spread 20 = .ok (.iload 5, 2) := by decide +kernel
theorem dX0_spread_22 : decode cX0_spread 22 = .ok (.iconst (-1), 1) := by decide +kernel
theorem dX0_spread_23 : decode cX0_spread 23 = .ok (.if_icmp .eq 48, 3) := by decide +kernel
theorem dX0_spread_26 : decode cX0_spread 26 = .ok (.aload_n 0, 1) := by decide +kernel
theorem dX0_spread_27 : decode cX0_spread 27 = .ok (.getfield 18, 3) := by decide +kernel
theorem dX0_spread_30 : decode cX0_spread 30 = .ok (.iload 5, 2) := by decide +kernel
theorem dX0_spread_32 : decode cX0_spread 32 = .ok (.invokestatic 43, 3) := by decide +kernel
theorem dX0_spread_35 : decode cX0_spread 35 = .ok (.iconst (-1), 1) := by decide +kernel
theorem dX0_spread_36 : decode cX0_spread 36 = .ok (.if_icmp .ne 35, 3) := by decide +kernel
theorem dX0_spread_39 : decode cX0_spread 39 = .ok (.aload_n 0, 1) := by decide +kernel
theorem dX0_spread_40 : decode cX0_spread 40 = .ok (.getfield 18, 3) := by decide +kernel
theorem dX0_spread_43 : decode cX0_spread 43 = .ok (.iload 5, 2) := by decide +kernel
theorem dX0_spread_45 : decode cX0_spread 45 = .ok (.aload_n 0, 1) := by decide +kernel
theorem dX0_spread_46 : decode cX0_spread 46 = .ok (.getfield 18, 3) := by decide +kernel
theorem dX0_spread_49 : decode cX0_spread 49 = .ok (.iload_n 1, 1) := by decide +kernel
theorem dX0_spread_50 : decode cX0_spread 50 = .ok (.invokestatic 43, 3) := by decide +kernel
theorem dX0_spread_53 : decode cX0_spread 53 = .ok (.iconst 1, 1) := by decide +kernel
theorem dX0_spread_54 : decode cX0_spread 54 = .ok (.iadd, 1) := by decide +kernel
theorem dX0_spread_55 : decode cX0_spread 55 = .ok (.invokestatic 51, 3) := by decide +kernel
theorem dX0_spread_58 : decode cX0_spread 58 = .ok (.aload_n 0, 1) := by decide +kernel
theorem dX0_spread_59 : decode cX0_spread 59 = .ok (.getfield 21, 3) := by decide +kernel
theorem dX0_spread_62 : decode cX0_spread 62 = .ok (.iload_n 3, 1) := by decide +kernel
theorem dX0_spread_63 : decode cX0_spread 63 = .ok (.iload 5, 2) := by decide +kernel
theorem dX0_spread_65 : decode cX0_spread 65 = .ok (.invokestatic 51, 3) := by decide +kernel
theorem dX0_spread_68 : decode cX0_spread 68 = .ok (.iinc 3 1, 3) := by decide +kernel
theorem dX0_spread_71 : decode cX0_spread 71 = .ok (.iinc 4 1, 3) := by decide +kernel
theorem dX0_spread_74 : decode cX0_spread 74 = .ok (.goto (-69), 3) := by decide +kernel
theorem dX0_spread_77 : decode cX0_spread 77 = .ok (.iload_n 3, 1) := by decide +kernel
theorem dX0_spread_78 : decode cX0_spread 78 = .ok (.ireturn, 1) := by decide +kernel
theorem dX2_init_0 : decode cX2_init 0 = .ok (.aload_n 0, 1) := by decide +kernel
theorem dX2_init_1 : decode cX2_init 1 = .ok (.invokespecial 3, 3) := by decide +kernel
theorem dX2_init_4 : decode cX2_init 4 = .ok (.aload_n 0, 1) := by decide +kernel
theorem dX2_init_5 : decode cX2_init 5 = .ok (.iconst (-1), 1) := by decide +kernel
theorem dX2_init_6 : decode cX2_init 6 = .ok (.putfield 9, 3) := by decide +kernel
theorem dX2_init_9 : decode cX2_init 9 = .ok (.aload_n 0, 1) := by decide +kernel
theorem dX2_init_10 : decode cX2_init 10 = .ok (.iload_n 1, 1) := by decide +kernel
theorem dX2_init_11 : decode cX2_init 11 = .ok (.putfield 15, 3) := by decide +kernel
theorem dX2_init_14 : decode cX2_init 14 = .ok (.aload_n 0, 1) := by decide +kernel
theorem dX2_init_15 : decode cX2_init 15 = .ok (.iload_n 1, 1) := by decide +kernel
theorem dX2_init_16 : decode cX2_init 16 = .ok (.iload_n 2, 1) := by decide +kernel
theorem dX2_init_17 : decode cX2_init 17 = .ok (.iconst 1, 1) := by decide +kernel
theorem dX2_init_18 : decode cX2_init 18 = .ok (.iadd, 1) := by decide +kernel
theorem dX2_init_19 : decode cX2_init 19 = .ok (.imul, 1) := by decide +kernel
theorem dX2_init_20 : decode cX2_init 20 = .ok (.newarray .int, 2) := by decide +kernel
theorem dX2_init_22 : decode cX2_init 22 = .ok (.putfield 18, 3) := by decide +kernel
theorem dX2_init_25 : decode cX2_init 25 = .ok (.return_, 1) := by decide +kernel
theorem dX2_isMade_0 : decode cX2_isMade 0 = .ok (.aload_n 0, 1) := by decide +kernel
theorem dX2_isMade_1 : decode cX2_isMade 1 = .ok (.getfield 9, 3) := by decide +kernel
theorem dX2_isMade_4 : decode cX2_isMade 4 = .ok (.iconst (-1), 1) := by decide +kernel
theorem dX2_isMade_5 : decode cX2_isMade 5 = .ok (.if_icmp .eq 7, 3) := by decide +kernel
theorem dX2_isMade_8 : decode cX2_isMade 8 = .ok (.iconst 1, 1) := by decide +kernel
theorem dX2_isMade_9 : decode cX2_isMade 9 = .ok (.goto 4, 3) := by decide +kernel
theorem dX2_isMade_12 : decode cX2_isMade 12 = .ok (.iconst 0, 1) := by decide +kernel
theorem dX2_isMade_13 : decode cX2_isMade 13 = .ok (.ireturn, 1) := by decide +kernel
theorem dX2_drop_0 : decode cX2_drop 0 = .ok (.aload_n 0, 1) := by decide +kernel
theorem dX2_drop_1 : decode cX2_drop 1 = .ok (.iconst (-1), 1) := by decide +kernel
theorem dX2_drop_2 : decode cX2_drop 2 = .ok (.putfield 9, 3) := by decide +kernel
theorem dX2_drop_5 : decode cX2_drop 5 = .ok (.aload_n 0, 1) := by decide +kernel
theorem dX2_drop_6 : decode cX2_drop 6 = .ok (.iconst 0, 1) := by decide +kernel
theorem dX2_drop_7 : decode cX2_drop 7 = .ok (.putfield 22, 3) := by decide +kernel
theorem dX2_drop_10 : decode cX2_drop 10 = .ok (.return_, 1) := by decide +kernel
theorem dX2_cellOf_0 : decode cX2_cellOf 0 = .ok (.aload_n 0, 1) := by decide +kernel
theorem dX2_cellOf_1 : decode cX2_cellOf 1 = .ok (.getfield 18, 3) := by decide +kernel
theorem dX2_cellOf_4 : decode cX2_cellOf 4 = .ok (.iload_n 2, 1) := by decide +kernel
theorem dX2_cellOf_5 : decode cX2_cellOf 5 = .ok (.aload_n 0, 1) := by decide +kernel
theorem dX2_cellOf_6 : decode cX2_cellOf 6 = .ok (.getfield 15, 3) := by decide +kernel
theorem dX2_cellOf_9 : decode cX2_cellOf 9 = .ok (.imul, 1) := by decide +kernel
theorem dX2_cellOf_10 : decode cX2_cellOf 10 = .ok (.iload_n 1, 1) := by decide +kernel
theorem dX2_cellOf_11 : decode cX2_cellOf 11 = .ok (.iadd, 1) := by decide +kernel
theorem dX2_cellOf_12 : decode cX2_cellOf 12 = .ok (.invokestatic 25, 3) := by decide +kernel
theorem dX2_cellOf_15 : decode cX2_cellOf 15 = .ok (.ireturn, 1) := by decide +kernel
theorem dX2_put_0 : decode cX2_put 0 = .ok (.aload_n 0, 1) := by decide +kernel
theorem dX2_put_1 : decode cX2_put 1 = .ok (.getfield 18, 3) := by decide +kernel
theorem dX2_put_4 : decode cX2_put 4 = .ok (.iload_n 2, 1) := by decide +kernel
theorem dX2_put_5 : decode cX2_put 5 = .ok (.aload_n 0, 1) := by decide +kernel
theorem dX2_put_6 : decode cX2_put 6 = .ok (.getfield 15, 3) := by decide +kernel
theorem dX2_put_9 : decode cX2_put 9 = .ok (.imul, 1) := by decide +kernel
theorem dX2_put_10 : decode cX2_put 10 = .ok (.iload_n 1, 1) := by decide +kernel
theorem dX2_put_11 : decode cX2_put 11 = .ok (.iadd, 1) := by decide +kernel
theorem dX2_put_12 : decode cX2_put 12 = .ok (.iload_n 3, 1) := by decide +kernel
theorem dX2_put_13 : decode cX2_put 13 = .ok (.invokestatic 29, 3) := by decide +kernel
theorem dX2_put_16 : decode cX2_put 16 = .ok (.return_, 1) := by decide +kernel
theorem dX2_copy_0 : decode cX2_copy 0 = .ok (.iconst 0, 1) := by decide +kernel
theorem dX2_copy_1 : decode cX2_copy 1 = .ok (.istore_n 2, 1) := by decide +kernel
theorem dX2_copy_2 : decode cX2_copy 2 = .ok (.iload_n 2, 1) := by decide +kernel
theorem dX2_copy_3 : decode cX2_copy 3 = .ok (.aload_n 0, 1) := by decide +kernel
theorem dX2_copy_4 : decode cX2_copy 4 = .ok (.getfield 18, 3) := by decide +kernel
theorem dX2_copy_7 : decode cX2_copy 7 = .ok (.arraylength, 1) := by decide +kernel
theorem dX2_copy_8 : decode cX2_copy 8 = .ok (.if_icmp .ge 23, 3) := by decide +kernel
theorem dX2_copy_11 : decode cX2_copy 11 = .ok (.aload_n 0, 1) := by decide +kernel
theorem dX2_copy_12 : decode cX2_copy 12 = .ok (.getfield 18, 3) := by decide +kernel
theorem dX2_copy_15 : decode cX2_copy 15 = .ok (.iload_n 2, 1) := by decide +kernel
theorem dX2_copy_16 : decode cX2_copy 16 = .ok (.aload_n 1, 1) := by decide +kernel
theorem dX2_copy_17 : decode cX2_copy 17 = .ok (.getfield 18, 3) := by decide +kernel
theorem dX2_copy_20 : decode cX2_copy 20 = .ok (.iload_n 2, 1) := by decide +kernel
theorem dX2_copy_21 : decode cX2_copy 21 = .ok (.invokestatic 25, 3) := by decide +kernel
theorem dX2_copy_24 : decode cX2_copy 24 = .ok (.iastore, 1) := by decide +kernel
theorem dX2_copy_25 : decode cX2_copy 25 = .ok (.iinc 2 1, 3) := by decide +kernel
theorem dX2_copy_28 : decode cX2_copy 28 = .ok (.goto (-26), 3) := by decide +kernel
theorem dX2_copy_31 : decode cX2_copy 31 = .ok (.aload_n 0, 1) := by decide +kernel
theorem dX2_copy_32 : decode cX2_copy 32 = .ok (.aload_n 1, 1) := by decide +kernel
theorem dX2_copy_33 : decode cX2_copy 33 = .ok (.getfield 22, 3) := by decide +kernel
theorem dX2_copy_36 : decode cX2_copy 36 = .ok (.putfield 22, 3) := by decide +kernel
theorem dX2_copy_39 : decode cX2_copy 39 = .ok (.aload_n 0, 1) := by decide +kernel
theorem dX2_copy_40 : decode cX2_copy 40 = .ok (.aload_n 1, 1) := by decide +kernel
theorem dX2_copy_41 : decode cX2_copy 41 = .ok (.getfield 9, 3) := by decide +kernel
theorem dX2_copy_44 : decode cX2_copy 44 = .ok (.putfield 9, 3) := by decide +kernel
theorem dX2_copy_47 : decode cX2_copy 47 = .ok (.return_, 1) := by decide +kernel
theorem dX5_init_0 : decode cX5_init 0 = .ok (.aload_n 0, 1) := by decide +kernel
theorem dX5_init_1 : decode cX5_init 1 = .ok (.invokespecial 3, 3) := by decide +kernel
theorem dX5_init_4 : decode cX5_init 4 = .ok (.aload_n 0, 1) := by decide +kernel
theorem dX5_init_5 : decode cX5_init 5 = .ok (.new 9, 3) := by decide +kernel
theorem dX5_init_8 : decode cX5_init 8 = .ok (.dup, 1) := by decide +kernel
theorem dX5_init_9 : decode cX5_init 9 = .ok (.invokespecial 11, 3) := by decide +kernel
theorem dX5_init_12 : decode cX5_init 12 = .ok (.putfield 12, 3) := by decide +kernel
theorem dX5_init_15 : decode cX5_init 15 = .ok (.aload_n 0, 1) := by decide +kernel
theorem dX5_init_16 : decode cX5_init 16 = .ok (.iconst 1, 1) := by decide +kernel
theorem dX5_init_17 : decode cX5_init 17 = .ok (.putfield 18, 3) := by decide +kernel
theorem dX5_init_20 : decode cX5_init 20 = .ok (.aload_n 0, 1) := by decide +kernel
theorem dX5_init_21 : decode cX5_init 21 = .ok (.iload_n 1, 1) := by decide +kernel
theorem dX5_init_22 : decode cX5_init 22 = .ok (.putfield 22, 3) := by decide +kernel
theorem dX5_init_25 : decode cX5_init 25 = .ok (.aload_n 0, 1) := by decide +kernel
theorem dX5_init_26 : decode cX5_init 26 = .ok (.iload_n 1, 1) := by decide +kernel
theorem dX5_init_27 : decode cX5_init 27 = .ok (.newarray .int, 2) := by decide +kernel
theorem dX5_init_29 : decode cX5_init 29 = .ok (.putfield 26, 3) := by decide +kernel
theorem dX5_init_32 : decode cX5_init 32 = .ok (.aload_n 0, 1) := by decide +kernel
theorem dX5_init_33 : decode cX5_init 33 = .ok (.iload_n 1, 1) := by decide +kernel
theorem dX5_init_34 : decode cX5_init 34 = .ok (.newarray .int, 2) := by decide +kernel
theorem dX5_init_36 : decode cX5_init 36 = .ok (.putfield 30, 3) := by decide +kernel
theorem dX5_init_39 : decode cX5_init 39 = .ok (.aload_n 0, 1) := by decide +kernel
theorem dX5_init_40 : decode cX5_init 40 = .ok (.iconst 1, 1) := by decide +kernel
theorem dX5_init_41 : decode cX5_init 41 = .ok (.iconst 1, 1) := by decide +kernel
theorem dX5_init_42 : decode cX5_init 42 = .ok (.invokevirtual 33, 3) := by decide +kernel
theorem dX5_init_45 : decode cX5_init 45 = .ok (.return_, 1) := by decide +kernel
theorem dX5_renew_0 : decode cX5_renew 0 = .ok (.aload_n 0, 1) := by decide +kernel
theorem dX5_renew_1 : decode cX5_renew 1 = .ok (.getfield 12, 3) := by decide +kernel
theorem dX5_renew_4 : decode cX5_renew 4 = .ok (.iload_n 1, 1) := by decide +kernel
theorem dX5_renew_5 : decode cX5_renew 5 = .ok (.iload_n 2, 1) := by decide +kernel
theorem dX5_renew_6 : decode cX5_renew 6 = .ok (.invokevirtual 37, 3) := by decide +kernel
theorem dX5_renew_9 : decode cX5_renew 9 = .ok (.aload_n 0, 1) := by decide +kernel
theorem dX5_renew_10 : decode cX5_renew 10 = .ok (.getfield 26, 3) := by decide +kernel
theorem dX5_renew_13 : decode cX5_renew 13 = .ok (.iconst (-1), 1) := by decide +kernel
theorem dX5_renew_14 : decode cX5_renew 14 = .ok (.invokestatic 40, 3) := by decide +kernel
theorem dX5_renew_17 : decode cX5_renew 17 = .ok (.aload_n 0, 1) := by decide +kernel
theorem dX5_renew_18 : decode cX5_renew 18 = .ok (.getfield 30, 3) := by decide +kernel
theorem dX5_renew_21 : decode cX5_renew 21 = .ok (.iconst (-1), 1) := by decide +kernel
theorem dX5_renew_22 : decode cX5_renew 22 = .ok (.invokestatic 40, 3) := by decide +kernel
theorem dX5_renew_25 : decode cX5_renew 25 = .ok (.return_, 1) := by decide +kernel
theorem dX5_isComplete_0 : decode cX5_isComplete 0 = .ok (.aload_n 0, 1) := by decide +kernel
theorem dX5_isComplete_1 : decode cX5_isComplete 1 = .ok (.getfield 26, 3) := by decide +kernel
theorem dX5_isComplete_4 : decode cX5_isComplete 4 = .ok (.iload_n 1, 1) := by decide +kernel
theorem dX5_isComplete_5 : decode cX5_isComplete 5 = .ok (.invokestatic 46, 3) := by decide +kernel
theorem dX5_isComplete_8 : decode cX5_isComplete 8 = .ok (.iconst (-1), 1) := by decide +kernel
theorem dX5_isComplete_9 : decode cX5_isComplete 9 = .ok (.if_icmp .eq 19, 3) := by decide +kernel
theorem dX5_isComplete_12 : decode cX5_isComplete 12 = .ok (.aload_n 0, 1) := by decide +kernel
theorem dX5_isComplete_13 : decode cX5_isComplete 13 = .ok (.getfield 30, 3) := by decide +kernel
theorem dX5_isComplete_16 : decode cX5_isComplete 16 = .ok (.iload_n 1, 1) := by decide +kernel
theorem dX5_isComplete_17 : decode cX5_isComplete 17 = .ok (.invokestatic 46, 3) := by decide +kernel
theorem dX5_isComplete_20 : decode cX5_isComplete 20 = .ok (.iconst (-1), 1) := by decide +kernel
theorem dX5_isComplete_21 : decode cX5_isComplete 21 = .ok (.if_icmp .eq 7, 3) := by decide +kernel
theorem dX5_isComplete_24 : decode cX5_isComplete 24 = .ok (.iconst 1, 1) := by decide +kernel
theorem dX5_isComplete_25 : decode cX5_isComplete 25 = .ok (.goto 4, 3) := by decide +kernel
theorem dX5_isComplete_28 : decode cX5_isComplete 28 = .ok (.iconst 0, 1) := by decide +kernel
theorem dX5_isComplete_29 : decode cX5_isComplete 29 = .ok (.ireturn, 1) := by decide +kernel
theorem dX5_way_0 : decode cX5_way 0 = .ok (.aload_n 0, 1) := by decide +kernel
theorem dX5_way_1 : decode cX5_way 1 = .ok (.getfield 12, 3) := by decide +kernel
theorem dX5_way_4 : decode cX5_way 4 = .ok (.aload_n 0, 1) := by decide +kernel
theorem dX5_way_5 : decode cX5_way 5 = .ok (.getfield 26, 3) := by decide +kernel
theorem dX5_way_8 : decode cX5_way 8 = .ok (.iload_n 1, 1) := by decide +kernel
theorem dX5_way_9 : decode cX5_way 9 = .ok (.invokestatic 46, 3) := by decide +kernel
theorem dX5_way_12 : decode cX5_way 12 = .ok (.aload_n 0, 1) := by decide +kernel
theorem dX5_way_13 : decode cX5_way 13 = .ok (.getfield 30, 3) := by decide +kernel
theorem dX5_way_16 : decode cX5_way 16 = .ok (.iload_n 1, 1) := by decide +kernel
theorem dX5_way_17 : decode cX5_way 17 = .ok (.invokestatic 46, 3) := by decide +kernel
theorem dX5_way_20 : decode cX5_way 20 = .ok (.invokevirtual 50, 3) := by decide +kernel
theorem dX5_way_23 : decode cX5_way 23 = .ok (.ireturn, 1) := by decide +kernel
theorem dX5_allWays_0 : decode cX5_allWays 0 = .ok (.iconst 0, 1) := by decide +kernel
theorem dX5_allWays_1 : decode cX5_allWays 1 = .ok (.istore_n 1, 1) := by decide +kernel
theorem dX5_allWays_2 : decode cX5_allWays 2 = .ok (.iconst 0, 1) := by decide +kernel
theorem dX5_allWays_3 : decode cX5_allWays 3 = .ok (.istore_n 2, 1) := by decide +kernel
theorem dX5_allWays_4 : decode cX5_allWays 4 = .ok (.iload_n 2, 1) := by decide +kernel
theorem dX5_allWays_5 : decode cX5_allWays 5 = .ok (.aload_n 0, 1) := by decide +kernel
theorem dX5_allWays_6 : decode cX5_allWays 6 = .ok (.getfield 22, 3) := by decide +kernel
theorem dX5_allWays_9 : decode cX5_allWays 9 = .ok (.if_icmp .ge 26, 3) := by decide +kernel
theorem dX5_allWays_12 : decode cX5_allWays 12 = .ok (.aload_n 0, 1) := by decide +kernel
theorem dX5_allWays_13 : decode cX5_allWays 13 = .ok (.iload_n 2, 1) := by decide +kernel
theorem dX5_allWays_14 : decode cX5_allWays 14 = .ok (.invokevirtual 54, 3) := by decide +kernel
theorem dX5_allWays_17 : decode cX5_allWays 17 = .ok (.istore_n 3, 1) := by decide +kernel
theorem dX5_allWays_18 : decode cX5_allWays 18 = .ok (.iload_n 3, 1) := by decide +kernel
theorem dX5_allWays_19 : decode cX5_allWays 19 = .ok (.iconst (-1), 1) := by decide +kernel
theorem dX5_allWays_20 : decode cX5_allWays 20 = .ok (.if_icmp .ne 5, 3) := by decide +kernel
theorem dX5_allWays_23 : decode cX5_allWays 23 = .ok (.iconst (-1), 1) := by decide +kernel
theorem dX5_allWays_24 : decode cX5_allWays 24 = .ok (.ireturn, 1) := by decide +kernel
theorem dX5_allWays_25 : decode cX5_allWays 25 = .ok (.iload_n 1, 1) := by decide +kernel
theorem dX5_allWays_26 : decode cX5_allWays 26 = .ok (.iload_n 3, 1) := by decide +kernel
theorem dX5_allWays_27 : decode cX5_allWays 27 = .ok (.iadd, 1) := by decide +kernel
theorem dX5_allWays_28 : decode cX5_allWays 28 = .ok (.istore_n 1, 1) := by decide +kernel
theorem dX5_allWays_29 : decode cX5_allWays 29 = .ok (.iinc 2 1, 3) := by decide +kernel
theorem dX5_allWays_32 : decode cX5_allWays 32 = .ok (.goto (-28), 3) := by decide +kernel
theorem dX5_allWays_35 : decode cX5_allWays 35 = .ok (.iload_n 1, 1) := by decide +kernel
theorem dX5_allWays_36 : decode cX5_allWays 36 = .ok (.ireturn, 1) := by decide +kernel
theorem dX6_init_0 : decode cX6_init 0 = .ok (.aload_n 0, 1) := by decide +kernel
theorem dX6_init_1 : decode cX6_init 1 = .ok (.invokespecial 1, 3) := by decide +kernel
theorem dX6_init_4 : decode cX6_init 4 = .ok (.aload_n 0, 1) := by decide +kernel
theorem dX6_init_5 : decode cX6_init 5 = .ok (.lconst 1, 1) := by decide +kernel
theorem dX6_init_6 : decode cX6_init 6 = .ok (.putfield 7, 3) := by decide +kernel
theorem dX6_init_9 : decode cX6_init 9 = .ok (.aload_n 0, 1) := by decide +kernel
theorem dX6_init_10 : decode cX6_init 10 = .ok (.iload_n 1, 1) := by decide +kernel
theorem dX6_init_11 : decode cX6_init 11 = .ok (.newarray .int, 2) := by decide +kernel
theorem dX6_init_13 : decode cX6_init 13 = .ok (.putfield 13, 3) := by decide +kernel
theorem dX6_init_16 : decode cX6_init 16 = .ok (.return_, 1) := by decide +kernel
theorem dX6_reset_0 : decode cX6_reset 0 = .ok (.iconst 0, 1) := by decide +kernel
theorem dX6_reset_1 : decode cX6_reset 1 = .ok (.istore_n 1, 1) := by decide +kernel
theorem dX6_reset_2 : decode cX6_reset 2 = .ok (.iload_n 1, 1) := by decide +kernel
theorem dX6_reset_3 : decode cX6_reset 3 = .ok (.aload_n 0, 1) := by decide +kernel
theorem dX6_reset_4 : decode cX6_reset 4 = .ok (.getfield 13, 3) := by decide +kernel
theorem dX6_reset_7 : decode cX6_reset 7 = .ok (.arraylength, 1) := by decide +kernel
theorem dX6_reset_8 : decode cX6_reset 8 = .ok (.if_icmp .ge 16, 3) := by decide +kernel
theorem dX6_reset_11 : decode cX6_reset 11 = .ok (.aload_n 0, 1) := by decide +kernel
theorem dX6_reset_12 : decode cX6_reset 12 = .ok (.getfield 13, 3) := by decide +kernel
theorem dX6_reset_15 : decode cX6_reset 15 = .ok (.iload_n 1, 1) := by decide +kernel
theorem dX6_reset_16 : decode cX6_reset 16 = .ok (.iload_n 1, 1) := by decide +kernel
theorem dX6_reset_17 : decode cX6_reset 17 = .ok (.iastore, 1) := by decide +kernel
theorem dX6_reset_18 : decode cX6_reset 18 = .ok (.iinc 1 1, 3) := by decide +kernel
theorem dX6_reset_21 : decode cX6_reset 21 = .ok (.goto (-19), 3) := by decide +kernel
theorem dX6_reset_24 : decode cX6_reset 24 = .ok (.return_, 1) := by decide +kernel
theorem dX6_draw_0 : decode cX6_draw 0 = .ok (.aload_n 0, 1) := by decide +kernel
theorem dX6_draw_1 : decode cX6_draw 1 = .ok (.invokevirtual 17, 3) := by decide +kernel
theorem dX6_draw_4 : decode cX6_draw 4 = .ok (.iconst 1, 1) := by decide +kernel
theorem dX6_draw_5 : decode cX6_draw 5 = .ok (.istore_n 1, 1) := by decide +kernel
theorem dX6_draw_6 : decode cX6_draw 6 = .ok (.iload_n 1, 1) := by decide +kernel
theorem dX6_draw_7 : decode cX6_draw 7 = .ok (.aload_n 0, 1) := by decide +kernel
theorem dX6_draw_8 : decode cX6_draw 8 = .ok (.getfield 13, 3) := by decide +kernel
theorem dX6_draw_11 : decode cX6_draw 11 = .ok (.arraylength, 1) := by decide +kernel
theorem dX6_draw_12 : decode cX6_draw 12 = .ok (.if_icmp .ge 48, 3) := by decide +kernel
theorem dX6_draw_15 : decode cX6_draw 15 = .ok (.aload_n 0, 1) := by decide +kernel
theorem dX6_draw_16 : decode cX6_draw 16 = .ok (.aload_n 0, 1) := by decide +kernel
theorem dX6_draw_17 : decode cX6_draw 17 = .ok (.getfield 7, 3) := by decide +kernel
theorem dX6_draw_20 : decode cX6_draw 20 = .ok (.ldc2_w 20, 3) := by decide +kernel
theorem dX6_draw_23 : decode cX6_draw 23 = .ok (.lmul, 1) := by decide +kernel
theorem dX6_draw_24 : decode cX6_draw 24 = .ok (.ldc2_w 22, 3) := by decide +kernel
theorem dX6_draw_27 : decode cX6_draw 27 = .ok (.ladd, 1) := by decide +kernel
theorem dX6_draw_28 : decode cX6_draw 28 = .ok (.ldc2_w 24, 3) := by decide +kernel
theorem dX6_draw_31 : decode cX6_draw 31 = .ok (.lrem, 1) := by decide +kernel
theorem dX6_draw_32 : decode cX6_draw 32 = .ok (.putfield 7, 3) := by decide +kernel
theorem dX6_draw_35 : decode cX6_draw 35 = .ok (.aload_n 0, 1) := by decide +kernel
theorem dX6_draw_36 : decode cX6_draw 36 = .ok (.iload_n 1, 1) := by decide +kernel
theorem dX6_draw_37 : decode cX6_draw 37 = .ok (.aload_n 0, 1) := by decide +kernel
theorem dX6_draw_38 : decode cX6_draw 38 = .ok (.getfield 7, 3) := by decide +kernel
theorem dX6_draw_41 : decode cX6_draw 41 = .ok (.ldc2_w 26, 3) := by decide +kernel
theorem dX6_draw_44 : decode cX6_draw 44 = .ok (.ldiv, 1) := by decide +kernel
theorem dX6_draw_45 : decode cX6_draw 45 = .ok (.iload_n 1, 1) := by decide +kernel
theorem dX6_draw_46 : decode cX6_draw 46 = .ok (.iconst 1, 1) := by decide +kernel
theorem dX6_draw_47 : decode cX6_draw 47 = .ok (.iadd, 1) := by decide +kernel
theorem dX6_draw_48 : decode cX6_draw 48 = .ok (.i2l, 1) := by decide +kernel
theorem dX6_draw_49 : decode cX6_draw 49 = .ok (.lrem, 1) := by decide +kernel
theorem dX6_draw_50 : decode cX6_draw 50 = .ok (.l2i, 1) := by decide +kernel
theorem dX6_draw_51 : decode cX6_draw 51 = .ok (.invokevirtual 28, 3) := by decide +kernel
theorem dX6_draw_54 : decode cX6_draw 54 = .ok (.iinc 1 1, 3) := by decide +kernel
theorem dX6_draw_57 : decode cX6_draw 57 = .ok (.goto (-51), 3) := by decide +kernel
theorem dX6_draw_60 : decode cX6_draw 60 = .ok (.return_, 1) := by decide +kernel
theorem dX6_exchange_0 : decode cX6_exchange 0 = .ok (.aload_n 0, 1) := by decide +kernel
theorem dX6_exchange_1 : decode cX6_exchange 1 = .ok (.getfield 13, 3) := by decide +kernel
theorem dX6_exchange_4 : decode cX6_exchange 4 = .ok (.iload_n 1, 1) := by decide +kernel
theorem dX6_exchange_5 : decode cX6_exchange 5 = .ok (.invokestatic 32, 3) := by decide +kernel
theorem dX6_exchange_8 : decode cX6_exchange 8 = .ok (.istore_n 3, 1) := by decide +kernel
theorem dX6_exchange_9 : decode cX6_exchange 9 = .ok (.aload_n 0, 1) := by decide +kernel
theorem dX6_exchange_10 : decode cX6_exchange 10 = .ok (.getfield 13, 3) := by decide +kernel
theorem dX6_exchange_13 : decode cX6_exchange 13 = .ok (.iload_n 1, 1) := by decide +kernel
theorem dX6_exchange_14 : decode cX6_exchange 14 = .ok (.aload_n 0, 1) := by decide +kernel
theorem dX6_exchange_15 : decode cX6_exchange 15 = .ok (.getfield 13, 3) := by decide +kernel
theorem dX6_exchange_18 : decode cX6_exchange 18 = .ok (.iload_n 2, 1) := by decide +kernel
theorem dX6_exchange_19 : decode cX6_exchange 19 = .ok (.invokestatic 32, 3) := by decide +kernel
theorem dX6_exchange_22 : decode cX6_exchange 22 = .ok (.invokestatic 38, 3) := by decide +kernel
theorem dX6_exchange_25 : decode cX6_exchange 25 = .ok (.aload_n 0, 1) := by decide +kernel
theorem dX6_exchange_26 : decode cX6_exchange 26 = .ok (.getfield 13, 3) := by decide +kernel
theorem dX6_exchange_29 : decode cX6_exchange 29 = .ok (.iload_n 2, 1) := by decide +kernel
theorem dX6_exchange_30 : decode cX6_exchange 30 = .ok (.iload_n 3, 1) := by decide +kernel
theorem dX6_exchange_31 : decode cX6_exchange 31 = .ok (.invokestatic 38, 3) := by decide +kernel
theorem dX6_exchange_34 : decode cX6_exchange 34 = .ok (.return_, 1) := by decide +kernel
theorem dJx00060_init_a7421_0 : decode cJx00060_init_a7421 0 = .ok (.aload_n 0, 1) := by decide +kernel
theorem dJx00060_init_a7421_1 : decode cJx00060_init_a7421 1 = .ok (.aload_n 1, 1) := by decide +kernel
theorem dJx00060_init_a7421_2 : decode cJx00060_init_a7421 2 = .ok (.invokespecial 7, 3) := by decide +kernel
theorem dJx00060_init_a7421_5 : decode cJx00060_init_a7421 5 = .ok (.return_, 1) := by decide +kernel
theorem dJ9_max_7cf53_0 : decode cJ9_max_7cf53 0 = .ok (.iload_n 0, 1) := by decide +kernel
theorem dJ9_max_7cf53_1 : decode cJ9_max_7cf53 1 = .ok (.iload_n 1, 1) := by decide +kernel
theorem dJ9_max_7cf53_2 : decode cJ9_max_7cf53 2 = .ok (.if_icmp .lt 7, 3) := by decide +kernel
theorem dJ9_max_7cf53_5 : decode cJ9_max_7cf53 5 = .ok (.iload_n 0, 1) := by decide +kernel
theorem dJ9_max_7cf53_6 : decode cJ9_max_7cf53 6 = .ok (.goto 4, 3) := by decide +kernel
theorem dJ9_max_7cf53_9 : decode cJ9_max_7cf53 9 = .ok (.iload_n 1, 1) := by decide +kernel
theorem dJ9_max_7cf53_10 : decode cJ9_max_7cf53 10 = .ok (.ireturn, 1) := by decide +kernel
theorem dJ9_min_7cf53_0 : decode cJ9_min_7cf53 0 = .ok (.iload_n 0, 1) := by decide +kernel
theorem dJ9_min_7cf53_1 : decode cJ9_min_7cf53 1 = .ok (.iload_n 1, 1) := by decide +kernel
theorem dJ9_min_7cf53_2 : decode cJ9_min_7cf53 2 = .ok (.if_icmp .gt 7, 3) := by decide +kernel
theorem dJ9_min_7cf53_5 : decode cJ9_min_7cf53 5 = .ok (.iload_n 0, 1) := by decide +kernel
theorem dJ9_min_7cf53_6 : decode cJ9_min_7cf53 6 = .ok (.goto 4, 3) := by decide +kernel
theorem dJ9_min_7cf53_9 : decode cJ9_min_7cf53 9 = .ok (.iload_n 1, 1) := by decide +kernel
theorem dJ9_min_7cf53_10 : decode cJ9_min_7cf53 10 = .ok (.ireturn, 1) := by decide +kernel
theorem dJ7_fill_53178_0 : decode cJ7_fill_53178 0 = .ok (.iconst 0, 1) := by decide +kernel
theorem dJ7_fill_53178_1 : decode cJ7_fill_53178 1 = .ok (.istore_n 2, 1) := by decide +kernel
theorem dJ7_fill_53178_2 : decode cJ7_fill_53178 2 = .ok (.aload_n 0, 1) := by decide +kernel
theorem dJ7_fill_53178_3 : decode cJ7_fill_53178 3 = .ok (.arraylength, 1) := by decide +kernel
theorem dJ7_fill_53178_4 : decode cJ7_fill_53178 4 = .ok (.istore_n 3, 1) := by decide +kernel
theorem dJ7_fill_53178_5 : decode cJ7_fill_53178 5 = .ok (.iload_n 2, 1) := by decide +kernel
theorem dJ7_fill_53178_6 : decode cJ7_fill_53178 6 = .ok (.iload_n 3, 1) := by decide +kernel
theorem dJ7_fill_53178_7 : decode cJ7_fill_53178 7 = .ok (.if_icmp .ge 13, 3) := by decide +kernel
theorem dJ7_fill_53178_10 : decode cJ7_fill_53178 10 = .ok (.aload_n 0, 1) := by decide +kernel
theorem dJ7_fill_53178_11 : decode cJ7_fill_53178 11 = .ok (.iload_n 2, 1) := by decide +kernel
theorem dJ7_fill_53178_12 : decode cJ7_fill_53178 12 = .ok (.iload_n 1, 1) := by decide +kernel
theorem dJ7_fill_53178_13 : decode cJ7_fill_53178 13 = .ok (.iastore, 1) := by decide +kernel
theorem dJ7_fill_53178_14 : decode cJ7_fill_53178 14 = .ok (.iinc 2 1, 3) := by decide +kernel
theorem dJ7_fill_53178_17 : decode cJ7_fill_53178 17 = .ok (.goto (-12), 3) := by decide +kernel
theorem dJ7_fill_53178_20 : decode cJ7_fill_53178 20 = .ok (.return_, 1) := by decide +kernel
end
section
theorem dX1_init_0 : decode cX1_init 0 = .ok (.aload_n 0, 1) := by decide +kernel
theorem dX1_init_1 : decode cX1_init 1 = .ok (.invokespecial 3, 3) := by decide +kernel
theorem dX1_init_4 : decode cX1_init 4 = .ok (.aload_n 0, 1) := by decide +kernel
theorem dX1_init_5 : decode cX1_init 5 = .ok (.aload_n 1, 1) := by decide +kernel
theorem dX1_init_6 : decode cX1_init 6 = .ok (.putfield 9, 3) := by decide +kernel
theorem dX1_init_9 : decode cX1_init 9 = .ok (.aload_n 0, 1) := by decide +kernel
theorem dX1_init_10 : decode cX1_init 10 = .ok (.aload_n 1, 1) := by decide +kernel
theorem dX1_init_11 : decode cX1_init 11 = .ok (.getfield 15, 3) := by decide +kernel
theorem dX1_init_14 : decode cX1_init 14 = .ok (.putfield 21, 3) := by decide +kernel
theorem dX1_init_17 : decode cX1_init 17 = .ok (.aload_n 0, 1) := by decide +kernel
theorem dX1_init_18 : decode cX1_init 18 = .ok (.aload_n 0, 1) := by decide +kernel
theorem dX1_init_19 : decode cX1_init 19 = .ok (.getfield 21, 3) := by decide +kernel
theorem dX1_init_22 : decode cX1_init 22 = .ok (.invokestatic 22, 3) := by decide +kernel
theorem dX1_init_25 : decode cX1_init 25 = .ok (.newarray .int, 2) := by decide +kernel
theorem dX1_init_27 : decode cX1_init 27 = .ok (.putfield 26, 3) := by decide +kernel
theorem dX1_init_30 : decode cX1_init 30 = .ok (.aload_n 0, 1) := by decide +kernel
theorem dX1_init_31 : decode cX1_init 31 = .ok (.aload_n 0, 1) := by decide +kernel
theorem dX1_init_32 : decode cX1_init 32 = .ok (.getfield 21, 3) := by decide +kernel
theorem dX1_init_35 : decode cX1_init 35 = .ok (.invokestatic 22, 3) := by decide +kernel
theorem dX1_init_38 : decode cX1_init 38 = .ok (.newarray .int, 2) := by decide +kernel
theorem dX1_init_40 : decode cX1_init 40 = .ok (.putfield 30, 3) := by decide +kernel
theorem dX1_init_43 : decode cX1_init 43 = .ok (.return_, 1) := by decide +kernel
theorem dX1_make_0 : decode cX1_make 0 = .ok (.aload_n 0, 1) := by decide +kernel
theorem dX1_make_1 : decode cX1_make 1 = .ok (.aload_n 0, 1) := by decide +kernel
theorem dX1_make_2 : decode cX1_make 2 = .ok (.aload_n 0, 1) := by decide +kernel
theorem dX1_make_3 : decode cX1_make 3 = .ok (.getfield 9, 3) := by decide +kernel
theorem dX1_make_6 : decode cX1_make 6 = .ok (.getfield 33, 3) := by decide +kernel
theorem dX1_make_9 : decode cX1_make 9 = .ok (.iconst 0, 1) := by decide +kernel
theorem dX1_make_10 : decode cX1_make 10 = .ok (.invokevirtual 36, 3) := by decide +kernel
theorem dX1_make_13 : decode cX1_make 13 = .ok (.putfield 40, 3) := by decide +kernel
theorem dX1_make_16 : decode cX1_make 16 = .ok (.aload_n 0, 1) := by decide +kernel
theorem dX1_make_17 : decode cX1_make 17 = .ok (.aload_n 0, 1) := by decide +kernel
theorem dX1_make_18 : decode cX1_make 18 = .ok (.aload_n 0, 1) := by decide +kernel
theorem dX1_make_19 : decode cX1_make 19 = .ok (.getfield 9, 3) := by decide +kernel
theorem dX1_make_22 : decode cX1_make 22 = .ok (.getfield 33, 3) := by decide +kernel
theorem dX1_make_25 : decode cX1_make 25 = .ok (.iconst 1, 1) := by decide +kernel
theorem dX1_make_26 : decode cX1_make 26 = .ok (.invokevirtual 36, 3) := by decide +kernel
theorem dX1_make_29 : decode cX1_make 29 = .ok (.putfield 43, 3) := by decide +kernel
theorem dX1_make_32 : decode cX1_make 32 = .ok (.aload_n 0, 1) := by decide +kernel
theorem dX1_make_33 : decode cX1_make 33 = .ok (.aload_n 0, 1) := by decide +kernel
theorem dX1_make_34 : decode cX1_make 34 = .ok (.getfield 9, 3) := by decide +kernel
theorem dX1_make_37 : decode cX1_make 37 = .ok (.getfield 46, 3) := by decide +kernel
theorem dX1_make_40 : decode cX1_make 40 = .ok (.iconst 0, 1) := by decide +kernel
theorem dX1_make_41 : decode cX1_make 41 = .ok (.invokevirtual 36, 3) := by decide +kernel
theorem dX1_make_44 : decode cX1_make 44 = .ok (.bipush 36, 2) := by decide +kernel
theorem dX1_make_46 : decode cX1_make 46 = .ok (.aload_n 0, 1) := by decide +kernel
theorem dX1_make_47 : decode cX1_make 47 = .ok (.aload_n 0, 1) := by decide +kernel
theorem dX1_make_48 : decode cX1_make 48 = .ok (.getfield 9, 3) := by decide +kernel
theorem dX1_make_51 : decode cX1_make 51 = .ok (.getfield 46, 3) := by decide +kernel
theorem dX1_make_54 : decode cX1_make 54 = .ok (.iconst 1, 1) := by decide +kernel
theorem dX1_make_55 : decode cX1_make 55 = .ok (.invokevirtual 36, 3) := by decide +kernel
theorem dX1_make_58 : decode cX1_make 58 = .ok (.imul, 1) := by decide +kernel
theorem dX1_make_59 : decode cX1_make 59 = .ok (.iadd, 1) := by decide +kernel
theorem dX1_make_60 : decode cX1_make 60 = .ok (.istore_n 3, 1) := by decide +kernel
theorem dX1_make_61 : decode cX1_make 61 = .ok (.aload_n 0, 1) := by decide +kernel
theorem dX1_make_62 : decode cX1_make 62 = .ok (.iload_n 3, 1) := by decide +kernel
theorem dX1_make_63 : decode cX1_make 63 = .ok (.aload_n 0, 1) := by decide +kernel
theorem dX1_make_64 : decode cX1_make 64 = .ok (.getfield 40, 3) := by decide +kernel
theorem dX1_make_67 : decode cX1_make 67 = .ok (.bipush 36, 2) := by decide +kernel
theorem dX1_make_69 : decode cX1_make 69 = .ok (.aload_n 0, 1) := by decide +kernel
theorem dX1_make_70 : decode cX1_make 70 = .ok (.getfield 43, 3) := by decide +kernel
theorem dX1_make_73 : decode cX1_make 73 = .ok (.imul, 1) := by decide +kernel
theorem dX1_make_74 : decode cX1_make 74 = .ok (.iadd, 1) := by decide +kernel
theorem dX1_make_75 : decode cX1_make 75 = .ok (.invokevirtual 49, 3) := by decide +kernel
theorem dX1_make_78 : decode cX1_make 78 = .ok (.aload_n 1, 1) := by decide +kernel
theorem dX1_make_79 : decode cX1_make 79 = .ok (.aload_n 0, 1) := by decide +kernel
theorem dX1_make_80 : decode cX1_make 80 = .ok (.getfield 26, 3) := by decide +kernel
theorem dX1_make_83 : decode cX1_make 83 = .ok (.iload_n 3, 1) := by decide +kernel
theorem dX1_make_84 : decode cX1_make 84 = .ok (.invokestatic 53, 3) := by decide +kernel
theorem dX1_make_87 : decode cX1_make 87 = .ok (.putfield 56, 3) := by decide +kernel
theorem dX1_make_90 : decode cX1_make 90 = .ok (.aload_n 1, 1) := by decide +kernel
theorem dX1_make_91 : decode cX1_make 91 = .ok (.invokevirtual 61, 3) := by decide +kernel
theorem dX1_make_94 : decode cX1_make 94 = .ok (.ifCond .eq 13, 3) := by decide +kernel
theorem dX1_make_97 : decode cX1_make 97 = .ok (.aload_n 1, 1) := by decide +kernel
theorem dX1_make_98 : decode cX1_make 98 = .ok (.aload_n 0, 1) := by decide +kernel
theorem dX1_make_99 : decode cX1_make 99 = .ok (.aload_n 1, 1) := by decide +kernel
theorem dX1_make_100 : decode cX1_make 100 = .ok (.iload_n 3, 1) := by decide +kernel
theorem dX1_make_101 : decode cX1_make 101 = .ok (.invokevirtual 65, 3) := by decide +kernel
theorem dX1_make_104 : decode cX1_make 104 = .ok (.putfield 69, 3) := by decide +kernel
theorem dX1_make_107 : decode cX1_make 107 = .ok (.return_, 1) := by decide +kernel
theorem dX1_placeOf_0 : decode cX1_placeOf 0 = .ok (.iload_n 2, 1) := by decide +kernel
theorem dX1_placeOf_1 : decode cX1_placeOf 1 = .ok (.aload_n 0, 1) := by decide +kernel
theorem dX1_placeOf_2 : decode cX1_placeOf 2 = .ok (.getfield 21, 3) := by decide +kernel
theorem dX1_placeOf_5 : decode cX1_placeOf 5 = .ok (.if_icmp .ge 11, 3) := by decide +kernel
theorem dX1_placeOf_8 : decode cX1_placeOf 8 = .ok (.aload_n 1, 1) := by decide +kernel
theorem dX1_placeOf_9 : decode cX1_placeOf 9 = .ok (.iload_n 2, 1) := by decide +kernel
theorem dX1_placeOf_10 : decode cX1_placeOf 10 = .ok (.invokestatic 53, 3) := by decide +kernel
theorem dX1_placeOf_13 : decode cX1_placeOf 13 = .ok (.goto 4, 3) := by decide +kernel
theorem dX1_placeOf_16 : decode cX1_placeOf 16 = .ok (.iconst 0, 1) := by decide +kernel
theorem dX1_placeOf_17 : decode cX1_placeOf 17 = .ok (.ireturn, 1) := by decide +kernel
theorem dX1_measure_0 : decode cX1_measure 0 = .ok (.aload_n 0, 1) := by decide +kernel
theorem dX1_measure_1 : decode cX1_measure 1 = .ok (.getfield 26, 3) := by decide +kernel
theorem dX1_measure_4 : decode cX1_measure 4 = .ok (.iconst (-1), 1) := by decide +kernel
theorem dX1_measure_5 : decode cX1_measure 5 = .ok (.invokestatic 72, 3) := by decide +kernel
theorem dX1_measure_8 : decode cX1_measure 8 = .ok (.aload_n 0, 1) := by decide +kernel
theorem dX1_measure_9 : decode cX1_measure 9 = .ok (.iconst 0, 1) := by decide +kernel
theorem dX1_measure_10 : decode cX1_measure 10 = .ok (.putfield 78, 3) := by decide +kernel
theorem dX1_measure_13 : decode cX1_measure 13 = .ok (.aload_n 0, 1) := by decide +kernel
theorem dX1_measure_14 : decode cX1_measure 14 = .ok (.iload_n 2, 1) := by decide +kernel
theorem dX1_measure_15 : decode cX1_measure 15 = .ok (.iconst 0, 1) := by decide +kernel
theorem dX1_measure_16 : decode cX1_measure 16 = .ok (.invokevirtual 81, 3) := by decide +kernel
theorem dX1_measure_19 : decode cX1_measure 19 = .ok (.iconst 0, 1) := by decide +kernel
theorem dX1_measure_20 : decode cX1_measure 20 = .ok (.istore_n 3, 1) := by decide +kernel
theorem dX1_measure_21 : decode cX1_measure 21 = .ok (.iconst 0, 1) := by decide +kernel
theorem dX1_measure_22 : decode cX1_measure 22 = .ok (.istore 4, 2) := by decide +kernel
theorem dX1_measure_24 : decode cX1_measure 24 = .ok (.iconst 1, 1) := by decide +kernel
theorem dX1_measure_25 : decode cX1_measure 25 = .ok (.istore 5, 2) := by decide +kernel
theorem dX1_measure_27 : decode cX1_measure 27 = .ok (.iload 5, 2) := by decide +kernel
theorem dX1_measure_29 : decode cX1_measure 29 = .ok (.iconst 2, 1) := by decide +kernel
theorem dX1_measure_30 : decode cX1_measure 30 = .ok (.aload_n 0, 1) := by decide +kernel
theorem dX1_measure_31 : decode cX1_measure 31 = .ok (.getfield 26, 3) := by decide +kernel
theorem dX1_measure_34 : decode cX1_measure 34 = .ok (.arraylength, 1) := by decide +kernel
theorem dX1_measure_35 : decode cX1_measure 35 = .ok (.imul, 1) := by decide +kernel
theorem dX1_measure_36 : decode cX1_measure 36 = .ok (.if_icmp .gt 64, 3) := by decide +kernel
theorem dX1_measure_39 : decode cX1_measure 39 = .ok (.iload_n 3, 1) := by decide +kernel
theorem dX1_measure_40 : decode cX1_measure 40 = .ok (.aload_n 0, 1) := by decide +kernel
theorem dX1_measure_41 : decode cX1_measure 41 = .ok (.getfield 78, 3) := by decide +kernel
theorem dX1_measure_44 : decode cX1_measure 44 = .ok (.if_icmp .ge 56, 3) := by decide +kernel
theorem dX1_measure_47 : decode cX1_measure 47 = .ok (.aload_n 0, 1) := by decide +kernel
theorem dX1_measure_48 : decode cX1_measure 48 = .ok (.getfield 26, 3) := by decide +kernel
theorem dX1_measure_51 : decode cX1_measure 51 = .ok (.iload_n 1, 1) := by decide +kernel
theorem dX1_measure_52 : decode cX1_measure 52 = .ok (.invokestatic 53, 3) := by decide +kernel
theorem dX1_measure_55 : decode cX1_measure 55 = .ok (.iconst (-1), 1) := by decide +kernel
theorem dX1_measure_56 : decode cX1_measure 56 = .ok (.if_icmp .eq 4, 3) := by decide +kernel
theorem dX1_measure_59 : decode cX1_measure 59 = .ok (.return_, 1) := by decide +kernel
theorem dX1_measure_60 : decode cX1_measure 60 = .ok (.aload_n 0, 1) := by decide +kernel
theorem dX1_measure_61 : decode cX1_measure 61 = .ok (.getfield 78, 3) := by decide +kernel
theorem dX1_measure_64 : decode cX1_measure 64 = .ok (.istore 6, 2) := by decide +kernel
theorem dX1_measure_66 : decode cX1_measure 66 = .ok (.aload_n 0, 1) := by decide +kernel
theorem dX1_measure_67 : decode cX1_measure 67 = .ok (.iload 4, 2) := by decide +kernel
theorem dX1_measure_69 : decode cX1_measure 69 = .ok (.iload 6, 2) := by decide +kernel
theorem dX1_measure_71 : decode cX1_measure 71 = .ok (.iconst 1, 1) := by decide +kernel
theorem dX1_measure_72 : decode cX1_measure 72 = .ok (.iload 5, 2) := by decide +kernel
theorem dX1_measure_74 : decode cX1_measure 74 = .ok (.invokevirtual 84, 3) := by decide +kernel
theorem dX1_measure_77 : decode cX1_measure 77 = .ok (.aload_n 0, 1) := by decide +kernel
theorem dX1_measure_78 : decode cX1_measure 78 = .ok (.iload_n 3, 1) := by decide +kernel
theorem dX1_measure_79 : decode cX1_measure 79 = .ok (.iload 4, 2) := by decide +kernel
theorem dX1_measure_81 : decode cX1_measure 81 = .ok (.iconst 2, 1) := by decide +kernel
theorem dX1_measure_82 : decode cX1_measure 82 = .ok (.iload 5, 2) := by decide +kernel
theorem dX1_measure_84 : decode cX1_measure 84 = .ok (.invokevirtual 84, 3) := by decide +kernel
theorem dX1_measure_87 : decode cX1_measure 87 = .ok (.iload 4, 2) := by decide +kernel
theorem dX1_measure_89 : decode cX1_measure 89 = .ok (.istore_n 3, 1) := by decide +kernel
theorem dX1_measure_90 : decode cX1_measure 90 = .ok (.iload 6, 2) := by decide +kernel
theorem dX1_measure_92 : decode cX1_measure 92 = .ok (.istore 4, 2) := by decide +kernel
theorem dX1_measure_94 : decode cX1_measure 94 = .ok (.iinc 5 1, 3) := by decide +kernel
theorem dX1_measure_97 : decode cX1_measure 97 = .ok (.goto (-70), 3) := by decide +kernel
theorem dX1_measure_100 : decode cX1_measure 100 = .ok (.return_, 1) := by decide +kernel
theorem dX1_reachFrom_0 : decode cX1_reachFrom 0 = .ok (.iload_n 1, 1) := by decide +kernel
theorem dX1_reachFrom_1 : decode cX1_reachFrom 1 = .ok (.istore 5, 2) := by decide +kernel
theorem dX1_reachFrom_3 : decode cX1_reachFrom 3 = .ok (.iload 5, 2) := by decide +kernel
theorem dX1_reachFrom_5 : decode cX1_reachFrom 5 = .ok (.iload_n 2, 1) := by decide +kernel
theorem dX1_reachFrom_6 : decode cX1_reachFrom 6 = .ok (.if_icmp .ge 25, 3) := by decide +kernel
theorem dX1_reachFrom_9 : decode cX1_reachFrom 9 = .ok (.aload_n 0, 1) := by decide +kernel
theorem dX1_reachFrom_10 : decode cX1_reachFrom 10 = .ok (.aload_n 0, 1) := by decide +kernel
theorem dX1_reachFrom_11 : decode cX1_reachFrom 11 = .ok (.getfield 30, 3) := by decide +kernel
theorem dX1_reachFrom_14 : decode cX1_reachFrom 14 = .ok (.iload 5, 2) := by decide +kernel
theorem dX1_reachFrom_16 : decode cX1_reachFrom 16 = .ok (.invokestatic 53, 3) := by decide +kernel
theorem dX1_reachFrom_19 : decode cX1_reachFrom 19 = .ok (.iload_n 3, 1) := by decide +kernel
theorem dX1_reachFrom_20 : decode cX1_reachFrom 20 = .ok (.iload 4, 2) := by decide +kernel
theorem dX1_reachFrom_22 : decode cX1_reachFrom 22 = .ok (.invokevirtual 88, 3) := by decide +kernel
theorem dX1_reachFrom_25 : decode cX1_reachFrom 25 = .ok (.iinc 5 1, 3) := by decide +kernel
theorem dX1_reachFrom_28 : decode cX1_reachFrom 28 = .ok (.goto (-25), 3) := by decide +kernel
theorem dX1_reachFrom_31 : decode cX1_reachFrom 31 = .ok (.return_, 1) := by decide +kernel
theorem dX1_reachBefore_0 : decode cX1_reachBefore 0 = .ok (.iload_n 1, 1) := by decide +kernel
theorem dX1_reachBefore_1 : decode cX1_reachBefore 1 = .ok (.bipush 36, 2) := by decide +kernel
theorem dX1_reachBefore_3 : decode cX1_reachBefore 3 = .ok (.irem, 1) := by decide +kernel
theorem dX1_reachBefore_4 : decode cX1_reachBefore 4 = .ok (.istore 4, 2) := by decide +kernel
theorem dX1_reachBefore_6 : decode cX1_reachBefore 6 = .ok (.iload_n 1, 1) := by decide +kernel
theorem dX1_reachBefore_7 : decode cX1_reachBefore 7 = .ok (.bipush 36, 2) := by decide +kernel
theorem dX1_reachBefore_9 : decode cX1_reachBefore 9 = .ok (.idiv, 1) := by decide +kernel
theorem dX1_reachBefore_10 : decode cX1_reachBefore 10 = .ok (.istore 5, 2) := by decide +kernel
theorem dX1_reachBefore_12 : decode cX1_reachBefore 12 = .ok (.iconst 0, 1) := by decide +kernel
theorem dX1_reachBefore_13 : decode cX1_reachBefore 13 = .ok (.istore 6, 2) := by decide +kernel
theorem dX1_reachBefore_15 : decode cX1_reachBefore 15 = .ok (.iload 6, 2) := by decide +kernel
theorem dX1_reachBefore_17 : decode cX1_reachBefore 17 = .ok (.iconst 5, 1) := by decide +kernel
theorem dX1_reachBefore_18 : decode cX1_reachBefore 18 = .ok (.if_icmp .ge 102, 3) := by decide +kernel
theorem dX1_reachBefore_21 : decode cX1_reachBefore 21 = .ok (.aload_n 0, 1) := by decide +kernel
theorem dX1_reachBefore_22 : decode cX1_reachBefore 22 = .ok (.iconst 0, 1) := by decide +kernel
theorem dX1_reachBefore_23 : decode cX1_reachBefore 23 = .ok (.iload 4, 2) := by decide +kernel
theorem dX1_reachBefore_25 : decode cX1_reachBefore 25 = .ok (.iload 6, 2) := by decide +kernel
theorem dX1_reachBefore_27 : decode cX1_reachBefore 27 = .ok (.invokevirtual 92, 3) := by decide +kernel
theorem dX1_reachBefore_30 : decode cX1_reachBefore 30 = .ok (.istore 7, 2) := by decide +kernel
theorem dX1_reachBefore_32 : decode cX1_reachBefore 32 = .ok (.iconst 0, 1) := by decide +kernel
theorem dX1_reachBefore_33 : decode cX1_reachBefore 33 = .ok (.istore 8, 2) := by decide +kernel
theorem dX1_reachBefore_35 : decode cX1_reachBefore 35 = .ok (.iload 8, 2) := by decide +kernel
theorem dX1_reachBefore_37 : decode cX1_reachBefore 37 = .ok (.iconst 5, 1) := by decide +kernel
theorem dX1_reachBefore_38 : decode cX1_reachBefore 38 = .ok (.if_icmp .ge 76, 3) := by decide +kernel
theorem dX1_reachBefore_41 : decode cX1_reachBefore 41 = .ok (.iload 7, 2) := by decide +kernel
theorem dX1_reachBefore_43 : decode cX1_reachBefore 43 = .ok (.iconst (-1), 1) := by decide +kernel
theorem dX1_reachBefore_44 : decode cX1_reachBefore 44 = .ok (.if_icmp .eq 70, 3) := by decide +kernel
theorem dX1_reachBefore_47 : decode cX1_reachBefore 47 = .ok (.aload_n 0, 1) := by decide +kernel
theorem dX1_reachBefore_48 : decode cX1_reachBefore 48 = .ok (.iconst 1, 1) := by decide +kernel
theorem dX1_reachBefore_49 : decode cX1_reachBefore 49 = .ok (.iload 5, 2) := by decide +kernel
theorem dX1_reachBefore_51 : decode cX1_reachBefore 51 = .ok (.iload 8, 2) := by decide +kernel
theorem dX1_reachBefore_53 : decode cX1_reachBefore 53 = .ok (.invokevirtual 92, 3) := by decide +kernel
theorem dX1_reachBefore_56 : decode cX1_reachBefore 56 = .ok (.istore 9, 2) := by decide +kernel
theorem dX1_reachBefore_58 : decode cX1_reachBefore 58 = .ok (.iload 9, 2) := by decide +kernel
theorem dX1_reachBefore_60 : decode cX1_reachBefore 60 = .ok (.iconst (-1), 1) := by decide +kernel
theorem dX1_reachBefore_61 : decode cX1_reachBefore 61 = .ok (.if_icmp .eq 47, 3) := by decide +kernel
theorem dX1_reachBefore_64 : decode cX1_reachBefore 64 = .ok (.aload_n 0, 1) := by decide +kernel
theorem dX1_reachBefore_65 : decode cX1_reachBefore 65 = .ok (.iload 7, 2) := by decide +kernel
theorem dX1_reachBefore_67 : decode cX1_reachBefore 67 = .ok (.iload 9, 2) := by decide +kernel
theorem dX1_reachBefore_69 : decode cX1_reachBefore 69 = .ok (.iload 4, 2) := by decide +kernel
theorem dX1_reachBefore_71 : decode cX1_reachBefore 71 = .ok (.iload 5, 2) := by decide +kernel
theorem dX1_reachBefore_73 : decode cX1_reachBefore 73 = .ok (.invokevirtual 96, 3) := by decide +kernel
theorem dX1_reachBefore_76 : decode cX1_reachBefore 76 = .ok (.iload_n 2, 1) := by decide +kernel
theorem dX1_reachBefore_77 : decode cX1_reachBefore 77 = .ok (.if_icmp .ne 31, 3) := by decide +kernel
theorem dX1_reachBefore_80 : decode cX1_reachBefore 80 = .ok (.aload_n 0, 1) := by decide +kernel
theorem dX1_reachBefore_81 : decode cX1_reachBefore 81 = .ok (.iload 4, 2) := by decide +kernel
theorem dX1_reachBefore_83 : decode cX1_reachBefore 83 = .ok (.iload 5, 2) := by decide +kernel
theorem dX1_reachBefore_85 : decode cX1_reachBefore 85 = .ok (.iload 7, 2) := by decide +kernel
theorem dX1_reachBefore_87 : decode cX1_reachBefore 87 = .ok (.iload 9, 2) := by decide +kernel
theorem dX1_reachBefore_89 : decode cX1_reachBefore 89 = .ok (.invokevirtual 100, 3) := by decide +kernel
theorem dX1_reachBefore_92 : decode cX1_reachBefore 92 = .ok (.ifCond .eq 16, 3) := by decide +kernel
theorem dX1_reachBefore_95 : decode cX1_reachBefore 95 = .ok (.aload_n 0, 1) := by decide +kernel
theorem dX1_reachBefore_96 : decode cX1_reachBefore 96 = .ok (.iload 7, 2) := by decide +kernel
theorem dX1_reachBefore_98 : decode cX1_reachBefore 98 = .ok (.bipush 36, 2) := by decide +kernel
theorem dX1_reachBefore_100 : decode cX1_reachBefore 100 = .ok (.iload 9, 2) := by decide +kernel
theorem dX1_reachBefore_102 : decode cX1_reachBefore 102 = .ok (.imul, 1) := by decide +kernel
theorem dX1_reachBefore_103 : decode cX1_reachBefore 103 = .ok (.iadd, 1) := by decide +kernel
theorem dX1_reachBefore_104 : decode cX1_reachBefore 104 = .ok (.iload_n 3, 1) := by decide +kernel
theorem dX1_reachBefore_105 : decode cX1_reachBefore 105 = .ok (.invokevirtual 81, 3) := by decide +kernel
theorem dX1_reachBefore_108 : decode cX1_reachBefore 108 = .ok (.iinc 8 1, 3) := by decide +kernel
theorem dX1_reachBefore_111 : decode cX1_reachBefore 111 = .ok (.goto (-76), 3) := by decide +kernel
theorem dX1_reachBefore_114 : decode cX1_reachBefore 114 = .ok (.iinc 6 1, 3) := by decide +kernel
theorem dX1_reachBefore_117 : decode cX1_reachBefore 117 = .ok (.goto (-102), 3) := by decide +kernel
theorem dX1_reachBefore_120 : decode cX1_reachBefore 120 = .ok (.return_, 1) := by decide +kernel
theorem dX1_reach_0 : decode cX1_reach 0 = .ok (.aload_n 0, 1) := by decide +kernel
theorem dX1_reach_1 : decode cX1_reach 1 = .ok (.getfield 26, 3) := by decide +kernel
theorem dX1_reach_4 : decode cX1_reach 4 = .ok (.iload_n 1, 1) := by decide +kernel
theorem dX1_reach_5 : decode cX1_reach 5 = .ok (.invokestatic 53, 3) := by decide +kernel
theorem dX1_reach_8 : decode cX1_reach 8 = .ok (.iconst (-1), 1) := by decide +kernel
theorem dX1_reach_9 : decode cX1_reach 9 = .ok (.if_icmp .ne 34, 3) := by decide +kernel
theorem dX1_reach_12 : decode cX1_reach 12 = .ok (.aload_n 0, 1) := by decide +kernel
theorem dX1_reach_13 : decode cX1_reach 13 = .ok (.getfield 26, 3) := by decide +kernel
theorem dX1_reach_16 : decode cX1_reach 16 = .ok (.iload_n 1, 1) := by decide +kernel
theorem dX1_reach_17 : decode cX1_reach 17 = .ok (.iload_n 2, 1) := by decide +kernel
theorem dX1_reach_18 : decode cX1_reach 18 = .ok (.invokestatic 104, 3) := by decide +kernel
theorem dX1_reach_21 : decode cX1_reach 21 = .ok (.aload_n 0, 1) := by decide +kernel
theorem dX1_reach_22 : decode cX1_reach 22 = .ok (.getfield 30, 3) := by decide +kernel
theorem dX1_reach_25 : decode cX1_reach 25 = .ok (.aload_n 0, 1) := by decide +kernel
theorem dX1_reach_26 : decode cX1_reach 26 = .ok (.getfield 78, 3) := by decide +kernel
theorem dX1_reach_29 : decode cX1_reach 29 = .ok (.iload_n 1, 1) := by decide +kernel
theorem dX1_reach_30 : decode cX1_reach 30 = .ok (.invokestatic 104, 3) := by decide +kernel
theorem dX1_reach_33 : decode cX1_reach 33 = .ok (.aload_n 0, 1) := by decide +kernel
theorem dX1_reach_34 : decode cX1_reach 34 = .ok (.dup, 1) := by decide +kernel
theorem dX1_reach_35 : decode cX1_reach 35 = .ok (.getfield 78, 3) := by decide +kernel
theorem dX1_reach_38 : decode cX1_reach 38 = .ok (.iconst 1, 1) := by decide +kernel
theorem dX1_reach_39 : decode cX1_reach 39 = .ok (.iadd, 1) := by decide +kernel
theorem dX1_reach_40 : decode cX1_reach 40 = .ok (.putfield 78, 3) := by decide +kernel
theorem dX1_reach_43 : decode cX1_reach 43 = .ok (.return_, 1) := by decide +kernel
theorem dX1_walk_0 : decode cX1_walk 0 = .ok (.iload_n 2, 1) := by decide +kernel
theorem dX1_walk_1 : decode cX1_walk 1 = .ok (.istore_n 3, 1) := by decide +kernel
theorem dX1_walk_2 : decode cX1_walk 2 = .ok (.iconst 0, 1) := by decide +kernel
theorem dX1_walk_3 : decode cX1_walk 3 = .ok (.istore 4, 2) := by decide +kernel
theorem dX1_walk_5 : decode cX1_walk 5 = .ok (.aload_n 0, 1) := by decide +kernel
theorem dX1_walk_6 : decode cX1_walk 6 = .ok (.aload_n 1, 1) := by decide +kernel
theorem dX1_walk_7 : decode cX1_walk 7 = .ok (.iconst 0, 1) := by decide +kernel
theorem dX1_walk_8 : decode cX1_walk 8 = .ok (.iload_n 3, 1) := by decide +kernel
theorem dX1_walk_9 : decode cX1_walk 9 = .ok (.invokevirtual 108, 3) := by decide +kernel
theorem dX1_walk_12 : decode cX1_walk 12 = .ok (.iload 4, 2) := by decide +kernel
theorem dX1_walk_14 : decode cX1_walk 14 = .ok (.aload_n 0, 1) := by decide +kernel
theorem dX1_walk_15 : decode cX1_walk 15 = .ok (.getfield 21, 3) := by decide +kernel
theorem dX1_walk_18 : decode cX1_walk 18 = .ok (.invokestatic 112, 3) := by decide +kernel
theorem dX1_walk_21 : decode cX1_walk 21 = .ok (.if_icmp .ge 34, 3) := by decide +kernel
theorem dX1_walk_24 : decode cX1_walk 24 = .ok (.aload_n 0, 1) := by decide +kernel
theorem dX1_walk_25 : decode cX1_walk 25 = .ok (.getfield 26, 3) := by decide +kernel
theorem dX1_walk_28 : decode cX1_walk 28 = .ok (.iload_n 3, 1) := by decide +kernel
theorem dX1_walk_29 : decode cX1_walk 29 = .ok (.invokestatic 53, 3) := by decide +kernel
theorem dX1_walk_32 : decode cX1_walk 32 = .ok (.ifCond .le 23, 3) := by decide +kernel
theorem dX1_walk_35 : decode cX1_walk 35 = .ok (.aload_n 0, 1) := by decide +kernel
theorem dX1_walk_36 : decode cX1_walk 36 = .ok (.iload_n 3, 1) := by decide +kernel
theorem dX1_walk_37 : decode cX1_walk 37 = .ok (.invokevirtual 115, 3) := by decide +kernel
theorem dX1_walk_40 : decode cX1_walk 40 = .ok (.istore_n 3, 1) := by decide +kernel
theorem dX1_walk_41 : decode cX1_walk 41 = .ok (.iinc 4 1, 3) := by decide +kernel
theorem dX1_walk_44 : decode cX1_walk 44 = .ok (.aload_n 0, 1) := by decide +kernel
theorem dX1_walk_45 : decode cX1_walk 45 = .ok (.aload_n 1, 1) := by decide +kernel
theorem dX1_walk_46 : decode cX1_walk 46 = .ok (.iload 4, 2) := by decide +kernel
theorem dX1_walk_48 : decode cX1_walk 48 = .ok (.iload_n 3, 1) := by decide +kernel
theorem dX1_walk_49 : decode cX1_walk 49 = .ok (.invokevirtual 108, 3) := by decide +kernel
theorem dX1_walk_52 : decode cX1_walk 52 = .ok (.goto (-40), 3) := by decide +kernel
theorem dX1_walk_55 : decode cX1_walk 55 = .ok (.iload 4, 2) := by decide +kernel
theorem dX1_walk_57 : decode cX1_walk 57 = .ok (.ireturn, 1) := by decide +kernel
theorem dX1_note_0 : decode cX1_note 0 = .ok (.aload_n 0, 1) := by decide +kernel
theorem dX1_note_1 : decode cX1_note 1 = .ok (.getfield 21, 3) := by decide +kernel
theorem dX1_note_4 : decode cX1_note 4 = .ok (.ifCond .le 13, 3) := by decide +kernel
theorem dX1_note_7 : decode cX1_note 7 = .ok (.aload_n 1, 1) := by decide +kernel
theorem dX1_note_8 : decode cX1_note 8 = .ok (.iconst 0, 1) := by decide +kernel
theorem dX1_note_9 : decode cX1_note 9 = .ok (.iload_n 2, 1) := by decide +kernel
theorem dX1_note_10 : decode cX1_note 10 = .ok (.iload_n 3, 1) := by decide +kernel
theorem dX1_note_11 : decode cX1_note 11 = .ok (.bipush 36, 2) := by decide +kernel
theorem dX1_note_13 : decode cX1_note 13 = .ok (.irem, 1) := by decide +kernel
theorem dX1_note_14 : decode cX1_note 14 = .ok (.invokevirtual 118, 3) := by decide +kernel
theorem dX1_note_17 : decode cX1_note 17 = .ok (.aload_n 0, 1) := by decide +kernel
theorem dX1_note_18 : decode cX1_note 18 = .ok (.getfield 21, 3) := by decide +kernel
theorem dX1_note_21 : decode cX1_note 21 = .ok (.iconst 1, 1) := by decide +kernel
theorem dX1_note_22 : decode cX1_note 22 = .ok (.if_icmp .le 13, 3) := by decide +kernel
theorem dX1_note_25 : decode cX1_note 25 = .ok (.aload_n 1, 1) := by decide +kernel
theorem dX1_note_26 : decode cX1_note 26 = .ok (.iconst 1, 1) := by decide +kernel
theorem dX1_note_27 : decode cX1_note 27 = .ok (.iload_n 2, 1) := by decide +kernel
theorem dX1_note_28 : decode cX1_note 28 = .ok (.iload_n 3, 1) := by decide +kernel
theorem dX1_note_29 : decode cX1_note 29 = .ok (.bipush 36, 2) := by decide +kernel
theorem dX1_note_31 : decode cX1_note 31 = .ok (.idiv, 1) := by decide +kernel
theorem dX1_note_32 : decode cX1_note 32 = .ok (.invokevirtual 118, 3) := by decide +kernel
theorem dX1_note_35 : decode cX1_note 35 = .ok (.return_, 1) := by decide +kernel
theorem dX1_follow_0 : decode cX1_follow 0 = .ok (.iload_n 1, 1) := by decide +kernel
theorem dX1_follow_1 : decode cX1_follow 1 = .ok (.bipush 36, 2) := by decide +kernel
theorem dX1_follow_3 : decode cX1_follow 3 = .ok (.irem, 1) := by decide +kernel
theorem dX1_follow_4 : decode cX1_follow 4 = .ok (.istore_n 2, 1) := by decide +kernel
theorem dX1_follow_5 : decode cX1_follow 5 = .ok (.iload_n 1, 1) := by decide +kernel
theorem dX1_follow_6 : decode cX1_follow 6 = .ok (.bipush 36, 2) := by decide +kernel
theorem dX1_follow_8 : decode cX1_follow 8 = .ok (.idiv, 1) := by decide +kernel
theorem dX1_follow_9 : decode cX1_follow 9 = .ok (.istore_n 3, 1) := by decide +kernel
theorem dX1_follow_10 : decode cX1_follow 10 = .ok (.iconst 0, 1) := by decide +kernel
theorem dX1_follow_11 : decode cX1_follow 11 = .ok (.istore 4, 2) := by decide +kernel
theorem dX1_follow_13 : decode cX1_follow 13 = .ok (.iload 4, 2) := by decide +kernel
theorem dX1_follow_15 : decode cX1_follow 15 = .ok (.iconst 5, 1) := by decide +kernel
theorem dX1_follow_16 : decode cX1_follow 16 = .ok (.if_icmp .ge 90, 3) := by decide +kernel
theorem dX1_follow_19 : decode cX1_follow 19 = .ok (.aload_n 0, 1) := by decide +kernel
theorem dX1_follow_20 : decode cX1_follow 20 = .ok (.iconst 0, 1) := by decide +kernel
theorem dX1_follow_21 : decode cX1_follow 21 = .ok (.iload_n 2, 1) := by decide +kernel
theorem dX1_follow_22 : decode cX1_follow 22 = .ok (.iload 4, 2) := by decide +kernel
theorem dX1_follow_24 : decode cX1_follow 24 = .ok (.invokevirtual 92, 3) := by decide +kernel
theorem dX1_follow_27 : decode cX1_follow 27 = .ok (.istore 5, 2) := by decide +kernel
theorem dX1_follow_29 : decode cX1_follow 29 = .ok (.iconst 0, 1) := by decide +kernel
theorem dX1_follow_30 : decode cX1_follow 30 = .ok (.istore 6, 2) := by decide +kernel
theorem dX1_follow_32 : decode cX1_follow 32 = .ok (.iload 6, 2) := by decide +kernel
theorem dX1_follow_34 : decode cX1_follow 34 = .ok (.iconst 5, 1) := by decide +kernel
theorem dX1_follow_35 : decode cX1_follow 35 = .ok (.if_icmp .ge 65, 3) := by decide +kernel
theorem dX1_follow_38 : decode cX1_follow 38 = .ok (.iload 5, 2) := by decide +kernel
theorem dX1_follow_40 : decode cX1_follow 40 = .ok (.iconst (-1), 1) := by decide +kernel
theorem dX1_follow_41 : decode cX1_follow 41 = .ok (.if_icmp .eq 59, 3) := by decide +kernel
theorem dX1_follow_44 : decode cX1_follow 44 = .ok (.aload_n 0, 1) := by decide +kernel
theorem dX1_follow_45 : decode cX1_follow 45 = .ok (.iconst 1, 1) := by decide +kernel
theorem dX1_follow_46 : decode cX1_follow 46 = .ok (.iload_n 3, 1) := by decide +kernel
theorem dX1_follow_47 : decode cX1_follow 47 = .ok (.iload 6, 2) := by decide +kernel
theorem dX1_follow_49 : decode cX1_follow 49 = .ok (.invokevirtual 92, 3) := by decide +kernel
theorem dX1_follow_52 : decode cX1_follow 52 = .ok (.istore 7, 2) := by decide +kernel
theorem dX1_follow_54 : decode cX1_follow 54 = .ok (.iload 7, 2) := by decide +kernel
theorem dX1_follow_56 : decode cX1_follow 56 = .ok (.iconst (-1), 1) := by decide +kernel
theorem dX1_follow_57 : decode cX1_follow 57 = .ok (.if_icmp .eq 37, 3) := by decide +kernel
theorem dX1_follow_60 : decode cX1_follow 60 = .ok (.aload_n 0, 1) := by decide +kernel
theorem dX1_follow_61 : decode cX1_follow 61 = .ok (.iload_n 2, 1) := by decide +kernel
theorem dX1_follow_62 : decode cX1_follow 62 = .ok (.iload_n 3, 1) := by decide +kernel
theorem dX1_follow_63 : decode cX1_follow 63 = .ok (.iload 5, 2) := by decide +kernel
theorem dX1_follow_65 : decode cX1_follow 65 = .ok (.iload 7, 2) := by decide +kernel
theorem dX1_follow_67 : decode cX1_follow 67 = .ok (.invokevirtual 100, 3) := by decide +kernel
theorem dX1_follow_70 : decode cX1_follow 70 = .ok (.ifCond .eq 24, 3) := by decide +kernel
theorem dX1_follow_73 : decode cX1_follow 73 = .ok (.aload_n 0, 1) := by decide +kernel
theorem dX1_follow_74 : decode cX1_follow 74 = .ok (.iload_n 1, 1) := by decide +kernel
theorem dX1_follow_75 : decode cX1_follow 75 = .ok (.iload 5, 2) := by decide +kernel
theorem dX1_follow_77 : decode cX1_follow 77 = .ok (.iload 7, 2) := by decide +kernel
theorem dX1_follow_79 : decode cX1_follow 79 = .ok (.invokevirtual 121, 3) := by decide +kernel
theorem dX1_follow_82 : decode cX1_follow 82 = .ok (.ifCond .eq 12, 3) := by decide +kernel
theorem dX1_follow_85 : decode cX1_follow 85 = .ok (.iload 5, 2) := by decide +kernel
theorem dX1_follow_87 : decode cX1_follow 87 = .ok (.bipush 36, 2) := by decide +kernel
theorem dX1_follow_89 : decode cX1_follow 89 = .ok (.iload 7, 2) := by decide +kernel
theorem dX1_follow_91 : decode cX1_follow 91 = .ok (.imul, 1) := by decide +kernel
theorem dX1_follow_92 : decode cX1_follow 92 = .ok (.iadd, 1) := by decide +kernel
theorem dX1_follow_93 : decode cX1_follow 93 = .ok (.ireturn, 1) := by decide +kernel
theorem dX1_follow_94 : decode cX1_follow 94 = .ok (.iinc 6 1, 3) := by decide +kernel
theorem dX1_follow_97 : decode cX1_follow 97 = .ok (.goto (-65), 3) := by decide +kernel
theorem dX1_follow_100 : decode cX1_follow 100 = .ok (.iinc 4 1, 3) := by decide +kernel
theorem dX1_follow_103 : decode cX1_follow 103 = .ok (.goto (-90), 3) := by decide +kernel
theorem dX1_follow_106 : decode cX1_follow 106 = .ok (.iload_n 1, 1) := by decide +kernel
theorem dX1_follow_107 : decode cX1_follow 107 = .ok (.ireturn, 1) := by decide +kernel
theorem dX1_keeps_0 : decode cX1_keeps 0 = .ok (.aload_n 0, 1) := by decide +kernel
theorem dX1_keeps_1 : decode cX1_keeps 1 = .ok (.getfield 26, 3) := by decide +kernel
theorem dX1_keeps_4 : decode cX1_keeps 4 = .ok (.iload_n 2, 1) := by decide +kernel
theorem dX1_keeps_5 : decode cX1_keeps 5 = .ok (.bipush 36, 2) := by decide +kernel
theorem dX1_keeps_7 : decode cX1_keeps 7 = .ok (.iload_n 3, 1) := by decide +kernel
theorem dX1_keeps_8 : decode cX1_keeps 8 = .ok (.imul, 1) := by decide +kernel
theorem dX1_keeps_9 : decode cX1_keeps 9 = .ok (.iadd, 1) := by decide +kernel
theorem dX1_keeps_10 : decode cX1_keeps 10 = .ok (.invokestatic 53, 3) := by decide +kernel
theorem dX1_keeps_13 : decode cX1_keeps 13 = .ok (.istore 4, 2) := by decide +kernel
theorem dX1_keeps_15 : decode cX1_keeps 15 = .ok (.iload 4, 2) := by decide +kernel
theorem dX1_keeps_17 : decode cX1_keeps 17 = .ok (.iconst (-1), 1) := by decide +kernel
theorem dX1_keeps_18 : decode cX1_keeps 18 = .ok (.if_icmp .eq 35, 3) := by decide +kernel
theorem dX1_keeps_21 : decode cX1_keeps 21 = .ok (.iload 4, 2) := by decide +kernel
theorem dX1_keeps_23 : decode cX1_keeps 23 = .ok (.aload_n 0, 1) := by decide +kernel
theorem dX1_keeps_24 : decode cX1_keeps 24 = .ok (.iload_n 1, 1) := by decide +kernel
theorem dX1_keeps_25 : decode cX1_keeps 25 = .ok (.bipush 36, 2) := by decide +kernel
theorem dX1_keeps_27 : decode cX1_keeps 27 = .ok (.irem, 1) := by decide +kernel
theorem dX1_keeps_28 : decode cX1_keeps 28 = .ok (.iload_n 1, 1) := by decide +kernel
theorem dX1_keeps_29 : decode cX1_keeps 29 = .ok (.bipush 36, 2) := by decide +kernel
theorem dX1_keeps_31 : decode cX1_keeps 31 = .ok (.idiv, 1) := by decide +kernel
theorem dX1_keeps_32 : decode cX1_keeps 32 = .ok (.iload_n 2, 1) := by decide +kernel
theorem dX1_keeps_33 : decode cX1_keeps 33 = .ok (.iload_n 3, 1) := by decide +kernel
theorem dX1_keeps_34 : decode cX1_keeps 34 = .ok (.invokevirtual 96, 3) := by decide +kernel
theorem dX1_keeps_37 : decode cX1_keeps 37 = .ok (.iadd, 1) := by decide +kernel
theorem dX1_keeps_38 : decode cX1_keeps 38 = .ok (.aload_n 0, 1) := by decide +kernel
theorem dX1_keeps_39 : decode cX1_keeps 39 = .ok (.getfield 26, 3) := by decide +kernel
theorem dX1_keeps_42 : decode cX1_keeps 42 = .ok (.iload_n 1, 1) := by decide +kernel
theorem dX1_keeps_43 : decode cX1_keeps 43 = .ok (.invokestatic 53, 3) := by decide +kernel
theorem dX1_keeps_46 : decode cX1_keeps 46 = .ok (.if_icmp .ne 7, 3) := by decide +kernel
theorem dX1_keeps_49 : decode cX1_keeps 49 = .ok (.iconst 1, 1) := by decide +kernel
theorem dX1_keeps_50 : decode cX1_keeps 50 = .ok (.goto 4, 3) := by decide +kernel
theorem dX1_keeps_53 : decode cX1_keeps 53 = .ok (.iconst 0, 1) := by decide +kernel
theorem dX1_keeps_54 : decode cX1_keeps 54 = .ok (.ireturn, 1) := by decide +kernel
theorem dX1_next_0 : decode cX1_next 0 = .ok (.iload_n 1, 1) := by decide +kernel
theorem dX1_next_1 : decode cX1_next 1 = .ok (.aload_n 0, 1) := by decide +kernel
theorem dX1_next_2 : decode cX1_next 2 = .ok (.getfield 21, 3) := by decide +kernel
theorem dX1_next_5 : decode cX1_next 5 = .ok (.if_icmp .ge 16, 3) := by decide +kernel
theorem dX1_next_8 : decode cX1_next 8 = .ok (.aload_n 0, 1) := by decide +kernel
theorem dX1_next_9 : decode cX1_next 9 = .ok (.getfield 9, 3) := by decide +kernel
theorem dX1_next_12 : decode cX1_next 12 = .ok (.getfield 125, 3) := by decide +kernel
theorem dX1_next_15 : decode cX1_next 15 = .ok (.iload_n 2, 1) := by decide +kernel
theorem dX1_next_16 : decode cX1_next 16 = .ok (.iload_n 3, 1) := by decide +kernel
theorem dX1_next_17 : decode cX1_next 17 = .ok (.invokevirtual 129, 3) := by decide +kernel
theorem dX1_next_20 : decode cX1_next 20 = .ok (.ireturn, 1) := by decide +kernel
theorem dX1_next_21 : decode cX1_next 21 = .ok (.iload_n 3, 1) := by decide +kernel
theorem dX1_next_22 : decode cX1_next 22 = .ok (.ifCond .ne 7, 3) := by decide +kernel
theorem dX1_next_25 : decode cX1_next 25 = .ok (.iload_n 2, 1) := by decide +kernel
theorem dX1_next_26 : decode cX1_next 26 = .ok (.goto 4, 3) := by decide +kernel
theorem dX1_next_29 : decode cX1_next 29 = .ok (.iconst (-1), 1) := by decide +kernel
theorem dX1_next_30 : decode cX1_next 30 = .ok (.ireturn, 1) := by decide +kernel
theorem dX1_stepCost_0 : decode cX1_stepCost 0 = .ok (.iload_n 1, 1) := by decide +kernel
theorem dX1_stepCost_1 : decode cX1_stepCost 1 = .ok (.iload_n 3, 1) := by decide +kernel
theorem dX1_stepCost_2 : decode cX1_stepCost 2 = .ok (.aload_n 0, 1) := by decide +kernel
theorem dX1_stepCost_3 : decode cX1_stepCost 3 = .ok (.getfield 40, 3) := by decide +kernel
theorem dX1_stepCost_6 : decode cX1_stepCost 6 = .ok (.invokestatic 135, 3) := by decide +kernel
theorem dX1_stepCost_9 : decode cX1_stepCost 9 = .ok (.iload_n 2, 1) := by decide +kernel
theorem dX1_stepCost_10 : decode cX1_stepCost 10 = .ok (.iload 4, 2) := by decide +kernel
theorem dX1_stepCost_12 : decode cX1_stepCost 12 = .ok (.aload_n 0, 1) := by decide +kernel
theorem dX1_stepCost_13 : decode cX1_stepCost 13 = .ok (.getfield 43, 3) := by decide +kernel
theorem dX1_stepCost_16 : decode cX1_stepCost 16 = .ok (.invokestatic 135, 3) := by decide +kernel
theorem dX1_stepCost_19 : decode cX1_stepCost 19 = .ok (.iadd, 1) := by decide +kernel
theorem dX1_stepCost_20 : decode cX1_stepCost 20 = .ok (.ireturn, 1) := by decide +kernel
theorem dX1_fits_0 : decode cX1_fits 0 = .ok (.aload_n 0, 1) := by decide +kernel
theorem dX1_fits_1 : decode cX1_fits 1 = .ok (.getfield 9, 3) := by decide +kernel
theorem dX1_fits_4 : decode cX1_fits 4 = .ok (.getfield 138, 3) := by decide +kernel
theorem dX1_fits_7 : decode cX1_fits 7 = .ok (.ifCond .eq 18, 3) := by decide +kernel
theorem dX1_fits_10 : decode cX1_fits 10 = .ok (.iload_n 3, 1) := by decide +kernel
theorem dX1_fits_11 : decode cX1_fits 11 = .ok (.iload_n 2, 1) := by decide +kernel
theorem dX1_fits_12 : decode cX1_fits 12 = .ok (.if_icmp .ne 13, 3) := by decide +kernel
theorem dX1_fits_15 : decode cX1_fits 15 = .ok (.iload 4, 2) := by decide +kernel
theorem dX1_fits_17 : decode cX1_fits 17 = .ok (.iload_n 1, 1) := by decide +kernel
theorem dX1_fits_18 : decode cX1_fits 18 = .ok (.if_icmp .ne 7, 3) := by decide +kernel
theorem dX1_fits_21 : decode cX1_fits 21 = .ok (.iconst 1, 1) := by decide +kernel
theorem dX1_fits_22 : decode cX1_fits 22 = .ok (.goto 4, 3) := by decide +kernel
theorem dX1_fits_25 : decode cX1_fits 25 = .ok (.iconst 0, 1) := by decide +kernel
theorem dX1_fits_26 : decode cX1_fits 26 = .ok (.istore 5, 2) := by decide +kernel
theorem dX1_fits_28 : decode cX1_fits 28 = .ok (.aload_n 0, 1) := by decide +kernel
theorem dX1_fits_29 : decode cX1_fits 29 = .ok (.getfield 21, 3) := by decide +kernel
theorem dX1_fits_32 : decode cX1_fits 32 = .ok (.iconst 2, 1) := by decide +kernel
theorem dX1_fits_33 : decode cX1_fits 33 = .ok (.if_icmp .lt 14, 3) := by decide +kernel
theorem dX1_fits_36 : decode cX1_fits 36 = .ok (.iload_n 3, 1) := by decide +kernel
theorem dX1_fits_37 : decode cX1_fits 37 = .ok (.iload 4, 2) := by decide +kernel
theorem dX1_fits_39 : decode cX1_fits 39 = .ok (.if_icmp .eq 12, 3) := by decide +kernel
theorem dX1_fits_42 : decode cX1_fits 42 = .ok (.iload 5, 2) := by decide +kernel
theorem dX1_fits_44 : decode cX1_fits 44 = .ok (.ifCond .ne 7, 3) := by decide +kernel
theorem dX1_fits_47 : decode cX1_fits 47 = .ok (.iconst 1, 1) := by decide +kernel
theorem dX1_fits_48 : decode cX1_fits 48 = .ok (.goto 4, 3) := by decide +kernel
theorem dX1_fits_51 : decode cX1_fits 51 = .ok (.iconst 0, 1) := by decide +kernel
theorem dX1_fits_52 : decode cX1_fits 52 = .ok (.ireturn, 1) := by decide +kernel
theorem dX4_init_0 : decode cX4_init 0 = .ok (.aload_n 0, 1) := by decide +kernel
theorem dX4_init_1 : decode cX4_init 1 = .ok (.invokespecial 3, 3) := by decide +kernel
theorem dX4_init_4 : decode cX4_init 4 = .ok (.aload_n 0, 1) := by decide +kernel
theorem dX4_init_5 : decode cX4_init 5 = .ok (.sipush 1476, 3) := by decide +kernel
theorem dX4_init_8 : decode cX4_init 8 = .ok (.newarray .int, 2) := by decide +kernel
theorem dX4_init_10 : decode cX4_init 10 = .ok (.putfield 9, 3) := by decide +kernel
theorem dX4_init_13 : decode cX4_init 13 = .ok (.aload_n 0, 1) := by decide +kernel
theorem dX4_init_14 : decode cX4_init 14 = .ok (.sipush 1476, 3) := by decide +kernel
theorem dX4_init_17 : decode cX4_init 17 = .ok (.newarray .int, 2) := by decide +kernel
theorem dX4_init_19 : decode cX4_init 19 = .ok (.putfield 15, 3) := by decide +kernel
theorem dX4_init_22 : decode cX4_init 22 = .ok (.aload_n 0, 1) := by decide +kernel
theorem dX4_init_23 : decode cX4_init 23 = .ok (.aload_n 1, 1) := by decide +kernel
theorem dX4_init_24 : decode cX4_init 24 = .ok (.putfield 18, 3) := by decide +kernel
theorem dX4_init_27 : decode cX4_init 27 = .ok (.aload_n 0, 1) := by decide +kernel
theorem dX4_init_28 : decode cX4_init 28 = .ok (.aload_n 2, 1) := by decide +kernel
theorem dX4_init_29 : decode cX4_init 29 = .ok (.putfield 22, 3) := by decide +kernel
theorem dX4_init_32 : decode cX4_init 32 = .ok (.aload_n 0, 1) := by decide +kernel
theorem dX4_init_33 : decode cX4_init 33 = .ok (.new 26, 3) := by decide +kernel
theorem dX4_init_36 : decode cX4_init 36 = .ok (.dup, 1) := by decide +kernel
theorem dX4_init_37 : decode cX4_init 37 = .ok (.aload_n 1, 1) := by decide +kernel
theorem dX4_init_38 : decode cX4_init 38 = .ok (.getfield 28, 3) := by decide +kernel
theorem dX4_init_41 : decode cX4_init 41 = .ok (.aload_n 1, 1) := by decide +kernel
theorem dX4_init_42 : decode cX4_init 42 = .ok (.getfield 28, 3) := by decide +kernel
theorem dX4_init_45 : decode cX4_init 45 = .ok (.invokestatic 34, 3) := by decide +kernel
theorem dX4_init_48 : decode cX4_init 48 = .ok (.invokespecial 38, 3) := by decide +kernel
theorem dX4_init_51 : decode cX4_init 51 = .ok (.putfield 41, 3) := by decide +kernel
theorem dX4_init_54 : decode cX4_init 54 = .ok (.return_, 1) := by decide +kernel
theorem dX4_make_0 : decode cX4_make 0 = .ok (.aload_n 0, 1) := by decide +kernel
theorem dX4_make_1 : decode cX4_make 1 = .ok (.getfield 22, 3) := by decide +kernel
theorem dX4_make_4 : decode cX4_make 4 = .ok (.invokevirtual 45, 3) := by decide +kernel
theorem dX4_make_7 : decode cX4_make 7 = .ok (.aload_n 0, 1) := by decide +kernel
theorem dX4_make_8 : decode cX4_make 8 = .ok (.aload_n 1, 1) := by decide +kernel
theorem dX4_make_9 : decode cX4_make 9 = .ok (.invokevirtual 50, 3) := by decide +kernel
theorem dX4_make_12 : decode cX4_make 12 = .ok (.iconst 0, 1) := by decide +kernel
theorem dX4_make_13 : decode cX4_make 13 = .ok (.istore_n 3, 1) := by decide +kernel
theorem dX4_make_14 : decode cX4_make 14 = .ok (.iload_n 3, 1) := by decide +kernel
theorem dX4_make_15 : decode cX4_make 15 = .ok (.iload_n 2, 1) := by decide +kernel
theorem dX4_make_16 : decode cX4_make 16 = .ok (.if_icmp .ge 21, 3) := by decide +kernel
theorem dX4_make_19 : decode cX4_make 19 = .ok (.aload_n 0, 1) := by decide +kernel
theorem dX4_make_20 : decode cX4_make 20 = .ok (.getfield 22, 3) := by decide +kernel
theorem dX4_make_23 : decode cX4_make 23 = .ok (.invokevirtual 54, 3) := by decide +kernel
theorem dX4_make_26 : decode cX4_make 26 = .ok (.aload_n 0, 1) := by decide +kernel
theorem dX4_make_27 : decode cX4_make 27 = .ok (.aload_n 1, 1) := by decide +kernel
theorem dX4_make_28 : decode cX4_make 28 = .ok (.invokevirtual 50, 3) := by decide +kernel
theorem dX4_make_31 : decode cX4_make 31 = .ok (.iinc 3 1, 3) := by decide +kernel
theorem dX4_make_34 : decode cX4_make 34 = .ok (.goto (-20), 3) := by decide +kernel
theorem dX4_make_37 : decode cX4_make 37 = .ok (.return_, 1) := by decide +kernel
theorem dX4_improve_0 : decode cX4_improve 0 = .ok (.aload_n 0, 1) := by decide +kernel
theorem dX4_improve_1 : decode cX4_improve 1 = .ok (.invokevirtual 57, 3) := by decide +kernel
theorem dX4_improve_4 : decode cX4_improve 4 = .ok (.aload_n 0, 1) := by decide +kernel
theorem dX4_improve_5 : decode cX4_improve 5 = .ok (.getfield 41, 3) := by decide +kernel
theorem dX4_improve_8 : decode cX4_improve 8 = .ok (.invokevirtual 60, 3) := by decide +kernel
theorem dX4_improve_11 : decode cX4_improve 11 = .ok (.ifCond .eq 32, 3) := by decide +kernel
theorem dX4_improve_14 : decode cX4_improve 14 = .ok (.aload_n 1, 1) := by decide +kernel
theorem dX4_improve_15 : decode cX4_improve 15 = .ok (.invokevirtual 60, 3) := by decide +kernel
theorem dX4_improve_18 : decode cX4_improve 18 = .ok (.ifCond .eq 17, 3) := by decide +kernel
theorem dX4_improve_21 : decode cX4_improve 21 = .ok (.aload_n 0, 1) := by decide +kernel
theorem dX4_improve_22 : decode cX4_improve 22 = .ok (.getfield 41, 3) := by decide +kernel
theorem dX4_improve_25 : decode cX4_improve 25 = .ok (.getfield 64, 3) := by decide +kernel
theorem dX4_improve_28 : decode cX4_improve 28 = .ok (.aload_n 1, 1) := by decide +kernel
theorem dX4_improve_29 : decode cX4_improve 29 = .ok (.getfield 64, 3) := by decide +kernel
theorem dX4_improve_32 : decode cX4_improve 32 = .ok (.if_icmp .ge 11, 3) := by decide +kernel
theorem dX4_improve_35 : decode cX4_improve 35 = .ok (.aload_n 1, 1) := by decide +kernel
theorem dX4_improve_36 : decode cX4_improve 36 = .ok (.aload_n 0, 1) := by decide +kernel
theorem dX4_improve_37 : decode cX4_improve 37 = .ok (.getfield 41, 3) := by decide +kernel
theorem dX4_improve_40 : decode cX4_improve 40 = .ok (.invokevirtual 67, 3) := by decide +kernel
theorem dX4_improve_43 : decode cX4_improve 43 = .ok (.return_, 1) := by decide +kernel
theorem dX4_tryOrder_0 : decode cX4_tryOrder 0 = .ok (.aload_n 0, 1) := by decide +kernel
theorem dX4_tryOrder_1 : decode cX4_tryOrder 1 = .ok (.getfield 15, 3) := by decide +kernel
theorem dX4_tryOrder_4 : decode cX4_tryOrder 4 = .ok (.iconst (-1), 1) := by decide +kernel
theorem dX4_tryOrder_5 : decode cX4_tryOrder 5 = .ok (.invokestatic 70, 3) := by decide +kernel
theorem dX4_tryOrder_8 : decode cX4_tryOrder 8 = .ok (.aload_n 0, 1) := by decide +kernel
theorem dX4_tryOrder_9 : decode cX4_tryOrder 9 = .ok (.getfield 41, 3) := by decide +kernel
theorem dX4_tryOrder_12 : decode cX4_tryOrder 12 = .ok (.invokevirtual 76, 3) := by decide +kernel
theorem dX4_tryOrder_15 : decode cX4_tryOrder 15 = .ok (.iconst 0, 1) := by decide +kernel
theorem dX4_tryOrder_16 : decode cX4_tryOrder 16 = .ok (.istore_n 1, 1) := by decide +kernel
theorem dX4_tryOrder_17 : decode cX4_tryOrder 17 = .ok (.iconst 0, 1) := by decide +kernel
theorem dX4_tryOrder_18 : decode cX4_tryOrder 18 = .ok (.istore_n 2, 1) := by decide +kernel
theorem dX4_tryOrder_19 : decode cX4_tryOrder 19 = .ok (.iload_n 2, 1) := by decide +kernel
theorem dX4_tryOrder_20 : decode cX4_tryOrder 20 = .ok (.aload_n 0, 1) := by decide +kernel
theorem dX4_tryOrder_21 : decode cX4_tryOrder 21 = .ok (.getfield 18, 3) := by decide +kernel
theorem dX4_tryOrder_24 : decode cX4_tryOrder 24 = .ok (.getfield 28, 3) := by decide +kernel
theorem dX4_tryOrder_27 : decode cX4_tryOrder 27 = .ok (.if_icmp .ge 35, 3) := by decide +kernel
theorem dX4_tryOrder_30 : decode cX4_tryOrder 30 = .ok (.aload_n 0, 1) := by decide +kernel
theorem dX4_tryOrder_31 : decode cX4_tryOrder 31 = .ok (.aload_n 0, 1) := by decide +kernel
theorem dX4_tryOrder_32 : decode cX4_tryOrder 32 = .ok (.getfield 22, 3) := by decide +kernel
theorem dX4_tryOrder_35 : decode cX4_tryOrder 35 = .ok (.getfield 79, 3) := by decide +kernel
theorem dX4_tryOrder_38 : decode cX4_tryOrder 38 = .ok (.iload_n 2, 1) := by decide +kernel
theorem dX4_tryOrder_39 : decode cX4_tryOrder 39 = .ok (.invokestatic 82, 3) := by decide +kernel
theorem dX4_tryOrder_42 : decode cX4_tryOrder 42 = .ok (.invokevirtual 86, 3) := by decide +kernel
theorem dX4_tryOrder_45 : decode cX4_tryOrder 45 = .ok (.istore_n 3, 1) := by decide +kernel
theorem dX4_tryOrder_46 : decode cX4_tryOrder 46 = .ok (.iload_n 3, 1) := by decide +kernel
theorem dX4_tryOrder_47 : decode cX4_tryOrder 47 = .ok (.iconst (-1), 1) := by decide +kernel
theorem dX4_tryOrder_48 : decode cX4_tryOrder 48 = .ok (.if_icmp .ne 4, 3) := by decide +kernel
theorem dX4_tryOrder_51 : decode cX4_tryOrder 51 = .ok (.return_, 1) := by decide +kernel
theorem dX4_tryOrder_52 : decode cX4_tryOrder 52 = .ok (.iload_n 1, 1) := by decide +kernel
theorem dX4_tryOrder_53 : decode cX4_tryOrder 53 = .ok (.iload_n 3, 1) := by decide +kernel
theorem dX4_tryOrder_54 : decode cX4_tryOrder 54 = .ok (.iadd, 1) := by decide +kernel
theorem dX4_tryOrder_55 : decode cX4_tryOrder 55 = .ok (.istore_n 1, 1) := by decide +kernel
theorem dX4_tryOrder_56 : decode cX4_tryOrder 56 = .ok (.iinc 2 1, 3) := by decide +kernel
theorem dX4_tryOrder_59 : decode cX4_tryOrder 59 = .ok (.goto (-40), 3) := by decide +kernel
theorem dX4_tryOrder_62 : decode cX4_tryOrder 62 = .ok (.aload_n 0, 1) := by decide +kernel
theorem dX4_tryOrder_63 : decode cX4_tryOrder 63 = .ok (.getfield 41, 3) := by decide +kernel
theorem dX4_tryOrder_66 : decode cX4_tryOrder 66 = .ok (.iload_n 1, 1) := by decide +kernel
theorem dX4_tryOrder_67 : decode cX4_tryOrder 67 = .ok (.putfield 64, 3) := by decide +kernel
theorem dX4_tryOrder_70 : decode cX4_tryOrder 70 = .ok (.aload_n 0, 1) := by decide +kernel
theorem dX4_tryOrder_71 : decode cX4_tryOrder 71 = .ok (.getfield 41, 3) := by decide +kernel
theorem dX4_tryOrder_74 : decode cX4_tryOrder 74 = .ok (.aload_n 0, 1) := by decide +kernel
theorem dX4_tryOrder_75 : decode cX4_tryOrder 75 = .ok (.invokevirtual 89, 3) := by decide +kernel
theorem dX4_tryOrder_78 : decode cX4_tryOrder 78 = .ok (.putfield 93, 3) := by decide +kernel
theorem dX4_tryOrder_81 : decode cX4_tryOrder 81 = .ok (.return_, 1) := by decide +kernel
theorem dX4_route_0 : decode cX4_route 0 = .ok (.aload_n 0, 1) := by decide +kernel
theorem dX4_route_1 : decode cX4_route 1 = .ok (.getfield 18, 3) := by decide +kernel
theorem dX4_route_4 : decode cX4_route 4 = .ok (.getfield 96, 3) := by decide +kernel
theorem dX4_route_7 : decode cX4_route 7 = .ok (.iload_n 1, 1) := by decide +kernel
theorem dX4_route_8 : decode cX4_route 8 = .ok (.invokestatic 82, 3) := by decide +kernel
theorem dX4_route_11 : decode cX4_route 11 = .ok (.istore_n 2, 1) := by decide +kernel
theorem dX4_route_12 : decode cX4_route 12 = .ok (.aload_n 0, 1) := by decide +kernel
theorem dX4_route_13 : decode cX4_route 13 = .ok (.getfield 18, 3) := by decide +kernel
theorem dX4_route_16 : decode cX4_route 16 = .ok (.getfield 99, 3) := by decide +kernel
theorem dX4_route_19 : decode cX4_route 19 = .ok (.iload_n 1, 1) := by decide +kernel
theorem dX4_route_20 : decode cX4_route 20 = .ok (.invokestatic 82, 3) := by decide +kernel
theorem dX4_route_23 : decode cX4_route 23 = .ok (.istore_n 3, 1) := by decide +kernel
theorem dX4_route_24 : decode cX4_route 24 = .ok (.aload_n 0, 1) := by decide +kernel
theorem dX4_route_25 : decode cX4_route 25 = .ok (.iload_n 2, 1) := by decide +kernel
theorem dX4_route_26 : decode cX4_route 26 = .ok (.invokevirtual 102, 3) := by decide +kernel
theorem dX4_route_29 : decode cX4_route 29 = .ok (.aload_n 0, 1) := by decide +kernel
theorem dX4_route_30 : decode cX4_route 30 = .ok (.getfield 9, 3) := by decide +kernel
theorem dX4_route_33 : decode cX4_route 33 = .ok (.iload_n 3, 1) := by decide +kernel
theorem dX4_route_34 : decode cX4_route 34 = .ok (.invokestatic 82, 3) := by decide +kernel
theorem dX4_route_37 : decode cX4_route 37 = .ok (.istore 4, 2) := by decide +kernel
theorem dX4_route_39 : decode cX4_route 39 = .ok (.iload 4, 2) := by decide +kernel
theorem dX4_route_41 : decode cX4_route 41 = .ok (.iconst (-1), 1) := by decide +kernel
theorem dX4_route_42 : decode cX4_route 42 = .ok (.if_icmp .ne 5, 3) := by decide +kernel
theorem dX4_route_45 : decode cX4_route 45 = .ok (.iconst (-1), 1) := by decide +kernel
theorem dX4_route_46 : decode cX4_route 46 = .ok (.ireturn, 1) := by decide +kernel
theorem dX4_route_47 : decode cX4_route 47 = .ok (.aload_n 0, 1) := by decide +kernel
theorem dX4_route_48 : decode cX4_route 48 = .ok (.getfield 41, 3) := by decide +kernel
theorem dX4_route_51 : decode cX4_route 51 = .ok (.iload_n 1, 1) := by decide +kernel
theorem dX4_route_52 : decode cX4_route 52 = .ok (.iconst 0, 1) := by decide +kernel
theorem dX4_route_53 : decode cX4_route 53 = .ok (.iload_n 3, 1) := by decide +kernel
theorem dX4_route_54 : decode cX4_route 54 = .ok (.invokevirtual 106, 3) := by decide +kernel
theorem dX4_route_57 : decode cX4_route 57 = .ok (.iconst 0, 1) := by decide +kernel
theorem dX4_route_58 : decode cX4_route 58 = .ok (.istore 5, 2) := by decide +kernel
theorem dX4_route_60 : decode cX4_route 60 = .ok (.iload 5, 2) := by decide +kernel
theorem dX4_route_62 : decode cX4_route 62 = .ok (.bipush 40, 2) := by decide +kernel
theorem dX4_route_64 : decode cX4_route 64 = .ok (.if_icmp .ge 31, 3) := by decide +kernel
theorem dX4_route_67 : decode cX4_route 67 = .ok (.aload_n 0, 1) := by decide +kernel
theorem dX4_route_68 : decode cX4_route 68 = .ok (.iload 5, 2) := by decide +kernel
theorem dX4_route_70 : decode cX4_route 70 = .ok (.iload_n 3, 1) := by decide +kernel
theorem dX4_route_71 : decode cX4_route 71 = .ok (.iload_n 2, 1) := by decide +kernel
theorem dX4_route_72 : decode cX4_route 72 = .ok (.invokevirtual 110, 3) := by decide +kernel
theorem dX4_route_75 : decode cX4_route 75 = .ok (.istore_n 3, 1) := by decide +kernel
theorem dX4_route_76 : decode cX4_route 76 = .ok (.aload_n 0, 1) := by decide +kernel
theorem dX4_route_77 : decode cX4_route 77 = .ok (.getfield 41, 3) := by decide +kernel
theorem dX4_route_80 : decode cX4_route 80 = .ok (.iload_n 1, 1) := by decide +kernel
theorem dX4_route_81 : decode cX4_route 81 = .ok (.iload 5, 2) := by decide +kernel
theorem dX4_route_83 : decode cX4_route 83 = .ok (.iconst 1, 1) := by decide +kernel
theorem dX4_route_84 : decode cX4_route 84 = .ok (.iadd, 1) := by decide +kernel
theorem dX4_route_85 : decode cX4_route 85 = .ok (.iload_n 3, 1) := by decide +kernel
theorem dX4_route_86 : decode cX4_route 86 = .ok (.invokevirtual 106, 3) := by decide +kernel
theorem dX4_route_89 : decode cX4_route 89 = .ok (.iinc 5 1, 3) := by decide +kernel
theorem dX4_route_92 : decode cX4_route 92 = .ok (.goto (-32), 3) := by decide +kernel
theorem dX4_route_95 : decode cX4_route 95 = .ok (.aload_n 0, 1) := by decide +kernel
theorem dX4_route_96 : decode cX4_route 96 = .ok (.iload_n 1, 1) := by decide +kernel
theorem dX4_route_97 : decode cX4_route 97 = .ok (.invokevirtual 114, 3) := by decide +kernel
theorem dX4_route_100 : decode cX4_route 100 = .ok (.iload 4, 2) := by decide +kernel
theorem dX4_route_102 : decode cX4_route 102 = .ok (.ireturn, 1) := by decide +kernel
theorem dX4_occupy_0 : decode cX4_occupy 0 = .ok (.iconst 0, 1) := by decide +kernel
theorem dX4_occupy_1 : decode cX4_occupy 1 = .ok (.istore_n 2, 1) := by decide +kernel
theorem dX4_occupy_2 : decode cX4_occupy 2 = .ok (.iload_n 2, 1) := by decide +kernel
theorem dX4_occupy_3 : decode cX4_occupy 3 = .ok (.bipush 40, 2) := by decide +kernel
theorem dX4_occupy_5 : decode cX4_occupy 5 = .ok (.if_icmp .gt 31, 3) := by decide +kernel
theorem dX4_occupy_8 : decode cX4_occupy 8 = .ok (.aload_n 0, 1) := by decide +kernel
theorem dX4_occupy_9 : decode cX4_occupy 9 = .ok (.getfield 15, 3) := by decide +kernel
theorem dX4_occupy_12 : decode cX4_occupy 12 = .ok (.iload_n 2, 1) := by decide +kernel
theorem dX4_occupy_13 : decode cX4_occupy 13 = .ok (.bipush 36, 2) := by decide +kernel
theorem dX4_occupy_15 : decode cX4_occupy 15 = .ok (.imul, 1) := by decide +kernel
theorem dX4_occupy_16 : decode cX4_occupy 16 = .ok (.aload_n 0, 1) := by decide +kernel
theorem dX4_occupy_17 : decode cX4_occupy 17 = .ok (.getfield 41, 3) := by decide +kernel
theorem dX4_occupy_20 : decode cX4_occupy 20 = .ok (.iload_n 1, 1) := by decide +kernel
theorem dX4_occupy_21 : decode cX4_occupy 21 = .ok (.iload_n 2, 1) := by decide +kernel
theorem dX4_occupy_22 : decode cX4_occupy 22 = .ok (.invokevirtual 117, 3) := by decide +kernel
theorem dX4_occupy_25 : decode cX4_occupy 25 = .ok (.iadd, 1) := by decide +kernel
theorem dX4_occupy_26 : decode cX4_occupy 26 = .ok (.iload_n 1, 1) := by decide +kernel
theorem dX4_occupy_27 : decode cX4_occupy 27 = .ok (.invokestatic 121, 3) := by decide +kernel
theorem dX4_occupy_30 : decode cX4_occupy 30 = .ok (.iinc 2 1, 3) := by decide +kernel
theorem dX4_occupy_33 : decode cX4_occupy 33 = .ok (.goto (-31), 3) := by decide +kernel
theorem dX4_occupy_36 : decode cX4_occupy 36 = .ok (.return_, 1) := by decide +kernel
theorem dX4_measure_0 : decode cX4_measure 0 = .ok (.iconst 0, 1) := by decide +kernel
theorem dX4_measure_1 : decode cX4_measure 1 = .ok (.istore_n 2, 1) := by decide +kernel
theorem dX4_measure_2 : decode cX4_measure 2 = .ok (.iload_n 2, 1) := by decide +kernel
theorem dX4_measure_3 : decode cX4_measure 3 = .ok (.bipush 36, 2) := by decide +kernel
theorem dX4_measure_5 : decode cX4_measure 5 = .ok (.if_icmp .ge 45, 3) := by decide +kernel
theorem dX4_measure_8 : decode cX4_measure 8 = .ok (.sipush 1440, 3) := by decide +kernel
theorem dX4_measure_11 : decode cX4_measure 11 = .ok (.iload_n 2, 1) := by decide +kernel
theorem dX4_measure_12 : decode cX4_measure 12 = .ok (.iadd, 1) := by decide +kernel
theorem dX4_measure_13 : decode cX4_measure 13 = .ok (.istore_n 3, 1) := by decide +kernel
theorem dX4_measure_14 : decode cX4_measure 14 = .ok (.aload_n 0, 1) := by decide +kernel
theorem dX4_measure_15 : decode cX4_measure 15 = .ok (.getfield 9, 3) := by decide +kernel
theorem dX4_measure_18 : decode cX4_measure 18 = .ok (.iload_n 3, 1) := by decide +kernel
theorem dX4_measure_19 : decode cX4_measure 19 = .ok (.iload_n 2, 1) := by decide +kernel
theorem dX4_measure_20 : decode cX4_measure 20 = .ok (.iload_n 1, 1) := by decide +kernel
theorem dX4_measure_21 : decode cX4_measure 21 = .ok (.if_icmp .ne 19, 3) := by decide +kernel
theorem dX4_measure_24 : decode cX4_measure 24 = .ok (.aload_n 0, 1) := by decide +kernel
theorem dX4_measure_25 : decode cX4_measure 25 = .ok (.getfield 15, 3) := by decide +kernel
theorem dX4_measure_28 : decode cX4_measure 28 = .ok (.iload_n 3, 1) := by decide +kernel
theorem dX4_measure_29 : decode cX4_measure 29 = .ok (.invokestatic 82, 3) := by decide +kernel
theorem dX4_measure_32 : decode cX4_measure 32 = .ok (.iconst (-1), 1) := by decide +kernel
theorem dX4_measure_33 : decode cX4_measure 33 = .ok (.if_icmp .ne 7, 3) := by decide +kernel
theorem dX4_measure_36 : decode cX4_measure 36 = .ok (.iconst 0, 1) := by decide +kernel
theorem dX4_measure_37 : decode cX4_measure 37 = .ok (.goto 4, 3) := by decide +kernel
theorem dX4_measure_40 : decode cX4_measure 40 = .ok (.iconst (-1), 1) := by decide +kernel
theorem dX4_measure_41 : decode cX4_measure 41 = .ok (.invokestatic 121, 3) := by decide +kernel
theorem dX4_measure_44 : decode cX4_measure 44 = .ok (.iinc 2 1, 3) := by decide +kernel
theorem dX4_measure_47 : decode cX4_measure 47 = .ok (.goto (-45), 3) := by decide +kernel
theorem dX4_measure_50 : decode cX4_measure 50 = .ok (.bipush 39, 2) := by decide +kernel
theorem dX4_measure_52 : decode cX4_measure 52 = .ok (.istore_n 2, 1) := by decide +kernel
theorem dX4_measure_53 : decode cX4_measure 53 = .ok (.iload_n 2, 1) := by decide +kernel
theorem dX4_measure_54 : decode cX4_measure 54 = .ok (.ifCond .lt 43, 3) := by decide +kernel
theorem dX4_measure_57 : decode cX4_measure 57 = .ok (.iconst 0, 1) := by decide +kernel
theorem dX4_measure_58 : decode cX4_measure 58 = .ok (.istore_n 3, 1) := by decide +kernel
theorem dX4_measure_59 : decode cX4_measure 59 = .ok (.iload_n 3, 1) := by decide +kernel
theorem dX4_measure_60 : decode cX4_measure 60 = .ok (.bipush 36, 2) := by decide +kernel
theorem dX4_measure_62 : decode cX4_measure 62 = .ok (.if_icmp .ge 29, 3) := by decide +kernel
theorem dX4_measure_65 : decode cX4_measure 65 = .ok (.aload_n 0, 1) := by decide +kernel
theorem dX4_measure_66 : decode cX4_measure 66 = .ok (.getfield 9, 3) := by decide +kernel
theorem dX4_measure_69 : decode cX4_measure 69 = .ok (.iload_n 2, 1) := by decide +kernel
theorem dX4_measure_70 : decode cX4_measure 70 = .ok (.bipush 36, 2) := by decide +kernel
theorem dX4_measure_72 : decode cX4_measure 72 = .ok (.imul, 1) := by decide +kernel
theorem dX4_measure_73 : decode cX4_measure 73 = .ok (.iload_n 3, 1) := by decide +kernel
theorem dX4_measure_74 : decode cX4_measure 74 = .ok (.iadd, 1) := by decide +kernel
theorem dX4_measure_75 : decode cX4_measure 75 = .ok (.aload_n 0, 1) := by decide +kernel
theorem dX4_measure_76 : decode cX4_measure 76 = .ok (.iload_n 2, 1) := by decide +kernel
theorem dX4_measure_77 : decode cX4_measure 77 = .ok (.iload_n 3, 1) := by decide +kernel
theorem dX4_measure_78 : decode cX4_measure 78 = .ok (.iload_n 1, 1) := by decide +kernel
theorem dX4_measure_79 : decode cX4_measure 79 = .ok (.invokevirtual 125, 3) := by decide +kernel
theorem dX4_measure_82 : decode cX4_measure 82 = .ok (.invokestatic 121, 3) := by decide +kernel
theorem dX4_measure_85 : decode cX4_measure 85 = .ok (.iinc 3 1, 3) := by decide +kernel
theorem dX4_measure_88 : decode cX4_measure 88 = .ok (.goto (-29), 3) := by decide +kernel
theorem dX4_measure_91 : decode cX4_measure 91 = .ok (.iinc 2 (-1), 3) := by decide +kernel
theorem dX4_measure_94 : decode cX4_measure 94 = .ok (.goto (-41), 3) := by decide +kernel
theorem dX4_measure_97 : decode cX4_measure 97 = .ok (.return_, 1) := by decide +kernel
theorem dX4_leastFrom_0 : decode cX4_leastFrom 0 = .ok (.iconst (-1), 1) := by decide +kernel
theorem dX4_leastFrom_1 : decode cX4_leastFrom 1 = .ok (.istore 4, 2) := by decide +kernel
theorem dX4_leastFrom_3 : decode cX4_leastFrom 3 = .ok (.aload_n 0, 1) := by decide +kernel
theorem dX4_leastFrom_4 : decode cX4_leastFrom 4 = .ok (.getfield 15, 3) := by decide +kernel
theorem dX4_leastFrom_7 : decode cX4_leastFrom 7 = .ok (.iload_n 1, 1) := by decide +kernel
theorem dX4_leastFrom_8 : decode cX4_leastFrom 8 = .ok (.bipush 36, 2) := by decide +kernel
theorem dX4_leastFrom_10 : decode cX4_leastFrom 10 = .ok (.imul, 1) := by decide +kernel
theorem dX4_leastFrom_11 : decode cX4_leastFrom 11 = .ok (.iload_n 2, 1) := by decide +kernel
theorem dX4_leastFrom_12 : decode cX4_leastFrom 12 = .ok (.iadd, 1) := by decide +kernel
theorem dX4_leastFrom_13 : decode cX4_leastFrom 13 = .ok (.invokestatic 82, 3) := by decide +kernel
theorem dX4_leastFrom_16 : decode cX4_leastFrom 16 = .ok (.iconst (-1), 1) := by decide +kernel
theorem dX4_leastFrom_17 : decode cX4_leastFrom 17 = .ok (.if_icmp .eq 5, 3) := by decide +kernel
theorem dX4_leastFrom_20 : decode cX4_leastFrom 20 = .ok (.iconst (-1), 1) := by decide +kernel
theorem dX4_leastFrom_21 : decode cX4_leastFrom 21 = .ok (.ireturn, 1) := by decide +kernel
theorem dX4_leastFrom_22 : decode cX4_leastFrom 22 = .ok (.iconst 0, 1) := by decide +kernel
theorem dX4_leastFrom_23 : decode cX4_leastFrom 23 = .ok (.istore 5, 2) := by decide +kernel
theorem dX4_leastFrom_25 : decode cX4_leastFrom 25 = .ok (.iload 5, 2) := by decide +kernel
theorem dX4_leastFrom_27 : decode cX4_leastFrom 27 = .ok (.iconst 5, 1) := by decide +kernel
theorem dX4_leastFrom_28 : decode cX4_leastFrom 28 = .ok (.if_icmp .ge 43, 3) := by decide +kernel
theorem dX4_leastFrom_31 : decode cX4_leastFrom 31 = .ok (.aload_n 0, 1) := by decide +kernel
theorem dX4_leastFrom_32 : decode cX4_leastFrom 32 = .ok (.iload_n 1, 1) := by decide +kernel
theorem dX4_leastFrom_33 : decode cX4_leastFrom 33 = .ok (.iload_n 2, 1) := by decide +kernel
theorem dX4_leastFrom_34 : decode cX4_leastFrom 34 = .ok (.iload 5, 2) := by decide +kernel
theorem dX4_leastFrom_36 : decode cX4_leastFrom 36 = .ok (.iload_n 3, 1) := by decide +kernel
theorem dX4_leastFrom_37 : decode cX4_leastFrom 37 = .ok (.invokevirtual 128, 3) := by decide +kernel
theorem dX4_leastFrom_40 : decode cX4_leastFrom 40 = .ok (.istore 6, 2) := by decide +kernel
theorem dX4_leastFrom_42 : decode cX4_leastFrom 42 = .ok (.iload 6, 2) := by decide +kernel
theorem dX4_leastFrom_44 : decode cX4_leastFrom 44 = .ok (.iconst (-1), 1) := by decide +kernel
theorem dX4_leastFrom_45 : decode cX4_leastFrom 45 = .ok (.if_icmp .eq 20, 3) := by decide +kernel
theorem dX4_leastFrom_48 : decode cX4_leastFrom 48 = .ok (.iload 4, 2) := by decide +kernel
theorem dX4_leastFrom_50 : decode cX4_leastFrom 50 = .ok (.iconst (-1), 1) := by decide +kernel
theorem dX4_leastFrom_51 : decode cX4_leastFrom 51 = .ok (.if_icmp .eq 10, 3) := by decide +kernel
theorem dX4_leastFrom_54 : decode cX4_leastFrom 54 = .ok (.iload 6, 2) := by decide +kernel
theorem dX4_leastFrom_56 : decode cX4_leastFrom 56 = .ok (.iload 4, 2) := by decide +kernel
theorem dX4_leastFrom_58 : decode cX4_leastFrom 58 = .ok (.if_icmp .ge 7, 3) := by decide +kernel
theorem dX4_leastFrom_61 : decode cX4_leastFrom 61 = .ok (.iload 6, 2) := by decide +kernel
theorem dX4_leastFrom_63 : decode cX4_leastFrom 63 = .ok (.istore 4, 2) := by decide +kernel
theorem dX4_leastFrom_65 : decode cX4_leastFrom 65 = .ok (.iinc 5 1, 3) := by decide +kernel
theorem dX4_leastFrom_68 : decode cX4_leastFrom 68 = .ok (.goto (-43), 3) := by decide +kernel
theorem dX4_leastFrom_71 : decode cX4_leastFrom 71 = .ok (.iload 4, 2) := by decide +kernel
theorem dX4_leastFrom_73 : decode cX4_leastFrom 73 = .ok (.ireturn, 1) := by decide +kernel
theorem dX4_costBy_0 : decode cX4_costBy 0 = .ok (.aload_n 0, 1) := by decide +kernel
theorem dX4_costBy_1 : decode cX4_costBy 1 = .ok (.getfield 18, 3) := by decide +kernel
theorem dX4_costBy_4 : decode cX4_costBy 4 = .ok (.getfield 132, 3) := by decide +kernel
theorem dX4_costBy_7 : decode cX4_costBy 7 = .ok (.iload_n 2, 1) := by decide +kernel
theorem dX4_costBy_8 : decode cX4_costBy 8 = .ok (.iload_n 3, 1) := by decide +kernel
theorem dX4_costBy_9 : decode cX4_costBy 9 = .ok (.invokevirtual 136, 3) := by decide +kernel
theorem dX4_costBy_12 : decode cX4_costBy 12 = .ok (.istore 5, 2) := by decide +kernel
theorem dX4_costBy_14 : decode cX4_costBy 14 = .ok (.iload 5, 2) := by decide +kernel
theorem dX4_costBy_16 : decode cX4_costBy 16 = .ok (.iconst (-1), 1) := by decide +kernel
theorem dX4_costBy_17 : decode cX4_costBy 17 = .ok (.if_icmp .ne 7, 3) := by decide +kernel
theorem dX4_costBy_20 : decode cX4_costBy 20 = .ok (.iconst (-1), 1) := by decide +kernel
theorem dX4_costBy_21 : decode cX4_costBy 21 = .ok (.goto 19, 3) := by decide +kernel
theorem dX4_costBy_24 : decode cX4_costBy 24 = .ok (.aload_n 0, 1) := by decide +kernel
theorem dX4_costBy_25 : decode cX4_costBy 25 = .ok (.getfield 9, 3) := by decide +kernel
theorem dX4_costBy_28 : decode cX4_costBy 28 = .ok (.iload_n 1, 1) := by decide +kernel
theorem dX4_costBy_29 : decode cX4_costBy 29 = .ok (.iconst 1, 1) := by decide +kernel
theorem dX4_costBy_30 : decode cX4_costBy 30 = .ok (.iadd, 1) := by decide +kernel
theorem dX4_costBy_31 : decode cX4_costBy 31 = .ok (.bipush 36, 2) := by decide +kernel
theorem dX4_costBy_33 : decode cX4_costBy 33 = .ok (.imul, 1) := by decide +kernel
theorem dX4_costBy_34 : decode cX4_costBy 34 = .ok (.iload 5, 2) := by decide +kernel
theorem dX4_costBy_36 : decode cX4_costBy 36 = .ok (.iadd, 1) := by decide +kernel
theorem dX4_costBy_37 : decode cX4_costBy 37 = .ok (.invokestatic 82, 3) := by decide +kernel
theorem dX4_costBy_40 : decode cX4_costBy 40 = .ok (.istore 6, 2) := by decide +kernel
theorem dX4_costBy_42 : decode cX4_costBy 42 = .ok (.iload 6, 2) := by decide +kernel
theorem dX4_costBy_44 : decode cX4_costBy 44 = .ok (.iconst (-1), 1) := by decide +kernel
theorem dX4_costBy_45 : decode cX4_costBy 45 = .ok (.if_icmp .eq 14, 3) := by decide +kernel
theorem dX4_costBy_48 : decode cX4_costBy 48 = .ok (.aload_n 0, 1) := by decide +kernel
theorem dX4_costBy_49 : decode cX4_costBy 49 = .ok (.iload_n 1, 1) := by decide +kernel
theorem dX4_costBy_50 : decode cX4_costBy 50 = .ok (.iload_n 2, 1) := by decide +kernel
theorem dX4_costBy_51 : decode cX4_costBy 51 = .ok (.iload 5, 2) := by decide +kernel
theorem dX4_costBy_53 : decode cX4_costBy 53 = .ok (.invokevirtual 141, 3) := by decide +kernel
theorem dX4_costBy_56 : decode cX4_costBy 56 = .ok (.ifCond .eq 5, 3) := by decide +kernel
theorem dX4_costBy_59 : decode cX4_costBy 59 = .ok (.iconst (-1), 1) := by decide +kernel
theorem dX4_costBy_60 : decode cX4_costBy 60 = .ok (.ireturn, 1) := by decide +kernel
theorem dX4_costBy_61 : decode cX4_costBy 61 = .ok (.iload 6, 2) := by decide +kernel
theorem dX4_costBy_63 : decode cX4_costBy 63 = .ok (.iload_n 2, 1) := by decide +kernel
theorem dX4_costBy_64 : decode cX4_costBy 64 = .ok (.iload 5, 2) := by decide +kernel
theorem dX4_costBy_66 : decode cX4_costBy 66 = .ok (.iload 4, 2) := by decide +kernel
theorem dX4_costBy_68 : decode cX4_costBy 68 = .ok (.invokestatic 145, 3) := by decide +kernel
theorem dX4_costBy_71 : decode cX4_costBy 71 = .ok (.iadd, 1) := by decide +kernel
theorem dX4_costBy_72 : decode cX4_costBy 72 = .ok (.ireturn, 1) := by decide +kernel
theorem dX4_isBarred_0 : decode cX4_isBarred 0 = .ok (.aload_n 0, 1) := by decide +kernel
theorem dX4_isBarred_1 : decode cX4_isBarred 1 = .ok (.getfield 15, 3) := by decide +kernel
theorem dX4_isBarred_4 : decode cX4_isBarred 4 = .ok (.iload_n 1, 1) := by decide +kernel
theorem dX4_isBarred_5 : decode cX4_isBarred 5 = .ok (.bipush 36, 2) := by decide +kernel
theorem dX4_isBarred_7 : decode cX4_isBarred 7 = .ok (.imul, 1) := by decide +kernel
theorem dX4_isBarred_8 : decode cX4_isBarred 8 = .ok (.iload_n 3, 1) := by decide +kernel
theorem dX4_isBarred_9 : decode cX4_isBarred 9 = .ok (.iadd, 1) := by decide +kernel
theorem dX4_isBarred_10 : decode cX4_isBarred 10 = .ok (.invokestatic 82, 3) := by decide +kernel
theorem dX4_isBarred_13 : decode cX4_isBarred 13 = .ok (.istore 4, 2) := by decide +kernel
theorem dX4_isBarred_15 : decode cX4_isBarred 15 = .ok (.aload_n 0, 1) := by decide +kernel
theorem dX4_isBarred_16 : decode cX4_isBarred 16 = .ok (.getfield 18, 3) := by decide +kernel
theorem dX4_isBarred_19 : decode cX4_isBarred 19 = .ok (.getfield 148, 3) := by decide +kernel
theorem dX4_isBarred_22 : decode cX4_isBarred 22 = .ok (.ifCond .eq 33, 3) := by decide +kernel
theorem dX4_isBarred_25 : decode cX4_isBarred 25 = .ok (.iload 4, 2) := by decide +kernel
theorem dX4_isBarred_27 : decode cX4_isBarred 27 = .ok (.iconst (-1), 1) := by decide +kernel
theorem dX4_isBarred_28 : decode cX4_isBarred 28 = .ok (.if_icmp .eq 27, 3) := by decide +kernel
theorem dX4_isBarred_31 : decode cX4_isBarred 31 = .ok (.aload_n 0, 1) := by decide +kernel
theorem dX4_isBarred_32 : decode cX4_isBarred 32 = .ok (.getfield 15, 3) := by decide +kernel
theorem dX4_isBarred_35 : decode cX4_isBarred 35 = .ok (.iload_n 1, 1) := by decide +kernel
theorem dX4_isBarred_36 : decode cX4_isBarred 36 = .ok (.iconst 1, 1) := by decide +kernel
theorem dX4_isBarred_37 : decode cX4_isBarred 37 = .ok (.iadd, 1) := by decide +kernel
theorem dX4_isBarred_38 : decode cX4_isBarred 38 = .ok (.bipush 36, 2) := by decide +kernel
theorem dX4_isBarred_40 : decode cX4_isBarred 40 = .ok (.imul, 1) := by decide +kernel
theorem dX4_isBarred_41 : decode cX4_isBarred 41 = .ok (.iload_n 2, 1) := by decide +kernel
theorem dX4_isBarred_42 : decode cX4_isBarred 42 = .ok (.iadd, 1) := by decide +kernel
theorem dX4_isBarred_43 : decode cX4_isBarred 43 = .ok (.invokestatic 82, 3) := by decide +kernel
theorem dX4_isBarred_46 : decode cX4_isBarred 46 = .ok (.iload 4, 2) := by decide +kernel
theorem dX4_isBarred_48 : decode cX4_isBarred 48 = .ok (.if_icmp .ne 7, 3) := by decide +kernel
theorem dX4_isBarred_51 : decode cX4_isBarred 51 = .ok (.iconst 1, 1) := by decide +kernel
theorem dX4_isBarred_52 : decode cX4_isBarred 52 = .ok (.goto 4, 3) := by decide +kernel
theorem dX4_isBarred_55 : decode cX4_isBarred 55 = .ok (.iconst 0, 1) := by decide +kernel
theorem dX4_isBarred_56 : decode cX4_isBarred 56 = .ok (.ireturn, 1) := by decide +kernel
theorem dX4_follow_0 : decode cX4_follow 0 = .ok (.aload_n 0, 1) := by decide +kernel
theorem dX4_follow_1 : decode cX4_follow 1 = .ok (.getfield 9, 3) := by decide +kernel
theorem dX4_follow_4 : decode cX4_follow 4 = .ok (.iload_n 1, 1) := by decide +kernel
theorem dX4_follow_5 : decode cX4_follow 5 = .ok (.bipush 36, 2) := by decide +kernel
theorem dX4_follow_7 : decode cX4_follow 7 = .ok (.imul, 1) := by decide +kernel
theorem dX4_follow_8 : decode cX4_follow 8 = .ok (.iload_n 2, 1) := by decide +kernel
theorem dX4_follow_9 : decode cX4_follow 9 = .ok (.iadd, 1) := by decide +kernel
theorem dX4_follow_10 : decode cX4_follow 10 = .ok (.invokestatic 82, 3) := by decide +kernel
theorem dX4_follow_13 : decode cX4_follow 13 = .ok (.istore 4, 2) := by decide +kernel
theorem dX4_follow_15 : decode cX4_follow 15 = .ok (.iconst 0, 1) := by decide +kernel
theorem dX4_follow_16 : decode cX4_follow 16 = .ok (.istore 5, 2) := by decide +kernel
theorem dX4_follow_18 : decode cX4_follow 18 = .ok (.iload 5, 2) := by decide +kernel
theorem dX4_follow_20 : decode cX4_follow 20 = .ok (.iconst 5, 1) := by decide +kernel
theorem dX4_follow_21 : decode cX4_follow 21 = .ok (.if_icmp .ge 37, 3) := by decide +kernel
theorem dX4_follow_24 : decode cX4_follow 24 = .ok (.aload_n 0, 1) := by decide +kernel
theorem dX4_follow_25 : decode cX4_follow 25 = .ok (.iload_n 1, 1) := by decide +kernel
theorem dX4_follow_26 : decode cX4_follow 26 = .ok (.iload_n 2, 1) := by decide +kernel
theorem dX4_follow_27 : decode cX4_follow 27 = .ok (.iload 5, 2) := by decide +kernel
theorem dX4_follow_29 : decode cX4_follow 29 = .ok (.iload_n 3, 1) := by decide +kernel
theorem dX4_follow_30 : decode cX4_follow 30 = .ok (.invokevirtual 128, 3) := by decide +kernel
theorem dX4_follow_33 : decode cX4_follow 33 = .ok (.iload 4, 2) := by decide +kernel
theorem dX4_follow_35 : decode cX4_follow 35 = .ok (.if_icmp .ne 17, 3) := by decide +kernel
theorem dX4_follow_38 : decode cX4_follow 38 = .ok (.aload_n 0, 1) := by decide +kernel
theorem dX4_follow_39 : decode cX4_follow 39 = .ok (.getfield 18, 3) := by decide +kernel
theorem dX4_follow_42 : decode cX4_follow 42 = .ok (.getfield 132, 3) := by decide +kernel
theorem dX4_follow_45 : decode cX4_follow 45 = .ok (.iload_n 2, 1) := by decide +kernel
theorem dX4_follow_46 : decode cX4_follow 46 = .ok (.iload 5, 2) := by decide +kernel
theorem dX4_follow_48 : decode cX4_follow 48 = .ok (.invokevirtual 136, 3) := by decide +kernel
theorem dX4_follow_51 : decode cX4_follow 51 = .ok (.ireturn, 1) := by decide +kernel
theorem dX4_follow_52 : decode cX4_follow 52 = .ok (.iinc 5 1, 3) := by decide +kernel
theorem dX4_follow_55 : decode cX4_follow 55 = .ok (.goto (-37), 3) := by decide +kernel
theorem dX4_follow_58 : decode cX4_follow 58 = .ok (.iload_n 2, 1) := by decide +kernel
theorem dX4_follow_59 : decode cX4_follow 59 = .ok (.ireturn, 1) := by decide +kernel
theorem dX4_stepsOfTrial_0 : decode cX4_stepsOfTrial 0 = .ok (.bipush 40, 2) := by decide +kernel
theorem dX4_stepsOfTrial_2 : decode cX4_stepsOfTrial 2 = .ok (.istore_n 1, 1) := by decide +kernel
theorem dX4_stepsOfTrial_3 : decode cX4_stepsOfTrial 3 = .ok (.iload_n 1, 1) := by decide +kernel
theorem dX4_stepsOfTrial_4 : decode cX4_stepsOfTrial 4 = .ok (.ifCond .le 19, 3) := by decide +kernel
theorem dX4_stepsOfTrial_7 : decode cX4_stepsOfTrial 7 = .ok (.aload_n 0, 1) := by decide +kernel
theorem dX4_stepsOfTrial_8 : decode cX4_stepsOfTrial 8 = .ok (.iload_n 1, 1) := by decide +kernel
theorem dX4_stepsOfTrial_9 : decode cX4_stepsOfTrial 9 = .ok (.iconst 1, 1) := by decide +kernel
theorem dX4_stepsOfTrial_10 : decode cX4_stepsOfTrial 10 = .ok (.isub, 1) := by decide +kernel
theorem dX4_stepsOfTrial_11 : decode cX4_stepsOfTrial 11 = .ok (.invokevirtual 152, 3) := by decide +kernel
theorem dX4_stepsOfTrial_14 : decode cX4_stepsOfTrial 14 = .ok (.ifCond .eq 9, 3) := by decide +kernel
theorem dX4_stepsOfTrial_17 : decode cX4_stepsOfTrial 17 = .ok (.iinc 1 (-1), 3) := by decide +kernel
theorem dX4_stepsOfTrial_20 : decode cX4_stepsOfTrial 20 = .ok (.goto (-17), 3) := by decide +kernel
theorem dX4_stepsOfTrial_23 : decode cX4_stepsOfTrial 23 = .ok (.iload_n 1, 1) := by decide +kernel
theorem dX4_stepsOfTrial_24 : decode cX4_stepsOfTrial 24 = .ok (.ireturn, 1) := by decide +kernel
theorem dX4_allAtEnds_0 : decode cX4_allAtEnds 0 = .ok (.iconst 0, 1) := by decide +kernel
theorem dX4_allAtEnds_1 : decode cX4_allAtEnds 1 = .ok (.istore_n 2, 1) := by decide +kernel
theorem dX4_allAtEnds_2 : decode cX4_allAtEnds 2 = .ok (.iload_n 2, 1) := by decide +kernel
theorem dX4_allAtEnds_3 : decode cX4_allAtEnds 3 = .ok (.aload_n 0, 1) := by decide +kernel
theorem dX4_allAtEnds_4 : decode cX4_allAtEnds 4 = .ok (.getfield 18, 3) := by decide +kernel
theorem dX4_allAtEnds_7 : decode cX4_allAtEnds 7 = .ok (.getfield 28, 3) := by decide +kernel
theorem dX4_allAtEnds_10 : decode cX4_allAtEnds 10 = .ok (.if_icmp .ge 34, 3) := by decide +kernel
theorem dX4_allAtEnds_13 : decode cX4_allAtEnds 13 = .ok (.aload_n 0, 1) := by decide +kernel
theorem dX4_allAtEnds_14 : decode cX4_allAtEnds 14 = .ok (.getfield 41, 3) := by decide +kernel
theorem dX4_allAtEnds_17 : decode cX4_allAtEnds 17 = .ok (.iload_n 2, 1) := by decide +kernel
theorem dX4_allAtEnds_18 : decode cX4_allAtEnds 18 = .ok (.iload_n 1, 1) := by decide +kernel
theorem dX4_allAtEnds_19 : decode cX4_allAtEnds 19 = .ok (.invokevirtual 117, 3) := by decide +kernel
theorem dX4_allAtEnds_22 : decode cX4_allAtEnds 22 = .ok (.aload_n 0, 1) := by decide +kernel
theorem dX4_allAtEnds_23 : decode cX4_allAtEnds 23 = .ok (.getfield 18, 3) := by decide +kernel
theorem dX4_allAtEnds_26 : decode cX4_allAtEnds 26 = .ok (.getfield 96, 3) := by decide +kernel
theorem dX4_allAtEnds_29 : decode cX4_allAtEnds 29 = .ok (.iload_n 2, 1) := by decide +kernel
theorem dX4_allAtEnds_30 : decode cX4_allAtEnds 30 = .ok (.invokestatic 82, 3) := by decide +kernel
theorem dX4_allAtEnds_33 : decode cX4_allAtEnds 33 = .ok (.if_icmp .eq 5, 3) := by decide +kernel
theorem dX4_allAtEnds_36 : decode cX4_allAtEnds 36 = .ok (.iconst 0, 1) := by decide +kernel
theorem dX4_allAtEnds_37 : decode cX4_allAtEnds 37 = .ok (.ireturn, 1) := by decide +kernel
theorem dX4_allAtEnds_38 : decode cX4_allAtEnds 38 = .ok (.iinc 2 1, 3) := by decide +kernel
theorem dX4_allAtEnds_41 : decode cX4_allAtEnds 41 = .ok (.goto (-39), 3) := by decide +kernel
theorem dX4_allAtEnds_44 : decode cX4_allAtEnds 44 = .ok (.iconst 1, 1) := by decide +kernel
theorem dX4_allAtEnds_45 : decode cX4_allAtEnds 45 = .ok (.ireturn, 1) := by decide +kernel
end
section
theorem dX7_init_0 : decode cX7_init 0 = .ok (.aload_n 0, 1) := by decide +kernel
theorem dX7_init_1 : decode cX7_init 1 = .ok (.invokespecial 1, 3) := by decide +kernel
theorem dX7_init_4 : decode cX7_init 4 = .ok (.aload_n 0, 1) := by decide +kernel
theorem dX7_init_5 : decode cX7_init 5 = .ok (.iconst 0, 1) := by decide +kernel
theorem dX7_init_6 : decode cX7_init 6 = .ok (.iconst 4, 1) := by decide +kernel
theorem dX7_init_7 : decode cX7_init 7 = .ok (.iload_n 1, 1) := by decide +kernel
theorem dX7_init_8 : decode cX7_init 8 = .ok (.invokestatic 9, 3) := by decide +kernel
theorem dX7_init_11 : decode cX7_init 11 = .ok (.invokestatic 15, 3) := by decide +kernel
theorem dX7_init_14 : decode cX7_init 14 = .ok (.putfield 18, 3) := by decide +kernel
theorem dX7_init_17 : decode cX7_init 17 = .ok (.aload_n 0, 1) := by decide +kernel
theorem dX7_init_18 : decode cX7_init 18 = .ok (.new 22, 3) := by decide +kernel
theorem dX7_init_21 : decode cX7_init 21 = .ok (.dup, 1) := by decide +kernel
theorem dX7_init_22 : decode cX7_init 22 = .ok (.aload_n 0, 1) := by decide +kernel
theorem dX7_init_23 : decode cX7_init 23 = .ok (.getfield 18, 3) := by decide +kernel
theorem dX7_init_26 : decode cX7_init 26 = .ok (.invokespecial 24, 3) := by decide +kernel
theorem dX7_init_29 : decode cX7_init 29 = .ok (.putfield 27, 3) := by decide +kernel
theorem dX7_init_32 : decode cX7_init 32 = .ok (.aload_n 0, 1) := by decide +kernel
theorem dX7_init_33 : decode cX7_init 33 = .ok (.new 31, 3) := by decide +kernel
theorem dX7_init_36 : decode cX7_init 36 = .ok (.dup, 1) := by decide +kernel
theorem dX7_init_37 : decode cX7_init 37 = .ok (.aload_n 0, 1) := by decide +kernel
theorem dX7_init_38 : decode cX7_init 38 = .ok (.getfield 18, 3) := by decide +kernel
theorem dX7_init_41 : decode cX7_init 41 = .ok (.invokespecial 33, 3) := by decide +kernel
theorem dX7_init_44 : decode cX7_init 44 = .ok (.putfield 34, 3) := by decide +kernel
theorem dX7_init_47 : decode cX7_init 47 = .ok (.aload_n 0, 1) := by decide +kernel
theorem dX7_init_48 : decode cX7_init 48 = .ok (.aload_n 0, 1) := by decide +kernel
theorem dX7_init_49 : decode cX7_init 49 = .ok (.getfield 18, 3) := by decide +kernel
theorem dX7_init_52 : decode cX7_init 52 = .ok (.iconst 2, 1) := by decide +kernel
theorem dX7_init_53 : decode cX7_init 53 = .ok (.if_icmp .gt 17, 3) := by decide +kernel
theorem dX7_init_56 : decode cX7_init 56 = .ok (.new 38, 3) := by decide +kernel
theorem dX7_init_59 : decode cX7_init 59 = .ok (.dup, 1) := by decide +kernel
theorem dX7_init_60 : decode cX7_init 60 = .ok (.aload_n 0, 1) := by decide +kernel
theorem dX7_init_61 : decode cX7_init 61 = .ok (.getfield 27, 3) := by decide +kernel
theorem dX7_init_64 : decode cX7_init 64 = .ok (.invokespecial 40, 3) := by decide +kernel
theorem dX7_init_67 : decode cX7_init 67 = .ok (.goto 18, 3) := by decide +kernel
theorem dX7_init_70 : decode cX7_init 70 = .ok (.new 43, 3) := by decide +kernel
theorem dX7_init_73 : decode cX7_init 73 = .ok (.dup, 1) := by decide +kernel
theorem dX7_init_74 : decode cX7_init 74 = .ok (.aload_n 0, 1) := by decide +kernel
theorem dX7_init_75 : decode cX7_init 75 = .ok (.getfield 27, 3) := by decide +kernel
theorem dX7_init_78 : decode cX7_init 78 = .ok (.aload_n 0, 1) := by decide +kernel
theorem dX7_init_79 : decode cX7_init 79 = .ok (.getfield 34, 3) := by decide +kernel
theorem dX7_init_82 : decode cX7_init 82 = .ok (.invokespecial 45, 3) := by decide +kernel
theorem dX7_init_85 : decode cX7_init 85 = .ok (.putfield 48, 3) := by decide +kernel
theorem dX7_init_88 : decode cX7_init 88 = .ok (.aload_n 0, 1) := by decide +kernel
theorem dX7_init_89 : decode cX7_init 89 = .ok (.new 52, 3) := by decide +kernel
theorem dX7_init_92 : decode cX7_init 92 = .ok (.dup, 1) := by decide +kernel
theorem dX7_init_93 : decode cX7_init 93 = .ok (.aload_n 0, 1) := by decide +kernel
theorem dX7_init_94 : decode cX7_init 94 = .ok (.getfield 18, 3) := by decide +kernel
theorem dX7_init_97 : decode cX7_init 97 = .ok (.aload_n 0, 1) := by decide +kernel
theorem dX7_init_98 : decode cX7_init 98 = .ok (.getfield 18, 3) := by decide +kernel
theorem dX7_init_101 : decode cX7_init 101 = .ok (.invokestatic 54, 3) := by decide +kernel
theorem dX7_init_104 : decode cX7_init 104 = .ok (.invokespecial 58, 3) := by decide +kernel
theorem dX7_init_107 : decode cX7_init 107 = .ok (.putfield 61, 3) := by decide +kernel
theorem dX7_init_110 : decode cX7_init 110 = .ok (.return_, 1) := by decide +kernel
theorem dX7_grid_0 : decode cX7_grid 0 = .ok (.iload_n 1, 1) := by decide +kernel
theorem dX7_grid_1 : decode cX7_grid 1 = .ok (.iconst 1, 1) := by decide +kernel
theorem dX7_grid_2 : decode cX7_grid 2 = .ok (.if_icmp .lt 20, 3) := by decide +kernel
theorem dX7_grid_5 : decode cX7_grid 5 = .ok (.iload_n 1, 1) := by decide +kernel
theorem dX7_grid_6 : decode cX7_grid 6 = .ok (.bipush 6, 2) := by decide +kernel
theorem dX7_grid_8 : decode cX7_grid 8 = .ok (.if_icmp .gt 14, 3) := by decide +kernel
theorem dX7_grid_11 : decode cX7_grid 11 = .ok (.iload_n 2, 1) := by decide +kernel
theorem dX7_grid_12 : decode cX7_grid 12 = .ok (.iconst 1, 1) := by decide +kernel
theorem dX7_grid_13 : decode cX7_grid 13 = .ok (.if_icmp .lt 9, 3) := by decide +kernel
theorem dX7_grid_16 : decode cX7_grid 16 = .ok (.iload_n 2, 1) := by decide +kernel
theorem dX7_grid_17 : decode cX7_grid 17 = .ok (.bipush 6, 2) := by decide +kernel
theorem dX7_grid_19 : decode cX7_grid 19 = .ok (.if_icmp .le 13, 3) := by decide +kernel
theorem dX7_grid_22 : decode cX7_grid 22 = .ok (.new 65, 3) := by decide +kernel
theorem dX7_grid_25 : decode cX7_grid 25 = .ok (.dup, 1) := by decide +kernel
theorem dX7_grid_26 : decode cX7_grid 26 = .ok (.ldc 67, 2) := by decide +kernel
theorem dX7_grid_28 : decode cX7_grid 28 = .ok (.invokespecial 69, 3) := by decide +kernel
theorem dX7_grid_31 : decode cX7_grid 31 = .ok (.athrow, 1) := by decide +kernel
theorem dX7_grid_32 : decode cX7_grid 32 = .ok (.aload_n 0, 1) := by decide +kernel
theorem dX7_grid_33 : decode cX7_grid 33 = .ok (.getfield 27, 3) := by decide +kernel
theorem dX7_grid_36 : decode cX7_grid 36 = .ok (.iload_n 1, 1) := by decide +kernel
theorem dX7_grid_37 : decode cX7_grid 37 = .ok (.iload_n 2, 1) := by decide +kernel
theorem dX7_grid_38 : decode cX7_grid 38 = .ok (.invokevirtual 72, 3) := by decide +kernel
theorem dX7_grid_41 : decode cX7_grid 41 = .ok (.aload_n 0, 1) := by decide +kernel
theorem dX7_grid_42 : decode cX7_grid 42 = .ok (.getfield 61, 3) := by decide +kernel
theorem dX7_grid_45 : decode cX7_grid 45 = .ok (.invokevirtual 75, 3) := by decide +kernel
theorem dX7_grid_48 : decode cX7_grid 48 = .ok (.return_, 1) := by decide +kernel
theorem dX7_wall_0 : decode cX7_wall 0 = .ok (.aload_n 0, 1) := by decide +kernel
theorem dX7_wall_1 : decode cX7_wall 1 = .ok (.getfield 27, 3) := by decide +kernel
theorem dX7_wall_4 : decode cX7_wall 4 = .ok (.getfield 78, 3) := by decide +kernel
theorem dX7_wall_7 : decode cX7_wall 7 = .ok (.iload_n 1, 1) := by decide +kernel
theorem dX7_wall_8 : decode cX7_wall 8 = .ok (.iload_n 2, 1) := by decide +kernel
theorem dX7_wall_9 : decode cX7_wall 9 = .ok (.invokevirtual 82, 3) := by decide +kernel
theorem dX7_wall_12 : decode cX7_wall 12 = .ok (.istore 4, 2) := by decide +kernel
theorem dX7_wall_14 : decode cX7_wall 14 = .ok (.iload 4, 2) := by decide +kernel
theorem dX7_wall_16 : decode cX7_wall 16 = .ok (.iconst (-1), 1) := by decide +kernel
theorem dX7_wall_17 : decode cX7_wall 17 = .ok (.if_icmp .ne 13, 3) := by decide +kernel
theorem dX7_wall_20 : decode cX7_wall 20 = .ok (.new 87, 3) := by decide +kernel
theorem dX7_wall_23 : decode cX7_wall 23 = .ok (.dup, 1) := by decide +kernel
theorem dX7_wall_24 : decode cX7_wall 24 = .ok (.ldc 89, 2) := by decide +kernel
theorem dX7_wall_26 : decode cX7_wall 26 = .ok (.invokespecial 91, 3) := by decide +kernel
theorem dX7_wall_29 : decode cX7_wall 29 = .ok (.athrow, 1) := by decide +kernel
theorem dX7_wall_30 : decode cX7_wall 30 = .ok (.aload_n 0, 1) := by decide +kernel
theorem dX7_wall_31 : decode cX7_wall 31 = .ok (.getfield 27, 3) := by decide +kernel
theorem dX7_wall_34 : decode cX7_wall 34 = .ok (.getfield 92, 3) := by decide +kernel
theorem dX7_wall_37 : decode cX7_wall 37 = .ok (.iload 4, 2) := by decide +kernel
theorem dX7_wall_39 : decode cX7_wall 39 = .ok (.invokestatic 96, 3) := by decide +kernel
theorem dX7_wall_42 : decode cX7_wall 42 = .ok (.iconst (-1), 1) := by decide +kernel
theorem dX7_wall_43 : decode cX7_wall 43 = .ok (.if_icmp .ne 19, 3) := by decide +kernel
theorem dX7_wall_46 : decode cX7_wall 46 = .ok (.aload_n 0, 1) := by decide +kernel
theorem dX7_wall_47 : decode cX7_wall 47 = .ok (.getfield 27, 3) := by decide +kernel
theorem dX7_wall_50 : decode cX7_wall 50 = .ok (.getfield 100, 3) := by decide +kernel
theorem dX7_wall_53 : decode cX7_wall 53 = .ok (.iload 4, 2) := by decide +kernel
theorem dX7_wall_55 : decode cX7_wall 55 = .ok (.invokestatic 96, 3) := by decide +kernel
theorem dX7_wall_58 : decode cX7_wall 58 = .ok (.iconst (-1), 1) := by decide +kernel
theorem dX7_wall_59 : decode cX7_wall 59 = .ok (.if_icmp .eq 13, 3) := by decide +kernel
theorem dX7_wall_62 : decode cX7_wall 62 = .ok (.new 103, 3) := by decide +kernel
theorem dX7_wall_65 : decode cX7_wall 65 = .ok (.dup, 1) := by decide +kernel
theorem dX7_wall_66 : decode cX7_wall 66 = .ok (.ldc 105, 2) := by decide +kernel
theorem dX7_wall_68 : decode cX7_wall 68 = .ok (.invokespecial 107, 3) := by decide +kernel
theorem dX7_wall_71 : decode cX7_wall 71 = .ok (.athrow, 1) := by decide +kernel
theorem dX7_wall_72 : decode cX7_wall 72 = .ok (.aload_n 0, 1) := by decide +kernel
theorem dX7_wall_73 : decode cX7_wall 73 = .ok (.getfield 27, 3) := by decide +kernel
theorem dX7_wall_76 : decode cX7_wall 76 = .ok (.getfield 78, 3) := by decide +kernel
theorem dX7_wall_79 : decode cX7_wall 79 = .ok (.iload 4, 2) := by decide +kernel
theorem dX7_wall_81 : decode cX7_wall 81 = .ok (.iload_n 3, 1) := by decide +kernel
theorem dX7_wall_82 : decode cX7_wall 82 = .ok (.invokevirtual 108, 3) := by decide +kernel
theorem dX7_wall_85 : decode cX7_wall 85 = .ok (.ireturn, 1) := by decide +kernel
theorem dX7_start_0 : decode cX7_start 0 = .ok (.aload_n 0, 1) := by decide +kernel
theorem dX7_start_1 : decode cX7_start 1 = .ok (.aload_n 0, 1) := by decide +kernel
theorem dX7_start_2 : decode cX7_start 2 = .ok (.getfield 27, 3) := by decide +kernel
theorem dX7_start_5 : decode cX7_start 5 = .ok (.getfield 92, 3) := by decide +kernel
theorem dX7_start_8 : decode cX7_start 8 = .ok (.iload_n 1, 1) := by decide +kernel
theorem dX7_start_9 : decode cX7_start 9 = .ok (.iload_n 2, 1) := by decide +kernel
theorem dX7_start_10 : decode cX7_start 10 = .ok (.iload_n 3, 1) := by decide +kernel
theorem dX7_start_11 : decode cX7_start 11 = .ok (.invokevirtual 112, 3) := by decide +kernel
theorem dX7_start_14 : decode cX7_start 14 = .ok (.ireturn, 1) := by decide +kernel
theorem dX7_end_0 : decode cX7_end 0 = .ok (.aload_n 0, 1) := by decide +kernel
theorem dX7_end_1 : decode cX7_end 1 = .ok (.aload_n 0, 1) := by decide +kernel
theorem dX7_end_2 : decode cX7_end 2 = .ok (.getfield 27, 3) := by decide +kernel
theorem dX7_end_5 : decode cX7_end 5 = .ok (.getfield 100, 3) := by decide +kernel
theorem dX7_end_8 : decode cX7_end 8 = .ok (.iload_n 1, 1) := by decide +kernel
theorem dX7_end_9 : decode cX7_end 9 = .ok (.iload_n 2, 1) := by decide +kernel
theorem dX7_end_10 : decode cX7_end 10 = .ok (.iload_n 3, 1) := by decide +kernel
theorem dX7_end_11 : decode cX7_end 11 = .ok (.invokevirtual 112, 3) := by decide +kernel
theorem dX7_end_14 : decode cX7_end 14 = .ok (.ireturn, 1) := by decide +kernel
theorem dX7_swap_0 : decode cX7_swap 0 = .ok (.aload_n 0, 1) := by decide +kernel
theorem dX7_swap_1 : decode cX7_swap 1 = .ok (.getfield 27, 3) := by decide +kernel
theorem dX7_swap_4 : decode cX7_swap 4 = .ok (.getfield 116, 3) := by decide +kernel
theorem dX7_swap_7 : decode cX7_swap 7 = .ok (.istore_n 2, 1) := by decide +kernel
theorem dX7_swap_8 : decode cX7_swap 8 = .ok (.aload_n 0, 1) := by decide +kernel
theorem dX7_swap_9 : decode cX7_swap 9 = .ok (.getfield 27, 3) := by decide +kernel
theorem dX7_swap_12 : decode cX7_swap 12 = .ok (.iload_n 1, 1) := by decide +kernel
theorem dX7_swap_13 : decode cX7_swap 13 = .ok (.putfield 116, 3) := by decide +kernel
theorem dX7_swap_16 : decode cX7_swap 16 = .ok (.iload_n 2, 1) := by decide +kernel
theorem dX7_swap_17 : decode cX7_swap 17 = .ok (.ireturn, 1) := by decide +kernel
theorem dX7_seed_0 : decode cX7_seed 0 = .ok (.iload_n 1, 1) := by decide +kernel
theorem dX7_seed_1 : decode cX7_seed 1 = .ok (.ifCond .ge 13, 3) := by decide +kernel
theorem dX7_seed_4 : decode cX7_seed 4 = .ok (.new 65, 3) := by decide +kernel
theorem dX7_seed_7 : decode cX7_seed 7 = .ok (.dup, 1) := by decide +kernel
theorem dX7_seed_8 : decode cX7_seed 8 = .ok (.ldc 120, 2) := by decide +kernel
theorem dX7_seed_10 : decode cX7_seed 10 = .ok (.invokespecial 69, 3) := by decide +kernel
theorem dX7_seed_13 : decode cX7_seed 13 = .ok (.athrow, 1) := by decide +kernel
theorem dX7_seed_14 : decode cX7_seed 14 = .ok (.aload_n 0, 1) := by decide +kernel
theorem dX7_seed_15 : decode cX7_seed 15 = .ok (.getfield 34, 3) := by decide +kernel
theorem dX7_seed_18 : decode cX7_seed 18 = .ok (.iload_n 1, 1) := by decide +kernel
theorem dX7_seed_19 : decode cX7_seed 19 = .ok (.i2l, 1) := by decide +kernel
theorem dX7_seed_20 : decode cX7_seed 20 = .ok (.putfield 122, 3) := by decide +kernel
theorem dX7_seed_23 : decode cX7_seed 23 = .ok (.return_, 1) := by decide +kernel
theorem dX7_solve_0 : decode cX7_solve 0 = .ok (.iload_n 1, 1) := by decide +kernel
theorem dX7_solve_1 : decode cX7_solve 1 = .ok (.ifCond .lt 8, 3) := by decide +kernel
theorem dX7_solve_4 : decode cX7_solve 4 = .ok (.iload_n 1, 1) := by decide +kernel
theorem dX7_solve_5 : decode cX7_solve 5 = .ok (.iconst 5, 1) := by decide +kernel
theorem dX7_solve_6 : decode cX7_solve 6 = .ok (.if_icmp .le 13, 3) := by decide +kernel
theorem dX7_solve_9 : decode cX7_solve 9 = .ok (.new 65, 3) := by decide +kernel
theorem dX7_solve_12 : decode cX7_solve 12 = .ok (.dup, 1) := by decide +kernel
theorem dX7_solve_13 : decode cX7_solve 13 = .ok (.ldc 126, 2) := by decide +kernel
theorem dX7_solve_15 : decode cX7_solve 15 = .ok (.invokespecial 69, 3) := by decide +kernel
theorem dX7_solve_18 : decode cX7_solve 18 = .ok (.athrow, 1) := by decide +kernel
theorem dX7_solve_19 : decode cX7_solve 19 = .ok (.aload_n 0, 1) := by decide +kernel
theorem dX7_solve_20 : decode cX7_solve 20 = .ok (.invokevirtual 128, 3) := by decide +kernel
theorem dX7_solve_23 : decode cX7_solve 23 = .ok (.aload_n 0, 1) := by decide +kernel
theorem dX7_solve_24 : decode cX7_solve 24 = .ok (.getfield 61, 3) := by decide +kernel
theorem dX7_solve_27 : decode cX7_solve 27 = .ok (.invokevirtual 75, 3) := by decide +kernel
theorem dX7_solve_30 : decode cX7_solve 30 = .ok (.aload_n 0, 1) := by decide +kernel
theorem dX7_solve_31 : decode cX7_solve 31 = .ok (.getfield 48, 3) := by decide +kernel
theorem dX7_solve_34 : decode cX7_solve 34 = .ok (.aload_n 0, 1) := by decide +kernel
theorem dX7_solve_35 : decode cX7_solve 35 = .ok (.getfield 61, 3) := by decide +kernel
theorem dX7_solve_38 : decode cX7_solve 38 = .ok (.iload_n 1, 1) := by decide +kernel
theorem dX7_solve_39 : decode cX7_solve 39 = .ok (.invokeinterface 131 3, 5) := by decide +kernel
theorem dX7_solve_44 : decode cX7_solve 44 = .ok (.aload_n 0, 1) := by decide +kernel
theorem dX7_solve_45 : decode cX7_solve 45 = .ok (.getfield 61, 3) := by decide +kernel
theorem dX7_solve_48 : decode cX7_solve 48 = .ok (.getfield 137, 3) := by decide +kernel
theorem dX7_solve_51 : decode cX7_solve 51 = .ok (.ireturn, 1) := by decide +kernel
theorem dX7_exact_0 : decode cX7_exact 0 = .ok (.aload_n 0, 1) := by decide +kernel
theorem dX7_exact_1 : decode cX7_exact 1 = .ok (.getfield 18, 3) := by decide +kernel
theorem dX7_exact_4 : decode cX7_exact 4 = .ok (.iconst 2, 1) := by decide +kernel
theorem dX7_exact_5 : decode cX7_exact 5 = .ok (.if_icmp .gt 17, 3) := by decide +kernel
theorem dX7_exact_8 : decode cX7_exact 8 = .ok (.aload_n 0, 1) := by decide +kernel
theorem dX7_exact_9 : decode cX7_exact 9 = .ok (.getfield 61, 3) := by decide +kernel
theorem dX7_exact_12 : decode cX7_exact 12 = .ok (.invokevirtual 140, 3) := by decide +kernel
theorem dX7_exact_15 : decode cX7_exact 15 = .ok (.ifCond .eq 7, 3) := by decide +kernel
theorem dX7_exact_18 : decode cX7_exact 18 = .ok (.iconst 1, 1) := by decide +kernel
theorem dX7_exact_19 : decode cX7_exact 19 = .ok (.goto 4, 3) := by decide +kernel
theorem dX7_exact_22 : decode cX7_exact 22 = .ok (.iconst 0, 1) := by decide +kernel
theorem dX7_exact_23 : decode cX7_exact 23 = .ok (.ireturn, 1) := by decide +kernel
theorem dX7_at_0 : decode cX7_at 0 = .ok (.aload_n 0, 1) := by decide +kernel
theorem dX7_at_1 : decode cX7_at 1 = .ok (.iload_n 1, 1) := by decide +kernel
theorem dX7_at_2 : decode cX7_at 2 = .ok (.invokevirtual 144, 3) := by decide +kernel
theorem dX7_at_5 : decode cX7_at 5 = .ok (.iload_n 2, 1) := by decide +kernel
theorem dX7_at_6 : decode cX7_at 6 = .ok (.ifCond .lt 12, 3) := by decide +kernel
theorem dX7_at_9 : decode cX7_at 9 = .ok (.iload_n 3, 1) := by decide +kernel
theorem dX7_at_10 : decode cX7_at 10 = .ok (.ifCond .lt 8, 3) := by decide +kernel
theorem dX7_at_13 : decode cX7_at 13 = .ok (.iload_n 3, 1) := by decide +kernel
theorem dX7_at_14 : decode cX7_at 14 = .ok (.iconst 1, 1) := by decide +kernel
theorem dX7_at_15 : decode cX7_at 15 = .ok (.if_icmp .le 13, 3) := by decide +kernel
theorem dX7_at_18 : decode cX7_at 18 = .ok (.new 65, 3) := by decide +kernel
theorem dX7_at_21 : decode cX7_at 21 = .ok (.dup, 1) := by decide +kernel
theorem dX7_at_22 : decode cX7_at 22 = .ok (.ldc 147, 2) := by decide +kernel
theorem dX7_at_24 : decode cX7_at 24 = .ok (.invokespecial 69, 3) := by decide +kernel
theorem dX7_at_27 : decode cX7_at 27 = .ok (.athrow, 1) := by decide +kernel
theorem dX7_at_28 : decode cX7_at 28 = .ok (.aload_n 0, 1) := by decide +kernel
theorem dX7_at_29 : decode cX7_at 29 = .ok (.invokevirtual 149, 3) := by decide +kernel
theorem dX7_at_32 : decode cX7_at 32 = .ok (.aload_n 0, 1) := by decide +kernel
theorem dX7_at_33 : decode cX7_at 33 = .ok (.getfield 61, 3) := by decide +kernel
theorem dX7_at_36 : decode cX7_at 36 = .ok (.iload_n 1, 1) := by decide +kernel
theorem dX7_at_37 : decode cX7_at 37 = .ok (.iload_n 2, 1) := by decide +kernel
theorem dX7_at_38 : decode cX7_at 38 = .ok (.aload_n 0, 1) := by decide +kernel
theorem dX7_at_39 : decode cX7_at 39 = .ok (.getfield 61, 3) := by decide +kernel
theorem dX7_at_42 : decode cX7_at 42 = .ok (.getfield 152, 3) := by decide +kernel
theorem dX7_at_45 : decode cX7_at 45 = .ok (.invokestatic 9, 3) := by decide +kernel
theorem dX7_at_48 : decode cX7_at 48 = .ok (.invokevirtual 155, 3) := by decide +kernel
theorem dX7_at_51 : decode cX7_at 51 = .ok (.istore 4, 2) := by decide +kernel
theorem dX7_at_53 : decode cX7_at 53 = .ok (.iload_n 3, 1) := by decide +kernel
theorem dX7_at_54 : decode cX7_at 54 = .ok (.ifCond .ne 11, 3) := by decide +kernel
theorem dX7_at_57 : decode cX7_at 57 = .ok (.iload 4, 2) := by decide +kernel
theorem dX7_at_59 : decode cX7_at 59 = .ok (.bipush 6, 2) := by decide +kernel
theorem dX7_at_61 : decode cX7_at 61 = .ok (.irem, 1) := by decide +kernel
theorem dX7_at_62 : decode cX7_at 62 = .ok (.goto 8, 3) := by decide +kernel
theorem dX7_at_65 : decode cX7_at 65 = .ok (.iload 4, 2) := by decide +kernel
theorem dX7_at_67 : decode cX7_at 67 = .ok (.bipush 6, 2) := by decide +kernel
theorem dX7_at_69 : decode cX7_at 69 = .ok (.idiv, 1) := by decide +kernel
theorem dX7_at_70 : decode cX7_at 70 = .ok (.ireturn, 1) := by decide +kernel
theorem dX7_last_0 : decode cX7_last 0 = .ok (.aload_n 0, 1) := by decide +kernel
theorem dX7_last_1 : decode cX7_last 1 = .ok (.invokevirtual 149, 3) := by decide +kernel
theorem dX7_last_4 : decode cX7_last 4 = .ok (.aload_n 0, 1) := by decide +kernel
theorem dX7_last_5 : decode cX7_last 5 = .ok (.getfield 61, 3) := by decide +kernel
theorem dX7_last_8 : decode cX7_last 8 = .ok (.getfield 152, 3) := by decide +kernel
theorem dX7_last_11 : decode cX7_last 11 = .ok (.ireturn, 1) := by decide +kernel
theorem dX7_alone_0 : decode cX7_alone 0 = .ok (.aload_n 0, 1) := by decide +kernel
theorem dX7_alone_1 : decode cX7_alone 1 = .ok (.iload_n 1, 1) := by decide +kernel
theorem dX7_alone_2 : decode cX7_alone 2 = .ok (.invokevirtual 144, 3) := by decide +kernel
theorem dX7_alone_5 : decode cX7_alone 5 = .ok (.aload_n 0, 1) := by decide +kernel
theorem dX7_alone_6 : decode cX7_alone 6 = .ok (.getfield 27, 3) := by decide +kernel
theorem dX7_alone_9 : decode cX7_alone 9 = .ok (.iload_n 1, 1) := by decide +kernel
theorem dX7_alone_10 : decode cX7_alone 10 = .ok (.invokevirtual 158, 3) := by decide +kernel
theorem dX7_alone_13 : decode cX7_alone 13 = .ok (.ifCond .ne 13, 3) := by decide +kernel
theorem dX7_alone_16 : decode cX7_alone 16 = .ok (.new 103, 3) := by decide +kernel
theorem dX7_alone_19 : decode cX7_alone 19 = .ok (.dup, 1) := by decide +kernel
theorem dX7_alone_20 : decode cX7_alone 20 = .ok (.ldc 162, 2) := by decide +kernel
theorem dX7_alone_22 : decode cX7_alone 22 = .ok (.invokespecial 107, 3) := by decide +kernel
theorem dX7_alone_25 : decode cX7_alone 25 = .ok (.athrow, 1) := by decide +kernel
theorem dX7_alone_26 : decode cX7_alone 26 = .ok (.aload_n 0, 1) := by decide +kernel
theorem dX7_alone_27 : decode cX7_alone 27 = .ok (.getfield 27, 3) := by decide +kernel
theorem dX7_alone_30 : decode cX7_alone 30 = .ok (.iload_n 1, 1) := by decide +kernel
theorem dX7_alone_31 : decode cX7_alone 31 = .ok (.invokevirtual 164, 3) := by decide +kernel
theorem dX7_alone_34 : decode cX7_alone 34 = .ok (.ireturn, 1) := by decide +kernel
theorem dX7_bound_0 : decode cX7_bound 0 = .ok (.aload_n 0, 1) := by decide +kernel
theorem dX7_bound_1 : decode cX7_bound 1 = .ok (.invokevirtual 128, 3) := by decide +kernel
theorem dX7_bound_4 : decode cX7_bound 4 = .ok (.aload_n 0, 1) := by decide +kernel
theorem dX7_bound_5 : decode cX7_bound 5 = .ok (.getfield 27, 3) := by decide +kernel
theorem dX7_bound_8 : decode cX7_bound 8 = .ok (.invokevirtual 167, 3) := by decide +kernel
theorem dX7_bound_11 : decode cX7_bound 11 = .ok (.ireturn, 1) := by decide +kernel
theorem dX7_share_0 : decode cX7_share 0 = .ok (.aload_n 0, 1) := by decide +kernel
theorem dX7_share_1 : decode cX7_share 1 = .ok (.invokevirtual 149, 3) := by decide +kernel
theorem dX7_share_4 : decode cX7_share 4 = .ok (.aload_n 0, 1) := by decide +kernel
theorem dX7_share_5 : decode cX7_share 5 = .ok (.invokevirtual 128, 3) := by decide +kernel
theorem dX7_share_8 : decode cX7_share 8 = .ok (.aload_n 0, 1) := by decide +kernel
theorem dX7_share_9 : decode cX7_share 9 = .ok (.getfield 61, 3) := by decide +kernel
theorem dX7_share_12 : decode cX7_share 12 = .ok (.getfield 137, 3) := by decide +kernel
theorem dX7_share_15 : decode cX7_share 15 = .ok (.istore_n 1, 1) := by decide +kernel
theorem dX7_share_16 : decode cX7_share 16 = .ok (.iload_n 1, 1) := by decide +kernel
theorem dX7_share_17 : decode cX7_share 17 = .ok (.ifCond .ne 13, 3) := by decide +kernel
theorem dX7_share_20 : decode cX7_share 20 = .ok (.new 171, 3) := by decide +kernel
theorem dX7_share_23 : decode cX7_share 23 = .ok (.dup, 1) := by decide +kernel
theorem dX7_share_24 : decode cX7_share 24 = .ok (.ldc 173, 2) := by decide +kernel
theorem dX7_share_26 : decode cX7_share 26 = .ok (.invokespecial 175, 3) := by decide +kernel
theorem dX7_share_29 : decode cX7_share 29 = .ok (.athrow, 1) := by decide +kernel
theorem dX7_share_30 : decode cX7_share 30 = .ok (.bipush 100, 2) := by decide +kernel
theorem dX7_share_32 : decode cX7_share 32 = .ok (.aload_n 0, 1) := by decide +kernel
theorem dX7_share_33 : decode cX7_share 33 = .ok (.getfield 27, 3) := by decide +kernel
theorem dX7_share_36 : decode cX7_share 36 = .ok (.invokevirtual 167, 3) := by decide +kernel
theorem dX7_share_39 : decode cX7_share 39 = .ok (.imul, 1) := by decide +kernel
theorem dX7_share_40 : decode cX7_share 40 = .ok (.iload_n 1, 1) := by decide +kernel
theorem dX7_share_41 : decode cX7_share 41 = .ok (.idiv, 1) := by decide +kernel
theorem dX7_share_42 : decode cX7_share 42 = .ok (.ireturn, 1) := by decide +kernel
theorem dX7_count_0 : decode cX7_count 0 = .ok (.iload_n 1, 1) := by decide +kernel
theorem dX7_count_1 : decode cX7_count 1 = .ok (.tableswitch 81 0 4 #[35, 40, 51, 62, 73], 35) := by decide +kernel
theorem dX7_count_36 : decode cX7_count 36 = .ok (.aload_n 0, 1) := by decide +kernel
theorem dX7_count_37 : decode cX7_count 37 = .ok (.getfield 18, 3) := by decide +kernel
theorem dX7_count_40 : decode cX7_count 40 = .ok (.ireturn, 1) := by decide +kernel
theorem dX7_count_41 : decode cX7_count 41 = .ok (.aload_n 0, 1) := by decide +kernel
theorem dX7_count_42 : decode cX7_count 42 = .ok (.getfield 27, 3) := by decide +kernel
theorem dX7_count_45 : decode cX7_count 45 = .ok (.getfield 78, 3) := by decide +kernel
theorem dX7_count_48 : decode cX7_count 48 = .ok (.getfield 176, 3) := by decide +kernel
theorem dX7_count_51 : decode cX7_count 51 = .ok (.ireturn, 1) := by decide +kernel
theorem dX7_count_52 : decode cX7_count 52 = .ok (.aload_n 0, 1) := by decide +kernel
theorem dX7_count_53 : decode cX7_count 53 = .ok (.getfield 27, 3) := by decide +kernel
theorem dX7_count_56 : decode cX7_count 56 = .ok (.getfield 78, 3) := by decide +kernel
theorem dX7_count_59 : decode cX7_count 59 = .ok (.getfield 179, 3) := by decide +kernel
theorem dX7_count_62 : decode cX7_count 62 = .ok (.ireturn, 1) := by decide +kernel
theorem dX7_count_63 : decode cX7_count 63 = .ok (.aload_n 0, 1) := by decide +kernel
theorem dX7_count_64 : decode cX7_count 64 = .ok (.getfield 27, 3) := by decide +kernel
theorem dX7_count_67 : decode cX7_count 67 = .ok (.getfield 78, 3) := by decide +kernel
theorem dX7_count_70 : decode cX7_count 70 = .ok (.getfield 182, 3) := by decide +kernel
theorem dX7_count_73 : decode cX7_count 73 = .ok (.ireturn, 1) := by decide +kernel
theorem dX7_count_74 : decode cX7_count 74 = .ok (.aload_n 0, 1) := by decide +kernel
theorem dX7_count_75 : decode cX7_count 75 = .ok (.getfield 61, 3) := by decide +kernel
theorem dX7_count_78 : decode cX7_count 78 = .ok (.getfield 137, 3) := by decide +kernel
theorem dX7_count_81 : decode cX7_count 81 = .ok (.ireturn, 1) := by decide +kernel
theorem dX7_count_82 : decode cX7_count 82 = .ok (.iconst (-1), 1) := by decide +kernel
theorem dX7_count_83 : decode cX7_count 83 = .ok (.ireturn, 1) := by decide +kernel
theorem dX7_settle_0 : decode cX7_settle 0 = .ok (.aload_n 0, 1) := by decide +kernel
theorem dX7_settle_1 : decode cX7_settle 1 = .ok (.iload_n 2, 1) := by decide +kernel
theorem dX7_settle_2 : decode cX7_settle 2 = .ok (.invokevirtual 144, 3) := by decide +kernel
theorem dX7_settle_5 : decode cX7_settle 5 = .ok (.aload_n 0, 1) := by decide +kernel
theorem dX7_settle_6 : decode cX7_settle 6 = .ok (.getfield 27, 3) := by decide +kernel
theorem dX7_settle_9 : decode cX7_settle 9 = .ok (.getfield 78, 3) := by decide +kernel
theorem dX7_settle_12 : decode cX7_settle 12 = .ok (.iload_n 3, 1) := by decide +kernel
theorem dX7_settle_13 : decode cX7_settle 13 = .ok (.iload 4, 2) := by decide +kernel
theorem dX7_settle_15 : decode cX7_settle 15 = .ok (.invokevirtual 82, 3) := by decide +kernel
theorem dX7_settle_18 : decode cX7_settle 18 = .ok (.istore 5, 2) := by decide +kernel
theorem dX7_settle_20 : decode cX7_settle 20 = .ok (.iload 5, 2) := by decide +kernel
theorem dX7_settle_22 : decode cX7_settle 22 = .ok (.iconst (-1), 1) := by decide +kernel
theorem dX7_settle_23 : decode cX7_settle 23 = .ok (.if_icmp .ne 13, 3) := by decide +kernel
theorem dX7_settle_26 : decode cX7_settle 26 = .ok (.new 65, 3) := by decide +kernel
theorem dX7_settle_29 : decode cX7_settle 29 = .ok (.dup, 1) := by decide +kernel
theorem dX7_settle_30 : decode cX7_settle 30 = .ok (.ldc 89, 2) := by decide +kernel
theorem dX7_settle_32 : decode cX7_settle 32 = .ok (.invokespecial 69, 3) := by decide +kernel
theorem dX7_settle_35 : decode cX7_settle 35 = .ok (.athrow, 1) := by decide +kernel
theorem dX7_settle_36 : decode cX7_settle 36 = .ok (.aload_n 0, 1) := by decide +kernel
theorem dX7_settle_37 : decode cX7_settle 37 = .ok (.getfield 27, 3) := by decide +kernel
theorem dX7_settle_40 : decode cX7_settle 40 = .ok (.getfield 78, 3) := by decide +kernel
theorem dX7_settle_43 : decode cX7_settle 43 = .ok (.iload 5, 2) := by decide +kernel
theorem dX7_settle_45 : decode cX7_settle 45 = .ok (.invokevirtual 185, 3) := by decide +kernel
theorem dX7_settle_48 : decode cX7_settle 48 = .ok (.ifCond .eq 13, 3) := by decide +kernel
theorem dX7_settle_51 : decode cX7_settle 51 = .ok (.new 103, 3) := by decide +kernel
theorem dX7_settle_54 : decode cX7_settle 54 = .ok (.dup, 1) := by decide +kernel
theorem dX7_settle_55 : decode cX7_settle 55 = .ok (.ldc 188, 2) := by decide +kernel
theorem dX7_settle_57 : decode cX7_settle 57 = .ok (.invokespecial 107, 3) := by decide +kernel
theorem dX7_settle_60 : decode cX7_settle 60 = .ok (.athrow, 1) := by decide +kernel
theorem dX7_settle_61 : decode cX7_settle 61 = .ok (.aload_n 1, 1) := by decide +kernel
theorem dX7_settle_62 : decode cX7_settle 62 = .ok (.iload 5, 2) := by decide +kernel
theorem dX7_settle_64 : decode cX7_settle 64 = .ok (.invokestatic 96, 3) := by decide +kernel
theorem dX7_settle_67 : decode cX7_settle 67 = .ok (.istore 6, 2) := by decide +kernel
theorem dX7_settle_69 : decode cX7_settle 69 = .ok (.iload 6, 2) := by decide +kernel
theorem dX7_settle_71 : decode cX7_settle 71 = .ok (.iconst (-1), 1) := by decide +kernel
theorem dX7_settle_72 : decode cX7_settle 72 = .ok (.if_icmp .eq 11, 3) := by decide +kernel
theorem dX7_settle_75 : decode cX7_settle 75 = .ok (.iload 6, 2) := by decide +kernel
theorem dX7_settle_77 : decode cX7_settle 77 = .ok (.iload_n 2, 1) := by decide +kernel
theorem dX7_settle_78 : decode cX7_settle 78 = .ok (.if_icmp .eq 5, 3) := by decide +kernel
theorem dX7_settle_81 : decode cX7_settle 81 = .ok (.iconst 0, 1) := by decide +kernel
theorem dX7_settle_82 : decode cX7_settle 82 = .ok (.ireturn, 1) := by decide +kernel
theorem dX7_settle_83 : decode cX7_settle 83 = .ok (.aload_n 1, 1) := by decide +kernel
theorem dX7_settle_84 : decode cX7_settle 84 = .ok (.iload_n 2, 1) := by decide +kernel
theorem dX7_settle_85 : decode cX7_settle 85 = .ok (.iload 5, 2) := by decide +kernel
theorem dX7_settle_87 : decode cX7_settle 87 = .ok (.invokestatic 190, 3) := by decide +kernel
theorem dX7_settle_90 : decode cX7_settle 90 = .ok (.iconst 1, 1) := by decide +kernel
theorem dX7_settle_91 : decode cX7_settle 91 = .ok (.ireturn, 1) := by decide +kernel
theorem dX7_needRobot_0 : decode cX7_needRobot 0 = .ok (.iload_n 1, 1) := by decide +kernel
theorem dX7_needRobot_1 : decode cX7_needRobot 1 = .ok (.ifCond .lt 11, 3) := by decide +kernel
theorem dX7_needRobot_4 : decode cX7_needRobot 4 = .ok (.iload_n 1, 1) := by decide +kernel
theorem dX7_needRobot_5 : decode cX7_needRobot 5 = .ok (.aload_n 0, 1) := by decide +kernel
theorem dX7_needRobot_6 : decode cX7_needRobot 6 = .ok (.getfield 18, 3) := by decide +kernel
theorem dX7_needRobot_9 : decode cX7_needRobot 9 = .ok (.if_icmp .lt 13, 3) := by decide +kernel
theorem dX7_needRobot_12 : decode cX7_needRobot 12 = .ok (.new 65, 3) := by decide +kernel
theorem dX7_needRobot_15 : decode cX7_needRobot 15 = .ok (.dup, 1) := by decide +kernel
theorem dX7_needRobot_16 : decode cX7_needRobot 16 = .ok (.ldc 194, 2) := by decide +kernel
theorem dX7_needRobot_18 : decode cX7_needRobot 18 = .ok (.invokespecial 69, 3) := by decide +kernel
theorem dX7_needRobot_21 : decode cX7_needRobot 21 = .ok (.athrow, 1) := by decide +kernel
theorem dX7_needRobot_22 : decode cX7_needRobot 22 = .ok (.return_, 1) := by decide +kernel
theorem dX7_needComplete_0 : decode cX7_needComplete 0 = .ok (.iconst 0, 1) := by decide +kernel
theorem dX7_needComplete_1 : decode cX7_needComplete 1 = .ok (.istore_n 1, 1) := by decide +kernel
theorem dX7_needComplete_2 : decode cX7_needComplete 2 = .ok (.iload_n 1, 1) := by decide +kernel
theorem dX7_needComplete_3 : decode cX7_needComplete 3 = .ok (.aload_n 0, 1) := by decide +kernel
theorem dX7_needComplete_4 : decode cX7_needComplete 4 = .ok (.getfield 18, 3) := by decide +kernel
theorem dX7_needComplete_7 : decode cX7_needComplete 7 = .ok (.if_icmp .ge 30, 3) := by decide +kernel
theorem dX7_needComplete_10 : decode cX7_needComplete 10 = .ok (.aload_n 0, 1) := by decide +kernel
theorem dX7_needComplete_11 : decode cX7_needComplete 11 = .ok (.getfield 27, 3) := by decide +kernel
theorem dX7_needComplete_14 : decode cX7_needComplete 14 = .ok (.iload_n 1, 1) := by decide +kernel
theorem dX7_needComplete_15 : decode cX7_needComplete 15 = .ok (.invokevirtual 158, 3) := by decide +kernel
theorem dX7_needComplete_18 : decode cX7_needComplete 18 = .ok (.ifCond .ne 13, 3) := by decide +kernel
theorem dX7_needComplete_21 : decode cX7_needComplete 21 = .ok (.new 103, 3) := by decide +kernel
theorem dX7_needComplete_24 : decode cX7_needComplete 24 = .ok (.dup, 1) := by decide +kernel
theorem dX7_needComplete_25 : decode cX7_needComplete 25 = .ok (.ldc 196, 2) := by decide +kernel
theorem dX7_needComplete_27 : decode cX7_needComplete 27 = .ok (.invokespecial 107, 3) := by decide +kernel
theorem dX7_needComplete_30 : decode cX7_needComplete 30 = .ok (.athrow, 1) := by decide +kernel
theorem dX7_needComplete_31 : decode cX7_needComplete 31 = .ok (.iinc 1 1, 3) := by decide +kernel
theorem dX7_needComplete_34 : decode cX7_needComplete 34 = .ok (.goto (-32), 3) := by decide +kernel
theorem dX7_needComplete_37 : decode cX7_needComplete 37 = .ok (.return_, 1) := by decide +kernel
theorem dX7_needPlan_0 : decode cX7_needPlan 0 = .ok (.aload_n 0, 1) := by decide +kernel
theorem dX7_needPlan_1 : decode cX7_needPlan 1 = .ok (.getfield 61, 3) := by decide +kernel
theorem dX7_needPlan_4 : decode cX7_needPlan 4 = .ok (.invokevirtual 140, 3) := by decide +kernel
theorem dX7_needPlan_7 : decode cX7_needPlan 7 = .ok (.ifCond .ne 13, 3) := by decide +kernel
theorem dX7_needPlan_10 : decode cX7_needPlan 10 = .ok (.new 103, 3) := by decide +kernel
theorem dX7_needPlan_13 : decode cX7_needPlan 13 = .ok (.dup, 1) := by decide +kernel
theorem dX7_needPlan_14 : decode cX7_needPlan 14 = .ok (.ldc 198, 2) := by decide +kernel
theorem dX7_needPlan_16 : decode cX7_needPlan 16 = .ok (.invokespecial 107, 3) := by decide +kernel
theorem dX7_needPlan_19 : decode cX7_needPlan 19 = .ok (.athrow, 1) := by decide +kernel
theorem dX7_needPlan_20 : decode cX7_needPlan 20 = .ok (.return_, 1) := by decide +kernel
theorem dX7_mostSteps_0 : decode cX7_mostSteps 0 = .ok (.iload_n 0, 1) := by decide +kernel
theorem dX7_mostSteps_1 : decode cX7_mostSteps 1 = .ok (.iconst 2, 1) := by decide +kernel
theorem dX7_mostSteps_2 : decode cX7_mostSteps 2 = .ok (.if_icmp .gt 12, 3) := by decide +kernel
theorem dX7_mostSteps_5 : decode cX7_mostSteps 5 = .ok (.iload_n 0, 1) := by decide +kernel
theorem dX7_mostSteps_6 : decode cX7_mostSteps 6 = .ok (.invokestatic 200, 3) := by decide +kernel
theorem dX7_mostSteps_9 : decode cX7_mostSteps 9 = .ok (.iconst 1, 1) := by decide +kernel
theorem dX7_mostSteps_10 : decode cX7_mostSteps 10 = .ok (.isub, 1) := by decide +kernel
theorem dX7_mostSteps_11 : decode cX7_mostSteps 11 = .ok (.goto 5, 3) := by decide +kernel
theorem dX7_mostSteps_14 : decode cX7_mostSteps 14 = .ok (.bipush 40, 2) := by decide +kernel
theorem dX7_mostSteps_16 : decode cX7_mostSteps 16 = .ok (.ireturn, 1) := by decide +kernel
theorem dX7_jointStates_0 : decode cX7_jointStates 0 = .ok (.iload_n 0, 1) := by decide +kernel
theorem dX7_jointStates_1 : decode cX7_jointStates 1 = .ok (.ifCond .gt 7, 3) := by decide +kernel
theorem dX7_jointStates_4 : decode cX7_jointStates 4 = .ok (.iconst 1, 1) := by decide +kernel
theorem dX7_jointStates_5 : decode cX7_jointStates 5 = .ok (.goto 16, 3) := by decide +kernel
theorem dX7_jointStates_8 : decode cX7_jointStates 8 = .ok (.iload_n 0, 1) := by decide +kernel
theorem dX7_jointStates_9 : decode cX7_jointStates 9 = .ok (.iconst 1, 1) := by decide +kernel
theorem dX7_jointStates_10 : decode cX7_jointStates 10 = .ok (.if_icmp .ne 8, 3) := by decide +kernel
theorem dX7_jointStates_13 : decode cX7_jointStates 13 = .ok (.bipush 36, 2) := by decide +kernel
theorem dX7_jointStates_15 : decode cX7_jointStates 15 = .ok (.goto 6, 3) := by decide +kernel
theorem dX7_jointStates_18 : decode cX7_jointStates 18 = .ok (.sipush 1296, 3) := by decide +kernel
theorem dX7_jointStates_21 : decode cX7_jointStates 21 = .ok (.ireturn, 1) := by decide +kernel
theorem dX7_ownerOf_0 : decode cX7_ownerOf 0 = .ok (.iconst 0, 1) := by decide +kernel
theorem dX7_ownerOf_1 : decode cX7_ownerOf 1 = .ok (.istore_n 2, 1) := by decide +kernel
theorem dX7_ownerOf_2 : decode cX7_ownerOf 2 = .ok (.iload_n 2, 1) := by decide +kernel
theorem dX7_ownerOf_3 : decode cX7_ownerOf 3 = .ok (.aload_n 0, 1) := by decide +kernel
theorem dX7_ownerOf_4 : decode cX7_ownerOf 4 = .ok (.arraylength, 1) := by decide +kernel
theorem dX7_ownerOf_5 : decode cX7_ownerOf 5 = .ok (.if_icmp .ge 18, 3) := by decide +kernel
theorem dX7_ownerOf_8 : decode cX7_ownerOf 8 = .ok (.aload_n 0, 1) := by decide +kernel
theorem dX7_ownerOf_9 : decode cX7_ownerOf 9 = .ok (.iload_n 2, 1) := by decide +kernel
theorem dX7_ownerOf_10 : decode cX7_ownerOf 10 = .ok (.iaload, 1) := by decide +kernel
theorem dX7_ownerOf_11 : decode cX7_ownerOf 11 = .ok (.iload_n 1, 1) := by decide +kernel
theorem dX7_ownerOf_12 : decode cX7_ownerOf 12 = .ok (.if_icmp .ne 5, 3) := by decide +kernel
theorem dX7_ownerOf_15 : decode cX7_ownerOf 15 = .ok (.iload_n 2, 1) := by decide +kernel
theorem dX7_ownerOf_16 : decode cX7_ownerOf 16 = .ok (.ireturn, 1) := by decide +kernel
theorem dX7_ownerOf_17 : decode cX7_ownerOf 17 = .ok (.iinc 2 1, 3) := by decide +kernel
theorem dX7_ownerOf_20 : decode cX7_ownerOf 20 = .ok (.goto (-18), 3) := by decide +kernel
theorem dX7_ownerOf_23 : decode cX7_ownerOf 23 = .ok (.iconst (-1), 1) := by decide +kernel
theorem dX7_ownerOf_24 : decode cX7_ownerOf 24 = .ok (.ireturn, 1) := by decide +kernel
theorem dX7_ownCost_0 : decode cX7_ownCost 0 = .ok (.iload_n 0, 1) := by decide +kernel
theorem dX7_ownCost_1 : decode cX7_ownCost 1 = .ok (.iload_n 1, 1) := by decide +kernel
theorem dX7_ownCost_2 : decode cX7_ownCost 2 = .ok (.if_icmp .ne 12, 3) := by decide +kernel
theorem dX7_ownCost_5 : decode cX7_ownCost 5 = .ok (.iload_n 1, 1) := by decide +kernel
theorem dX7_ownCost_6 : decode cX7_ownCost 6 = .ok (.iload_n 2, 1) := by decide +kernel
theorem dX7_ownCost_7 : decode cX7_ownCost 7 = .ok (.if_icmp .ne 7, 3) := by decide +kernel
theorem dX7_ownCost_10 : decode cX7_ownCost 10 = .ok (.iconst 0, 1) := by decide +kernel
theorem dX7_ownCost_11 : decode cX7_ownCost 11 = .ok (.goto 4, 3) := by decide +kernel
theorem dX7_ownCost_14 : decode cX7_ownCost 14 = .ok (.iconst 1, 1) := by decide +kernel
theorem dX7_ownCost_15 : decode cX7_ownCost 15 = .ok (.ireturn, 1) := by decide +kernel
theorem dX7_read_0 : decode cX7_read 0 = .ok (.iload_n 1, 1) := by decide +kernel
theorem dX7_read_1 : decode cX7_read 1 = .ok (.ifCond .lt 15, 3) := by decide +kernel
theorem dX7_read_4 : decode cX7_read 4 = .ok (.iload_n 1, 1) := by decide +kernel
theorem dX7_read_5 : decode cX7_read 5 = .ok (.aload_n 0, 1) := by decide +kernel
theorem dX7_read_6 : decode cX7_read 6 = .ok (.arraylength, 1) := by decide +kernel
theorem dX7_read_7 : decode cX7_read 7 = .ok (.if_icmp .ge 9, 3) := by decide +kernel
theorem dX7_read_10 : decode cX7_read 10 = .ok (.aload_n 0, 1) := by decide +kernel
theorem dX7_read_11 : decode cX7_read 11 = .ok (.iload_n 1, 1) := by decide +kernel
theorem dX7_read_12 : decode cX7_read 12 = .ok (.iaload, 1) := by decide +kernel
theorem dX7_read_13 : decode cX7_read 13 = .ok (.goto 4, 3) := by decide +kernel
theorem dX7_read_16 : decode cX7_read 16 = .ok (.iconst (-1), 1) := by decide +kernel
theorem dX7_read_17 : decode cX7_read 17 = .ok (.ireturn, 1) := by decide +kernel
theorem dX7_write_0 : decode cX7_write 0 = .ok (.iload_n 1, 1) := by decide +kernel
theorem dX7_write_1 : decode cX7_write 1 = .ok (.ifCond .lt 13, 3) := by decide +kernel
theorem dX7_write_4 : decode cX7_write 4 = .ok (.iload_n 1, 1) := by decide +kernel
theorem dX7_write_5 : decode cX7_write 5 = .ok (.aload_n 0, 1) := by decide +kernel
theorem dX7_write_6 : decode cX7_write 6 = .ok (.arraylength, 1) := by decide +kernel
theorem dX7_write_7 : decode cX7_write 7 = .ok (.if_icmp .ge 7, 3) := by decide +kernel
theorem dX7_write_10 : decode cX7_write 10 = .ok (.aload_n 0, 1) := by decide +kernel
theorem dX7_write_11 : decode cX7_write 11 = .ok (.iload_n 1, 1) := by decide +kernel
theorem dX7_write_12 : decode cX7_write 12 = .ok (.iload_n 2, 1) := by decide +kernel
theorem dX7_write_13 : decode cX7_write 13 = .ok (.iastore, 1) := by decide +kernel
theorem dX7_write_14 : decode cX7_write 14 = .ok (.return_, 1) := by decide +kernel
end
section
theorem dL_cell_0 : decode cL_cell 0 = .ok (.iload_n 1, 1) := by decide +kernel
theorem dL_cell_1 : decode cL_cell 1 = .ok (.aload_n 0, 1) := by decide +kernel
theorem dL_cell_2 : decode cL_cell 2 = .ok (.arraylength, 1) := by decide +kernel
theorem dL_cell_3 : decode cL_cell 3 = .ok (.if_icmp .ge 9, 3) := by decide +kernel
theorem dL_cell_6 : decode cL_cell 6 = .ok (.aload_n 0, 1) := by decide +kernel
theorem dL_cell_7 : decode cL_cell 7 = .ok (.iload_n 1, 1) := by decide +kernel
theorem dL_cell_8 : decode cL_cell 8 = .ok (.iaload, 1) := by decide +kernel
theorem dL_cell_9 : decode cL_cell 9 = .ok (.goto 4, 3) := by decide +kernel
theorem dL_cell_12 : decode cL_cell 12 = .ok (.iconst 0, 1) := by decide +kernel
theorem dL_cell_13 : decode cL_cell 13 = .ok (.ireturn, 1) := by decide +kernel
theorem dL_grid_0 : decode cL_grid 0 = .ok (.aload_n 0, 1) := by decide +kernel
theorem dL_grid_1 : decode cL_grid 1 = .ok (.iload_n 1, 1) := by decide +kernel
theorem dL_grid_2 : decode cL_grid 2 = .ok (.iload_n 2, 1) := by decide +kernel
theorem dL_grid_3 : decode cL_grid 3 = .ok (.invokevirtual 7, 3) := by decide +kernel
theorem dL_grid_6 : decode cL_grid 6 = .ok (.goto 6, 3) := by decide +kernel
theorem dL_grid_9 : decode cL_grid 9 = .ok (.astore_n 3, 1) := by decide +kernel
theorem dL_grid_10 : decode cL_grid 10 = .ok (.iconst 1, 1) := by decide +kernel
theorem dL_grid_11 : decode cL_grid 11 = .ok (.ireturn, 1) := by decide +kernel
theorem dL_grid_12 : decode cL_grid 12 = .ok (.iconst 0, 1) := by decide +kernel
theorem dL_grid_13 : decode cL_grid 13 = .ok (.ireturn, 1) := by decide +kernel
theorem dL_wall_0 : decode cL_wall 0 = .ok (.aload 4, 2) := by decide +kernel
theorem dL_wall_2 : decode cL_wall 2 = .ok (.iconst 0, 1) := by decide +kernel
theorem dL_wall_3 : decode cL_wall 3 = .ok (.aload_n 0, 1) := by decide +kernel
theorem dL_wall_4 : decode cL_wall 4 = .ok (.iload_n 1, 1) := by decide +kernel
theorem dL_wall_5 : decode cL_wall 5 = .ok (.iload_n 2, 1) := by decide +kernel
theorem dL_wall_6 : decode cL_wall 6 = .ok (.iload_n 3, 1) := by decide +kernel
theorem dL_wall_7 : decode cL_wall 7 = .ok (.invokevirtual 15, 3) := by decide +kernel
theorem dL_wall_10 : decode cL_wall 10 = .ok (.ifCond .eq 7, 3) := by decide +kernel
theorem dL_wall_13 : decode cL_wall 13 = .ok (.lconst 1, 1) := by decide +kernel
theorem dL_wall_14 : decode cL_wall 14 = .ok (.goto 4, 3) := by decide +kernel
theorem dL_wall_17 : decode cL_wall 17 = .ok (.lconst 0, 1) := by decide +kernel
theorem dL_wall_18 : decode cL_wall 18 = .ok (.lastore, 1) := by decide +kernel
theorem dL_wall_19 : decode cL_wall 19 = .ok (.goto 11, 3) := by decide +kernel
theorem dL_wall_22 : decode cL_wall 22 = .ok (.astore 5, 2) := by decide +kernel
theorem dL_wall_24 : decode cL_wall 24 = .ok (.iconst 1, 1) := by decide +kernel
theorem dL_wall_25 : decode cL_wall 25 = .ok (.ireturn, 1) := by decide +kernel
theorem dL_wall_26 : decode cL_wall 26 = .ok (.astore 5, 2) := by decide +kernel
theorem dL_wall_28 : decode cL_wall 28 = .ok (.iconst 2, 1) := by decide +kernel
theorem dL_wall_29 : decode cL_wall 29 = .ok (.ireturn, 1) := by decide +kernel
theorem dL_wall_30 : decode cL_wall 30 = .ok (.iconst 0, 1) := by decide +kernel
theorem dL_wall_31 : decode cL_wall 31 = .ok (.ireturn, 1) := by decide +kernel
theorem dL_start_0 : decode cL_start 0 = .ok (.aload 4, 2) := by decide +kernel
theorem dL_start_2 : decode cL_start 2 = .ok (.iconst 0, 1) := by decide +kernel
theorem dL_start_3 : decode cL_start 3 = .ok (.aload_n 0, 1) := by decide +kernel
theorem dL_start_4 : decode cL_start 4 = .ok (.iload_n 1, 1) := by decide +kernel
theorem dL_start_5 : decode cL_start 5 = .ok (.iload_n 2, 1) := by decide +kernel
theorem dL_start_6 : decode cL_start 6 = .ok (.iload_n 3, 1) := by decide +kernel
theorem dL_start_7 : decode cL_start 7 = .ok (.invokevirtual 23, 3) := by decide +kernel
theorem dL_start_10 : decode cL_start 10 = .ok (.ifCond .eq 7, 3) := by decide +kernel
theorem dL_start_13 : decode cL_start 13 = .ok (.lconst 1, 1) := by decide +kernel
theorem dL_start_14 : decode cL_start 14 = .ok (.goto 4, 3) := by decide +kernel
theorem dL_start_17 : decode cL_start 17 = .ok (.lconst 0, 1) := by decide +kernel
theorem dL_start_18 : decode cL_start 18 = .ok (.lastore, 1) := by decide +kernel
theorem dL_start_19 : decode cL_start 19 = .ok (.goto 11, 3) := by decide +kernel
theorem dL_start_22 : decode cL_start 22 = .ok (.astore 5, 2) := by decide +kernel
theorem dL_start_24 : decode cL_start 24 = .ok (.iconst 1, 1) := by decide +kernel
theorem dL_start_25 : decode cL_start 25 = .ok (.ireturn, 1) := by decide +kernel
theorem dL_start_26 : decode cL_start 26 = .ok (.astore 5, 2) := by decide +kernel
theorem dL_start_28 : decode cL_start 28 = .ok (.iconst 2, 1) := by decide +kernel
theorem dL_start_29 : decode cL_start 29 = .ok (.ireturn, 1) := by decide +kernel
theorem dL_start_30 : decode cL_start 30 = .ok (.iconst 0, 1) := by decide +kernel
theorem dL_start_31 : decode cL_start 31 = .ok (.ireturn, 1) := by decide +kernel
theorem dL_end_0 : decode cL_end 0 = .ok (.aload 4, 2) := by decide +kernel
theorem dL_end_2 : decode cL_end 2 = .ok (.iconst 0, 1) := by decide +kernel
theorem dL_end_3 : decode cL_end 3 = .ok (.aload_n 0, 1) := by decide +kernel
theorem dL_end_4 : decode cL_end 4 = .ok (.iload_n 1, 1) := by decide +kernel
theorem dL_end_5 : decode cL_end 5 = .ok (.iload_n 2, 1) := by decide +kernel
theorem dL_end_6 : decode cL_end 6 = .ok (.iload_n 3, 1) := by decide +kernel
theorem dL_end_7 : decode cL_end 7 = .ok (.invokevirtual 27, 3) := by decide +kernel
theorem dL_end_10 : decode cL_end 10 = .ok (.ifCond .eq 7, 3) := by decide +kernel
theorem dL_end_13 : decode cL_end 13 = .ok (.lconst 1, 1) := by decide +kernel
theorem dL_end_14 : decode cL_end 14 = .ok (.goto 4, 3) := by decide +kernel
theorem dL_end_17 : decode cL_end 17 = .ok (.lconst 0, 1) := by decide +kernel
theorem dL_end_18 : decode cL_end 18 = .ok (.lastore, 1) := by decide +kernel
theorem dL_end_19 : decode cL_end 19 = .ok (.goto 11, 3) := by decide +kernel
theorem dL_end_22 : decode cL_end 22 = .ok (.astore 5, 2) := by decide +kernel
theorem dL_end_24 : decode cL_end 24 = .ok (.iconst 1, 1) := by decide +kernel
theorem dL_end_25 : decode cL_end 25 = .ok (.ireturn, 1) := by decide +kernel
theorem dL_end_26 : decode cL_end 26 = .ok (.astore 5, 2) := by decide +kernel
theorem dL_end_28 : decode cL_end 28 = .ok (.iconst 2, 1) := by decide +kernel
theorem dL_end_29 : decode cL_end 29 = .ok (.ireturn, 1) := by decide +kernel
theorem dL_end_30 : decode cL_end 30 = .ok (.iconst 0, 1) := by decide +kernel
theorem dL_end_31 : decode cL_end 31 = .ok (.ireturn, 1) := by decide +kernel
theorem dL_seed_0 : decode cL_seed 0 = .ok (.aload_n 0, 1) := by decide +kernel
theorem dL_seed_1 : decode cL_seed 1 = .ok (.iload_n 1, 1) := by decide +kernel
theorem dL_seed_2 : decode cL_seed 2 = .ok (.invokevirtual 30, 3) := by decide +kernel
theorem dL_seed_5 : decode cL_seed 5 = .ok (.goto 6, 3) := by decide +kernel
theorem dL_seed_8 : decode cL_seed 8 = .ok (.astore_n 2, 1) := by decide +kernel
theorem dL_seed_9 : decode cL_seed 9 = .ok (.iconst 1, 1) := by decide +kernel
theorem dL_seed_10 : decode cL_seed 10 = .ok (.ireturn, 1) := by decide +kernel
theorem dL_seed_11 : decode cL_seed 11 = .ok (.iconst 0, 1) := by decide +kernel
theorem dL_seed_12 : decode cL_seed 12 = .ok (.ireturn, 1) := by decide +kernel
theorem dL_solve_0 : decode cL_solve 0 = .ok (.aload_n 2, 1) := by decide +kernel
theorem dL_solve_1 : decode cL_solve 1 = .ok (.iconst 0, 1) := by decide +kernel
theorem dL_solve_2 : decode cL_solve 2 = .ok (.aload_n 0, 1) := by decide +kernel
theorem dL_solve_3 : decode cL_solve 3 = .ok (.iload_n 1, 1) := by decide +kernel
theorem dL_solve_4 : decode cL_solve 4 = .ok (.invokevirtual 34, 3) := by decide +kernel
theorem dL_solve_7 : decode cL_solve 7 = .ok (.i2l, 1) := by decide +kernel
theorem dL_solve_8 : decode cL_solve 8 = .ok (.lastore, 1) := by decide +kernel
theorem dL_solve_9 : decode cL_solve 9 = .ok (.goto 9, 3) := by decide +kernel
theorem dL_solve_12 : decode cL_solve 12 = .ok (.astore_n 3, 1) := by decide +kernel
theorem dL_solve_13 : decode cL_solve 13 = .ok (.iconst 1, 1) := by decide +kernel
theorem dL_solve_14 : decode cL_solve 14 = .ok (.ireturn, 1) := by decide +kernel
theorem dL_solve_15 : decode cL_solve 15 = .ok (.astore_n 3, 1) := by decide +kernel
theorem dL_solve_16 : decode cL_solve 16 = .ok (.iconst 2, 1) := by decide +kernel
theorem dL_solve_17 : decode cL_solve 17 = .ok (.ireturn, 1) := by decide +kernel
theorem dL_solve_18 : decode cL_solve 18 = .ok (.iconst 0, 1) := by decide +kernel
theorem dL_solve_19 : decode cL_solve 19 = .ok (.ireturn, 1) := by decide +kernel
theorem dL_at_0 : decode cL_at 0 = .ok (.aload 4, 2) := by decide +kernel
theorem dL_at_2 : decode cL_at 2 = .ok (.iconst 0, 1) := by decide +kernel
theorem dL_at_3 : decode cL_at 3 = .ok (.aload_n 0, 1) := by decide +kernel
theorem dL_at_4 : decode cL_at 4 = .ok (.iload_n 1, 1) := by decide +kernel
theorem dL_at_5 : decode cL_at 5 = .ok (.iload_n 2, 1) := by decide +kernel
theorem dL_at_6 : decode cL_at 6 = .ok (.iload_n 3, 1) := by decide +kernel
theorem dL_at_7 : decode cL_at 7 = .ok (.invokevirtual 38, 3) := by decide +kernel
theorem dL_at_10 : decode cL_at 10 = .ok (.i2l, 1) := by decide +kernel
theorem dL_at_11 : decode cL_at 11 = .ok (.lastore, 1) := by decide +kernel
theorem dL_at_12 : decode cL_at 12 = .ok (.goto 11, 3) := by decide +kernel
theorem dL_at_15 : decode cL_at 15 = .ok (.astore 5, 2) := by decide +kernel
theorem dL_at_17 : decode cL_at 17 = .ok (.iconst 1, 1) := by decide +kernel
theorem dL_at_18 : decode cL_at 18 = .ok (.ireturn, 1) := by decide +kernel
theorem dL_at_19 : decode cL_at 19 = .ok (.astore 5, 2) := by decide +kernel
theorem dL_at_21 : decode cL_at 21 = .ok (.iconst 2, 1) := by decide +kernel
theorem dL_at_22 : decode cL_at 22 = .ok (.ireturn, 1) := by decide +kernel
theorem dL_at_23 : decode cL_at 23 = .ok (.iconst 0, 1) := by decide +kernel
theorem dL_at_24 : decode cL_at 24 = .ok (.ireturn, 1) := by decide +kernel
theorem dL_last_0 : decode cL_last 0 = .ok (.aload_n 1, 1) := by decide +kernel
theorem dL_last_1 : decode cL_last 1 = .ok (.iconst 0, 1) := by decide +kernel
theorem dL_last_2 : decode cL_last 2 = .ok (.aload_n 0, 1) := by decide +kernel
theorem dL_last_3 : decode cL_last 3 = .ok (.invokevirtual 42, 3) := by decide +kernel
theorem dL_last_6 : decode cL_last 6 = .ok (.i2l, 1) := by decide +kernel
theorem dL_last_7 : decode cL_last 7 = .ok (.lastore, 1) := by decide +kernel
theorem dL_last_8 : decode cL_last 8 = .ok (.goto 6, 3) := by decide +kernel
theorem dL_last_11 : decode cL_last 11 = .ok (.astore_n 2, 1) := by decide +kernel
theorem dL_last_12 : decode cL_last 12 = .ok (.iconst 1, 1) := by decide +kernel
theorem dL_last_13 : decode cL_last 13 = .ok (.ireturn, 1) := by decide +kernel
theorem dL_last_14 : decode cL_last 14 = .ok (.iconst 0, 1) := by decide +kernel
theorem dL_last_15 : decode cL_last 15 = .ok (.ireturn, 1) := by decide +kernel
theorem dL_alone_0 : decode cL_alone 0 = .ok (.aload_n 2, 1) := by decide +kernel
theorem dL_alone_1 : decode cL_alone 1 = .ok (.iconst 0, 1) := by decide +kernel
theorem dL_alone_2 : decode cL_alone 2 = .ok (.aload_n 0, 1) := by decide +kernel
theorem dL_alone_3 : decode cL_alone 3 = .ok (.iload_n 1, 1) := by decide +kernel
theorem dL_alone_4 : decode cL_alone 4 = .ok (.invokevirtual 46, 3) := by decide +kernel
theorem dL_alone_7 : decode cL_alone 7 = .ok (.i2l, 1) := by decide +kernel
theorem dL_alone_8 : decode cL_alone 8 = .ok (.lastore, 1) := by decide +kernel
theorem dL_alone_9 : decode cL_alone 9 = .ok (.goto 9, 3) := by decide +kernel
theorem dL_alone_12 : decode cL_alone 12 = .ok (.astore_n 3, 1) := by decide +kernel
theorem dL_alone_13 : decode cL_alone 13 = .ok (.iconst 1, 1) := by decide +kernel
theorem dL_alone_14 : decode cL_alone 14 = .ok (.ireturn, 1) := by decide +kernel
theorem dL_alone_15 : decode cL_alone 15 = .ok (.astore_n 3, 1) := by decide +kernel
theorem dL_alone_16 : decode cL_alone 16 = .ok (.iconst 2, 1) := by decide +kernel
theorem dL_alone_17 : decode cL_alone 17 = .ok (.ireturn, 1) := by decide +kernel
theorem dL_alone_18 : decode cL_alone 18 = .ok (.iconst 0, 1) := by decide +kernel
theorem dL_alone_19 : decode cL_alone 19 = .ok (.ireturn, 1) := by decide +kernel
theorem dL_bound_0 : decode cL_bound 0 = .ok (.aload_n 1, 1) := by decide +kernel
theorem dL_bound_1 : decode cL_bound 1 = .ok (.iconst 0, 1) := by decide +kernel
theorem dL_bound_2 : decode cL_bound 2 = .ok (.aload_n 0, 1) := by decide +kernel
theorem dL_bound_3 : decode cL_bound 3 = .ok (.invokevirtual 49, 3) := by decide +kernel
theorem dL_bound_6 : decode cL_bound 6 = .ok (.i2l, 1) := by decide +kernel
theorem dL_bound_7 : decode cL_bound 7 = .ok (.lastore, 1) := by decide +kernel
theorem dL_bound_8 : decode cL_bound 8 = .ok (.goto 6, 3) := by decide +kernel
theorem dL_bound_11 : decode cL_bound 11 = .ok (.astore_n 2, 1) := by decide +kernel
theorem dL_bound_12 : decode cL_bound 12 = .ok (.iconst 1, 1) := by decide +kernel
theorem dL_bound_13 : decode cL_bound 13 = .ok (.ireturn, 1) := by decide +kernel
theorem dL_bound_14 : decode cL_bound 14 = .ok (.iconst 0, 1) := by decide +kernel
theorem dL_bound_15 : decode cL_bound 15 = .ok (.ireturn, 1) := by decide +kernel
theorem dL_share_0 : decode cL_share 0 = .ok (.aload_n 1, 1) := by decide +kernel
theorem dL_share_1 : decode cL_share 1 = .ok (.iconst 0, 1) := by decide +kernel
theorem dL_share_2 : decode cL_share 2 = .ok (.aload_n 0, 1) := by decide +kernel
theorem dL_share_3 : decode cL_share 3 = .ok (.invokevirtual 52, 3) := by decide +kernel
theorem dL_share_6 : decode cL_share 6 = .ok (.i2l, 1) := by decide +kernel
theorem dL_share_7 : decode cL_share 7 = .ok (.lastore, 1) := by decide +kernel
theorem dL_share_8 : decode cL_share 8 = .ok (.goto 9, 3) := by decide +kernel
theorem dL_share_11 : decode cL_share 11 = .ok (.astore_n 2, 1) := by decide +kernel
theorem dL_share_12 : decode cL_share 12 = .ok (.iconst 1, 1) := by decide +kernel
theorem dL_share_13 : decode cL_share 13 = .ok (.ireturn, 1) := by decide +kernel
theorem dL_share_14 : decode cL_share 14 = .ok (.astore_n 2, 1) := by decide +kernel
theorem dL_share_15 : decode cL_share 15 = .ok (.iconst 2, 1) := by decide +kernel
theorem dL_share_16 : decode cL_share 16 = .ok (.ireturn, 1) := by decide +kernel
theorem dL_share_17 : decode cL_share 17 = .ok (.iconst 0, 1) := by decide +kernel
theorem dL_share_18 : decode cL_share 18 = .ok (.ireturn, 1) := by decide +kernel
theorem dL_law_0 : decode cL_law 0 = .ok (.new 8, 3) := by decide +kernel
theorem dL_law_3 : decode cL_law 3 = .ok (.dup, 1) := by decide +kernel
theorem dL_law_4 : decode cL_law 4 = .ok (.aload_n 0, 1) := by decide +kernel
theorem dL_law_5 : decode cL_law 5 = .ok (.iconst 0, 1) := by decide +kernel
theorem dL_law_6 : decode cL_law 6 = .ok (.invokestatic 57, 3) := by decide +kernel
theorem dL_law_9 : decode cL_law 9 = .ok (.invokespecial 63, 3) := by decide +kernel
theorem dL_law_12 : decode cL_law 12 = .ok (.astore_n 1, 1) := by decide +kernel
theorem dL_law_13 : decode cL_law 13 = .ok (.new 65, 3) := by decide +kernel
theorem dL_law_16 : decode cL_law 16 = .ok (.dup, 1) := by decide +kernel
theorem dL_law_17 : decode cL_law 17 = .ok (.aload_n 0, 1) := by decide +kernel
theorem dL_law_18 : decode cL_law 18 = .ok (.iconst 0, 1) := by decide +kernel
theorem dL_law_19 : decode cL_law 19 = .ok (.invokestatic 57, 3) := by decide +kernel
theorem dL_law_22 : decode cL_law 22 = .ok (.invokespecial 67, 3) := by decide +kernel
theorem dL_law_25 : decode cL_law 25 = .ok (.astore_n 2, 1) := by decide +kernel
theorem dL_law_26 : decode cL_law 26 = .ok (.iconst 1, 1) := by decide +kernel
theorem dL_law_27 : decode cL_law 27 = .ok (.newarray .long, 2) := by decide +kernel
theorem dL_law_29 : decode cL_law 29 = .ok (.astore_n 3, 1) := by decide +kernel
theorem dL_law_30 : decode cL_law 30 = .ok (.iconst 1, 1) := by decide +kernel
theorem dL_law_31 : decode cL_law 31 = .ok (.istore 4, 2) := by decide +kernel
theorem dL_law_33 : decode cL_law 33 = .ok (.iload 4, 2) := by decide +kernel
theorem dL_law_35 : decode cL_law 35 = .ok (.aload_n 0, 1) := by decide +kernel
theorem dL_law_36 : decode cL_law 36 = .ok (.arraylength, 1) := by decide +kernel
theorem dL_law_37 : decode cL_law 37 = .ok (.iconst 4, 1) := by decide +kernel
theorem dL_law_38 : decode cL_law 38 = .ok (.isub, 1) := by decide +kernel
theorem dL_law_39 : decode cL_law 39 = .ok (.if_icmp .gt 851, 3) := by decide +kernel
theorem dL_law_42 : decode cL_law 42 = .ok (.aload_n 0, 1) := by decide +kernel
theorem dL_law_43 : decode cL_law 43 = .ok (.iload 4, 2) := by decide +kernel
theorem dL_law_45 : decode cL_law 45 = .ok (.iaload, 1) := by decide +kernel
theorem dL_law_46 : decode cL_law 46 = .ok (.bipush 15, 2) := by decide +kernel
theorem dL_law_48 : decode cL_law 48 = .ok (.iand, 1) := by decide +kernel
theorem dL_law_49 : decode cL_law 49 = .ok (.tableswitch 835 0 13 #[71, 119, 222, 309, 396, 437, 473, 529, 542, 622, 666, 722, 766, 810], 71) := by decide +kernel
theorem dL_law_120 : decode cL_law 120 = .ok (.aload_n 1, 1) := by decide +kernel
theorem dL_law_121 : decode cL_law 121 = .ok (.aload_n 0, 1) := by decide +kernel
theorem dL_law_122 : decode cL_law 122 = .ok (.iload 4, 2) := by decide +kernel
theorem dL_law_124 : decode cL_law 124 = .ok (.iconst 1, 1) := by decide +kernel
theorem dL_law_125 : decode cL_law 125 = .ok (.iadd, 1) := by decide +kernel
theorem dL_law_126 : decode cL_law 126 = .ok (.iaload, 1) := by decide +kernel
theorem dL_law_127 : decode cL_law 127 = .ok (.aload_n 0, 1) := by decide +kernel
theorem dL_law_128 : decode cL_law 128 = .ok (.iload 4, 2) := by decide +kernel
theorem dL_law_130 : decode cL_law 130 = .ok (.iconst 2, 1) := by decide +kernel
theorem dL_law_131 : decode cL_law 131 = .ok (.iadd, 1) := by decide +kernel
theorem dL_law_132 : decode cL_law 132 = .ok (.iaload, 1) := by decide +kernel
theorem dL_law_133 : decode cL_law 133 = .ok (.invokestatic 68, 3) := by decide +kernel
theorem dL_law_136 : decode cL_law 136 = .ok (.istore 5, 2) := by decide +kernel
theorem dL_law_138 : decode cL_law 138 = .ok (.aload_n 2, 1) := by decide +kernel
theorem dL_law_139 : decode cL_law 139 = .ok (.aload_n 0, 1) := by decide +kernel
theorem dL_law_140 : decode cL_law 140 = .ok (.iload 4, 2) := by decide +kernel
theorem dL_law_142 : decode cL_law 142 = .ok (.iconst 1, 1) := by decide +kernel
theorem dL_law_143 : decode cL_law 143 = .ok (.iadd, 1) := by decide +kernel
theorem dL_law_144 : decode cL_law 144 = .ok (.iaload, 1) := by decide +kernel
theorem dL_law_145 : decode cL_law 145 = .ok (.aload_n 0, 1) := by decide +kernel
theorem dL_law_146 : decode cL_law 146 = .ok (.iload 4, 2) := by decide +kernel
theorem dL_law_148 : decode cL_law 148 = .ok (.iconst 2, 1) := by decide +kernel
theorem dL_law_149 : decode cL_law 149 = .ok (.iadd, 1) := by decide +kernel
theorem dL_law_150 : decode cL_law 150 = .ok (.iaload, 1) := by decide +kernel
theorem dL_law_151 : decode cL_law 151 = .ok (.invokevirtual 71, 3) := by decide +kernel
theorem dL_law_154 : decode cL_law 154 = .ok (.aload_n 2, 1) := by decide +kernel
theorem dL_law_155 : decode cL_law 155 = .ok (.invokevirtual 72, 3) := by decide +kernel
theorem dL_law_158 : decode cL_law 158 = .ok (.iload 5, 2) := by decide +kernel
theorem dL_law_160 : decode cL_law 160 = .ok (.if_icmp .eq 5, 3) := by decide +kernel
theorem dL_law_163 : decode cL_law 163 = .ok (.iconst 0, 1) := by decide +kernel
theorem dL_law_164 : decode cL_law 164 = .ok (.ireturn, 1) := by decide +kernel
theorem dL_law_165 : decode cL_law 165 = .ok (.goto 719, 3) := by decide +kernel
theorem dL_law_168 : decode cL_law 168 = .ok (.aload_n 1, 1) := by decide +kernel
theorem dL_law_169 : decode cL_law 169 = .ok (.aload_n 0, 1) := by decide +kernel
theorem dL_law_170 : decode cL_law 170 = .ok (.iload 4, 2) := by decide +kernel
theorem dL_law_172 : decode cL_law 172 = .ok (.iconst 1, 1) := by decide +kernel
theorem dL_law_173 : decode cL_law 173 = .ok (.iadd, 1) := by decide +kernel
theorem dL_law_174 : decode cL_law 174 = .ok (.iaload, 1) := by decide +kernel
theorem dL_law_175 : decode cL_law 175 = .ok (.aload_n 0, 1) := by decide +kernel
theorem dL_law_176 : decode cL_law 176 = .ok (.iload 4, 2) := by decide +kernel
theorem dL_law_178 : decode cL_law 178 = .ok (.iconst 2, 1) := by decide +kernel
theorem dL_law_179 : decode cL_law 179 = .ok (.iadd, 1) := by decide +kernel
theorem dL_law_180 : decode cL_law 180 = .ok (.iaload, 1) := by decide +kernel
theorem dL_law_181 : decode cL_law 181 = .ok (.aload_n 0, 1) := by decide +kernel
theorem dL_law_182 : decode cL_law 182 = .ok (.iload 4, 2) := by decide +kernel
theorem dL_law_184 : decode cL_law 184 = .ok (.iconst 3, 1) := by decide +kernel
theorem dL_law_185 : decode cL_law 185 = .ok (.iadd, 1) := by decide +kernel
theorem dL_law_186 : decode cL_law 186 = .ok (.iaload, 1) := by decide +kernel
theorem dL_law_187 : decode cL_law 187 = .ok (.ifCond .eq 7, 3) := by decide +kernel
theorem dL_law_190 : decode cL_law 190 = .ok (.iconst 1, 1) := by decide +kernel
theorem dL_law_191 : decode cL_law 191 = .ok (.goto 4, 3) := by decide +kernel
theorem dL_law_194 : decode cL_law 194 = .ok (.iconst 0, 1) := by decide +kernel
theorem dL_law_195 : decode cL_law 195 = .ok (.aload_n 3, 1) := by decide +kernel
theorem dL_law_196 : decode cL_law 196 = .ok (.invokestatic 75, 3) := by decide +kernel
theorem dL_law_199 : decode cL_law 199 = .ok (.istore 5, 2) := by decide +kernel
theorem dL_law_201 : decode cL_law 201 = .ok (.aload_n 2, 1) := by decide +kernel
theorem dL_law_202 : decode cL_law 202 = .ok (.aload_n 0, 1) := by decide +kernel
theorem dL_law_203 : decode cL_law 203 = .ok (.iload 4, 2) := by decide +kernel
theorem dL_law_205 : decode cL_law 205 = .ok (.iconst 1, 1) := by decide +kernel
theorem dL_law_206 : decode cL_law 206 = .ok (.iadd, 1) := by decide +kernel
theorem dL_law_207 : decode cL_law 207 = .ok (.iaload, 1) := by decide +kernel
theorem dL_law_208 : decode cL_law 208 = .ok (.aload_n 0, 1) := by decide +kernel
theorem dL_law_209 : decode cL_law 209 = .ok (.iload 4, 2) := by decide +kernel
theorem dL_law_211 : decode cL_law 211 = .ok (.iconst 2, 1) := by decide +kernel
theorem dL_law_212 : decode cL_law 212 = .ok (.iadd, 1) := by decide +kernel
theorem dL_law_213 : decode cL_law 213 = .ok (.iaload, 1) := by decide +kernel
theorem dL_law_214 : decode cL_law 214 = .ok (.aload_n 0, 1) := by decide +kernel
theorem dL_law_215 : decode cL_law 215 = .ok (.iload 4, 2) := by decide +kernel
theorem dL_law_217 : decode cL_law 217 = .ok (.iconst 3, 1) := by decide +kernel
theorem dL_law_218 : decode cL_law 218 = .ok (.iadd, 1) := by decide +kernel
theorem dL_law_219 : decode cL_law 219 = .ok (.iaload, 1) := by decide +kernel
theorem dL_law_220 : decode cL_law 220 = .ok (.ifCond .eq 7, 3) := by decide +kernel
theorem dL_law_223 : decode cL_law 223 = .ok (.iconst 1, 1) := by decide +kernel
theorem dL_law_224 : decode cL_law 224 = .ok (.goto 4, 3) := by decide +kernel
theorem dL_law_227 : decode cL_law 227 = .ok (.iconst 0, 1) := by decide +kernel
theorem dL_law_228 : decode cL_law 228 = .ok (.invokevirtual 78, 3) := by decide +kernel
theorem dL_law_231 : decode cL_law 231 = .ok (.istore 6, 2) := by decide +kernel
theorem dL_law_233 : decode cL_law 233 = .ok (.aload_n 2, 1) := by decide +kernel
theorem dL_law_234 : decode cL_law 234 = .ok (.invokevirtual 72, 3) := by decide +kernel
theorem dL_law_237 : decode cL_law 237 = .ok (.iload 5, 2) := by decide +kernel
theorem dL_law_239 : decode cL_law 239 = .ok (.if_icmp .eq 5, 3) := by decide +kernel
theorem dL_law_242 : decode cL_law 242 = .ok (.iconst 0, 1) := by decide +kernel
theorem dL_law_243 : decode cL_law 243 = .ok (.ireturn, 1) := by decide +kernel
theorem dL_law_244 : decode cL_law 244 = .ok (.iload 5, 2) := by decide +kernel
theorem dL_law_246 : decode cL_law 246 = .ok (.ifCond .ne 22, 3) := by decide +kernel
theorem dL_law_249 : decode cL_law 249 = .ok (.aload_n 3, 1) := by decide +kernel
theorem dL_law_250 : decode cL_law 250 = .ok (.iconst 0, 1) := by decide +kernel
theorem dL_law_251 : decode cL_law 251 = .ok (.laload, 1) := by decide +kernel
theorem dL_law_252 : decode cL_law 252 = .ok (.iload 6, 2) := by decide +kernel
theorem dL_law_254 : decode cL_law 254 = .ok (.ifCond .eq 7, 3) := by decide +kernel
theorem dL_law_257 : decode cL_law 257 = .ok (.lconst 1, 1) := by decide +kernel
theorem dL_law_258 : decode cL_law 258 = .ok (.goto 4, 3) := by decide +kernel
theorem dL_law_261 : decode cL_law 261 = .ok (.lconst 0, 1) := by decide +kernel
theorem dL_law_262 : decode cL_law 262 = .ok (.lcmp, 1) := by decide +kernel
theorem dL_law_263 : decode cL_law 263 = .ok (.ifCond .eq 5, 3) := by decide +kernel
theorem dL_law_266 : decode cL_law 266 = .ok (.iconst 0, 1) := by decide +kernel
theorem dL_law_267 : decode cL_law 267 = .ok (.ireturn, 1) := by decide +kernel
theorem dL_law_268 : decode cL_law 268 = .ok (.goto 616, 3) := by decide +kernel
theorem dL_law_271 : decode cL_law 271 = .ok (.aload_n 1, 1) := by decide +kernel
theorem dL_law_272 : decode cL_law 272 = .ok (.aload_n 0, 1) := by decide +kernel
theorem dL_law_273 : decode cL_law 273 = .ok (.iload 4, 2) := by decide +kernel
theorem dL_law_275 : decode cL_law 275 = .ok (.iconst 1, 1) := by decide +kernel
theorem dL_law_276 : decode cL_law 276 = .ok (.iadd, 1) := by decide +kernel
theorem dL_law_277 : decode cL_law 277 = .ok (.iaload, 1) := by decide +kernel
theorem dL_law_278 : decode cL_law 278 = .ok (.aload_n 0, 1) := by decide +kernel
theorem dL_law_279 : decode cL_law 279 = .ok (.iload 4, 2) := by decide +kernel
theorem dL_law_281 : decode cL_law 281 = .ok (.iconst 2, 1) := by decide +kernel
theorem dL_law_282 : decode cL_law 282 = .ok (.iadd, 1) := by decide +kernel
theorem dL_law_283 : decode cL_law 283 = .ok (.iaload, 1) := by decide +kernel
theorem dL_law_284 : decode cL_law 284 = .ok (.aload_n 0, 1) := by decide +kernel
theorem dL_law_285 : decode cL_law 285 = .ok (.iload 4, 2) := by decide +kernel
theorem dL_law_287 : decode cL_law 287 = .ok (.iconst 3, 1) := by decide +kernel
theorem dL_law_288 : decode cL_law 288 = .ok (.iadd, 1) := by decide +kernel
theorem dL_law_289 : decode cL_law 289 = .ok (.iaload, 1) := by decide +kernel
theorem dL_law_290 : decode cL_law 290 = .ok (.aload_n 3, 1) := by decide +kernel
theorem dL_law_291 : decode cL_law 291 = .ok (.invokestatic 79, 3) := by decide +kernel
theorem dL_law_294 : decode cL_law 294 = .ok (.istore 5, 2) := by decide +kernel
theorem dL_law_296 : decode cL_law 296 = .ok (.aload_n 2, 1) := by decide +kernel
theorem dL_law_297 : decode cL_law 297 = .ok (.aload_n 0, 1) := by decide +kernel
theorem dL_law_298 : decode cL_law 298 = .ok (.iload 4, 2) := by decide +kernel
theorem dL_law_300 : decode cL_law 300 = .ok (.iconst 1, 1) := by decide +kernel
theorem dL_law_301 : decode cL_law 301 = .ok (.iadd, 1) := by decide +kernel
theorem dL_law_302 : decode cL_law 302 = .ok (.iaload, 1) := by decide +kernel
theorem dL_law_303 : decode cL_law 303 = .ok (.aload_n 0, 1) := by decide +kernel
theorem dL_law_304 : decode cL_law 304 = .ok (.iload 4, 2) := by decide +kernel
theorem dL_law_306 : decode cL_law 306 = .ok (.iconst 2, 1) := by decide +kernel
theorem dL_law_307 : decode cL_law 307 = .ok (.iadd, 1) := by decide +kernel
theorem dL_law_308 : decode cL_law 308 = .ok (.iaload, 1) := by decide +kernel
theorem dL_law_309 : decode cL_law 309 = .ok (.aload_n 0, 1) := by decide +kernel
theorem dL_law_310 : decode cL_law 310 = .ok (.iload 4, 2) := by decide +kernel
theorem dL_law_312 : decode cL_law 312 = .ok (.iconst 3, 1) := by decide +kernel
theorem dL_law_313 : decode cL_law 313 = .ok (.iadd, 1) := by decide +kernel
theorem dL_law_314 : decode cL_law 314 = .ok (.iaload, 1) := by decide +kernel
theorem dL_law_315 : decode cL_law 315 = .ok (.invokevirtual 82, 3) := by decide +kernel
theorem dL_law_318 : decode cL_law 318 = .ok (.istore 6, 2) := by decide +kernel
theorem dL_law_320 : decode cL_law 320 = .ok (.aload_n 2, 1) := by decide +kernel
theorem dL_law_321 : decode cL_law 321 = .ok (.invokevirtual 72, 3) := by decide +kernel
theorem dL_law_324 : decode cL_law 324 = .ok (.iload 5, 2) := by decide +kernel
theorem dL_law_326 : decode cL_law 326 = .ok (.if_icmp .eq 5, 3) := by decide +kernel
theorem dL_law_329 : decode cL_law 329 = .ok (.iconst 0, 1) := by decide +kernel
theorem dL_law_330 : decode cL_law 330 = .ok (.ireturn, 1) := by decide +kernel
theorem dL_law_331 : decode cL_law 331 = .ok (.iload 5, 2) := by decide +kernel
theorem dL_law_333 : decode cL_law 333 = .ok (.ifCond .ne 22, 3) := by decide +kernel
theorem dL_law_336 : decode cL_law 336 = .ok (.aload_n 3, 1) := by decide +kernel
theorem dL_law_337 : decode cL_law 337 = .ok (.iconst 0, 1) := by decide +kernel
theorem dL_law_338 : decode cL_law 338 = .ok (.laload, 1) := by decide +kernel
theorem dL_law_339 : decode cL_law 339 = .ok (.iload 6, 2) := by decide +kernel
theorem dL_law_341 : decode cL_law 341 = .ok (.ifCond .eq 7, 3) := by decide +kernel
theorem dL_law_344 : decode cL_law 344 = .ok (.lconst 1, 1) := by decide +kernel
theorem dL_law_345 : decode cL_law 345 = .ok (.goto 4, 3) := by decide +kernel
theorem dL_law_348 : decode cL_law 348 = .ok (.lconst 0, 1) := by decide +kernel
theorem dL_law_349 : decode cL_law 349 = .ok (.lcmp, 1) := by decide +kernel
theorem dL_law_350 : decode cL_law 350 = .ok (.ifCond .eq 5, 3) := by decide +kernel
theorem dL_law_353 : decode cL_law 353 = .ok (.iconst 0, 1) := by decide +kernel
theorem dL_law_354 : decode cL_law 354 = .ok (.ireturn, 1) := by decide +kernel
theorem dL_law_355 : decode cL_law 355 = .ok (.goto 529, 3) := by decide +kernel
theorem dL_law_358 : decode cL_law 358 = .ok (.aload_n 1, 1) := by decide +kernel
theorem dL_law_359 : decode cL_law 359 = .ok (.aload_n 0, 1) := by decide +kernel
theorem dL_law_360 : decode cL_law 360 = .ok (.iload 4, 2) := by decide +kernel
theorem dL_law_362 : decode cL_law 362 = .ok (.iconst 1, 1) := by decide +kernel
theorem dL_law_363 : decode cL_law 363 = .ok (.iadd, 1) := by decide +kernel
theorem dL_law_364 : decode cL_law 364 = .ok (.iaload, 1) := by decide +kernel
theorem dL_law_365 : decode cL_law 365 = .ok (.aload_n 0, 1) := by decide +kernel
theorem dL_law_366 : decode cL_law 366 = .ok (.iload 4, 2) := by decide +kernel
theorem dL_law_368 : decode cL_law 368 = .ok (.iconst 2, 1) := by decide +kernel
theorem dL_law_369 : decode cL_law 369 = .ok (.iadd, 1) := by decide +kernel
theorem dL_law_370 : decode cL_law 370 = .ok (.iaload, 1) := by decide +kernel
theorem dL_law_371 : decode cL_law 371 = .ok (.aload_n 0, 1) := by decide +kernel
theorem dL_law_372 : decode cL_law 372 = .ok (.iload 4, 2) := by decide +kernel
theorem dL_law_374 : decode cL_law 374 = .ok (.iconst 3, 1) := by decide +kernel
theorem dL_law_375 : decode cL_law 375 = .ok (.iadd, 1) := by decide +kernel
theorem dL_law_376 : decode cL_law 376 = .ok (.iaload, 1) := by decide +kernel
theorem dL_law_377 : decode cL_law 377 = .ok (.aload_n 3, 1) := by decide +kernel
theorem dL_law_378 : decode cL_law 378 = .ok (.invokestatic 83, 3) := by decide +kernel
theorem dL_law_381 : decode cL_law 381 = .ok (.istore 5, 2) := by decide +kernel
theorem dL_law_383 : decode cL_law 383 = .ok (.aload_n 2, 1) := by decide +kernel
theorem dL_law_384 : decode cL_law 384 = .ok (.aload_n 0, 1) := by decide +kernel
theorem dL_law_385 : decode cL_law 385 = .ok (.iload 4, 2) := by decide +kernel
theorem dL_law_387 : decode cL_law 387 = .ok (.iconst 1, 1) := by decide +kernel
theorem dL_law_388 : decode cL_law 388 = .ok (.iadd, 1) := by decide +kernel
theorem dL_law_389 : decode cL_law 389 = .ok (.iaload, 1) := by decide +kernel
theorem dL_law_390 : decode cL_law 390 = .ok (.aload_n 0, 1) := by decide +kernel
theorem dL_law_391 : decode cL_law 391 = .ok (.iload 4, 2) := by decide +kernel
theorem dL_law_393 : decode cL_law 393 = .ok (.iconst 2, 1) := by decide +kernel
theorem dL_law_394 : decode cL_law 394 = .ok (.iadd, 1) := by decide +kernel
theorem dL_law_395 : decode cL_law 395 = .ok (.iaload, 1) := by decide +kernel
theorem dL_law_396 : decode cL_law 396 = .ok (.aload_n 0, 1) := by decide +kernel
theorem dL_law_397 : decode cL_law 397 = .ok (.iload 4, 2) := by decide +kernel
theorem dL_law_399 : decode cL_law 399 = .ok (.iconst 3, 1) := by decide +kernel
theorem dL_law_400 : decode cL_law 400 = .ok (.iadd, 1) := by decide +kernel
theorem dL_law_401 : decode cL_law 401 = .ok (.iaload, 1) := by decide +kernel
theorem dL_law_402 : decode cL_law 402 = .ok (.invokevirtual 85, 3) := by decide +kernel
theorem dL_law_405 : decode cL_law 405 = .ok (.istore 6, 2) := by decide +kernel
theorem dL_law_407 : decode cL_law 407 = .ok (.aload_n 2, 1) := by decide +kernel
theorem dL_law_408 : decode cL_law 408 = .ok (.invokevirtual 72, 3) := by decide +kernel
theorem dL_law_411 : decode cL_law 411 = .ok (.iload 5, 2) := by decide +kernel
theorem dL_law_413 : decode cL_law 413 = .ok (.if_icmp .eq 5, 3) := by decide +kernel
theorem dL_law_416 : decode cL_law 416 = .ok (.iconst 0, 1) := by decide +kernel
theorem dL_law_417 : decode cL_law 417 = .ok (.ireturn, 1) := by decide +kernel
theorem dL_law_418 : decode cL_law 418 = .ok (.iload 5, 2) := by decide +kernel
theorem dL_law_420 : decode cL_law 420 = .ok (.ifCond .ne 22, 3) := by decide +kernel
theorem dL_law_423 : decode cL_law 423 = .ok (.aload_n 3, 1) := by decide +kernel
theorem dL_law_424 : decode cL_law 424 = .ok (.iconst 0, 1) := by decide +kernel
theorem dL_law_425 : decode cL_law 425 = .ok (.laload, 1) := by decide +kernel
theorem dL_law_426 : decode cL_law 426 = .ok (.iload 6, 2) := by decide +kernel
theorem dL_law_428 : decode cL_law 428 = .ok (.ifCond .eq 7, 3) := by decide +kernel
theorem dL_law_431 : decode cL_law 431 = .ok (.lconst 1, 1) := by decide +kernel
theorem dL_law_432 : decode cL_law 432 = .ok (.goto 4, 3) := by decide +kernel
theorem dL_law_435 : decode cL_law 435 = .ok (.lconst 0, 1) := by decide +kernel
theorem dL_law_436 : decode cL_law 436 = .ok (.lcmp, 1) := by decide +kernel
theorem dL_law_437 : decode cL_law 437 = .ok (.ifCond .eq 5, 3) := by decide +kernel
theorem dL_law_440 : decode cL_law 440 = .ok (.iconst 0, 1) := by decide +kernel
theorem dL_law_441 : decode cL_law 441 = .ok (.ireturn, 1) := by decide +kernel
theorem dL_law_442 : decode cL_law 442 = .ok (.goto 442, 3) := by decide +kernel
theorem dL_law_445 : decode cL_law 445 = .ok (.aload_n 1, 1) := by decide +kernel
theorem dL_law_446 : decode cL_law 446 = .ok (.aload_n 0, 1) := by decide +kernel
theorem dL_law_447 : decode cL_law 447 = .ok (.iload 4, 2) := by decide +kernel
theorem dL_law_449 : decode cL_law 449 = .ok (.iconst 1, 1) := by decide +kernel
theorem dL_law_450 : decode cL_law 450 = .ok (.iadd, 1) := by decide +kernel
theorem dL_law_451 : decode cL_law 451 = .ok (.iaload, 1) := by decide +kernel
theorem dL_law_452 : decode cL_law 452 = .ok (.ifCond .eq 7, 3) := by decide +kernel
theorem dL_law_455 : decode cL_law 455 = .ok (.iconst 1, 1) := by decide +kernel
theorem dL_law_456 : decode cL_law 456 = .ok (.goto 4, 3) := by decide +kernel
theorem dL_law_459 : decode cL_law 459 = .ok (.iconst 0, 1) := by decide +kernel
theorem dL_law_460 : decode cL_law 460 = .ok (.invokevirtual 86, 3) := by decide +kernel
theorem dL_law_463 : decode cL_law 463 = .ok (.aload_n 2, 1) := by decide +kernel
theorem dL_law_464 : decode cL_law 464 = .ok (.aload_n 0, 1) := by decide +kernel
theorem dL_law_465 : decode cL_law 465 = .ok (.iload 4, 2) := by decide +kernel
theorem dL_law_467 : decode cL_law 467 = .ok (.iconst 1, 1) := by decide +kernel
theorem dL_law_468 : decode cL_law 468 = .ok (.iadd, 1) := by decide +kernel
theorem dL_law_469 : decode cL_law 469 = .ok (.iaload, 1) := by decide +kernel
theorem dL_law_470 : decode cL_law 470 = .ok (.ifCond .eq 7, 3) := by decide +kernel
theorem dL_law_473 : decode cL_law 473 = .ok (.iconst 1, 1) := by decide +kernel
theorem dL_law_474 : decode cL_law 474 = .ok (.goto 4, 3) := by decide +kernel
theorem dL_law_477 : decode cL_law 477 = .ok (.iconst 0, 1) := by decide +kernel
theorem dL_law_478 : decode cL_law 478 = .ok (.invokevirtual 90, 3) := by decide +kernel
theorem dL_law_481 : decode cL_law 481 = .ok (.if_icmp .eq 403, 3) := by decide +kernel
theorem dL_law_484 : decode cL_law 484 = .ok (.iconst 0, 1) := by decide +kernel
theorem dL_law_485 : decode cL_law 485 = .ok (.ireturn, 1) := by decide +kernel
theorem dL_law_486 : decode cL_law 486 = .ok (.aload_n 1, 1) := by decide +kernel
theorem dL_law_487 : decode cL_law 487 = .ok (.aload_n 0, 1) := by decide +kernel
theorem dL_law_488 : decode cL_law 488 = .ok (.iload 4, 2) := by decide +kernel
theorem dL_law_490 : decode cL_law 490 = .ok (.iconst 1, 1) := by decide +kernel
theorem dL_law_491 : decode cL_law 491 = .ok (.iadd, 1) := by decide +kernel
theorem dL_law_492 : decode cL_law 492 = .ok (.iaload, 1) := by decide +kernel
theorem dL_law_493 : decode cL_law 493 = .ok (.invokestatic 91, 3) := by decide +kernel
theorem dL_law_496 : decode cL_law 496 = .ok (.istore 5, 2) := by decide +kernel
theorem dL_law_498 : decode cL_law 498 = .ok (.aload_n 2, 1) := by decide +kernel
theorem dL_law_499 : decode cL_law 499 = .ok (.aload_n 0, 1) := by decide +kernel
theorem dL_law_500 : decode cL_law 500 = .ok (.iload 4, 2) := by decide +kernel
theorem dL_law_502 : decode cL_law 502 = .ok (.iconst 1, 1) := by decide +kernel
theorem dL_law_503 : decode cL_law 503 = .ok (.iadd, 1) := by decide +kernel
theorem dL_law_504 : decode cL_law 504 = .ok (.iaload, 1) := by decide +kernel
theorem dL_law_505 : decode cL_law 505 = .ok (.invokevirtual 94, 3) := by decide +kernel
theorem dL_law_508 : decode cL_law 508 = .ok (.aload_n 2, 1) := by decide +kernel
theorem dL_law_509 : decode cL_law 509 = .ok (.invokevirtual 72, 3) := by decide +kernel
theorem dL_law_512 : decode cL_law 512 = .ok (.iload 5, 2) := by decide +kernel
theorem dL_law_514 : decode cL_law 514 = .ok (.if_icmp .eq 5, 3) := by decide +kernel
theorem dL_law_517 : decode cL_law 517 = .ok (.iconst 0, 1) := by decide +kernel
theorem dL_law_518 : decode cL_law 518 = .ok (.ireturn, 1) := by decide +kernel
theorem dL_law_519 : decode cL_law 519 = .ok (.goto 365, 3) := by decide +kernel
theorem dL_law_522 : decode cL_law 522 = .ok (.aload_n 1, 1) := by decide +kernel
theorem dL_law_523 : decode cL_law 523 = .ok (.aload_n 0, 1) := by decide +kernel
theorem dL_law_524 : decode cL_law 524 = .ok (.iload 4, 2) := by decide +kernel
theorem dL_law_526 : decode cL_law 526 = .ok (.iconst 1, 1) := by decide +kernel
theorem dL_law_527 : decode cL_law 527 = .ok (.iadd, 1) := by decide +kernel
theorem dL_law_528 : decode cL_law 528 = .ok (.iaload, 1) := by decide +kernel
theorem dL_law_529 : decode cL_law 529 = .ok (.aload_n 3, 1) := by decide +kernel
theorem dL_law_530 : decode cL_law 530 = .ok (.invokestatic 95, 3) := by decide +kernel
theorem dL_law_533 : decode cL_law 533 = .ok (.istore 5, 2) := by decide +kernel
theorem dL_law_535 : decode cL_law 535 = .ok (.aload_n 2, 1) := by decide +kernel
theorem dL_law_536 : decode cL_law 536 = .ok (.aload_n 0, 1) := by decide +kernel
theorem dL_law_537 : decode cL_law 537 = .ok (.iload 4, 2) := by decide +kernel
theorem dL_law_539 : decode cL_law 539 = .ok (.iconst 1, 1) := by decide +kernel
theorem dL_law_540 : decode cL_law 540 = .ok (.iadd, 1) := by decide +kernel
theorem dL_law_541 : decode cL_law 541 = .ok (.iaload, 1) := by decide +kernel
theorem dL_law_542 : decode cL_law 542 = .ok (.invokevirtual 98, 3) := by decide +kernel
theorem dL_law_545 : decode cL_law 545 = .ok (.istore 6, 2) := by decide +kernel
theorem dL_law_547 : decode cL_law 547 = .ok (.aload_n 2, 1) := by decide +kernel
theorem dL_law_548 : decode cL_law 548 = .ok (.invokevirtual 72, 3) := by decide +kernel
theorem dL_law_551 : decode cL_law 551 = .ok (.iload 5, 2) := by decide +kernel
theorem dL_law_553 : decode cL_law 553 = .ok (.if_icmp .eq 5, 3) := by decide +kernel
theorem dL_law_556 : decode cL_law 556 = .ok (.iconst 0, 1) := by decide +kernel
theorem dL_law_557 : decode cL_law 557 = .ok (.ireturn, 1) := by decide +kernel
theorem dL_law_558 : decode cL_law 558 = .ok (.iload 5, 2) := by decide +kernel
theorem dL_law_560 : decode cL_law 560 = .ok (.ifCond .ne 15, 3) := by decide +kernel
theorem dL_law_563 : decode cL_law 563 = .ok (.aload_n 3, 1) := by decide +kernel
theorem dL_law_564 : decode cL_law 564 = .ok (.iconst 0, 1) := by decide +kernel
theorem dL_law_565 : decode cL_law 565 = .ok (.laload, 1) := by decide +kernel
theorem dL_law_566 : decode cL_law 566 = .ok (.iload 6, 2) := by decide +kernel
theorem dL_law_568 : decode cL_law 568 = .ok (.i2l, 1) := by decide +kernel
theorem dL_law_569 : decode cL_law 569 = .ok (.lcmp, 1) := by decide +kernel
theorem dL_law_570 : decode cL_law 570 = .ok (.ifCond .eq 5, 3) := by decide +kernel
theorem dL_law_573 : decode cL_law 573 = .ok (.iconst 0, 1) := by decide +kernel
theorem dL_law_574 : decode cL_law 574 = .ok (.ireturn, 1) := by decide +kernel
theorem dL_law_575 : decode cL_law 575 = .ok (.goto 309, 3) := by decide +kernel
theorem dL_law_578 : decode cL_law 578 = .ok (.aload_n 1, 1) := by decide +kernel
theorem dL_law_579 : decode cL_law 579 = .ok (.invokevirtual 99, 3) := by decide +kernel
theorem dL_law_582 : decode cL_law 582 = .ok (.aload_n 2, 1) := by decide +kernel
theorem dL_law_583 : decode cL_law 583 = .ok (.invokevirtual 103, 3) := by decide +kernel
theorem dL_law_586 : decode cL_law 586 = .ok (.if_icmp .eq 298, 3) := by decide +kernel
theorem dL_law_589 : decode cL_law 589 = .ok (.iconst 0, 1) := by decide +kernel
theorem dL_law_590 : decode cL_law 590 = .ok (.ireturn, 1) := by decide +kernel
theorem dL_law_591 : decode cL_law 591 = .ok (.aload_n 1, 1) := by decide +kernel
theorem dL_law_592 : decode cL_law 592 = .ok (.aload_n 0, 1) := by decide +kernel
theorem dL_law_593 : decode cL_law 593 = .ok (.iload 4, 2) := by decide +kernel
theorem dL_law_595 : decode cL_law 595 = .ok (.iconst 1, 1) := by decide +kernel
theorem dL_law_596 : decode cL_law 596 = .ok (.iadd, 1) := by decide +kernel
theorem dL_law_597 : decode cL_law 597 = .ok (.iaload, 1) := by decide +kernel
theorem dL_law_598 : decode cL_law 598 = .ok (.aload_n 0, 1) := by decide +kernel
theorem dL_law_599 : decode cL_law 599 = .ok (.iload 4, 2) := by decide +kernel
theorem dL_law_601 : decode cL_law 601 = .ok (.iconst 2, 1) := by decide +kernel
theorem dL_law_602 : decode cL_law 602 = .ok (.iadd, 1) := by decide +kernel
theorem dL_law_603 : decode cL_law 603 = .ok (.iaload, 1) := by decide +kernel
theorem dL_law_604 : decode cL_law 604 = .ok (.aload_n 0, 1) := by decide +kernel
theorem dL_law_605 : decode cL_law 605 = .ok (.iload 4, 2) := by decide +kernel
theorem dL_law_607 : decode cL_law 607 = .ok (.iconst 3, 1) := by decide +kernel
theorem dL_law_608 : decode cL_law 608 = .ok (.iadd, 1) := by decide +kernel
theorem dL_law_609 : decode cL_law 609 = .ok (.iaload, 1) := by decide +kernel
theorem dL_law_610 : decode cL_law 610 = .ok (.aload_n 3, 1) := by decide +kernel
theorem dL_law_611 : decode cL_law 611 = .ok (.invokestatic 104, 3) := by decide +kernel
theorem dL_law_614 : decode cL_law 614 = .ok (.istore 5, 2) := by decide +kernel
theorem dL_law_616 : decode cL_law 616 = .ok (.aload_n 2, 1) := by decide +kernel
theorem dL_law_617 : decode cL_law 617 = .ok (.aload_n 0, 1) := by decide +kernel
theorem dL_law_618 : decode cL_law 618 = .ok (.iload 4, 2) := by decide +kernel
theorem dL_law_620 : decode cL_law 620 = .ok (.iconst 1, 1) := by decide +kernel
theorem dL_law_621 : decode cL_law 621 = .ok (.iadd, 1) := by decide +kernel
theorem dL_law_622 : decode cL_law 622 = .ok (.iaload, 1) := by decide +kernel
theorem dL_law_623 : decode cL_law 623 = .ok (.aload_n 0, 1) := by decide +kernel
theorem dL_law_624 : decode cL_law 624 = .ok (.iload 4, 2) := by decide +kernel
theorem dL_law_626 : decode cL_law 626 = .ok (.iconst 2, 1) := by decide +kernel
theorem dL_law_627 : decode cL_law 627 = .ok (.iadd, 1) := by decide +kernel
theorem dL_law_628 : decode cL_law 628 = .ok (.iaload, 1) := by decide +kernel
theorem dL_law_629 : decode cL_law 629 = .ok (.aload_n 0, 1) := by decide +kernel
theorem dL_law_630 : decode cL_law 630 = .ok (.iload 4, 2) := by decide +kernel
theorem dL_law_632 : decode cL_law 632 = .ok (.iconst 3, 1) := by decide +kernel
theorem dL_law_633 : decode cL_law 633 = .ok (.iadd, 1) := by decide +kernel
theorem dL_law_634 : decode cL_law 634 = .ok (.iaload, 1) := by decide +kernel
theorem dL_law_635 : decode cL_law 635 = .ok (.invokevirtual 106, 3) := by decide +kernel
theorem dL_law_638 : decode cL_law 638 = .ok (.istore 6, 2) := by decide +kernel
theorem dL_law_640 : decode cL_law 640 = .ok (.aload_n 2, 1) := by decide +kernel
theorem dL_law_641 : decode cL_law 641 = .ok (.invokevirtual 72, 3) := by decide +kernel
theorem dL_law_644 : decode cL_law 644 = .ok (.iload 5, 2) := by decide +kernel
theorem dL_law_646 : decode cL_law 646 = .ok (.if_icmp .eq 5, 3) := by decide +kernel
theorem dL_law_649 : decode cL_law 649 = .ok (.iconst 0, 1) := by decide +kernel
theorem dL_law_650 : decode cL_law 650 = .ok (.ireturn, 1) := by decide +kernel
theorem dL_law_651 : decode cL_law 651 = .ok (.iload 5, 2) := by decide +kernel
theorem dL_law_653 : decode cL_law 653 = .ok (.ifCond .ne 15, 3) := by decide +kernel
theorem dL_law_656 : decode cL_law 656 = .ok (.aload_n 3, 1) := by decide +kernel
theorem dL_law_657 : decode cL_law 657 = .ok (.iconst 0, 1) := by decide +kernel
theorem dL_law_658 : decode cL_law 658 = .ok (.laload, 1) := by decide +kernel
theorem dL_law_659 : decode cL_law 659 = .ok (.iload 6, 2) := by decide +kernel
theorem dL_law_661 : decode cL_law 661 = .ok (.i2l, 1) := by decide +kernel
theorem dL_law_662 : decode cL_law 662 = .ok (.lcmp, 1) := by decide +kernel
theorem dL_law_663 : decode cL_law 663 = .ok (.ifCond .eq 5, 3) := by decide +kernel
theorem dL_law_666 : decode cL_law 666 = .ok (.iconst 0, 1) := by decide +kernel
theorem dL_law_667 : decode cL_law 667 = .ok (.ireturn, 1) := by decide +kernel
theorem dL_law_668 : decode cL_law 668 = .ok (.goto 216, 3) := by decide +kernel
theorem dL_law_671 : decode cL_law 671 = .ok (.aload_n 1, 1) := by decide +kernel
theorem dL_law_672 : decode cL_law 672 = .ok (.aload_n 3, 1) := by decide +kernel
theorem dL_law_673 : decode cL_law 673 = .ok (.invokestatic 107, 3) := by decide +kernel
theorem dL_law_676 : decode cL_law 676 = .ok (.istore 5, 2) := by decide +kernel
theorem dL_law_678 : decode cL_law 678 = .ok (.aload_n 2, 1) := by decide +kernel
theorem dL_law_679 : decode cL_law 679 = .ok (.invokevirtual 110, 3) := by decide +kernel
theorem dL_law_682 : decode cL_law 682 = .ok (.istore 6, 2) := by decide +kernel
theorem dL_law_684 : decode cL_law 684 = .ok (.aload_n 2, 1) := by decide +kernel
theorem dL_law_685 : decode cL_law 685 = .ok (.invokevirtual 72, 3) := by decide +kernel
theorem dL_law_688 : decode cL_law 688 = .ok (.iload 5, 2) := by decide +kernel
theorem dL_law_690 : decode cL_law 690 = .ok (.if_icmp .eq 5, 3) := by decide +kernel
theorem dL_law_693 : decode cL_law 693 = .ok (.iconst 0, 1) := by decide +kernel
theorem dL_law_694 : decode cL_law 694 = .ok (.ireturn, 1) := by decide +kernel
theorem dL_law_695 : decode cL_law 695 = .ok (.iload 5, 2) := by decide +kernel
theorem dL_law_697 : decode cL_law 697 = .ok (.ifCond .ne 15, 3) := by decide +kernel
theorem dL_law_700 : decode cL_law 700 = .ok (.aload_n 3, 1) := by decide +kernel
theorem dL_law_701 : decode cL_law 701 = .ok (.iconst 0, 1) := by decide +kernel
theorem dL_law_702 : decode cL_law 702 = .ok (.laload, 1) := by decide +kernel
theorem dL_law_703 : decode cL_law 703 = .ok (.iload 6, 2) := by decide +kernel
theorem dL_law_705 : decode cL_law 705 = .ok (.i2l, 1) := by decide +kernel
theorem dL_law_706 : decode cL_law 706 = .ok (.lcmp, 1) := by decide +kernel
theorem dL_law_707 : decode cL_law 707 = .ok (.ifCond .eq 5, 3) := by decide +kernel
theorem dL_law_710 : decode cL_law 710 = .ok (.iconst 0, 1) := by decide +kernel
theorem dL_law_711 : decode cL_law 711 = .ok (.ireturn, 1) := by decide +kernel
theorem dL_law_712 : decode cL_law 712 = .ok (.goto 172, 3) := by decide +kernel
theorem dL_law_715 : decode cL_law 715 = .ok (.aload_n 1, 1) := by decide +kernel
theorem dL_law_716 : decode cL_law 716 = .ok (.aload_n 0, 1) := by decide +kernel
theorem dL_law_717 : decode cL_law 717 = .ok (.iload 4, 2) := by decide +kernel
theorem dL_law_719 : decode cL_law 719 = .ok (.iconst 1, 1) := by decide +kernel
theorem dL_law_720 : decode cL_law 720 = .ok (.iadd, 1) := by decide +kernel
theorem dL_law_721 : decode cL_law 721 = .ok (.iaload, 1) := by decide +kernel
theorem dL_law_722 : decode cL_law 722 = .ok (.aload_n 3, 1) := by decide +kernel
theorem dL_law_723 : decode cL_law 723 = .ok (.invokestatic 111, 3) := by decide +kernel
theorem dL_law_726 : decode cL_law 726 = .ok (.istore 5, 2) := by decide +kernel
theorem dL_law_728 : decode cL_law 728 = .ok (.aload_n 2, 1) := by decide +kernel
theorem dL_law_729 : decode cL_law 729 = .ok (.aload_n 0, 1) := by decide +kernel
theorem dL_law_730 : decode cL_law 730 = .ok (.iload 4, 2) := by decide +kernel
theorem dL_law_732 : decode cL_law 732 = .ok (.iconst 1, 1) := by decide +kernel
theorem dL_law_733 : decode cL_law 733 = .ok (.iadd, 1) := by decide +kernel
theorem dL_law_734 : decode cL_law 734 = .ok (.iaload, 1) := by decide +kernel
theorem dL_law_735 : decode cL_law 735 = .ok (.invokevirtual 113, 3) := by decide +kernel
theorem dL_law_738 : decode cL_law 738 = .ok (.istore 6, 2) := by decide +kernel
theorem dL_law_740 : decode cL_law 740 = .ok (.aload_n 2, 1) := by decide +kernel
theorem dL_law_741 : decode cL_law 741 = .ok (.invokevirtual 72, 3) := by decide +kernel
theorem dL_law_744 : decode cL_law 744 = .ok (.iload 5, 2) := by decide +kernel
theorem dL_law_746 : decode cL_law 746 = .ok (.if_icmp .eq 5, 3) := by decide +kernel
theorem dL_law_749 : decode cL_law 749 = .ok (.iconst 0, 1) := by decide +kernel
theorem dL_law_750 : decode cL_law 750 = .ok (.ireturn, 1) := by decide +kernel
theorem dL_law_751 : decode cL_law 751 = .ok (.iload 5, 2) := by decide +kernel
theorem dL_law_753 : decode cL_law 753 = .ok (.ifCond .ne 15, 3) := by decide +kernel
theorem dL_law_756 : decode cL_law 756 = .ok (.aload_n 3, 1) := by decide +kernel
theorem dL_law_757 : decode cL_law 757 = .ok (.iconst 0, 1) := by decide +kernel
theorem dL_law_758 : decode cL_law 758 = .ok (.laload, 1) := by decide +kernel
theorem dL_law_759 : decode cL_law 759 = .ok (.iload 6, 2) := by decide +kernel
theorem dL_law_761 : decode cL_law 761 = .ok (.i2l, 1) := by decide +kernel
theorem dL_law_762 : decode cL_law 762 = .ok (.lcmp, 1) := by decide +kernel
theorem dL_law_763 : decode cL_law 763 = .ok (.ifCond .eq 5, 3) := by decide +kernel
theorem dL_law_766 : decode cL_law 766 = .ok (.iconst 0, 1) := by decide +kernel
theorem dL_law_767 : decode cL_law 767 = .ok (.ireturn, 1) := by decide +kernel
theorem dL_law_768 : decode cL_law 768 = .ok (.goto 116, 3) := by decide +kernel
theorem dL_law_771 : decode cL_law 771 = .ok (.aload_n 1, 1) := by decide +kernel
theorem dL_law_772 : decode cL_law 772 = .ok (.aload_n 3, 1) := by decide +kernel
theorem dL_law_773 : decode cL_law 773 = .ok (.invokestatic 114, 3) := by decide +kernel
theorem dL_law_776 : decode cL_law 776 = .ok (.istore 5, 2) := by decide +kernel
theorem dL_law_778 : decode cL_law 778 = .ok (.aload_n 2, 1) := by decide +kernel
theorem dL_law_779 : decode cL_law 779 = .ok (.invokevirtual 116, 3) := by decide +kernel
theorem dL_law_782 : decode cL_law 782 = .ok (.istore 6, 2) := by decide +kernel
theorem dL_law_784 : decode cL_law 784 = .ok (.aload_n 2, 1) := by decide +kernel
theorem dL_law_785 : decode cL_law 785 = .ok (.invokevirtual 72, 3) := by decide +kernel
theorem dL_law_788 : decode cL_law 788 = .ok (.iload 5, 2) := by decide +kernel
theorem dL_law_790 : decode cL_law 790 = .ok (.if_icmp .eq 5, 3) := by decide +kernel
theorem dL_law_793 : decode cL_law 793 = .ok (.iconst 0, 1) := by decide +kernel
theorem dL_law_794 : decode cL_law 794 = .ok (.ireturn, 1) := by decide +kernel
theorem dL_law_795 : decode cL_law 795 = .ok (.iload 5, 2) := by decide +kernel
theorem dL_law_797 : decode cL_law 797 = .ok (.ifCond .ne 15, 3) := by decide +kernel
theorem dL_law_800 : decode cL_law 800 = .ok (.aload_n 3, 1) := by decide +kernel
theorem dL_law_801 : decode cL_law 801 = .ok (.iconst 0, 1) := by decide +kernel
theorem dL_law_802 : decode cL_law 802 = .ok (.laload, 1) := by decide +kernel
theorem dL_law_803 : decode cL_law 803 = .ok (.iload 6, 2) := by decide +kernel
theorem dL_law_805 : decode cL_law 805 = .ok (.i2l, 1) := by decide +kernel
theorem dL_law_806 : decode cL_law 806 = .ok (.lcmp, 1) := by decide +kernel
theorem dL_law_807 : decode cL_law 807 = .ok (.ifCond .eq 5, 3) := by decide +kernel
theorem dL_law_810 : decode cL_law 810 = .ok (.iconst 0, 1) := by decide +kernel
theorem dL_law_811 : decode cL_law 811 = .ok (.ireturn, 1) := by decide +kernel
theorem dL_law_812 : decode cL_law 812 = .ok (.goto 72, 3) := by decide +kernel
theorem dL_law_815 : decode cL_law 815 = .ok (.aload_n 1, 1) := by decide +kernel
theorem dL_law_816 : decode cL_law 816 = .ok (.aload_n 3, 1) := by decide +kernel
theorem dL_law_817 : decode cL_law 817 = .ok (.invokestatic 117, 3) := by decide +kernel
theorem dL_law_820 : decode cL_law 820 = .ok (.istore 5, 2) := by decide +kernel
theorem dL_law_822 : decode cL_law 822 = .ok (.aload_n 2, 1) := by decide +kernel
theorem dL_law_823 : decode cL_law 823 = .ok (.invokevirtual 119, 3) := by decide +kernel
theorem dL_law_826 : decode cL_law 826 = .ok (.istore 6, 2) := by decide +kernel
theorem dL_law_828 : decode cL_law 828 = .ok (.aload_n 2, 1) := by decide +kernel
theorem dL_law_829 : decode cL_law 829 = .ok (.invokevirtual 72, 3) := by decide +kernel
theorem dL_law_832 : decode cL_law 832 = .ok (.iload 5, 2) := by decide +kernel
theorem dL_law_834 : decode cL_law 834 = .ok (.if_icmp .eq 5, 3) := by decide +kernel
theorem dL_law_837 : decode cL_law 837 = .ok (.iconst 0, 1) := by decide +kernel
theorem dL_law_838 : decode cL_law 838 = .ok (.ireturn, 1) := by decide +kernel
theorem dL_law_839 : decode cL_law 839 = .ok (.iload 5, 2) := by decide +kernel
theorem dL_law_841 : decode cL_law 841 = .ok (.ifCond .ne 15, 3) := by decide +kernel
theorem dL_law_844 : decode cL_law 844 = .ok (.aload_n 3, 1) := by decide +kernel
theorem dL_law_845 : decode cL_law 845 = .ok (.iconst 0, 1) := by decide +kernel
theorem dL_law_846 : decode cL_law 846 = .ok (.laload, 1) := by decide +kernel
theorem dL_law_847 : decode cL_law 847 = .ok (.iload 6, 2) := by decide +kernel
theorem dL_law_849 : decode cL_law 849 = .ok (.i2l, 1) := by decide +kernel
theorem dL_law_850 : decode cL_law 850 = .ok (.lcmp, 1) := by decide +kernel
theorem dL_law_851 : decode cL_law 851 = .ok (.ifCond .eq 5, 3) := by decide +kernel
theorem dL_law_854 : decode cL_law 854 = .ok (.iconst 0, 1) := by decide +kernel
theorem dL_law_855 : decode cL_law 855 = .ok (.ireturn, 1) := by decide +kernel
theorem dL_law_856 : decode cL_law 856 = .ok (.goto 28, 3) := by decide +kernel
theorem dL_law_859 : decode cL_law 859 = .ok (.aload_n 1, 1) := by decide +kernel
theorem dL_law_860 : decode cL_law 860 = .ok (.aload_n 0, 1) := by decide +kernel
theorem dL_law_861 : decode cL_law 861 = .ok (.iload 4, 2) := by decide +kernel
theorem dL_law_863 : decode cL_law 863 = .ok (.iconst 1, 1) := by decide +kernel
theorem dL_law_864 : decode cL_law 864 = .ok (.iadd, 1) := by decide +kernel
theorem dL_law_865 : decode cL_law 865 = .ok (.iaload, 1) := by decide +kernel
theorem dL_law_866 : decode cL_law 866 = .ok (.invokevirtual 120, 3) := by decide +kernel
theorem dL_law_869 : decode cL_law 869 = .ok (.aload_n 2, 1) := by decide +kernel
theorem dL_law_870 : decode cL_law 870 = .ok (.aload_n 0, 1) := by decide +kernel
theorem dL_law_871 : decode cL_law 871 = .ok (.iload 4, 2) := by decide +kernel
theorem dL_law_873 : decode cL_law 873 = .ok (.iconst 1, 1) := by decide +kernel
theorem dL_law_874 : decode cL_law 874 = .ok (.iadd, 1) := by decide +kernel
theorem dL_law_875 : decode cL_law 875 = .ok (.iaload, 1) := by decide +kernel
theorem dL_law_876 : decode cL_law 876 = .ok (.invokevirtual 123, 3) := by decide +kernel
theorem dL_law_879 : decode cL_law 879 = .ok (.if_icmp .eq 5, 3) := by decide +kernel
theorem dL_law_882 : decode cL_law 882 = .ok (.iconst 0, 1) := by decide +kernel
theorem dL_law_883 : decode cL_law 883 = .ok (.ireturn, 1) := by decide +kernel
theorem dL_law_884 : decode cL_law 884 = .ok (.iinc 4 4, 3) := by decide +kernel
theorem dL_law_887 : decode cL_law 887 = .ok (.goto (-854), 3) := by decide +kernel
theorem dL_law_890 : decode cL_law 890 = .ok (.iconst 1, 1) := by decide +kernel
theorem dL_law_891 : decode cL_law 891 = .ok (.ireturn, 1) := by decide +kernel
end
section
theorem dX8_init_0 : decode cX8_init 0 = .ok (.aload_n 0, 1) := by decide +kernel
theorem dX8_init_1 : decode cX8_init 1 = .ok (.invokespecial 1, 3) := by decide +kernel
theorem dX8_init_4 : decode cX8_init 4 = .ok (.aload_n 0, 1) := by decide +kernel
theorem dX8_init_5 : decode cX8_init 5 = .ok (.iconst 0, 1) := by decide +kernel
theorem dX8_init_6 : decode cX8_init 6 = .ok (.putfield 7, 3) := by decide +kernel
theorem dX8_init_9 : decode cX8_init 9 = .ok (.aload_n 0, 1) := by decide +kernel
theorem dX8_init_10 : decode cX8_init 10 = .ok (.iconst 1, 1) := by decide +kernel
theorem dX8_init_11 : decode cX8_init 11 = .ok (.putfield 13, 3) := by decide +kernel
theorem dX8_init_14 : decode cX8_init 14 = .ok (.aload_n 0, 1) := by decide +kernel
theorem dX8_init_15 : decode cX8_init 15 = .ok (.iconst 1, 1) := by decide +kernel
theorem dX8_init_16 : decode cX8_init 16 = .ok (.putfield 16, 3) := by decide +kernel
theorem dX8_init_19 : decode cX8_init 19 = .ok (.aload_n 0, 1) := by decide +kernel
theorem dX8_init_20 : decode cX8_init 20 = .ok (.bipush 36, 2) := by decide +kernel
theorem dX8_init_22 : decode cX8_init 22 = .ok (.newarray .boolean, 2) := by decide +kernel
theorem dX8_init_24 : decode cX8_init 24 = .ok (.putfield 19, 3) := by decide +kernel
theorem dX8_init_27 : decode cX8_init 27 = .ok (.aload_n 0, 1) := by decide +kernel
theorem dX8_init_28 : decode cX8_init 28 = .ok (.iconst 4, 1) := by decide +kernel
theorem dX8_init_29 : decode cX8_init 29 = .ok (.newarray .int, 2) := by decide +kernel
theorem dX8_init_31 : decode cX8_init 31 = .ok (.putfield 23, 3) := by decide +kernel
theorem dX8_init_34 : decode cX8_init 34 = .ok (.aload_n 0, 1) := by decide +kernel
theorem dX8_init_35 : decode cX8_init 35 = .ok (.iconst 4, 1) := by decide +kernel
theorem dX8_init_36 : decode cX8_init 36 = .ok (.newarray .int, 2) := by decide +kernel
theorem dX8_init_38 : decode cX8_init 38 = .ok (.putfield 27, 3) := by decide +kernel
theorem dX8_init_41 : decode cX8_init 41 = .ok (.aload_n 0, 1) := by decide +kernel
theorem dX8_init_42 : decode cX8_init 42 = .ok (.iconst 1, 1) := by decide +kernel
theorem dX8_init_43 : decode cX8_init 43 = .ok (.putfield 30, 3) := by decide +kernel
theorem dX8_init_46 : decode cX8_init 46 = .ok (.aload_n 0, 1) := by decide +kernel
theorem dX8_init_47 : decode cX8_init 47 = .ok (.lconst 1, 1) := by decide +kernel
theorem dX8_init_48 : decode cX8_init 48 = .ok (.putfield 34, 3) := by decide +kernel
theorem dX8_init_51 : decode cX8_init 51 = .ok (.aload_n 0, 1) := by decide +kernel
theorem dX8_init_52 : decode cX8_init 52 = .ok (.iconst 0, 1) := by decide +kernel
theorem dX8_init_53 : decode cX8_init 53 = .ok (.putfield 38, 3) := by decide +kernel
theorem dX8_init_56 : decode cX8_init 56 = .ok (.aload_n 0, 1) := by decide +kernel
theorem dX8_init_57 : decode cX8_init 57 = .ok (.iconst 0, 1) := by decide +kernel
theorem dX8_init_58 : decode cX8_init 58 = .ok (.putfield 41, 3) := by decide +kernel
theorem dX8_init_61 : decode cX8_init 61 = .ok (.aload_n 0, 1) := by decide +kernel
theorem dX8_init_62 : decode cX8_init 62 = .ok (.iconst (-1), 1) := by decide +kernel
theorem dX8_init_63 : decode cX8_init 63 = .ok (.putfield 44, 3) := by decide +kernel
theorem dX8_init_66 : decode cX8_init 66 = .ok (.aload_n 0, 1) := by decide +kernel
theorem dX8_init_67 : decode cX8_init 67 = .ok (.iconst 0, 1) := by decide +kernel
theorem dX8_init_68 : decode cX8_init 68 = .ok (.putfield 47, 3) := by decide +kernel
theorem dX8_init_71 : decode cX8_init 71 = .ok (.aload_n 0, 1) := by decide +kernel
theorem dX8_init_72 : decode cX8_init 72 = .ok (.sipush 1600, 3) := by decide +kernel
theorem dX8_init_75 : decode cX8_init 75 = .ok (.newarray .int, 2) := by decide +kernel
theorem dX8_init_77 : decode cX8_init 77 = .ok (.putfield 50, 3) := by decide +kernel
theorem dX8_init_80 : decode cX8_init 80 = .ok (.aload_n 0, 1) := by decide +kernel
theorem dX8_init_81 : decode cX8_init 81 = .ok (.sipush 640, 3) := by decide +kernel
theorem dX8_init_84 : decode cX8_init 84 = .ok (.newarray .int, 2) := by decide +kernel
theorem dX8_init_86 : decode cX8_init 86 = .ok (.putfield 53, 3) := by decide +kernel
theorem dX8_init_89 : decode cX8_init 89 = .ok (.aload_n 0, 1) := by decide +kernel
theorem dX8_init_90 : decode cX8_init 90 = .ok (.iconst 4, 1) := by decide +kernel
theorem dX8_init_91 : decode cX8_init 91 = .ok (.newarray .int, 2) := by decide +kernel
theorem dX8_init_93 : decode cX8_init 93 = .ok (.putfield 56, 3) := by decide +kernel
theorem dX8_init_96 : decode cX8_init 96 = .ok (.aload_n 0, 1) := by decide +kernel
theorem dX8_init_97 : decode cX8_init 97 = .ok (.sipush 1476, 3) := by decide +kernel
theorem dX8_init_100 : decode cX8_init 100 = .ok (.newarray .int, 2) := by decide +kernel
theorem dX8_init_102 : decode cX8_init 102 = .ok (.putfield 59, 3) := by decide +kernel
theorem dX8_init_105 : decode cX8_init 105 = .ok (.aload_n 0, 1) := by decide +kernel
theorem dX8_init_106 : decode cX8_init 106 = .ok (.iload_n 1, 1) := by decide +kernel
theorem dX8_init_107 : decode cX8_init 107 = .ok (.ifCond .ge 7, 3) := by decide +kernel
theorem dX8_init_110 : decode cX8_init 110 = .ok (.iconst 0, 1) := by decide +kernel
theorem dX8_init_111 : decode cX8_init 111 = .ok (.goto 13, 3) := by decide +kernel
theorem dX8_init_114 : decode cX8_init 114 = .ok (.iload_n 1, 1) := by decide +kernel
theorem dX8_init_115 : decode cX8_init 115 = .ok (.iconst 4, 1) := by decide +kernel
theorem dX8_init_116 : decode cX8_init 116 = .ok (.if_icmp .le 7, 3) := by decide +kernel
theorem dX8_init_119 : decode cX8_init 119 = .ok (.iconst 4, 1) := by decide +kernel
theorem dX8_init_120 : decode cX8_init 120 = .ok (.goto 4, 3) := by decide +kernel
theorem dX8_init_123 : decode cX8_init 123 = .ok (.iload_n 1, 1) := by decide +kernel
theorem dX8_init_124 : decode cX8_init 124 = .ok (.putfield 62, 3) := by decide +kernel
theorem dX8_init_127 : decode cX8_init 127 = .ok (.aload_n 0, 1) := by decide +kernel
theorem dX8_init_128 : decode cX8_init 128 = .ok (.iconst 1, 1) := by decide +kernel
theorem dX8_init_129 : decode cX8_init 129 = .ok (.iconst 1, 1) := by decide +kernel
theorem dX8_init_130 : decode cX8_init 130 = .ok (.invokevirtual 65, 3) := by decide +kernel
theorem dX8_init_133 : decode cX8_init 133 = .ok (.return_, 1) := by decide +kernel
theorem dX8_fresh_0 : decode cX8_fresh 0 = .ok (.aload_n 0, 1) := by decide +kernel
theorem dX8_fresh_1 : decode cX8_fresh 1 = .ok (.iload_n 1, 1) := by decide +kernel
theorem dX8_fresh_2 : decode cX8_fresh 2 = .ok (.putfield 13, 3) := by decide +kernel
theorem dX8_fresh_5 : decode cX8_fresh 5 = .ok (.aload_n 0, 1) := by decide +kernel
theorem dX8_fresh_6 : decode cX8_fresh 6 = .ok (.iload_n 2, 1) := by decide +kernel
theorem dX8_fresh_7 : decode cX8_fresh 7 = .ok (.putfield 16, 3) := by decide +kernel
theorem dX8_fresh_10 : decode cX8_fresh 10 = .ok (.iconst 0, 1) := by decide +kernel
theorem dX8_fresh_11 : decode cX8_fresh 11 = .ok (.istore_n 3, 1) := by decide +kernel
theorem dX8_fresh_12 : decode cX8_fresh 12 = .ok (.iload_n 3, 1) := by decide +kernel
theorem dX8_fresh_13 : decode cX8_fresh 13 = .ok (.bipush 36, 2) := by decide +kernel
theorem dX8_fresh_15 : decode cX8_fresh 15 = .ok (.if_icmp .ge 16, 3) := by decide +kernel
theorem dX8_fresh_18 : decode cX8_fresh 18 = .ok (.aload_n 0, 1) := by decide +kernel
theorem dX8_fresh_19 : decode cX8_fresh 19 = .ok (.getfield 19, 3) := by decide +kernel
theorem dX8_fresh_22 : decode cX8_fresh 22 = .ok (.iload_n 3, 1) := by decide +kernel
theorem dX8_fresh_23 : decode cX8_fresh 23 = .ok (.iconst 0, 1) := by decide +kernel
theorem dX8_fresh_24 : decode cX8_fresh 24 = .ok (.bastore, 1) := by decide +kernel
theorem dX8_fresh_25 : decode cX8_fresh 25 = .ok (.iinc 3 1, 3) := by decide +kernel
theorem dX8_fresh_28 : decode cX8_fresh 28 = .ok (.goto (-16), 3) := by decide +kernel
theorem dX8_fresh_31 : decode cX8_fresh 31 = .ok (.iconst 0, 1) := by decide +kernel
theorem dX8_fresh_32 : decode cX8_fresh 32 = .ok (.istore_n 3, 1) := by decide +kernel
theorem dX8_fresh_33 : decode cX8_fresh 33 = .ok (.iload_n 3, 1) := by decide +kernel
theorem dX8_fresh_34 : decode cX8_fresh 34 = .ok (.iconst 4, 1) := by decide +kernel
theorem dX8_fresh_35 : decode cX8_fresh 35 = .ok (.if_icmp .ge 23, 3) := by decide +kernel
theorem dX8_fresh_38 : decode cX8_fresh 38 = .ok (.aload_n 0, 1) := by decide +kernel
theorem dX8_fresh_39 : decode cX8_fresh 39 = .ok (.getfield 23, 3) := by decide +kernel
theorem dX8_fresh_42 : decode cX8_fresh 42 = .ok (.iload_n 3, 1) := by decide +kernel
theorem dX8_fresh_43 : decode cX8_fresh 43 = .ok (.iconst (-1), 1) := by decide +kernel
theorem dX8_fresh_44 : decode cX8_fresh 44 = .ok (.iastore, 1) := by decide +kernel
theorem dX8_fresh_45 : decode cX8_fresh 45 = .ok (.aload_n 0, 1) := by decide +kernel
theorem dX8_fresh_46 : decode cX8_fresh 46 = .ok (.getfield 27, 3) := by decide +kernel
theorem dX8_fresh_49 : decode cX8_fresh 49 = .ok (.iload_n 3, 1) := by decide +kernel
theorem dX8_fresh_50 : decode cX8_fresh 50 = .ok (.iconst (-1), 1) := by decide +kernel
theorem dX8_fresh_51 : decode cX8_fresh 51 = .ok (.iastore, 1) := by decide +kernel
theorem dX8_fresh_52 : decode cX8_fresh 52 = .ok (.iinc 3 1, 3) := by decide +kernel
theorem dX8_fresh_55 : decode cX8_fresh 55 = .ok (.goto (-22), 3) := by decide +kernel
theorem dX8_fresh_58 : decode cX8_fresh 58 = .ok (.aload_n 0, 1) := by decide +kernel
theorem dX8_fresh_59 : decode cX8_fresh 59 = .ok (.iconst 0, 1) := by decide +kernel
theorem dX8_fresh_60 : decode cX8_fresh 60 = .ok (.putfield 38, 3) := by decide +kernel
theorem dX8_fresh_63 : decode cX8_fresh 63 = .ok (.return_, 1) := by decide +kernel
theorem dX8_noCell_0 : decode cX8_noCell 0 = .ok (.iload_n 1, 1) := by decide +kernel
theorem dX8_noCell_1 : decode cX8_noCell 1 = .ok (.ifCond .lt 23, 3) := by decide +kernel
theorem dX8_noCell_4 : decode cX8_noCell 4 = .ok (.iload_n 1, 1) := by decide +kernel
theorem dX8_noCell_5 : decode cX8_noCell 5 = .ok (.aload_n 0, 1) := by decide +kernel
theorem dX8_noCell_6 : decode cX8_noCell 6 = .ok (.getfield 13, 3) := by decide +kernel
theorem dX8_noCell_9 : decode cX8_noCell 9 = .ok (.if_icmp .ge 15, 3) := by decide +kernel
theorem dX8_noCell_12 : decode cX8_noCell 12 = .ok (.iload_n 2, 1) := by decide +kernel
theorem dX8_noCell_13 : decode cX8_noCell 13 = .ok (.ifCond .lt 11, 3) := by decide +kernel
theorem dX8_noCell_16 : decode cX8_noCell 16 = .ok (.iload_n 2, 1) := by decide +kernel
theorem dX8_noCell_17 : decode cX8_noCell 17 = .ok (.aload_n 0, 1) := by decide +kernel
theorem dX8_noCell_18 : decode cX8_noCell 18 = .ok (.getfield 16, 3) := by decide +kernel
theorem dX8_noCell_21 : decode cX8_noCell 21 = .ok (.if_icmp .lt 7, 3) := by decide +kernel
theorem dX8_noCell_24 : decode cX8_noCell 24 = .ok (.iconst 1, 1) := by decide +kernel
theorem dX8_noCell_25 : decode cX8_noCell 25 = .ok (.goto 4, 3) := by decide +kernel
theorem dX8_noCell_28 : decode cX8_noCell 28 = .ok (.iconst 0, 1) := by decide +kernel
theorem dX8_noCell_29 : decode cX8_noCell 29 = .ok (.ireturn, 1) := by decide +kernel
theorem dX8_moved_0 : decode cX8_moved 0 = .ok (.iload_n 1, 1) := by decide +kernel
theorem dX8_moved_1 : decode cX8_moved 1 = .ok (.bipush 6, 2) := by decide +kernel
theorem dX8_moved_3 : decode cX8_moved 3 = .ok (.irem, 1) := by decide +kernel
theorem dX8_moved_4 : decode cX8_moved 4 = .ok (.iload_n 2, 1) := by decide +kernel
theorem dX8_moved_5 : decode cX8_moved 5 = .ok (.iconst 2, 1) := by decide +kernel
theorem dX8_moved_6 : decode cX8_moved 6 = .ok (.if_icmp .ne 7, 3) := by decide +kernel
theorem dX8_moved_9 : decode cX8_moved 9 = .ok (.iconst 1, 1) := by decide +kernel
theorem dX8_moved_10 : decode cX8_moved 10 = .ok (.goto 13, 3) := by decide +kernel
theorem dX8_moved_13 : decode cX8_moved 13 = .ok (.iload_n 2, 1) := by decide +kernel
theorem dX8_moved_14 : decode cX8_moved 14 = .ok (.iconst 4, 1) := by decide +kernel
theorem dX8_moved_15 : decode cX8_moved 15 = .ok (.if_icmp .ne 7, 3) := by decide +kernel
theorem dX8_moved_18 : decode cX8_moved 18 = .ok (.iconst (-1), 1) := by decide +kernel
theorem dX8_moved_19 : decode cX8_moved 19 = .ok (.goto 4, 3) := by decide +kernel
theorem dX8_moved_22 : decode cX8_moved 22 = .ok (.iconst 0, 1) := by decide +kernel
theorem dX8_moved_23 : decode cX8_moved 23 = .ok (.iadd, 1) := by decide +kernel
theorem dX8_moved_24 : decode cX8_moved 24 = .ok (.istore_n 3, 1) := by decide +kernel
theorem dX8_moved_25 : decode cX8_moved 25 = .ok (.iload_n 1, 1) := by decide +kernel
theorem dX8_moved_26 : decode cX8_moved 26 = .ok (.bipush 6, 2) := by decide +kernel
theorem dX8_moved_28 : decode cX8_moved 28 = .ok (.idiv, 1) := by decide +kernel
theorem dX8_moved_29 : decode cX8_moved 29 = .ok (.iload_n 2, 1) := by decide +kernel
theorem dX8_moved_30 : decode cX8_moved 30 = .ok (.iconst 3, 1) := by decide +kernel
theorem dX8_moved_31 : decode cX8_moved 31 = .ok (.if_icmp .ne 7, 3) := by decide +kernel
theorem dX8_moved_34 : decode cX8_moved 34 = .ok (.iconst 1, 1) := by decide +kernel
theorem dX8_moved_35 : decode cX8_moved 35 = .ok (.goto 13, 3) := by decide +kernel
theorem dX8_moved_38 : decode cX8_moved 38 = .ok (.iload_n 2, 1) := by decide +kernel
theorem dX8_moved_39 : decode cX8_moved 39 = .ok (.iconst 1, 1) := by decide +kernel
theorem dX8_moved_40 : decode cX8_moved 40 = .ok (.if_icmp .ne 7, 3) := by decide +kernel
theorem dX8_moved_43 : decode cX8_moved 43 = .ok (.iconst (-1), 1) := by decide +kernel
theorem dX8_moved_44 : decode cX8_moved 44 = .ok (.goto 4, 3) := by decide +kernel
theorem dX8_moved_47 : decode cX8_moved 47 = .ok (.iconst 0, 1) := by decide +kernel
theorem dX8_moved_48 : decode cX8_moved 48 = .ok (.iadd, 1) := by decide +kernel
theorem dX8_moved_49 : decode cX8_moved 49 = .ok (.istore 4, 2) := by decide +kernel
theorem dX8_moved_51 : decode cX8_moved 51 = .ok (.aload_n 0, 1) := by decide +kernel
theorem dX8_moved_52 : decode cX8_moved 52 = .ok (.iload_n 3, 1) := by decide +kernel
theorem dX8_moved_53 : decode cX8_moved 53 = .ok (.iload 4, 2) := by decide +kernel
theorem dX8_moved_55 : decode cX8_moved 55 = .ok (.invokevirtual 69, 3) := by decide +kernel
theorem dX8_moved_58 : decode cX8_moved 58 = .ok (.ifCond .ne 18, 3) := by decide +kernel
theorem dX8_moved_61 : decode cX8_moved 61 = .ok (.aload_n 0, 1) := by decide +kernel
theorem dX8_moved_62 : decode cX8_moved 62 = .ok (.getfield 19, 3) := by decide +kernel
theorem dX8_moved_65 : decode cX8_moved 65 = .ok (.bipush 6, 2) := by decide +kernel
theorem dX8_moved_67 : decode cX8_moved 67 = .ok (.iload 4, 2) := by decide +kernel
theorem dX8_moved_69 : decode cX8_moved 69 = .ok (.imul, 1) := by decide +kernel
theorem dX8_moved_70 : decode cX8_moved 70 = .ok (.iload_n 3, 1) := by decide +kernel
theorem dX8_moved_71 : decode cX8_moved 71 = .ok (.iadd, 1) := by decide +kernel
theorem dX8_moved_72 : decode cX8_moved 72 = .ok (.baload, 1) := by decide +kernel
theorem dX8_moved_73 : decode cX8_moved 73 = .ok (.ifCond .eq 7, 3) := by decide +kernel
theorem dX8_moved_76 : decode cX8_moved 76 = .ok (.iconst (-1), 1) := by decide +kernel
theorem dX8_moved_77 : decode cX8_moved 77 = .ok (.goto 10, 3) := by decide +kernel
theorem dX8_moved_80 : decode cX8_moved 80 = .ok (.bipush 6, 2) := by decide +kernel
theorem dX8_moved_82 : decode cX8_moved 82 = .ok (.iload 4, 2) := by decide +kernel
theorem dX8_moved_84 : decode cX8_moved 84 = .ok (.imul, 1) := by decide +kernel
theorem dX8_moved_85 : decode cX8_moved 85 = .ok (.iload_n 3, 1) := by decide +kernel
theorem dX8_moved_86 : decode cX8_moved 86 = .ok (.iadd, 1) := by decide +kernel
theorem dX8_moved_87 : decode cX8_moved 87 = .ok (.ireturn, 1) := by decide +kernel
theorem dX8_stays_0 : decode cX8_stays 0 = .ok (.iload_n 0, 1) := by decide +kernel
theorem dX8_stays_1 : decode cX8_stays 1 = .ok (.iload_n 1, 1) := by decide +kernel
theorem dX8_stays_2 : decode cX8_stays 2 = .ok (.if_icmp .ne 12, 3) := by decide +kernel
theorem dX8_stays_5 : decode cX8_stays 5 = .ok (.iload_n 1, 1) := by decide +kernel
theorem dX8_stays_6 : decode cX8_stays 6 = .ok (.iload_n 2, 1) := by decide +kernel
theorem dX8_stays_7 : decode cX8_stays 7 = .ok (.if_icmp .ne 7, 3) := by decide +kernel
theorem dX8_stays_10 : decode cX8_stays 10 = .ok (.iconst 0, 1) := by decide +kernel
theorem dX8_stays_11 : decode cX8_stays 11 = .ok (.goto 4, 3) := by decide +kernel
theorem dX8_stays_14 : decode cX8_stays 14 = .ok (.iconst 1, 1) := by decide +kernel
theorem dX8_stays_15 : decode cX8_stays 15 = .ok (.ireturn, 1) := by decide +kernel
theorem dX8_goal_0 : decode cX8_goal 0 = .ok (.iload_n 1, 1) := by decide +kernel
theorem dX8_goal_1 : decode cX8_goal 1 = .ok (.aload_n 0, 1) := by decide +kernel
theorem dX8_goal_2 : decode cX8_goal 2 = .ok (.getfield 62, 3) := by decide +kernel
theorem dX8_goal_5 : decode cX8_goal 5 = .ok (.if_icmp .ge 12, 3) := by decide +kernel
theorem dX8_goal_8 : decode cX8_goal 8 = .ok (.aload_n 0, 1) := by decide +kernel
theorem dX8_goal_9 : decode cX8_goal 9 = .ok (.getfield 27, 3) := by decide +kernel
theorem dX8_goal_12 : decode cX8_goal 12 = .ok (.iload_n 1, 1) := by decide +kernel
theorem dX8_goal_13 : decode cX8_goal 13 = .ok (.iaload, 1) := by decide +kernel
theorem dX8_goal_14 : decode cX8_goal 14 = .ok (.goto 4, 3) := by decide +kernel
theorem dX8_goal_17 : decode cX8_goal 17 = .ok (.iconst 0, 1) := by decide +kernel
theorem dX8_goal_18 : decode cX8_goal 18 = .ok (.ireturn, 1) := by decide +kernel
theorem dX8_through_0 : decode cX8_through 0 = .ok (.aload_n 0, 1) := by decide +kernel
theorem dX8_through_1 : decode cX8_through 1 = .ok (.iload_n 1, 1) := by decide +kernel
theorem dX8_through_2 : decode cX8_through 2 = .ok (.iload_n 3, 1) := by decide +kernel
theorem dX8_through_3 : decode cX8_through 3 = .ok (.invokevirtual 73, 3) := by decide +kernel
theorem dX8_through_6 : decode cX8_through 6 = .ok (.istore 5, 2) := by decide +kernel
theorem dX8_through_8 : decode cX8_through 8 = .ok (.aload_n 0, 1) := by decide +kernel
theorem dX8_through_9 : decode cX8_through 9 = .ok (.getfield 62, 3) := by decide +kernel
theorem dX8_through_12 : decode cX8_through 12 = .ok (.iconst 2, 1) := by decide +kernel
theorem dX8_through_13 : decode cX8_through 13 = .ok (.if_icmp .ne 13, 3) := by decide +kernel
theorem dX8_through_16 : decode cX8_through 16 = .ok (.aload_n 0, 1) := by decide +kernel
theorem dX8_through_17 : decode cX8_through 17 = .ok (.iload_n 2, 1) := by decide +kernel
theorem dX8_through_18 : decode cX8_through 18 = .ok (.iload 4, 2) := by decide +kernel
theorem dX8_through_20 : decode cX8_through 20 = .ok (.invokevirtual 73, 3) := by decide +kernel
theorem dX8_through_23 : decode cX8_through 23 = .ok (.goto 13, 3) := by decide +kernel
theorem dX8_through_26 : decode cX8_through 26 = .ok (.iload 4, 2) := by decide +kernel
theorem dX8_through_28 : decode cX8_through 28 = .ok (.ifCond .ne 7, 3) := by decide +kernel
theorem dX8_through_31 : decode cX8_through 31 = .ok (.iload_n 2, 1) := by decide +kernel
theorem dX8_through_32 : decode cX8_through 32 = .ok (.goto 4, 3) := by decide +kernel
theorem dX8_through_35 : decode cX8_through 35 = .ok (.iconst (-1), 1) := by decide +kernel
theorem dX8_through_36 : decode cX8_through 36 = .ok (.istore 6, 2) := by decide +kernel
theorem dX8_through_38 : decode cX8_through 38 = .ok (.iload 5, 2) := by decide +kernel
theorem dX8_through_40 : decode cX8_through 40 = .ok (.ifCond .lt 8, 3) := by decide +kernel
theorem dX8_through_43 : decode cX8_through 43 = .ok (.iload 6, 2) := by decide +kernel
theorem dX8_through_45 : decode cX8_through 45 = .ok (.ifCond .ge 6, 3) := by decide +kernel
theorem dX8_through_48 : decode cX8_through 48 = .ok (.ldc 77, 2) := by decide +kernel
theorem dX8_through_50 : decode cX8_through 50 = .ok (.ireturn, 1) := by decide +kernel
theorem dX8_through_51 : decode cX8_through 51 = .ok (.aload_n 0, 1) := by decide +kernel
theorem dX8_through_52 : decode cX8_through 52 = .ok (.getfield 62, 3) := by decide +kernel
theorem dX8_through_55 : decode cX8_through 55 = .ok (.iconst 2, 1) := by decide +kernel
theorem dX8_through_56 : decode cX8_through 56 = .ok (.if_icmp .ne 32, 3) := by decide +kernel
theorem dX8_through_59 : decode cX8_through 59 = .ok (.iload 5, 2) := by decide +kernel
theorem dX8_through_61 : decode cX8_through 61 = .ok (.iload 6, 2) := by decide +kernel
theorem dX8_through_63 : decode cX8_through 63 = .ok (.if_icmp .eq 22, 3) := by decide +kernel
theorem dX8_through_66 : decode cX8_through 66 = .ok (.aload_n 0, 1) := by decide +kernel
theorem dX8_through_67 : decode cX8_through 67 = .ok (.getfield 30, 3) := by decide +kernel
theorem dX8_through_70 : decode cX8_through 70 = .ok (.ifCond .eq 18, 3) := by decide +kernel
theorem dX8_through_73 : decode cX8_through 73 = .ok (.iload 5, 2) := by decide +kernel
theorem dX8_through_75 : decode cX8_through 75 = .ok (.iload_n 2, 1) := by decide +kernel
theorem dX8_through_76 : decode cX8_through 76 = .ok (.if_icmp .ne 12, 3) := by decide +kernel
theorem dX8_through_79 : decode cX8_through 79 = .ok (.iload 6, 2) := by decide +kernel
theorem dX8_through_81 : decode cX8_through 81 = .ok (.iload_n 1, 1) := by decide +kernel
theorem dX8_through_82 : decode cX8_through 82 = .ok (.if_icmp .ne 6, 3) := by decide +kernel
theorem dX8_through_85 : decode cX8_through 85 = .ok (.ldc 77, 2) := by decide +kernel
theorem dX8_through_87 : decode cX8_through 87 = .ok (.ireturn, 1) := by decide +kernel
theorem dX8_through_88 : decode cX8_through 88 = .ok (.iload_n 1, 1) := by decide +kernel
theorem dX8_through_89 : decode cX8_through 89 = .ok (.iload 5, 2) := by decide +kernel
theorem dX8_through_91 : decode cX8_through 91 = .ok (.aload_n 0, 1) := by decide +kernel
theorem dX8_through_92 : decode cX8_through 92 = .ok (.iconst 0, 1) := by decide +kernel
theorem dX8_through_93 : decode cX8_through 93 = .ok (.invokevirtual 78, 3) := by decide +kernel
theorem dX8_through_96 : decode cX8_through 96 = .ok (.invokestatic 82, 3) := by decide +kernel
theorem dX8_through_99 : decode cX8_through 99 = .ok (.aload_n 0, 1) := by decide +kernel
theorem dX8_through_100 : decode cX8_through 100 = .ok (.getfield 62, 3) := by decide +kernel
theorem dX8_through_103 : decode cX8_through 103 = .ok (.iconst 2, 1) := by decide +kernel
theorem dX8_through_104 : decode cX8_through 104 = .ok (.if_icmp .ne 17, 3) := by decide +kernel
theorem dX8_through_107 : decode cX8_through 107 = .ok (.iload_n 2, 1) := by decide +kernel
theorem dX8_through_108 : decode cX8_through 108 = .ok (.iload 6, 2) := by decide +kernel
theorem dX8_through_110 : decode cX8_through 110 = .ok (.aload_n 0, 1) := by decide +kernel
theorem dX8_through_111 : decode cX8_through 111 = .ok (.iconst 1, 1) := by decide +kernel
theorem dX8_through_112 : decode cX8_through 112 = .ok (.invokevirtual 78, 3) := by decide +kernel
theorem dX8_through_115 : decode cX8_through 115 = .ok (.invokestatic 82, 3) := by decide +kernel
theorem dX8_through_118 : decode cX8_through 118 = .ok (.goto 4, 3) := by decide +kernel
theorem dX8_through_121 : decode cX8_through 121 = .ok (.iconst 0, 1) := by decide +kernel
theorem dX8_through_122 : decode cX8_through 122 = .ok (.iadd, 1) := by decide +kernel
theorem dX8_through_123 : decode cX8_through 123 = .ok (.istore 7, 2) := by decide +kernel
theorem dX8_through_125 : decode cX8_through 125 = .ok (.iload 7, 2) := by decide +kernel
theorem dX8_through_127 : decode cX8_through 127 = .ok (.ifCond .ne 26, 3) := by decide +kernel
theorem dX8_through_130 : decode cX8_through 130 = .ok (.aload_n 0, 1) := by decide +kernel
theorem dX8_through_131 : decode cX8_through 131 = .ok (.getfield 59, 3) := by decide +kernel
theorem dX8_through_134 : decode cX8_through 134 = .ok (.bipush 36, 2) := by decide +kernel
theorem dX8_through_136 : decode cX8_through 136 = .ok (.iload 5, 2) := by decide +kernel
theorem dX8_through_138 : decode cX8_through 138 = .ok (.imul, 1) := by decide +kernel
theorem dX8_through_139 : decode cX8_through 139 = .ok (.iload 6, 2) := by decide +kernel
theorem dX8_through_141 : decode cX8_through 141 = .ok (.iadd, 1) := by decide +kernel
theorem dX8_through_142 : decode cX8_through 142 = .ok (.iaload, 1) := by decide +kernel
theorem dX8_through_143 : decode cX8_through 143 = .ok (.ldc 77, 2) := by decide +kernel
theorem dX8_through_145 : decode cX8_through 145 = .ok (.if_icmp .lt 8, 3) := by decide +kernel
theorem dX8_through_148 : decode cX8_through 148 = .ok (.ldc 77, 2) := by decide +kernel
theorem dX8_through_150 : decode cX8_through 150 = .ok (.goto 19, 3) := by decide +kernel
theorem dX8_through_153 : decode cX8_through 153 = .ok (.iload 7, 2) := by decide +kernel
theorem dX8_through_155 : decode cX8_through 155 = .ok (.aload_n 0, 1) := by decide +kernel
theorem dX8_through_156 : decode cX8_through 156 = .ok (.getfield 59, 3) := by decide +kernel
theorem dX8_through_159 : decode cX8_through 159 = .ok (.bipush 36, 2) := by decide +kernel
theorem dX8_through_161 : decode cX8_through 161 = .ok (.iload 5, 2) := by decide +kernel
theorem dX8_through_163 : decode cX8_through 163 = .ok (.imul, 1) := by decide +kernel
theorem dX8_through_164 : decode cX8_through 164 = .ok (.iload 6, 2) := by decide +kernel
theorem dX8_through_166 : decode cX8_through 166 = .ok (.iadd, 1) := by decide +kernel
theorem dX8_through_167 : decode cX8_through 167 = .ok (.iaload, 1) := by decide +kernel
theorem dX8_through_168 : decode cX8_through 168 = .ok (.iadd, 1) := by decide +kernel
theorem dX8_through_169 : decode cX8_through 169 = .ok (.ireturn, 1) := by decide +kernel
theorem dX8_jointly_0 : decode cX8_jointly 0 = .ok (.aload_n 0, 1) := by decide +kernel
theorem dX8_jointly_1 : decode cX8_jointly 1 = .ok (.iconst 1, 1) := by decide +kernel
theorem dX8_jointly_2 : decode cX8_jointly 2 = .ok (.putfield 41, 3) := by decide +kernel
theorem dX8_jointly_5 : decode cX8_jointly 5 = .ok (.aload_n 0, 1) := by decide +kernel
theorem dX8_jointly_6 : decode cX8_jointly 6 = .ok (.iconst 0, 1) := by decide +kernel
theorem dX8_jointly_7 : decode cX8_jointly 7 = .ok (.putfield 47, 3) := by decide +kernel
theorem dX8_jointly_10 : decode cX8_jointly 10 = .ok (.aload_n 0, 1) := by decide +kernel
theorem dX8_jointly_11 : decode cX8_jointly 11 = .ok (.getfield 62, 3) := by decide +kernel
theorem dX8_jointly_14 : decode cX8_jointly 14 = .ok (.ifCond .ne 14, 3) := by decide +kernel
theorem dX8_jointly_17 : decode cX8_jointly 17 = .ok (.aload_n 0, 1) := by decide +kernel
theorem dX8_jointly_18 : decode cX8_jointly 18 = .ok (.iconst 0, 1) := by decide +kernel
theorem dX8_jointly_19 : decode cX8_jointly 19 = .ok (.putfield 44, 3) := by decide +kernel
theorem dX8_jointly_22 : decode cX8_jointly 22 = .ok (.aload_n 0, 1) := by decide +kernel
theorem dX8_jointly_23 : decode cX8_jointly 23 = .ok (.iconst 1, 1) := by decide +kernel
theorem dX8_jointly_24 : decode cX8_jointly 24 = .ok (.putfield 38, 3) := by decide +kernel
theorem dX8_jointly_27 : decode cX8_jointly 27 = .ok (.return_, 1) := by decide +kernel
theorem dX8_jointly_28 : decode cX8_jointly 28 = .ok (.iconst 0, 1) := by decide +kernel
theorem dX8_jointly_29 : decode cX8_jointly 29 = .ok (.istore_n 1, 1) := by decide +kernel
theorem dX8_jointly_30 : decode cX8_jointly 30 = .ok (.iload_n 1, 1) := by decide +kernel
theorem dX8_jointly_31 : decode cX8_jointly 31 = .ok (.sipush 1296, 3) := by decide +kernel
theorem dX8_jointly_34 : decode cX8_jointly 34 = .ok (.if_icmp .ge 17, 3) := by decide +kernel
theorem dX8_jointly_37 : decode cX8_jointly 37 = .ok (.aload_n 0, 1) := by decide +kernel
theorem dX8_jointly_38 : decode cX8_jointly 38 = .ok (.getfield 59, 3) := by decide +kernel
theorem dX8_jointly_41 : decode cX8_jointly 41 = .ok (.iload_n 1, 1) := by decide +kernel
theorem dX8_jointly_42 : decode cX8_jointly 42 = .ok (.ldc 77, 2) := by decide +kernel
theorem dX8_jointly_44 : decode cX8_jointly 44 = .ok (.iastore, 1) := by decide +kernel
theorem dX8_jointly_45 : decode cX8_jointly 45 = .ok (.iinc 1 1, 3) := by decide +kernel
theorem dX8_jointly_48 : decode cX8_jointly 48 = .ok (.goto (-18), 3) := by decide +kernel
theorem dX8_jointly_51 : decode cX8_jointly 51 = .ok (.aload_n 0, 1) := by decide +kernel
theorem dX8_jointly_52 : decode cX8_jointly 52 = .ok (.getfield 59, 3) := by decide +kernel
theorem dX8_jointly_55 : decode cX8_jointly 55 = .ok (.bipush 36, 2) := by decide +kernel
theorem dX8_jointly_57 : decode cX8_jointly 57 = .ok (.aload_n 0, 1) := by decide +kernel
theorem dX8_jointly_58 : decode cX8_jointly 58 = .ok (.iconst 0, 1) := by decide +kernel
theorem dX8_jointly_59 : decode cX8_jointly 59 = .ok (.invokevirtual 78, 3) := by decide +kernel
theorem dX8_jointly_62 : decode cX8_jointly 62 = .ok (.imul, 1) := by decide +kernel
theorem dX8_jointly_63 : decode cX8_jointly 63 = .ok (.aload_n 0, 1) := by decide +kernel
theorem dX8_jointly_64 : decode cX8_jointly 64 = .ok (.iconst 1, 1) := by decide +kernel
theorem dX8_jointly_65 : decode cX8_jointly 65 = .ok (.invokevirtual 78, 3) := by decide +kernel
theorem dX8_jointly_68 : decode cX8_jointly 68 = .ok (.iadd, 1) := by decide +kernel
theorem dX8_jointly_69 : decode cX8_jointly 69 = .ok (.iconst 0, 1) := by decide +kernel
theorem dX8_jointly_70 : decode cX8_jointly 70 = .ok (.iastore, 1) := by decide +kernel
theorem dX8_jointly_71 : decode cX8_jointly 71 = .ok (.iconst 1, 1) := by decide +kernel
theorem dX8_jointly_72 : decode cX8_jointly 72 = .ok (.istore_n 1, 1) := by decide +kernel
theorem dX8_jointly_73 : decode cX8_jointly 73 = .ok (.iload_n 1, 1) := by decide +kernel
theorem dX8_jointly_74 : decode cX8_jointly 74 = .ok (.ifCond .eq 59, 3) := by decide +kernel
theorem dX8_jointly_77 : decode cX8_jointly 77 = .ok (.iconst 0, 1) := by decide +kernel
theorem dX8_jointly_78 : decode cX8_jointly 78 = .ok (.istore_n 1, 1) := by decide +kernel
theorem dX8_jointly_79 : decode cX8_jointly 79 = .ok (.iconst 0, 1) := by decide +kernel
theorem dX8_jointly_80 : decode cX8_jointly 80 = .ok (.istore_n 2, 1) := by decide +kernel
theorem dX8_jointly_81 : decode cX8_jointly 81 = .ok (.iload_n 2, 1) := by decide +kernel
theorem dX8_jointly_82 : decode cX8_jointly 82 = .ok (.bipush 36, 2) := by decide +kernel
theorem dX8_jointly_84 : decode cX8_jointly 84 = .ok (.if_icmp .ge 46, 3) := by decide +kernel
theorem dX8_jointly_87 : decode cX8_jointly 87 = .ok (.iconst 0, 1) := by decide +kernel
theorem dX8_jointly_88 : decode cX8_jointly 88 = .ok (.istore_n 3, 1) := by decide +kernel
theorem dX8_jointly_89 : decode cX8_jointly 89 = .ok (.iload_n 3, 1) := by decide +kernel
theorem dX8_jointly_90 : decode cX8_jointly 90 = .ok (.aload_n 0, 1) := by decide +kernel
theorem dX8_jointly_91 : decode cX8_jointly 91 = .ok (.getfield 62, 3) := by decide +kernel
theorem dX8_jointly_94 : decode cX8_jointly 94 = .ok (.iconst 2, 1) := by decide +kernel
theorem dX8_jointly_95 : decode cX8_jointly 95 = .ok (.if_icmp .ne 8, 3) := by decide +kernel
theorem dX8_jointly_98 : decode cX8_jointly 98 = .ok (.bipush 36, 2) := by decide +kernel
theorem dX8_jointly_100 : decode cX8_jointly 100 = .ok (.goto 4, 3) := by decide +kernel
theorem dX8_jointly_103 : decode cX8_jointly 103 = .ok (.iconst 1, 1) := by decide +kernel
theorem dX8_jointly_104 : decode cX8_jointly 104 = .ok (.if_icmp .ge 20, 3) := by decide +kernel
theorem dX8_jointly_107 : decode cX8_jointly 107 = .ok (.aload_n 0, 1) := by decide +kernel
theorem dX8_jointly_108 : decode cX8_jointly 108 = .ok (.iload_n 2, 1) := by decide +kernel
theorem dX8_jointly_109 : decode cX8_jointly 109 = .ok (.iload_n 3, 1) := by decide +kernel
theorem dX8_jointly_110 : decode cX8_jointly 110 = .ok (.invokevirtual 86, 3) := by decide +kernel
theorem dX8_jointly_113 : decode cX8_jointly 113 = .ok (.ifCond .eq 5, 3) := by decide +kernel
theorem dX8_jointly_116 : decode cX8_jointly 116 = .ok (.iconst 1, 1) := by decide +kernel
theorem dX8_jointly_117 : decode cX8_jointly 117 = .ok (.istore_n 1, 1) := by decide +kernel
theorem dX8_jointly_118 : decode cX8_jointly 118 = .ok (.iinc 3 1, 3) := by decide +kernel
theorem dX8_jointly_121 : decode cX8_jointly 121 = .ok (.goto (-32), 3) := by decide +kernel
theorem dX8_jointly_124 : decode cX8_jointly 124 = .ok (.iinc 2 1, 3) := by decide +kernel
theorem dX8_jointly_127 : decode cX8_jointly 127 = .ok (.goto (-46), 3) := by decide +kernel
theorem dX8_jointly_130 : decode cX8_jointly 130 = .ok (.goto (-57), 3) := by decide +kernel
theorem dX8_jointly_133 : decode cX8_jointly 133 = .ok (.aload_n 0, 1) := by decide +kernel
theorem dX8_jointly_134 : decode cX8_jointly 134 = .ok (.getfield 23, 3) := by decide +kernel
theorem dX8_jointly_137 : decode cX8_jointly 137 = .ok (.iconst 0, 1) := by decide +kernel
theorem dX8_jointly_138 : decode cX8_jointly 138 = .ok (.iaload, 1) := by decide +kernel
theorem dX8_jointly_139 : decode cX8_jointly 139 = .ok (.istore_n 2, 1) := by decide +kernel
theorem dX8_jointly_140 : decode cX8_jointly 140 = .ok (.aload_n 0, 1) := by decide +kernel
theorem dX8_jointly_141 : decode cX8_jointly 141 = .ok (.getfield 62, 3) := by decide +kernel
theorem dX8_jointly_144 : decode cX8_jointly 144 = .ok (.iconst 2, 1) := by decide +kernel
theorem dX8_jointly_145 : decode cX8_jointly 145 = .ok (.if_icmp .ne 12, 3) := by decide +kernel
theorem dX8_jointly_148 : decode cX8_jointly 148 = .ok (.aload_n 0, 1) := by decide +kernel
theorem dX8_jointly_149 : decode cX8_jointly 149 = .ok (.getfield 23, 3) := by decide +kernel
theorem dX8_jointly_152 : decode cX8_jointly 152 = .ok (.iconst 1, 1) := by decide +kernel
theorem dX8_jointly_153 : decode cX8_jointly 153 = .ok (.iaload, 1) := by decide +kernel
theorem dX8_jointly_154 : decode cX8_jointly 154 = .ok (.goto 4, 3) := by decide +kernel
theorem dX8_jointly_157 : decode cX8_jointly 157 = .ok (.iconst 0, 1) := by decide +kernel
theorem dX8_jointly_158 : decode cX8_jointly 158 = .ok (.istore_n 3, 1) := by decide +kernel
theorem dX8_jointly_159 : decode cX8_jointly 159 = .ok (.aload_n 0, 1) := by decide +kernel
theorem dX8_jointly_160 : decode cX8_jointly 160 = .ok (.aload_n 0, 1) := by decide +kernel
theorem dX8_jointly_161 : decode cX8_jointly 161 = .ok (.getfield 59, 3) := by decide +kernel
theorem dX8_jointly_164 : decode cX8_jointly 164 = .ok (.bipush 36, 2) := by decide +kernel
theorem dX8_jointly_166 : decode cX8_jointly 166 = .ok (.iload_n 2, 1) := by decide +kernel
theorem dX8_jointly_167 : decode cX8_jointly 167 = .ok (.imul, 1) := by decide +kernel
theorem dX8_jointly_168 : decode cX8_jointly 168 = .ok (.iload_n 3, 1) := by decide +kernel
theorem dX8_jointly_169 : decode cX8_jointly 169 = .ok (.iadd, 1) := by decide +kernel
theorem dX8_jointly_170 : decode cX8_jointly 170 = .ok (.iaload, 1) := by decide +kernel
theorem dX8_jointly_171 : decode cX8_jointly 171 = .ok (.putfield 44, 3) := by decide +kernel
theorem dX8_jointly_174 : decode cX8_jointly 174 = .ok (.aload_n 0, 1) := by decide +kernel
theorem dX8_jointly_175 : decode cX8_jointly 175 = .ok (.aload_n 0, 1) := by decide +kernel
theorem dX8_jointly_176 : decode cX8_jointly 176 = .ok (.getfield 44, 3) := by decide +kernel
theorem dX8_jointly_179 : decode cX8_jointly 179 = .ok (.ldc 77, 2) := by decide +kernel
theorem dX8_jointly_181 : decode cX8_jointly 181 = .ok (.if_icmp .ge 7, 3) := by decide +kernel
theorem dX8_jointly_184 : decode cX8_jointly 184 = .ok (.iconst 1, 1) := by decide +kernel
theorem dX8_jointly_185 : decode cX8_jointly 185 = .ok (.goto 4, 3) := by decide +kernel
theorem dX8_jointly_188 : decode cX8_jointly 188 = .ok (.iconst 0, 1) := by decide +kernel
theorem dX8_jointly_189 : decode cX8_jointly 189 = .ok (.putfield 38, 3) := by decide +kernel
theorem dX8_jointly_192 : decode cX8_jointly 192 = .ok (.aload_n 0, 1) := by decide +kernel
theorem dX8_jointly_193 : decode cX8_jointly 193 = .ok (.getfield 38, 3) := by decide +kernel
theorem dX8_jointly_196 : decode cX8_jointly 196 = .ok (.ifCond .ne 4, 3) := by decide +kernel
theorem dX8_jointly_199 : decode cX8_jointly 199 = .ok (.return_, 1) := by decide +kernel
theorem dX8_jointly_200 : decode cX8_jointly 200 = .ok (.aload_n 0, 1) := by decide +kernel
theorem dX8_jointly_201 : decode cX8_jointly 201 = .ok (.getfield 50, 3) := by decide +kernel
theorem dX8_jointly_204 : decode cX8_jointly 204 = .ok (.iconst 0, 1) := by decide +kernel
theorem dX8_jointly_205 : decode cX8_jointly 205 = .ok (.iload_n 2, 1) := by decide +kernel
theorem dX8_jointly_206 : decode cX8_jointly 206 = .ok (.iastore, 1) := by decide +kernel
theorem dX8_jointly_207 : decode cX8_jointly 207 = .ok (.aload_n 0, 1) := by decide +kernel
theorem dX8_jointly_208 : decode cX8_jointly 208 = .ok (.getfield 50, 3) := by decide +kernel
theorem dX8_jointly_211 : decode cX8_jointly 211 = .ok (.sipush 400, 3) := by decide +kernel
theorem dX8_jointly_214 : decode cX8_jointly 214 = .ok (.iload_n 3, 1) := by decide +kernel
theorem dX8_jointly_215 : decode cX8_jointly 215 = .ok (.iastore, 1) := by decide +kernel
theorem dX8_jointly_216 : decode cX8_jointly 216 = .ok (.aload_n 0, 1) := by decide +kernel
theorem dX8_jointly_217 : decode cX8_jointly 217 = .ok (.getfield 59, 3) := by decide +kernel
theorem dX8_jointly_220 : decode cX8_jointly 220 = .ok (.bipush 36, 2) := by decide +kernel
theorem dX8_jointly_222 : decode cX8_jointly 222 = .ok (.iload_n 2, 1) := by decide +kernel
theorem dX8_jointly_223 : decode cX8_jointly 223 = .ok (.imul, 1) := by decide +kernel
theorem dX8_jointly_224 : decode cX8_jointly 224 = .ok (.iload_n 3, 1) := by decide +kernel
theorem dX8_jointly_225 : decode cX8_jointly 225 = .ok (.iadd, 1) := by decide +kernel
theorem dX8_jointly_226 : decode cX8_jointly 226 = .ok (.iaload, 1) := by decide +kernel
theorem dX8_jointly_227 : decode cX8_jointly 227 = .ok (.ifCond .le 80, 3) := by decide +kernel
theorem dX8_jointly_230 : decode cX8_jointly 230 = .ok (.aload_n 0, 1) := by decide +kernel
theorem dX8_jointly_231 : decode cX8_jointly 231 = .ok (.iload_n 2, 1) := by decide +kernel
theorem dX8_jointly_232 : decode cX8_jointly 232 = .ok (.iload_n 3, 1) := by decide +kernel
theorem dX8_jointly_233 : decode cX8_jointly 233 = .ok (.invokevirtual 89, 3) := by decide +kernel
theorem dX8_jointly_236 : decode cX8_jointly 236 = .ok (.istore 4, 2) := by decide +kernel
theorem dX8_jointly_238 : decode cX8_jointly 238 = .ok (.aload_n 0, 1) := by decide +kernel
theorem dX8_jointly_239 : decode cX8_jointly 239 = .ok (.iload_n 2, 1) := by decide +kernel
theorem dX8_jointly_240 : decode cX8_jointly 240 = .ok (.iload 4, 2) := by decide +kernel
theorem dX8_jointly_242 : decode cX8_jointly 242 = .ok (.iconst 5, 1) := by decide +kernel
theorem dX8_jointly_243 : decode cX8_jointly 243 = .ok (.idiv, 1) := by decide +kernel
theorem dX8_jointly_244 : decode cX8_jointly 244 = .ok (.invokevirtual 73, 3) := by decide +kernel
theorem dX8_jointly_247 : decode cX8_jointly 247 = .ok (.istore_n 2, 1) := by decide +kernel
theorem dX8_jointly_248 : decode cX8_jointly 248 = .ok (.aload_n 0, 1) := by decide +kernel
theorem dX8_jointly_249 : decode cX8_jointly 249 = .ok (.getfield 62, 3) := by decide +kernel
theorem dX8_jointly_252 : decode cX8_jointly 252 = .ok (.iconst 2, 1) := by decide +kernel
theorem dX8_jointly_253 : decode cX8_jointly 253 = .ok (.if_icmp .ne 15, 3) := by decide +kernel
theorem dX8_jointly_256 : decode cX8_jointly 256 = .ok (.aload_n 0, 1) := by decide +kernel
theorem dX8_jointly_257 : decode cX8_jointly 257 = .ok (.iload_n 3, 1) := by decide +kernel
theorem dX8_jointly_258 : decode cX8_jointly 258 = .ok (.iload 4, 2) := by decide +kernel
theorem dX8_jointly_260 : decode cX8_jointly 260 = .ok (.iconst 5, 1) := by decide +kernel
theorem dX8_jointly_261 : decode cX8_jointly 261 = .ok (.irem, 1) := by decide +kernel
theorem dX8_jointly_262 : decode cX8_jointly 262 = .ok (.invokevirtual 73, 3) := by decide +kernel
theorem dX8_jointly_265 : decode cX8_jointly 265 = .ok (.goto 4, 3) := by decide +kernel
theorem dX8_jointly_268 : decode cX8_jointly 268 = .ok (.iload_n 3, 1) := by decide +kernel
theorem dX8_jointly_269 : decode cX8_jointly 269 = .ok (.istore_n 3, 1) := by decide +kernel
theorem dX8_jointly_270 : decode cX8_jointly 270 = .ok (.aload_n 0, 1) := by decide +kernel
theorem dX8_jointly_271 : decode cX8_jointly 271 = .ok (.dup, 1) := by decide +kernel
theorem dX8_jointly_272 : decode cX8_jointly 272 = .ok (.getfield 47, 3) := by decide +kernel
theorem dX8_jointly_275 : decode cX8_jointly 275 = .ok (.iconst 1, 1) := by decide +kernel
theorem dX8_jointly_276 : decode cX8_jointly 276 = .ok (.iadd, 1) := by decide +kernel
theorem dX8_jointly_277 : decode cX8_jointly 277 = .ok (.putfield 47, 3) := by decide +kernel
theorem dX8_jointly_280 : decode cX8_jointly 280 = .ok (.aload_n 0, 1) := by decide +kernel
theorem dX8_jointly_281 : decode cX8_jointly 281 = .ok (.getfield 50, 3) := by decide +kernel
theorem dX8_jointly_284 : decode cX8_jointly 284 = .ok (.aload_n 0, 1) := by decide +kernel
theorem dX8_jointly_285 : decode cX8_jointly 285 = .ok (.getfield 47, 3) := by decide +kernel
theorem dX8_jointly_288 : decode cX8_jointly 288 = .ok (.iload_n 2, 1) := by decide +kernel
theorem dX8_jointly_289 : decode cX8_jointly 289 = .ok (.iastore, 1) := by decide +kernel
theorem dX8_jointly_290 : decode cX8_jointly 290 = .ok (.aload_n 0, 1) := by decide +kernel
theorem dX8_jointly_291 : decode cX8_jointly 291 = .ok (.getfield 50, 3) := by decide +kernel
theorem dX8_jointly_294 : decode cX8_jointly 294 = .ok (.sipush 400, 3) := by decide +kernel
theorem dX8_jointly_297 : decode cX8_jointly 297 = .ok (.aload_n 0, 1) := by decide +kernel
theorem dX8_jointly_298 : decode cX8_jointly 298 = .ok (.getfield 47, 3) := by decide +kernel
theorem dX8_jointly_301 : decode cX8_jointly 301 = .ok (.iadd, 1) := by decide +kernel
theorem dX8_jointly_302 : decode cX8_jointly 302 = .ok (.iload_n 3, 1) := by decide +kernel
theorem dX8_jointly_303 : decode cX8_jointly 303 = .ok (.iastore, 1) := by decide +kernel
theorem dX8_jointly_304 : decode cX8_jointly 304 = .ok (.goto (-88), 3) := by decide +kernel
theorem dX8_jointly_307 : decode cX8_jointly 307 = .ok (.return_, 1) := by decide +kernel
theorem dX8_outside_0 : decode cX8_outside 0 = .ok (.aload_n 0, 1) := by decide +kernel
theorem dX8_outside_1 : decode cX8_outside 1 = .ok (.iload_n 1, 1) := by decide +kernel
theorem dX8_outside_2 : decode cX8_outside 2 = .ok (.bipush 6, 2) := by decide +kernel
theorem dX8_outside_4 : decode cX8_outside 4 = .ok (.irem, 1) := by decide +kernel
theorem dX8_outside_5 : decode cX8_outside 5 = .ok (.iload_n 1, 1) := by decide +kernel
theorem dX8_outside_6 : decode cX8_outside 6 = .ok (.bipush 6, 2) := by decide +kernel
theorem dX8_outside_8 : decode cX8_outside 8 = .ok (.idiv, 1) := by decide +kernel
theorem dX8_outside_9 : decode cX8_outside 9 = .ok (.invokevirtual 69, 3) := by decide +kernel
theorem dX8_outside_12 : decode cX8_outside 12 = .ok (.ifCond .ne 12, 3) := by decide +kernel
theorem dX8_outside_15 : decode cX8_outside 15 = .ok (.aload_n 0, 1) := by decide +kernel
theorem dX8_outside_16 : decode cX8_outside 16 = .ok (.getfield 19, 3) := by decide +kernel
theorem dX8_outside_19 : decode cX8_outside 19 = .ok (.iload_n 1, 1) := by decide +kernel
theorem dX8_outside_20 : decode cX8_outside 20 = .ok (.baload, 1) := by decide +kernel
theorem dX8_outside_21 : decode cX8_outside 21 = .ok (.ifCond .eq 7, 3) := by decide +kernel
theorem dX8_outside_24 : decode cX8_outside 24 = .ok (.iconst 1, 1) := by decide +kernel
theorem dX8_outside_25 : decode cX8_outside 25 = .ok (.goto 4, 3) := by decide +kernel
theorem dX8_outside_28 : decode cX8_outside 28 = .ok (.iconst 0, 1) := by decide +kernel
theorem dX8_outside_29 : decode cX8_outside 29 = .ok (.ireturn, 1) := by decide +kernel
theorem dX8_lower_0 : decode cX8_lower 0 = .ok (.aload_n 0, 1) := by decide +kernel
theorem dX8_lower_1 : decode cX8_lower 1 = .ok (.iload_n 1, 1) := by decide +kernel
theorem dX8_lower_2 : decode cX8_lower 2 = .ok (.invokevirtual 92, 3) := by decide +kernel
theorem dX8_lower_5 : decode cX8_lower 5 = .ok (.ifCond .ne 24, 3) := by decide +kernel
theorem dX8_lower_8 : decode cX8_lower 8 = .ok (.aload_n 0, 1) := by decide +kernel
theorem dX8_lower_9 : decode cX8_lower 9 = .ok (.getfield 62, 3) := by decide +kernel
theorem dX8_lower_12 : decode cX8_lower 12 = .ok (.iconst 2, 1) := by decide +kernel
theorem dX8_lower_13 : decode cX8_lower 13 = .ok (.if_icmp .ne 18, 3) := by decide +kernel
theorem dX8_lower_16 : decode cX8_lower 16 = .ok (.aload_n 0, 1) := by decide +kernel
theorem dX8_lower_17 : decode cX8_lower 17 = .ok (.iload_n 2, 1) := by decide +kernel
theorem dX8_lower_18 : decode cX8_lower 18 = .ok (.invokevirtual 92, 3) := by decide +kernel
theorem dX8_lower_21 : decode cX8_lower 21 = .ok (.ifCond .ne 8, 3) := by decide +kernel
theorem dX8_lower_24 : decode cX8_lower 24 = .ok (.iload_n 1, 1) := by decide +kernel
theorem dX8_lower_25 : decode cX8_lower 25 = .ok (.iload_n 2, 1) := by decide +kernel
theorem dX8_lower_26 : decode cX8_lower 26 = .ok (.if_icmp .ne 5, 3) := by decide +kernel
theorem dX8_lower_29 : decode cX8_lower 29 = .ok (.iconst 0, 1) := by decide +kernel
theorem dX8_lower_30 : decode cX8_lower 30 = .ok (.ireturn, 1) := by decide +kernel
theorem dX8_lower_31 : decode cX8_lower 31 = .ok (.iconst 0, 1) := by decide +kernel
theorem dX8_lower_32 : decode cX8_lower 32 = .ok (.istore_n 3, 1) := by decide +kernel
theorem dX8_lower_33 : decode cX8_lower 33 = .ok (.iconst 0, 1) := by decide +kernel
theorem dX8_lower_34 : decode cX8_lower 34 = .ok (.istore 4, 2) := by decide +kernel
theorem dX8_lower_36 : decode cX8_lower 36 = .ok (.iload 4, 2) := by decide +kernel
theorem dX8_lower_38 : decode cX8_lower 38 = .ok (.bipush 25, 2) := by decide +kernel
theorem dX8_lower_40 : decode cX8_lower 40 = .ok (.if_icmp .ge 56, 3) := by decide +kernel
theorem dX8_lower_43 : decode cX8_lower 43 = .ok (.aload_n 0, 1) := by decide +kernel
theorem dX8_lower_44 : decode cX8_lower 44 = .ok (.iload_n 1, 1) := by decide +kernel
theorem dX8_lower_45 : decode cX8_lower 45 = .ok (.iload_n 2, 1) := by decide +kernel
theorem dX8_lower_46 : decode cX8_lower 46 = .ok (.iload 4, 2) := by decide +kernel
theorem dX8_lower_48 : decode cX8_lower 48 = .ok (.iconst 5, 1) := by decide +kernel
theorem dX8_lower_49 : decode cX8_lower 49 = .ok (.idiv, 1) := by decide +kernel
theorem dX8_lower_50 : decode cX8_lower 50 = .ok (.iload 4, 2) := by decide +kernel
theorem dX8_lower_52 : decode cX8_lower 52 = .ok (.iconst 5, 1) := by decide +kernel
theorem dX8_lower_53 : decode cX8_lower 53 = .ok (.irem, 1) := by decide +kernel
theorem dX8_lower_54 : decode cX8_lower 54 = .ok (.invokevirtual 96, 3) := by decide +kernel
theorem dX8_lower_57 : decode cX8_lower 57 = .ok (.istore 5, 2) := by decide +kernel
theorem dX8_lower_59 : decode cX8_lower 59 = .ok (.iload 5, 2) := by decide +kernel
theorem dX8_lower_61 : decode cX8_lower 61 = .ok (.aload_n 0, 1) := by decide +kernel
theorem dX8_lower_62 : decode cX8_lower 62 = .ok (.getfield 59, 3) := by decide +kernel
theorem dX8_lower_65 : decode cX8_lower 65 = .ok (.bipush 36, 2) := by decide +kernel
theorem dX8_lower_67 : decode cX8_lower 67 = .ok (.iload_n 1, 1) := by decide +kernel
theorem dX8_lower_68 : decode cX8_lower 68 = .ok (.imul, 1) := by decide +kernel
theorem dX8_lower_69 : decode cX8_lower 69 = .ok (.iload_n 2, 1) := by decide +kernel
theorem dX8_lower_70 : decode cX8_lower 70 = .ok (.iadd, 1) := by decide +kernel
theorem dX8_lower_71 : decode cX8_lower 71 = .ok (.iaload, 1) := by decide +kernel
theorem dX8_lower_72 : decode cX8_lower 72 = .ok (.if_icmp .ge 18, 3) := by decide +kernel
theorem dX8_lower_75 : decode cX8_lower 75 = .ok (.aload_n 0, 1) := by decide +kernel
theorem dX8_lower_76 : decode cX8_lower 76 = .ok (.getfield 59, 3) := by decide +kernel
theorem dX8_lower_79 : decode cX8_lower 79 = .ok (.bipush 36, 2) := by decide +kernel
theorem dX8_lower_81 : decode cX8_lower 81 = .ok (.iload_n 1, 1) := by decide +kernel
theorem dX8_lower_82 : decode cX8_lower 82 = .ok (.imul, 1) := by decide +kernel
theorem dX8_lower_83 : decode cX8_lower 83 = .ok (.iload_n 2, 1) := by decide +kernel
theorem dX8_lower_84 : decode cX8_lower 84 = .ok (.iadd, 1) := by decide +kernel
theorem dX8_lower_85 : decode cX8_lower 85 = .ok (.iload 5, 2) := by decide +kernel
theorem dX8_lower_87 : decode cX8_lower 87 = .ok (.iastore, 1) := by decide +kernel
theorem dX8_lower_88 : decode cX8_lower 88 = .ok (.iconst 1, 1) := by decide +kernel
theorem dX8_lower_89 : decode cX8_lower 89 = .ok (.istore_n 3, 1) := by decide +kernel
theorem dX8_lower_90 : decode cX8_lower 90 = .ok (.iinc 4 1, 3) := by decide +kernel
theorem dX8_lower_93 : decode cX8_lower 93 = .ok (.goto (-57), 3) := by decide +kernel
theorem dX8_lower_96 : decode cX8_lower 96 = .ok (.iload_n 3, 1) := by decide +kernel
theorem dX8_lower_97 : decode cX8_lower 97 = .ok (.ireturn, 1) := by decide +kernel
theorem dX8_firstMove_0 : decode cX8_firstMove 0 = .ok (.iconst 0, 1) := by decide +kernel
theorem dX8_firstMove_1 : decode cX8_firstMove 1 = .ok (.istore_n 3, 1) := by decide +kernel
theorem dX8_firstMove_2 : decode cX8_firstMove 2 = .ok (.aload_n 0, 1) := by decide +kernel
theorem dX8_firstMove_3 : decode cX8_firstMove 3 = .ok (.iload_n 1, 1) := by decide +kernel
theorem dX8_firstMove_4 : decode cX8_firstMove 4 = .ok (.iload_n 2, 1) := by decide +kernel
theorem dX8_firstMove_5 : decode cX8_firstMove 5 = .ok (.iload_n 3, 1) := by decide +kernel
theorem dX8_firstMove_6 : decode cX8_firstMove 6 = .ok (.iconst 5, 1) := by decide +kernel
theorem dX8_firstMove_7 : decode cX8_firstMove 7 = .ok (.idiv, 1) := by decide +kernel
theorem dX8_firstMove_8 : decode cX8_firstMove 8 = .ok (.iload_n 3, 1) := by decide +kernel
theorem dX8_firstMove_9 : decode cX8_firstMove 9 = .ok (.iconst 5, 1) := by decide +kernel
theorem dX8_firstMove_10 : decode cX8_firstMove 10 = .ok (.irem, 1) := by decide +kernel
theorem dX8_firstMove_11 : decode cX8_firstMove 11 = .ok (.invokevirtual 96, 3) := by decide +kernel
theorem dX8_firstMove_14 : decode cX8_firstMove 14 = .ok (.aload_n 0, 1) := by decide +kernel
theorem dX8_firstMove_15 : decode cX8_firstMove 15 = .ok (.getfield 59, 3) := by decide +kernel
theorem dX8_firstMove_18 : decode cX8_firstMove 18 = .ok (.bipush 36, 2) := by decide +kernel
theorem dX8_firstMove_20 : decode cX8_firstMove 20 = .ok (.iload_n 1, 1) := by decide +kernel
theorem dX8_firstMove_21 : decode cX8_firstMove 21 = .ok (.imul, 1) := by decide +kernel
theorem dX8_firstMove_22 : decode cX8_firstMove 22 = .ok (.iload_n 2, 1) := by decide +kernel
theorem dX8_firstMove_23 : decode cX8_firstMove 23 = .ok (.iadd, 1) := by decide +kernel
theorem dX8_firstMove_24 : decode cX8_firstMove 24 = .ok (.iaload, 1) := by decide +kernel
theorem dX8_firstMove_25 : decode cX8_firstMove 25 = .ok (.if_icmp .eq 9, 3) := by decide +kernel
theorem dX8_firstMove_28 : decode cX8_firstMove 28 = .ok (.iinc 3 1, 3) := by decide +kernel
theorem dX8_firstMove_31 : decode cX8_firstMove 31 = .ok (.goto (-29), 3) := by decide +kernel
theorem dX8_firstMove_34 : decode cX8_firstMove 34 = .ok (.iload_n 3, 1) := by decide +kernel
theorem dX8_firstMove_35 : decode cX8_firstMove 35 = .ok (.ireturn, 1) := by decide +kernel
theorem dX8_open_0 : decode cX8_open 0 = .ok (.iconst 0, 1) := by decide +kernel
theorem dX8_open_1 : decode cX8_open 1 = .ok (.istore 5, 2) := by decide +kernel
theorem dX8_open_3 : decode cX8_open 3 = .ok (.iload 5, 2) := by decide +kernel
theorem dX8_open_5 : decode cX8_open 5 = .ok (.iload_n 1, 1) := by decide +kernel
theorem dX8_open_6 : decode cX8_open 6 = .ok (.if_icmp .ge 80, 3) := by decide +kernel
theorem dX8_open_9 : decode cX8_open 9 = .ok (.aload_n 0, 1) := by decide +kernel
theorem dX8_open_10 : decode cX8_open 10 = .ok (.getfield 53, 3) := by decide +kernel
theorem dX8_open_13 : decode cX8_open 13 = .ok (.sipush 160, 3) := by decide +kernel
theorem dX8_open_16 : decode cX8_open 16 = .ok (.aload_n 0, 1) := by decide +kernel
theorem dX8_open_17 : decode cX8_open 17 = .ok (.getfield 56, 3) := by decide +kernel
theorem dX8_open_20 : decode cX8_open 20 = .ok (.iload 5, 2) := by decide +kernel
theorem dX8_open_22 : decode cX8_open 22 = .ok (.iaload, 1) := by decide +kernel
theorem dX8_open_23 : decode cX8_open 23 = .ok (.imul, 1) := by decide +kernel
theorem dX8_open_24 : decode cX8_open 24 = .ok (.iload_n 2, 1) := by decide +kernel
theorem dX8_open_25 : decode cX8_open 25 = .ok (.iadd, 1) := by decide +kernel
theorem dX8_open_26 : decode cX8_open 26 = .ok (.iaload, 1) := by decide +kernel
theorem dX8_open_27 : decode cX8_open 27 = .ok (.istore 6, 2) := by decide +kernel
theorem dX8_open_29 : decode cX8_open 29 = .ok (.aload_n 0, 1) := by decide +kernel
theorem dX8_open_30 : decode cX8_open 30 = .ok (.getfield 53, 3) := by decide +kernel
theorem dX8_open_33 : decode cX8_open 33 = .ok (.sipush 160, 3) := by decide +kernel
theorem dX8_open_36 : decode cX8_open 36 = .ok (.aload_n 0, 1) := by decide +kernel
theorem dX8_open_37 : decode cX8_open 37 = .ok (.getfield 56, 3) := by decide +kernel
theorem dX8_open_40 : decode cX8_open 40 = .ok (.iload 5, 2) := by decide +kernel
theorem dX8_open_42 : decode cX8_open 42 = .ok (.iaload, 1) := by decide +kernel
theorem dX8_open_43 : decode cX8_open 43 = .ok (.imul, 1) := by decide +kernel
theorem dX8_open_44 : decode cX8_open 44 = .ok (.iload_n 2, 1) := by decide +kernel
theorem dX8_open_45 : decode cX8_open 45 = .ok (.iadd, 1) := by decide +kernel
theorem dX8_open_46 : decode cX8_open 46 = .ok (.iconst 1, 1) := by decide +kernel
theorem dX8_open_47 : decode cX8_open 47 = .ok (.iadd, 1) := by decide +kernel
theorem dX8_open_48 : decode cX8_open 48 = .ok (.iaload, 1) := by decide +kernel
theorem dX8_open_49 : decode cX8_open 49 = .ok (.istore 7, 2) := by decide +kernel
theorem dX8_open_51 : decode cX8_open 51 = .ok (.iload 7, 2) := by decide +kernel
theorem dX8_open_53 : decode cX8_open 53 = .ok (.iload 4, 2) := by decide +kernel
theorem dX8_open_55 : decode cX8_open 55 = .ok (.if_icmp .eq 23, 3) := by decide +kernel
theorem dX8_open_58 : decode cX8_open 58 = .ok (.aload_n 0, 1) := by decide +kernel
theorem dX8_open_59 : decode cX8_open 59 = .ok (.getfield 30, 3) := by decide +kernel
theorem dX8_open_62 : decode cX8_open 62 = .ok (.ifCond .eq 18, 3) := by decide +kernel
theorem dX8_open_65 : decode cX8_open 65 = .ok (.iload 6, 2) := by decide +kernel
theorem dX8_open_67 : decode cX8_open 67 = .ok (.iload 4, 2) := by decide +kernel
theorem dX8_open_69 : decode cX8_open 69 = .ok (.if_icmp .ne 11, 3) := by decide +kernel
theorem dX8_open_72 : decode cX8_open 72 = .ok (.iload 7, 2) := by decide +kernel
theorem dX8_open_74 : decode cX8_open 74 = .ok (.iload_n 3, 1) := by decide +kernel
theorem dX8_open_75 : decode cX8_open 75 = .ok (.if_icmp .ne 5, 3) := by decide +kernel
theorem dX8_open_78 : decode cX8_open 78 = .ok (.iconst 0, 1) := by decide +kernel
theorem dX8_open_79 : decode cX8_open 79 = .ok (.ireturn, 1) := by decide +kernel
theorem dX8_open_80 : decode cX8_open 80 = .ok (.iinc 5 1, 3) := by decide +kernel
theorem dX8_open_83 : decode cX8_open 83 = .ok (.goto (-80), 3) := by decide +kernel
theorem dX8_open_86 : decode cX8_open 86 = .ok (.iconst 1, 1) := by decide +kernel
theorem dX8_open_87 : decode cX8_open 87 = .ok (.ireturn, 1) := by decide +kernel
theorem dX8_way_0 : decode cX8_way 0 = .ok (.aload_n 0, 1) := by decide +kernel
theorem dX8_way_1 : decode cX8_way 1 = .ok (.getfield 56, 3) := by decide +kernel
theorem dX8_way_4 : decode cX8_way 4 = .ok (.iload_n 1, 1) := by decide +kernel
theorem dX8_way_5 : decode cX8_way 5 = .ok (.iaload, 1) := by decide +kernel
theorem dX8_way_6 : decode cX8_way 6 = .ok (.istore_n 2, 1) := by decide +kernel
theorem dX8_way_7 : decode cX8_way 7 = .ok (.iconst 0, 1) := by decide +kernel
theorem dX8_way_8 : decode cX8_way 8 = .ok (.istore_n 3, 1) := by decide +kernel
theorem dX8_way_9 : decode cX8_way 9 = .ok (.iload_n 3, 1) := by decide +kernel
theorem dX8_way_10 : decode cX8_way 10 = .ok (.iload_n 1, 1) := by decide +kernel
theorem dX8_way_11 : decode cX8_way 11 = .ok (.if_icmp .ge 35, 3) := by decide +kernel
theorem dX8_way_14 : decode cX8_way 14 = .ok (.aload_n 0, 1) := by decide +kernel
theorem dX8_way_15 : decode cX8_way 15 = .ok (.getfield 53, 3) := by decide +kernel
theorem dX8_way_18 : decode cX8_way 18 = .ok (.sipush 160, 3) := by decide +kernel
theorem dX8_way_21 : decode cX8_way 21 = .ok (.aload_n 0, 1) := by decide +kernel
theorem dX8_way_22 : decode cX8_way 22 = .ok (.getfield 56, 3) := by decide +kernel
theorem dX8_way_25 : decode cX8_way 25 = .ok (.iload_n 3, 1) := by decide +kernel
theorem dX8_way_26 : decode cX8_way 26 = .ok (.iaload, 1) := by decide +kernel
theorem dX8_way_27 : decode cX8_way 27 = .ok (.imul, 1) := by decide +kernel
theorem dX8_way_28 : decode cX8_way 28 = .ok (.iaload, 1) := by decide +kernel
theorem dX8_way_29 : decode cX8_way 29 = .ok (.aload_n 0, 1) := by decide +kernel
theorem dX8_way_30 : decode cX8_way 30 = .ok (.getfield 23, 3) := by decide +kernel
theorem dX8_way_33 : decode cX8_way 33 = .ok (.iload_n 2, 1) := by decide +kernel
theorem dX8_way_34 : decode cX8_way 34 = .ok (.iaload, 1) := by decide +kernel
theorem dX8_way_35 : decode cX8_way 35 = .ok (.if_icmp .ne 5, 3) := by decide +kernel
theorem dX8_way_38 : decode cX8_way 38 = .ok (.iconst 0, 1) := by decide +kernel
theorem dX8_way_39 : decode cX8_way 39 = .ok (.ireturn, 1) := by decide +kernel
theorem dX8_way_40 : decode cX8_way 40 = .ok (.iinc 3 1, 3) := by decide +kernel
theorem dX8_way_43 : decode cX8_way 43 = .ok (.goto (-34), 3) := by decide +kernel
theorem dX8_way_46 : decode cX8_way 46 = .ok (.bipush 40, 2) := by decide +kernel
theorem dX8_way_48 : decode cX8_way 48 = .ok (.istore_n 3, 1) := by decide +kernel
theorem dX8_way_49 : decode cX8_way 49 = .ok (.iload_n 3, 1) := by decide +kernel
theorem dX8_way_50 : decode cX8_way 50 = .ok (.ifCond .lt 140, 3) := by decide +kernel
theorem dX8_way_53 : decode cX8_way 53 = .ok (.iconst 0, 1) := by decide +kernel
theorem dX8_way_54 : decode cX8_way 54 = .ok (.istore 4, 2) := by decide +kernel
theorem dX8_way_56 : decode cX8_way 56 = .ok (.iload 4, 2) := by decide +kernel
theorem dX8_way_58 : decode cX8_way 58 = .ok (.bipush 36, 2) := by decide +kernel
theorem dX8_way_60 : decode cX8_way 60 = .ok (.if_icmp .ge 44, 3) := by decide +kernel
theorem dX8_way_63 : decode cX8_way 63 = .ok (.aload_n 0, 1) := by decide +kernel
theorem dX8_way_64 : decode cX8_way 64 = .ok (.getfield 59, 3) := by decide +kernel
theorem dX8_way_67 : decode cX8_way 67 = .ok (.bipush 36, 2) := by decide +kernel
theorem dX8_way_69 : decode cX8_way 69 = .ok (.iload_n 3, 1) := by decide +kernel
theorem dX8_way_70 : decode cX8_way 70 = .ok (.imul, 1) := by decide +kernel
theorem dX8_way_71 : decode cX8_way 71 = .ok (.iload 4, 2) := by decide +kernel
theorem dX8_way_73 : decode cX8_way 73 = .ok (.iadd, 1) := by decide +kernel
theorem dX8_way_74 : decode cX8_way 74 = .ok (.iload_n 3, 1) := by decide +kernel
theorem dX8_way_75 : decode cX8_way 75 = .ok (.bipush 40, 2) := by decide +kernel
theorem dX8_way_77 : decode cX8_way 77 = .ok (.if_icmp .ne 18, 3) := by decide +kernel
theorem dX8_way_80 : decode cX8_way 80 = .ok (.iload 4, 2) := by decide +kernel
theorem dX8_way_82 : decode cX8_way 82 = .ok (.aload_n 0, 1) := by decide +kernel
theorem dX8_way_83 : decode cX8_way 83 = .ok (.getfield 27, 3) := by decide +kernel
theorem dX8_way_86 : decode cX8_way 86 = .ok (.iload_n 2, 1) := by decide +kernel
theorem dX8_way_87 : decode cX8_way 87 = .ok (.iaload, 1) := by decide +kernel
theorem dX8_way_88 : decode cX8_way 88 = .ok (.if_icmp .ne 7, 3) := by decide +kernel
theorem dX8_way_91 : decode cX8_way 91 = .ok (.iconst 0, 1) := by decide +kernel
theorem dX8_way_92 : decode cX8_way 92 = .ok (.goto 5, 3) := by decide +kernel
theorem dX8_way_95 : decode cX8_way 95 = .ok (.ldc 77, 2) := by decide +kernel
theorem dX8_way_97 : decode cX8_way 97 = .ok (.iastore, 1) := by decide +kernel
theorem dX8_way_98 : decode cX8_way 98 = .ok (.iinc 4 1, 3) := by decide +kernel
theorem dX8_way_101 : decode cX8_way 101 = .ok (.goto (-45), 3) := by decide +kernel
theorem dX8_way_104 : decode cX8_way 104 = .ok (.iconst 0, 1) := by decide +kernel
theorem dX8_way_105 : decode cX8_way 105 = .ok (.istore 4, 2) := by decide +kernel
theorem dX8_way_107 : decode cX8_way 107 = .ok (.iload 4, 2) := by decide +kernel
theorem dX8_way_109 : decode cX8_way 109 = .ok (.bipush 36, 2) := by decide +kernel
theorem dX8_way_111 : decode cX8_way 111 = .ok (.if_icmp .ge 73, 3) := by decide +kernel
theorem dX8_way_114 : decode cX8_way 114 = .ok (.iload_n 3, 1) := by decide +kernel
theorem dX8_way_115 : decode cX8_way 115 = .ok (.bipush 40, 2) := by decide +kernel
theorem dX8_way_117 : decode cX8_way 117 = .ok (.if_icmp .ge 67, 3) := by decide +kernel
theorem dX8_way_120 : decode cX8_way 120 = .ok (.iconst 0, 1) := by decide +kernel
theorem dX8_way_121 : decode cX8_way 121 = .ok (.istore 5, 2) := by decide +kernel
theorem dX8_way_123 : decode cX8_way 123 = .ok (.iload 5, 2) := by decide +kernel
theorem dX8_way_125 : decode cX8_way 125 = .ok (.iconst 5, 1) := by decide +kernel
theorem dX8_way_126 : decode cX8_way 126 = .ok (.if_icmp .ge 52, 3) := by decide +kernel
theorem dX8_way_129 : decode cX8_way 129 = .ok (.aload_n 0, 1) := by decide +kernel
theorem dX8_way_130 : decode cX8_way 130 = .ok (.iload_n 1, 1) := by decide +kernel
theorem dX8_way_131 : decode cX8_way 131 = .ok (.iload_n 3, 1) := by decide +kernel
theorem dX8_way_132 : decode cX8_way 132 = .ok (.iload 4, 2) := by decide +kernel
theorem dX8_way_134 : decode cX8_way 134 = .ok (.iload 5, 2) := by decide +kernel
theorem dX8_way_136 : decode cX8_way 136 = .ok (.invokevirtual 100, 3) := by decide +kernel
theorem dX8_way_139 : decode cX8_way 139 = .ok (.istore 6, 2) := by decide +kernel
theorem dX8_way_141 : decode cX8_way 141 = .ok (.iload 6, 2) := by decide +kernel
theorem dX8_way_143 : decode cX8_way 143 = .ok (.aload_n 0, 1) := by decide +kernel
theorem dX8_way_144 : decode cX8_way 144 = .ok (.getfield 59, 3) := by decide +kernel
theorem dX8_way_147 : decode cX8_way 147 = .ok (.bipush 36, 2) := by decide +kernel
theorem dX8_way_149 : decode cX8_way 149 = .ok (.iload_n 3, 1) := by decide +kernel
theorem dX8_way_150 : decode cX8_way 150 = .ok (.imul, 1) := by decide +kernel
theorem dX8_way_151 : decode cX8_way 151 = .ok (.iload 4, 2) := by decide +kernel
theorem dX8_way_153 : decode cX8_way 153 = .ok (.iadd, 1) := by decide +kernel
theorem dX8_way_154 : decode cX8_way 154 = .ok (.iaload, 1) := by decide +kernel
theorem dX8_way_155 : decode cX8_way 155 = .ok (.if_icmp .ge 17, 3) := by decide +kernel
theorem dX8_way_158 : decode cX8_way 158 = .ok (.aload_n 0, 1) := by decide +kernel
theorem dX8_way_159 : decode cX8_way 159 = .ok (.getfield 59, 3) := by decide +kernel
theorem dX8_way_162 : decode cX8_way 162 = .ok (.bipush 36, 2) := by decide +kernel
theorem dX8_way_164 : decode cX8_way 164 = .ok (.iload_n 3, 1) := by decide +kernel
theorem dX8_way_165 : decode cX8_way 165 = .ok (.imul, 1) := by decide +kernel
theorem dX8_way_166 : decode cX8_way 166 = .ok (.iload 4, 2) := by decide +kernel
theorem dX8_way_168 : decode cX8_way 168 = .ok (.iadd, 1) := by decide +kernel
theorem dX8_way_169 : decode cX8_way 169 = .ok (.iload 6, 2) := by decide +kernel
theorem dX8_way_171 : decode cX8_way 171 = .ok (.iastore, 1) := by decide +kernel
theorem dX8_way_172 : decode cX8_way 172 = .ok (.iinc 5 1, 3) := by decide +kernel
theorem dX8_way_175 : decode cX8_way 175 = .ok (.goto (-52), 3) := by decide +kernel
theorem dX8_way_178 : decode cX8_way 178 = .ok (.iinc 4 1, 3) := by decide +kernel
theorem dX8_way_181 : decode cX8_way 181 = .ok (.goto (-74), 3) := by decide +kernel
theorem dX8_way_184 : decode cX8_way 184 = .ok (.iinc 3 (-1), 3) := by decide +kernel
theorem dX8_way_187 : decode cX8_way 187 = .ok (.goto (-138), 3) := by decide +kernel
theorem dX8_way_190 : decode cX8_way 190 = .ok (.aload_n 0, 1) := by decide +kernel
theorem dX8_way_191 : decode cX8_way 191 = .ok (.getfield 23, 3) := by decide +kernel
theorem dX8_way_194 : decode cX8_way 194 = .ok (.iload_n 2, 1) := by decide +kernel
theorem dX8_way_195 : decode cX8_way 195 = .ok (.iaload, 1) := by decide +kernel
theorem dX8_way_196 : decode cX8_way 196 = .ok (.istore_n 3, 1) := by decide +kernel
theorem dX8_way_197 : decode cX8_way 197 = .ok (.aload_n 0, 1) := by decide +kernel
theorem dX8_way_198 : decode cX8_way 198 = .ok (.getfield 59, 3) := by decide +kernel
theorem dX8_way_201 : decode cX8_way 201 = .ok (.iload_n 3, 1) := by decide +kernel
theorem dX8_way_202 : decode cX8_way 202 = .ok (.iaload, 1) := by decide +kernel
theorem dX8_way_203 : decode cX8_way 203 = .ok (.ldc 77, 2) := by decide +kernel
theorem dX8_way_205 : decode cX8_way 205 = .ok (.if_icmp .lt 5, 3) := by decide +kernel
theorem dX8_way_208 : decode cX8_way 208 = .ok (.iconst 0, 1) := by decide +kernel
theorem dX8_way_209 : decode cX8_way 209 = .ok (.ireturn, 1) := by decide +kernel
theorem dX8_way_210 : decode cX8_way 210 = .ok (.aload_n 0, 1) := by decide +kernel
theorem dX8_way_211 : decode cX8_way 211 = .ok (.getfield 53, 3) := by decide +kernel
theorem dX8_way_214 : decode cX8_way 214 = .ok (.sipush 160, 3) := by decide +kernel
theorem dX8_way_217 : decode cX8_way 217 = .ok (.iload_n 2, 1) := by decide +kernel
theorem dX8_way_218 : decode cX8_way 218 = .ok (.imul, 1) := by decide +kernel
theorem dX8_way_219 : decode cX8_way 219 = .ok (.iload_n 3, 1) := by decide +kernel
theorem dX8_way_220 : decode cX8_way 220 = .ok (.iastore, 1) := by decide +kernel
theorem dX8_way_221 : decode cX8_way 221 = .ok (.iconst 0, 1) := by decide +kernel
theorem dX8_way_222 : decode cX8_way 222 = .ok (.istore 4, 2) := by decide +kernel
theorem dX8_way_224 : decode cX8_way 224 = .ok (.iload 4, 2) := by decide +kernel
theorem dX8_way_226 : decode cX8_way 226 = .ok (.bipush 40, 2) := by decide +kernel
theorem dX8_way_228 : decode cX8_way 228 = .ok (.if_icmp .ge 67, 3) := by decide +kernel
theorem dX8_way_231 : decode cX8_way 231 = .ok (.iconst 0, 1) := by decide +kernel
theorem dX8_way_232 : decode cX8_way 232 = .ok (.istore 5, 2) := by decide +kernel
theorem dX8_way_234 : decode cX8_way 234 = .ok (.aload_n 0, 1) := by decide +kernel
theorem dX8_way_235 : decode cX8_way 235 = .ok (.iload_n 1, 1) := by decide +kernel
theorem dX8_way_236 : decode cX8_way 236 = .ok (.iload 4, 2) := by decide +kernel
theorem dX8_way_238 : decode cX8_way 238 = .ok (.iload_n 3, 1) := by decide +kernel
theorem dX8_way_239 : decode cX8_way 239 = .ok (.iload 5, 2) := by decide +kernel
theorem dX8_way_241 : decode cX8_way 241 = .ok (.invokevirtual 100, 3) := by decide +kernel
theorem dX8_way_244 : decode cX8_way 244 = .ok (.aload_n 0, 1) := by decide +kernel
theorem dX8_way_245 : decode cX8_way 245 = .ok (.getfield 59, 3) := by decide +kernel
theorem dX8_way_248 : decode cX8_way 248 = .ok (.bipush 36, 2) := by decide +kernel
theorem dX8_way_250 : decode cX8_way 250 = .ok (.iload 4, 2) := by decide +kernel
theorem dX8_way_252 : decode cX8_way 252 = .ok (.imul, 1) := by decide +kernel
theorem dX8_way_253 : decode cX8_way 253 = .ok (.iload_n 3, 1) := by decide +kernel
theorem dX8_way_254 : decode cX8_way 254 = .ok (.iadd, 1) := by decide +kernel
theorem dX8_way_255 : decode cX8_way 255 = .ok (.iaload, 1) := by decide +kernel
theorem dX8_way_256 : decode cX8_way 256 = .ok (.if_icmp .eq 9, 3) := by decide +kernel
theorem dX8_way_259 : decode cX8_way 259 = .ok (.iinc 5 1, 3) := by decide +kernel
theorem dX8_way_262 : decode cX8_way 262 = .ok (.goto (-28), 3) := by decide +kernel
theorem dX8_way_265 : decode cX8_way 265 = .ok (.aload_n 0, 1) := by decide +kernel
theorem dX8_way_266 : decode cX8_way 266 = .ok (.iload_n 3, 1) := by decide +kernel
theorem dX8_way_267 : decode cX8_way 267 = .ok (.iload 5, 2) := by decide +kernel
theorem dX8_way_269 : decode cX8_way 269 = .ok (.invokevirtual 73, 3) := by decide +kernel
theorem dX8_way_272 : decode cX8_way 272 = .ok (.istore_n 3, 1) := by decide +kernel
theorem dX8_way_273 : decode cX8_way 273 = .ok (.aload_n 0, 1) := by decide +kernel
theorem dX8_way_274 : decode cX8_way 274 = .ok (.getfield 53, 3) := by decide +kernel
theorem dX8_way_277 : decode cX8_way 277 = .ok (.sipush 160, 3) := by decide +kernel
theorem dX8_way_280 : decode cX8_way 280 = .ok (.iload_n 2, 1) := by decide +kernel
theorem dX8_way_281 : decode cX8_way 281 = .ok (.imul, 1) := by decide +kernel
theorem dX8_way_282 : decode cX8_way 282 = .ok (.iload 4, 2) := by decide +kernel
theorem dX8_way_284 : decode cX8_way 284 = .ok (.iadd, 1) := by decide +kernel
theorem dX8_way_285 : decode cX8_way 285 = .ok (.iconst 1, 1) := by decide +kernel
theorem dX8_way_286 : decode cX8_way 286 = .ok (.iadd, 1) := by decide +kernel
theorem dX8_way_287 : decode cX8_way 287 = .ok (.iload_n 3, 1) := by decide +kernel
theorem dX8_way_288 : decode cX8_way 288 = .ok (.iastore, 1) := by decide +kernel
theorem dX8_way_289 : decode cX8_way 289 = .ok (.iinc 4 1, 3) := by decide +kernel
theorem dX8_way_292 : decode cX8_way 292 = .ok (.goto (-68), 3) := by decide +kernel
theorem dX8_way_295 : decode cX8_way 295 = .ok (.iconst 1, 1) := by decide +kernel
theorem dX8_way_296 : decode cX8_way 296 = .ok (.ireturn, 1) := by decide +kernel
theorem dX8_step_0 : decode cX8_step 0 = .ok (.aload_n 0, 1) := by decide +kernel
theorem dX8_step_1 : decode cX8_step 1 = .ok (.iload_n 3, 1) := by decide +kernel
theorem dX8_step_2 : decode cX8_step 2 = .ok (.invokevirtual 92, 3) := by decide +kernel
theorem dX8_step_5 : decode cX8_step 5 = .ok (.ifCond .eq 6, 3) := by decide +kernel
theorem dX8_step_8 : decode cX8_step 8 = .ok (.ldc 77, 2) := by decide +kernel
theorem dX8_step_10 : decode cX8_step 10 = .ok (.ireturn, 1) := by decide +kernel
theorem dX8_step_11 : decode cX8_step 11 = .ok (.aload_n 0, 1) := by decide +kernel
theorem dX8_step_12 : decode cX8_step 12 = .ok (.iload_n 3, 1) := by decide +kernel
theorem dX8_step_13 : decode cX8_step 13 = .ok (.iload 4, 2) := by decide +kernel
theorem dX8_step_15 : decode cX8_step 15 = .ok (.invokevirtual 73, 3) := by decide +kernel
theorem dX8_step_18 : decode cX8_step 18 = .ok (.istore 5, 2) := by decide +kernel
theorem dX8_step_20 : decode cX8_step 20 = .ok (.iload 5, 2) := by decide +kernel
theorem dX8_step_22 : decode cX8_step 22 = .ok (.ifCond .lt 15, 3) := by decide +kernel
theorem dX8_step_25 : decode cX8_step 25 = .ok (.aload_n 0, 1) := by decide +kernel
theorem dX8_step_26 : decode cX8_step 26 = .ok (.iload_n 1, 1) := by decide +kernel
theorem dX8_step_27 : decode cX8_step 27 = .ok (.iload_n 2, 1) := by decide +kernel
theorem dX8_step_28 : decode cX8_step 28 = .ok (.iload_n 3, 1) := by decide +kernel
theorem dX8_step_29 : decode cX8_step 29 = .ok (.iload 5, 2) := by decide +kernel
theorem dX8_step_31 : decode cX8_step 31 = .ok (.invokevirtual 103, 3) := by decide +kernel
theorem dX8_step_34 : decode cX8_step 34 = .ok (.ifCond .ne 6, 3) := by decide +kernel
theorem dX8_step_37 : decode cX8_step 37 = .ok (.ldc 77, 2) := by decide +kernel
theorem dX8_step_39 : decode cX8_step 39 = .ok (.ireturn, 1) := by decide +kernel
theorem dX8_step_40 : decode cX8_step 40 = .ok (.aload_n 0, 1) := by decide +kernel
theorem dX8_step_41 : decode cX8_step 41 = .ok (.getfield 59, 3) := by decide +kernel
theorem dX8_step_44 : decode cX8_step 44 = .ok (.bipush 36, 2) := by decide +kernel
theorem dX8_step_46 : decode cX8_step 46 = .ok (.iload_n 2, 1) := by decide +kernel
theorem dX8_step_47 : decode cX8_step 47 = .ok (.imul, 1) := by decide +kernel
theorem dX8_step_48 : decode cX8_step 48 = .ok (.bipush 36, 2) := by decide +kernel
theorem dX8_step_50 : decode cX8_step 50 = .ok (.iadd, 1) := by decide +kernel
theorem dX8_step_51 : decode cX8_step 51 = .ok (.iload 5, 2) := by decide +kernel
theorem dX8_step_53 : decode cX8_step 53 = .ok (.iadd, 1) := by decide +kernel
theorem dX8_step_54 : decode cX8_step 54 = .ok (.iaload, 1) := by decide +kernel
theorem dX8_step_55 : decode cX8_step 55 = .ok (.istore 6, 2) := by decide +kernel
theorem dX8_step_57 : decode cX8_step 57 = .ok (.iload 6, 2) := by decide +kernel
theorem dX8_step_59 : decode cX8_step 59 = .ok (.ldc 77, 2) := by decide +kernel
theorem dX8_step_61 : decode cX8_step 61 = .ok (.if_icmp .lt 8, 3) := by decide +kernel
theorem dX8_step_64 : decode cX8_step 64 = .ok (.ldc 77, 2) := by decide +kernel
theorem dX8_step_66 : decode cX8_step 66 = .ok (.goto 23, 3) := by decide +kernel
theorem dX8_step_69 : decode cX8_step 69 = .ok (.iload 6, 2) := by decide +kernel
theorem dX8_step_71 : decode cX8_step 71 = .ok (.iload_n 3, 1) := by decide +kernel
theorem dX8_step_72 : decode cX8_step 72 = .ok (.iload 5, 2) := by decide +kernel
theorem dX8_step_74 : decode cX8_step 74 = .ok (.aload_n 0, 1) := by decide +kernel
theorem dX8_step_75 : decode cX8_step 75 = .ok (.getfield 27, 3) := by decide +kernel
theorem dX8_step_78 : decode cX8_step 78 = .ok (.aload_n 0, 1) := by decide +kernel
theorem dX8_step_79 : decode cX8_step 79 = .ok (.getfield 56, 3) := by decide +kernel
theorem dX8_step_82 : decode cX8_step 82 = .ok (.iload_n 1, 1) := by decide +kernel
theorem dX8_step_83 : decode cX8_step 83 = .ok (.iaload, 1) := by decide +kernel
theorem dX8_step_84 : decode cX8_step 84 = .ok (.iaload, 1) := by decide +kernel
theorem dX8_step_85 : decode cX8_step 85 = .ok (.invokestatic 82, 3) := by decide +kernel
theorem dX8_step_88 : decode cX8_step 88 = .ok (.iadd, 1) := by decide +kernel
theorem dX8_step_89 : decode cX8_step 89 = .ok (.ireturn, 1) := by decide +kernel
theorem dX8_ways_0 : decode cX8_ways 0 = .ok (.iconst 0, 1) := by decide +kernel
theorem dX8_ways_1 : decode cX8_ways 1 = .ok (.istore_n 1, 1) := by decide +kernel
theorem dX8_ways_2 : decode cX8_ways 2 = .ok (.iconst 0, 1) := by decide +kernel
theorem dX8_ways_3 : decode cX8_ways 3 = .ok (.istore_n 2, 1) := by decide +kernel
theorem dX8_ways_4 : decode cX8_ways 4 = .ok (.iload_n 2, 1) := by decide +kernel
theorem dX8_ways_5 : decode cX8_ways 5 = .ok (.aload_n 0, 1) := by decide +kernel
theorem dX8_ways_6 : decode cX8_ways 6 = .ok (.getfield 62, 3) := by decide +kernel
theorem dX8_ways_9 : decode cX8_ways 9 = .ok (.if_icmp .ge 38, 3) := by decide +kernel
theorem dX8_ways_12 : decode cX8_ways 12 = .ok (.aload_n 0, 1) := by decide +kernel
theorem dX8_ways_13 : decode cX8_ways 13 = .ok (.iload_n 2, 1) := by decide +kernel
theorem dX8_ways_14 : decode cX8_ways 14 = .ok (.invokevirtual 107, 3) := by decide +kernel
theorem dX8_ways_17 : decode cX8_ways 17 = .ok (.ifCond .ne 5, 3) := by decide +kernel
theorem dX8_ways_20 : decode cX8_ways 20 = .ok (.iconst (-1), 1) := by decide +kernel
theorem dX8_ways_21 : decode cX8_ways 21 = .ok (.ireturn, 1) := by decide +kernel
theorem dX8_ways_22 : decode cX8_ways 22 = .ok (.iload_n 1, 1) := by decide +kernel
theorem dX8_ways_23 : decode cX8_ways 23 = .ok (.aload_n 0, 1) := by decide +kernel
theorem dX8_ways_24 : decode cX8_ways 24 = .ok (.getfield 59, 3) := by decide +kernel
theorem dX8_ways_27 : decode cX8_ways 27 = .ok (.aload_n 0, 1) := by decide +kernel
theorem dX8_ways_28 : decode cX8_ways 28 = .ok (.getfield 23, 3) := by decide +kernel
theorem dX8_ways_31 : decode cX8_ways 31 = .ok (.aload_n 0, 1) := by decide +kernel
theorem dX8_ways_32 : decode cX8_ways 32 = .ok (.getfield 56, 3) := by decide +kernel
theorem dX8_ways_35 : decode cX8_ways 35 = .ok (.iload_n 2, 1) := by decide +kernel
theorem dX8_ways_36 : decode cX8_ways 36 = .ok (.iaload, 1) := by decide +kernel
theorem dX8_ways_37 : decode cX8_ways 37 = .ok (.iaload, 1) := by decide +kernel
theorem dX8_ways_38 : decode cX8_ways 38 = .ok (.iaload, 1) := by decide +kernel
theorem dX8_ways_39 : decode cX8_ways 39 = .ok (.iadd, 1) := by decide +kernel
theorem dX8_ways_40 : decode cX8_ways 40 = .ok (.istore_n 1, 1) := by decide +kernel
theorem dX8_ways_41 : decode cX8_ways 41 = .ok (.iinc 2 1, 3) := by decide +kernel
theorem dX8_ways_44 : decode cX8_ways 44 = .ok (.goto (-40), 3) := by decide +kernel
theorem dX8_ways_47 : decode cX8_ways 47 = .ok (.iload_n 1, 1) := by decide +kernel
theorem dX8_ways_48 : decode cX8_ways 48 = .ok (.ireturn, 1) := by decide +kernel
theorem dX8_draw_0 : decode cX8_draw 0 = .ok (.iconst 1, 1) := by decide +kernel
theorem dX8_draw_1 : decode cX8_draw 1 = .ok (.istore_n 1, 1) := by decide +kernel
theorem dX8_draw_2 : decode cX8_draw 2 = .ok (.iload_n 1, 1) := by decide +kernel
theorem dX8_draw_3 : decode cX8_draw 3 = .ok (.aload_n 0, 1) := by decide +kernel
theorem dX8_draw_4 : decode cX8_draw 4 = .ok (.getfield 62, 3) := by decide +kernel
theorem dX8_draw_7 : decode cX8_draw 7 = .ok (.if_icmp .ge 70, 3) := by decide +kernel
theorem dX8_draw_10 : decode cX8_draw 10 = .ok (.aload_n 0, 1) := by decide +kernel
theorem dX8_draw_11 : decode cX8_draw 11 = .ok (.aload_n 0, 1) := by decide +kernel
theorem dX8_draw_12 : decode cX8_draw 12 = .ok (.getfield 34, 3) := by decide +kernel
theorem dX8_draw_15 : decode cX8_draw 15 = .ok (.ldc2_w 110, 3) := by decide +kernel
theorem dX8_draw_18 : decode cX8_draw 18 = .ok (.lmul, 1) := by decide +kernel
theorem dX8_draw_19 : decode cX8_draw 19 = .ok (.ldc2_w 112, 3) := by decide +kernel
theorem dX8_draw_22 : decode cX8_draw 22 = .ok (.ladd, 1) := by decide +kernel
theorem dX8_draw_23 : decode cX8_draw 23 = .ok (.ldc2_w 114, 3) := by decide +kernel
theorem dX8_draw_26 : decode cX8_draw 26 = .ok (.lrem, 1) := by decide +kernel
theorem dX8_draw_27 : decode cX8_draw 27 = .ok (.putfield 34, 3) := by decide +kernel
theorem dX8_draw_30 : decode cX8_draw 30 = .ok (.aload_n 0, 1) := by decide +kernel
theorem dX8_draw_31 : decode cX8_draw 31 = .ok (.getfield 34, 3) := by decide +kernel
theorem dX8_draw_34 : decode cX8_draw 34 = .ok (.ldc2_w 116, 3) := by decide +kernel
theorem dX8_draw_37 : decode cX8_draw 37 = .ok (.ldiv, 1) := by decide +kernel
theorem dX8_draw_38 : decode cX8_draw 38 = .ok (.iload_n 1, 1) := by decide +kernel
theorem dX8_draw_39 : decode cX8_draw 39 = .ok (.iconst 1, 1) := by decide +kernel
theorem dX8_draw_40 : decode cX8_draw 40 = .ok (.iadd, 1) := by decide +kernel
theorem dX8_draw_41 : decode cX8_draw 41 = .ok (.i2l, 1) := by decide +kernel
theorem dX8_draw_42 : decode cX8_draw 42 = .ok (.lrem, 1) := by decide +kernel
theorem dX8_draw_43 : decode cX8_draw 43 = .ok (.l2i, 1) := by decide +kernel
theorem dX8_draw_44 : decode cX8_draw 44 = .ok (.istore_n 2, 1) := by decide +kernel
theorem dX8_draw_45 : decode cX8_draw 45 = .ok (.aload_n 0, 1) := by decide +kernel
theorem dX8_draw_46 : decode cX8_draw 46 = .ok (.getfield 56, 3) := by decide +kernel
theorem dX8_draw_49 : decode cX8_draw 49 = .ok (.iload_n 1, 1) := by decide +kernel
theorem dX8_draw_50 : decode cX8_draw 50 = .ok (.iaload, 1) := by decide +kernel
theorem dX8_draw_51 : decode cX8_draw 51 = .ok (.istore_n 3, 1) := by decide +kernel
theorem dX8_draw_52 : decode cX8_draw 52 = .ok (.aload_n 0, 1) := by decide +kernel
theorem dX8_draw_53 : decode cX8_draw 53 = .ok (.getfield 56, 3) := by decide +kernel
theorem dX8_draw_56 : decode cX8_draw 56 = .ok (.iload_n 1, 1) := by decide +kernel
theorem dX8_draw_57 : decode cX8_draw 57 = .ok (.aload_n 0, 1) := by decide +kernel
theorem dX8_draw_58 : decode cX8_draw 58 = .ok (.getfield 56, 3) := by decide +kernel
theorem dX8_draw_61 : decode cX8_draw 61 = .ok (.iload_n 2, 1) := by decide +kernel
theorem dX8_draw_62 : decode cX8_draw 62 = .ok (.iaload, 1) := by decide +kernel
theorem dX8_draw_63 : decode cX8_draw 63 = .ok (.iastore, 1) := by decide +kernel
theorem dX8_draw_64 : decode cX8_draw 64 = .ok (.aload_n 0, 1) := by decide +kernel
theorem dX8_draw_65 : decode cX8_draw 65 = .ok (.getfield 56, 3) := by decide +kernel
theorem dX8_draw_68 : decode cX8_draw 68 = .ok (.iload_n 2, 1) := by decide +kernel
theorem dX8_draw_69 : decode cX8_draw 69 = .ok (.iload_n 3, 1) := by decide +kernel
theorem dX8_draw_70 : decode cX8_draw 70 = .ok (.iastore, 1) := by decide +kernel
theorem dX8_draw_71 : decode cX8_draw 71 = .ok (.iinc 1 1, 3) := by decide +kernel
theorem dX8_draw_74 : decode cX8_draw 74 = .ok (.goto (-72), 3) := by decide +kernel
theorem dX8_draw_77 : decode cX8_draw 77 = .ok (.return_, 1) := by decide +kernel
theorem dX8_byPriorities_0 : decode cX8_byPriorities 0 = .ok (.aload_n 0, 1) := by decide +kernel
theorem dX8_byPriorities_1 : decode cX8_byPriorities 1 = .ok (.iconst 0, 1) := by decide +kernel
theorem dX8_byPriorities_2 : decode cX8_byPriorities 2 = .ok (.putfield 41, 3) := by decide +kernel
theorem dX8_byPriorities_5 : decode cX8_byPriorities 5 = .ok (.aload_n 0, 1) := by decide +kernel
theorem dX8_byPriorities_6 : decode cX8_byPriorities 6 = .ok (.iconst 0, 1) := by decide +kernel
theorem dX8_byPriorities_7 : decode cX8_byPriorities 7 = .ok (.putfield 38, 3) := by decide +kernel
theorem dX8_byPriorities_10 : decode cX8_byPriorities 10 = .ok (.iconst 0, 1) := by decide +kernel
theorem dX8_byPriorities_11 : decode cX8_byPriorities 11 = .ok (.istore_n 2, 1) := by decide +kernel
theorem dX8_byPriorities_12 : decode cX8_byPriorities 12 = .ok (.iload_n 2, 1) := by decide +kernel
theorem dX8_byPriorities_13 : decode cX8_byPriorities 13 = .ok (.iload_n 1, 1) := by decide +kernel
theorem dX8_byPriorities_14 : decode cX8_byPriorities 14 = .ok (.if_icmp .gt 171, 3) := by decide +kernel
theorem dX8_byPriorities_17 : decode cX8_byPriorities 17 = .ok (.iconst 0, 1) := by decide +kernel
theorem dX8_byPriorities_18 : decode cX8_byPriorities 18 = .ok (.istore_n 3, 1) := by decide +kernel
theorem dX8_byPriorities_19 : decode cX8_byPriorities 19 = .ok (.iload_n 3, 1) := by decide +kernel
theorem dX8_byPriorities_20 : decode cX8_byPriorities 20 = .ok (.iconst 4, 1) := by decide +kernel
theorem dX8_byPriorities_21 : decode cX8_byPriorities 21 = .ok (.if_icmp .ge 16, 3) := by decide +kernel
theorem dX8_byPriorities_24 : decode cX8_byPriorities 24 = .ok (.aload_n 0, 1) := by decide +kernel
theorem dX8_byPriorities_25 : decode cX8_byPriorities 25 = .ok (.getfield 56, 3) := by decide +kernel
theorem dX8_byPriorities_28 : decode cX8_byPriorities 28 = .ok (.iload_n 3, 1) := by decide +kernel
theorem dX8_byPriorities_29 : decode cX8_byPriorities 29 = .ok (.iload_n 3, 1) := by decide +kernel
theorem dX8_byPriorities_30 : decode cX8_byPriorities 30 = .ok (.iastore, 1) := by decide +kernel
theorem dX8_byPriorities_31 : decode cX8_byPriorities 31 = .ok (.iinc 3 1, 3) := by decide +kernel
theorem dX8_byPriorities_34 : decode cX8_byPriorities 34 = .ok (.goto (-15), 3) := by decide +kernel
theorem dX8_byPriorities_37 : decode cX8_byPriorities 37 = .ok (.iload_n 2, 1) := by decide +kernel
theorem dX8_byPriorities_38 : decode cX8_byPriorities 38 = .ok (.ifCond .le 7, 3) := by decide +kernel
theorem dX8_byPriorities_41 : decode cX8_byPriorities 41 = .ok (.aload_n 0, 1) := by decide +kernel
theorem dX8_byPriorities_42 : decode cX8_byPriorities 42 = .ok (.invokevirtual 118, 3) := by decide +kernel
theorem dX8_byPriorities_45 : decode cX8_byPriorities 45 = .ok (.aload_n 0, 1) := by decide +kernel
theorem dX8_byPriorities_46 : decode cX8_byPriorities 46 = .ok (.invokevirtual 121, 3) := by decide +kernel
theorem dX8_byPriorities_49 : decode cX8_byPriorities 49 = .ok (.istore_n 3, 1) := by decide +kernel
theorem dX8_byPriorities_50 : decode cX8_byPriorities 50 = .ok (.iload_n 3, 1) := by decide +kernel
theorem dX8_byPriorities_51 : decode cX8_byPriorities 51 = .ok (.ifCond .lt 128, 3) := by decide +kernel
theorem dX8_byPriorities_54 : decode cX8_byPriorities 54 = .ok (.aload_n 0, 1) := by decide +kernel
theorem dX8_byPriorities_55 : decode cX8_byPriorities 55 = .ok (.getfield 38, 3) := by decide +kernel
theorem dX8_byPriorities_58 : decode cX8_byPriorities 58 = .ok (.ifCond .eq 11, 3) := by decide +kernel
theorem dX8_byPriorities_61 : decode cX8_byPriorities 61 = .ok (.iload_n 3, 1) := by decide +kernel
theorem dX8_byPriorities_62 : decode cX8_byPriorities 62 = .ok (.aload_n 0, 1) := by decide +kernel
theorem dX8_byPriorities_63 : decode cX8_byPriorities 63 = .ok (.getfield 44, 3) := by decide +kernel
theorem dX8_byPriorities_66 : decode cX8_byPriorities 66 = .ok (.if_icmp .ge 113, 3) := by decide +kernel
theorem dX8_byPriorities_69 : decode cX8_byPriorities 69 = .ok (.aload_n 0, 1) := by decide +kernel
theorem dX8_byPriorities_70 : decode cX8_byPriorities 70 = .ok (.iconst 1, 1) := by decide +kernel
theorem dX8_byPriorities_71 : decode cX8_byPriorities 71 = .ok (.putfield 38, 3) := by decide +kernel
theorem dX8_byPriorities_74 : decode cX8_byPriorities 74 = .ok (.aload_n 0, 1) := by decide +kernel
theorem dX8_byPriorities_75 : decode cX8_byPriorities 75 = .ok (.iload_n 3, 1) := by decide +kernel
theorem dX8_byPriorities_76 : decode cX8_byPriorities 76 = .ok (.putfield 44, 3) := by decide +kernel
theorem dX8_byPriorities_79 : decode cX8_byPriorities 79 = .ok (.iconst 0, 1) := by decide +kernel
theorem dX8_byPriorities_80 : decode cX8_byPriorities 80 = .ok (.istore 4, 2) := by decide +kernel
theorem dX8_byPriorities_82 : decode cX8_byPriorities 82 = .ok (.iload 4, 2) := by decide +kernel
theorem dX8_byPriorities_84 : decode cX8_byPriorities 84 = .ok (.sipush 160, 3) := by decide +kernel
theorem dX8_byPriorities_87 : decode cX8_byPriorities 87 = .ok (.if_icmp .ge 49, 3) := by decide +kernel
theorem dX8_byPriorities_90 : decode cX8_byPriorities 90 = .ok (.aload_n 0, 1) := by decide +kernel
theorem dX8_byPriorities_91 : decode cX8_byPriorities 91 = .ok (.getfield 50, 3) := by decide +kernel
theorem dX8_byPriorities_94 : decode cX8_byPriorities 94 = .ok (.iload 4, 2) := by decide +kernel
theorem dX8_byPriorities_96 : decode cX8_byPriorities 96 = .ok (.bipush 40, 2) := by decide +kernel
theorem dX8_byPriorities_98 : decode cX8_byPriorities 98 = .ok (.idiv, 1) := by decide +kernel
theorem dX8_byPriorities_99 : decode cX8_byPriorities 99 = .ok (.sipush 400, 3) := by decide +kernel
theorem dX8_byPriorities_102 : decode cX8_byPriorities 102 = .ok (.imul, 1) := by decide +kernel
theorem dX8_byPriorities_103 : decode cX8_byPriorities 103 = .ok (.iload 4, 2) := by decide +kernel
theorem dX8_byPriorities_105 : decode cX8_byPriorities 105 = .ok (.bipush 40, 2) := by decide +kernel
theorem dX8_byPriorities_107 : decode cX8_byPriorities 107 = .ok (.irem, 1) := by decide +kernel
theorem dX8_byPriorities_108 : decode cX8_byPriorities 108 = .ok (.iadd, 1) := by decide +kernel
theorem dX8_byPriorities_109 : decode cX8_byPriorities 109 = .ok (.aload_n 0, 1) := by decide +kernel
theorem dX8_byPriorities_110 : decode cX8_byPriorities 110 = .ok (.getfield 53, 3) := by decide +kernel
theorem dX8_byPriorities_113 : decode cX8_byPriorities 113 = .ok (.iload 4, 2) := by decide +kernel
theorem dX8_byPriorities_115 : decode cX8_byPriorities 115 = .ok (.bipush 40, 2) := by decide +kernel
theorem dX8_byPriorities_117 : decode cX8_byPriorities 117 = .ok (.idiv, 1) := by decide +kernel
theorem dX8_byPriorities_118 : decode cX8_byPriorities 118 = .ok (.sipush 160, 3) := by decide +kernel
theorem dX8_byPriorities_121 : decode cX8_byPriorities 121 = .ok (.imul, 1) := by decide +kernel
theorem dX8_byPriorities_122 : decode cX8_byPriorities 122 = .ok (.iload 4, 2) := by decide +kernel
theorem dX8_byPriorities_124 : decode cX8_byPriorities 124 = .ok (.bipush 40, 2) := by decide +kernel
theorem dX8_byPriorities_126 : decode cX8_byPriorities 126 = .ok (.irem, 1) := by decide +kernel
theorem dX8_byPriorities_127 : decode cX8_byPriorities 127 = .ok (.iadd, 1) := by decide +kernel
theorem dX8_byPriorities_128 : decode cX8_byPriorities 128 = .ok (.iaload, 1) := by decide +kernel
theorem dX8_byPriorities_129 : decode cX8_byPriorities 129 = .ok (.iastore, 1) := by decide +kernel
theorem dX8_byPriorities_130 : decode cX8_byPriorities 130 = .ok (.iinc 4 1, 3) := by decide +kernel
theorem dX8_byPriorities_133 : decode cX8_byPriorities 133 = .ok (.goto (-51), 3) := by decide +kernel
theorem dX8_byPriorities_136 : decode cX8_byPriorities 136 = .ok (.iconst 0, 1) := by decide +kernel
theorem dX8_byPriorities_137 : decode cX8_byPriorities 137 = .ok (.istore 4, 2) := by decide +kernel
theorem dX8_byPriorities_139 : decode cX8_byPriorities 139 = .ok (.iload 4, 2) := by decide +kernel
theorem dX8_byPriorities_141 : decode cX8_byPriorities 141 = .ok (.iconst 4, 1) := by decide +kernel
theorem dX8_byPriorities_142 : decode cX8_byPriorities 142 = .ok (.if_icmp .ge 37, 3) := by decide +kernel
theorem dX8_byPriorities_145 : decode cX8_byPriorities 145 = .ok (.aload_n 0, 1) := by decide +kernel
theorem dX8_byPriorities_146 : decode cX8_byPriorities 146 = .ok (.getfield 50, 3) := by decide +kernel
theorem dX8_byPriorities_149 : decode cX8_byPriorities 149 = .ok (.sipush 400, 3) := by decide +kernel
theorem dX8_byPriorities_152 : decode cX8_byPriorities 152 = .ok (.iload 4, 2) := by decide +kernel
theorem dX8_byPriorities_154 : decode cX8_byPriorities 154 = .ok (.imul, 1) := by decide +kernel
theorem dX8_byPriorities_155 : decode cX8_byPriorities 155 = .ok (.bipush 40, 2) := by decide +kernel
theorem dX8_byPriorities_157 : decode cX8_byPriorities 157 = .ok (.iadd, 1) := by decide +kernel
theorem dX8_byPriorities_158 : decode cX8_byPriorities 158 = .ok (.aload_n 0, 1) := by decide +kernel
theorem dX8_byPriorities_159 : decode cX8_byPriorities 159 = .ok (.getfield 53, 3) := by decide +kernel
theorem dX8_byPriorities_162 : decode cX8_byPriorities 162 = .ok (.sipush 160, 3) := by decide +kernel
theorem dX8_byPriorities_165 : decode cX8_byPriorities 165 = .ok (.iload 4, 2) := by decide +kernel
theorem dX8_byPriorities_167 : decode cX8_byPriorities 167 = .ok (.imul, 1) := by decide +kernel
theorem dX8_byPriorities_168 : decode cX8_byPriorities 168 = .ok (.bipush 40, 2) := by decide +kernel
theorem dX8_byPriorities_170 : decode cX8_byPriorities 170 = .ok (.iadd, 1) := by decide +kernel
theorem dX8_byPriorities_171 : decode cX8_byPriorities 171 = .ok (.iaload, 1) := by decide +kernel
theorem dX8_byPriorities_172 : decode cX8_byPriorities 172 = .ok (.iastore, 1) := by decide +kernel
theorem dX8_byPriorities_173 : decode cX8_byPriorities 173 = .ok (.iinc 4 1, 3) := by decide +kernel
theorem dX8_byPriorities_176 : decode cX8_byPriorities 176 = .ok (.goto (-37), 3) := by decide +kernel
theorem dX8_byPriorities_179 : decode cX8_byPriorities 179 = .ok (.iinc 2 1, 3) := by decide +kernel
theorem dX8_byPriorities_182 : decode cX8_byPriorities 182 = .ok (.goto (-170), 3) := by decide +kernel
theorem dX8_byPriorities_185 : decode cX8_byPriorities 185 = .ok (.aload_n 0, 1) := by decide +kernel
theorem dX8_byPriorities_186 : decode cX8_byPriorities 186 = .ok (.bipush 40, 2) := by decide +kernel
theorem dX8_byPriorities_188 : decode cX8_byPriorities 188 = .ok (.putfield 47, 3) := by decide +kernel
theorem dX8_byPriorities_191 : decode cX8_byPriorities 191 = .ok (.aload_n 0, 1) := by decide +kernel
theorem dX8_byPriorities_192 : decode cX8_byPriorities 192 = .ok (.getfield 38, 3) := by decide +kernel
theorem dX8_byPriorities_195 : decode cX8_byPriorities 195 = .ok (.istore_n 2, 1) := by decide +kernel
theorem dX8_byPriorities_196 : decode cX8_byPriorities 196 = .ok (.iload_n 2, 1) := by decide +kernel
theorem dX8_byPriorities_197 : decode cX8_byPriorities 197 = .ok (.ifCond .eq 78, 3) := by decide +kernel
theorem dX8_byPriorities_200 : decode cX8_byPriorities 200 = .ok (.aload_n 0, 1) := by decide +kernel
theorem dX8_byPriorities_201 : decode cX8_byPriorities 201 = .ok (.getfield 47, 3) := by decide +kernel
theorem dX8_byPriorities_204 : decode cX8_byPriorities 204 = .ok (.ifCond .le 71, 3) := by decide +kernel
theorem dX8_byPriorities_207 : decode cX8_byPriorities 207 = .ok (.iconst 0, 1) := by decide +kernel
theorem dX8_byPriorities_208 : decode cX8_byPriorities 208 = .ok (.istore_n 3, 1) := by decide +kernel
theorem dX8_byPriorities_209 : decode cX8_byPriorities 209 = .ok (.iload_n 3, 1) := by decide +kernel
theorem dX8_byPriorities_210 : decode cX8_byPriorities 210 = .ok (.aload_n 0, 1) := by decide +kernel
theorem dX8_byPriorities_211 : decode cX8_byPriorities 211 = .ok (.getfield 62, 3) := by decide +kernel
theorem dX8_byPriorities_214 : decode cX8_byPriorities 214 = .ok (.if_icmp .ge 44, 3) := by decide +kernel
theorem dX8_byPriorities_217 : decode cX8_byPriorities 217 = .ok (.aload_n 0, 1) := by decide +kernel
theorem dX8_byPriorities_218 : decode cX8_byPriorities 218 = .ok (.getfield 50, 3) := by decide +kernel
theorem dX8_byPriorities_221 : decode cX8_byPriorities 221 = .ok (.sipush 400, 3) := by decide +kernel
theorem dX8_byPriorities_224 : decode cX8_byPriorities 224 = .ok (.iload_n 3, 1) := by decide +kernel
theorem dX8_byPriorities_225 : decode cX8_byPriorities 225 = .ok (.imul, 1) := by decide +kernel
theorem dX8_byPriorities_226 : decode cX8_byPriorities 226 = .ok (.aload_n 0, 1) := by decide +kernel
theorem dX8_byPriorities_227 : decode cX8_byPriorities 227 = .ok (.getfield 47, 3) := by decide +kernel
theorem dX8_byPriorities_230 : decode cX8_byPriorities 230 = .ok (.iadd, 1) := by decide +kernel
theorem dX8_byPriorities_231 : decode cX8_byPriorities 231 = .ok (.iconst 1, 1) := by decide +kernel
theorem dX8_byPriorities_232 : decode cX8_byPriorities 232 = .ok (.isub, 1) := by decide +kernel
theorem dX8_byPriorities_233 : decode cX8_byPriorities 233 = .ok (.iaload, 1) := by decide +kernel
theorem dX8_byPriorities_234 : decode cX8_byPriorities 234 = .ok (.aload_n 0, 1) := by decide +kernel
theorem dX8_byPriorities_235 : decode cX8_byPriorities 235 = .ok (.getfield 50, 3) := by decide +kernel
theorem dX8_byPriorities_238 : decode cX8_byPriorities 238 = .ok (.sipush 400, 3) := by decide +kernel
theorem dX8_byPriorities_241 : decode cX8_byPriorities 241 = .ok (.iload_n 3, 1) := by decide +kernel
theorem dX8_byPriorities_242 : decode cX8_byPriorities 242 = .ok (.imul, 1) := by decide +kernel
theorem dX8_byPriorities_243 : decode cX8_byPriorities 243 = .ok (.bipush 40, 2) := by decide +kernel
theorem dX8_byPriorities_245 : decode cX8_byPriorities 245 = .ok (.iadd, 1) := by decide +kernel
theorem dX8_byPriorities_246 : decode cX8_byPriorities 246 = .ok (.iaload, 1) := by decide +kernel
theorem dX8_byPriorities_247 : decode cX8_byPriorities 247 = .ok (.if_icmp .eq 5, 3) := by decide +kernel
theorem dX8_byPriorities_250 : decode cX8_byPriorities 250 = .ok (.iconst 0, 1) := by decide +kernel
theorem dX8_byPriorities_251 : decode cX8_byPriorities 251 = .ok (.istore_n 2, 1) := by decide +kernel
theorem dX8_byPriorities_252 : decode cX8_byPriorities 252 = .ok (.iinc 3 1, 3) := by decide +kernel
theorem dX8_byPriorities_255 : decode cX8_byPriorities 255 = .ok (.goto (-46), 3) := by decide +kernel
theorem dX8_byPriorities_258 : decode cX8_byPriorities 258 = .ok (.iload_n 2, 1) := by decide +kernel
theorem dX8_byPriorities_259 : decode cX8_byPriorities 259 = .ok (.ifCond .eq (-63), 3) := by decide +kernel
theorem dX8_byPriorities_262 : decode cX8_byPriorities 262 = .ok (.aload_n 0, 1) := by decide +kernel
theorem dX8_byPriorities_263 : decode cX8_byPriorities 263 = .ok (.dup, 1) := by decide +kernel
theorem dX8_byPriorities_264 : decode cX8_byPriorities 264 = .ok (.getfield 47, 3) := by decide +kernel
theorem dX8_byPriorities_267 : decode cX8_byPriorities 267 = .ok (.iconst 1, 1) := by decide +kernel
theorem dX8_byPriorities_268 : decode cX8_byPriorities 268 = .ok (.isub, 1) := by decide +kernel
theorem dX8_byPriorities_269 : decode cX8_byPriorities 269 = .ok (.putfield 47, 3) := by decide +kernel
theorem dX8_byPriorities_272 : decode cX8_byPriorities 272 = .ok (.goto (-76), 3) := by decide +kernel
theorem dX8_byPriorities_275 : decode cX8_byPriorities 275 = .ok (.return_, 1) := by decide +kernel
theorem dX8_distance_0 : decode cX8_distance 0 = .ok (.iconst 0, 1) := by decide +kernel
theorem dX8_distance_1 : decode cX8_distance 1 = .ok (.istore_n 2, 1) := by decide +kernel
theorem dX8_distance_2 : decode cX8_distance 2 = .ok (.iload_n 2, 1) := by decide +kernel
theorem dX8_distance_3 : decode cX8_distance 3 = .ok (.bipush 36, 2) := by decide +kernel
theorem dX8_distance_5 : decode cX8_distance 5 = .ok (.if_icmp .ge 17, 3) := by decide +kernel
theorem dX8_distance_8 : decode cX8_distance 8 = .ok (.aload_n 0, 1) := by decide +kernel
theorem dX8_distance_9 : decode cX8_distance 9 = .ok (.getfield 59, 3) := by decide +kernel
theorem dX8_distance_12 : decode cX8_distance 12 = .ok (.iload_n 2, 1) := by decide +kernel
theorem dX8_distance_13 : decode cX8_distance 13 = .ok (.ldc 77, 2) := by decide +kernel
theorem dX8_distance_15 : decode cX8_distance 15 = .ok (.iastore, 1) := by decide +kernel
theorem dX8_distance_16 : decode cX8_distance 16 = .ok (.iinc 2 1, 3) := by decide +kernel
theorem dX8_distance_19 : decode cX8_distance 19 = .ok (.goto (-17), 3) := by decide +kernel
theorem dX8_distance_22 : decode cX8_distance 22 = .ok (.aload_n 0, 1) := by decide +kernel
theorem dX8_distance_23 : decode cX8_distance 23 = .ok (.getfield 59, 3) := by decide +kernel
theorem dX8_distance_26 : decode cX8_distance 26 = .ok (.aload_n 0, 1) := by decide +kernel
theorem dX8_distance_27 : decode cX8_distance 27 = .ok (.getfield 27, 3) := by decide +kernel
theorem dX8_distance_30 : decode cX8_distance 30 = .ok (.iload_n 1, 1) := by decide +kernel
theorem dX8_distance_31 : decode cX8_distance 31 = .ok (.iaload, 1) := by decide +kernel
theorem dX8_distance_32 : decode cX8_distance 32 = .ok (.iconst 0, 1) := by decide +kernel
theorem dX8_distance_33 : decode cX8_distance 33 = .ok (.iastore, 1) := by decide +kernel
theorem dX8_distance_34 : decode cX8_distance 34 = .ok (.iconst 1, 1) := by decide +kernel
theorem dX8_distance_35 : decode cX8_distance 35 = .ok (.istore_n 2, 1) := by decide +kernel
theorem dX8_distance_36 : decode cX8_distance 36 = .ok (.iload_n 2, 1) := by decide +kernel
theorem dX8_distance_37 : decode cX8_distance 37 = .ok (.ifCond .eq 94, 3) := by decide +kernel
theorem dX8_distance_40 : decode cX8_distance 40 = .ok (.iconst 0, 1) := by decide +kernel
theorem dX8_distance_41 : decode cX8_distance 41 = .ok (.istore_n 2, 1) := by decide +kernel
theorem dX8_distance_42 : decode cX8_distance 42 = .ok (.iconst 0, 1) := by decide +kernel
theorem dX8_distance_43 : decode cX8_distance 43 = .ok (.istore_n 3, 1) := by decide +kernel
theorem dX8_distance_44 : decode cX8_distance 44 = .ok (.iload_n 3, 1) := by decide +kernel
theorem dX8_distance_45 : decode cX8_distance 45 = .ok (.bipush 36, 2) := by decide +kernel
theorem dX8_distance_47 : decode cX8_distance 47 = .ok (.if_icmp .ge 81, 3) := by decide +kernel
theorem dX8_distance_50 : decode cX8_distance 50 = .ok (.iconst 1, 1) := by decide +kernel
theorem dX8_distance_51 : decode cX8_distance 51 = .ok (.istore 4, 2) := by decide +kernel
theorem dX8_distance_53 : decode cX8_distance 53 = .ok (.iload 4, 2) := by decide +kernel
theorem dX8_distance_55 : decode cX8_distance 55 = .ok (.iconst 5, 1) := by decide +kernel
theorem dX8_distance_56 : decode cX8_distance 56 = .ok (.if_icmp .ge 66, 3) := by decide +kernel
theorem dX8_distance_59 : decode cX8_distance 59 = .ok (.aload_n 0, 1) := by decide +kernel
theorem dX8_distance_60 : decode cX8_distance 60 = .ok (.iload_n 3, 1) := by decide +kernel
theorem dX8_distance_61 : decode cX8_distance 61 = .ok (.invokevirtual 92, 3) := by decide +kernel
theorem dX8_distance_64 : decode cX8_distance 64 = .ok (.ifCond .ne 58, 3) := by decide +kernel
theorem dX8_distance_67 : decode cX8_distance 67 = .ok (.aload_n 0, 1) := by decide +kernel
theorem dX8_distance_68 : decode cX8_distance 68 = .ok (.iload_n 3, 1) := by decide +kernel
theorem dX8_distance_69 : decode cX8_distance 69 = .ok (.iload 4, 2) := by decide +kernel
theorem dX8_distance_71 : decode cX8_distance 71 = .ok (.invokevirtual 73, 3) := by decide +kernel
theorem dX8_distance_74 : decode cX8_distance 74 = .ok (.istore 5, 2) := by decide +kernel
theorem dX8_distance_76 : decode cX8_distance 76 = .ok (.iload 5, 2) := by decide +kernel
theorem dX8_distance_78 : decode cX8_distance 78 = .ok (.ifCond .lt 38, 3) := by decide +kernel
theorem dX8_distance_81 : decode cX8_distance 81 = .ok (.aload_n 0, 1) := by decide +kernel
theorem dX8_distance_82 : decode cX8_distance 82 = .ok (.getfield 59, 3) := by decide +kernel
theorem dX8_distance_85 : decode cX8_distance 85 = .ok (.iload 5, 2) := by decide +kernel
theorem dX8_distance_87 : decode cX8_distance 87 = .ok (.iaload, 1) := by decide +kernel
theorem dX8_distance_88 : decode cX8_distance 88 = .ok (.iconst 1, 1) := by decide +kernel
theorem dX8_distance_89 : decode cX8_distance 89 = .ok (.iadd, 1) := by decide +kernel
theorem dX8_distance_90 : decode cX8_distance 90 = .ok (.aload_n 0, 1) := by decide +kernel
theorem dX8_distance_91 : decode cX8_distance 91 = .ok (.getfield 59, 3) := by decide +kernel
theorem dX8_distance_94 : decode cX8_distance 94 = .ok (.iload_n 3, 1) := by decide +kernel
theorem dX8_distance_95 : decode cX8_distance 95 = .ok (.iaload, 1) := by decide +kernel
theorem dX8_distance_96 : decode cX8_distance 96 = .ok (.if_icmp .ge 20, 3) := by decide +kernel
theorem dX8_distance_99 : decode cX8_distance 99 = .ok (.aload_n 0, 1) := by decide +kernel
theorem dX8_distance_100 : decode cX8_distance 100 = .ok (.getfield 59, 3) := by decide +kernel
theorem dX8_distance_103 : decode cX8_distance 103 = .ok (.iload_n 3, 1) := by decide +kernel
theorem dX8_distance_104 : decode cX8_distance 104 = .ok (.aload_n 0, 1) := by decide +kernel
theorem dX8_distance_105 : decode cX8_distance 105 = .ok (.getfield 59, 3) := by decide +kernel
theorem dX8_distance_108 : decode cX8_distance 108 = .ok (.iload 5, 2) := by decide +kernel
theorem dX8_distance_110 : decode cX8_distance 110 = .ok (.iaload, 1) := by decide +kernel
theorem dX8_distance_111 : decode cX8_distance 111 = .ok (.iconst 1, 1) := by decide +kernel
theorem dX8_distance_112 : decode cX8_distance 112 = .ok (.iadd, 1) := by decide +kernel
theorem dX8_distance_113 : decode cX8_distance 113 = .ok (.iastore, 1) := by decide +kernel
theorem dX8_distance_114 : decode cX8_distance 114 = .ok (.iconst 1, 1) := by decide +kernel
theorem dX8_distance_115 : decode cX8_distance 115 = .ok (.istore_n 2, 1) := by decide +kernel
theorem dX8_distance_116 : decode cX8_distance 116 = .ok (.iinc 4 1, 3) := by decide +kernel
theorem dX8_distance_119 : decode cX8_distance 119 = .ok (.goto (-66), 3) := by decide +kernel
theorem dX8_distance_122 : decode cX8_distance 122 = .ok (.iinc 3 1, 3) := by decide +kernel
theorem dX8_distance_125 : decode cX8_distance 125 = .ok (.goto (-81), 3) := by decide +kernel
theorem dX8_distance_128 : decode cX8_distance 128 = .ok (.goto (-92), 3) := by decide +kernel
theorem dX8_distance_131 : decode cX8_distance 131 = .ok (.aload_n 0, 1) := by decide +kernel
theorem dX8_distance_132 : decode cX8_distance 132 = .ok (.getfield 59, 3) := by decide +kernel
theorem dX8_distance_135 : decode cX8_distance 135 = .ok (.aload_n 0, 1) := by decide +kernel
theorem dX8_distance_136 : decode cX8_distance 136 = .ok (.getfield 23, 3) := by decide +kernel
theorem dX8_distance_139 : decode cX8_distance 139 = .ok (.iload_n 1, 1) := by decide +kernel
theorem dX8_distance_140 : decode cX8_distance 140 = .ok (.iaload, 1) := by decide +kernel
theorem dX8_distance_141 : decode cX8_distance 141 = .ok (.iaload, 1) := by decide +kernel
theorem dX8_distance_142 : decode cX8_distance 142 = .ok (.ldc 77, 2) := by decide +kernel
theorem dX8_distance_144 : decode cX8_distance 144 = .ok (.if_icmp .lt 7, 3) := by decide +kernel
theorem dX8_distance_147 : decode cX8_distance 147 = .ok (.iconst (-1), 1) := by decide +kernel
theorem dX8_distance_148 : decode cX8_distance 148 = .ok (.goto 14, 3) := by decide +kernel
theorem dX8_distance_151 : decode cX8_distance 151 = .ok (.aload_n 0, 1) := by decide +kernel
theorem dX8_distance_152 : decode cX8_distance 152 = .ok (.getfield 59, 3) := by decide +kernel
theorem dX8_distance_155 : decode cX8_distance 155 = .ok (.aload_n 0, 1) := by decide +kernel
theorem dX8_distance_156 : decode cX8_distance 156 = .ok (.getfield 23, 3) := by decide +kernel
theorem dX8_distance_159 : decode cX8_distance 159 = .ok (.iload_n 1, 1) := by decide +kernel
theorem dX8_distance_160 : decode cX8_distance 160 = .ok (.iaload, 1) := by decide +kernel
theorem dX8_distance_161 : decode cX8_distance 161 = .ok (.iaload, 1) := by decide +kernel
theorem dX8_distance_162 : decode cX8_distance 162 = .ok (.ireturn, 1) := by decide +kernel
theorem dX8_missing_0 : decode cX8_missing 0 = .ok (.iconst 0, 1) := by decide +kernel
theorem dX8_missing_1 : decode cX8_missing 1 = .ok (.istore_n 1, 1) := by decide +kernel
theorem dX8_missing_2 : decode cX8_missing 2 = .ok (.iload_n 1, 1) := by decide +kernel
theorem dX8_missing_3 : decode cX8_missing 3 = .ok (.aload_n 0, 1) := by decide +kernel
theorem dX8_missing_4 : decode cX8_missing 4 = .ok (.getfield 62, 3) := by decide +kernel
theorem dX8_missing_7 : decode cX8_missing 7 = .ok (.if_icmp .ge 29, 3) := by decide +kernel
theorem dX8_missing_10 : decode cX8_missing 10 = .ok (.aload_n 0, 1) := by decide +kernel
theorem dX8_missing_11 : decode cX8_missing 11 = .ok (.getfield 23, 3) := by decide +kernel
theorem dX8_missing_14 : decode cX8_missing 14 = .ok (.iload_n 1, 1) := by decide +kernel
theorem dX8_missing_15 : decode cX8_missing 15 = .ok (.iaload, 1) := by decide +kernel
theorem dX8_missing_16 : decode cX8_missing 16 = .ok (.ifCond .lt 12, 3) := by decide +kernel
theorem dX8_missing_19 : decode cX8_missing 19 = .ok (.aload_n 0, 1) := by decide +kernel
theorem dX8_missing_20 : decode cX8_missing 20 = .ok (.getfield 27, 3) := by decide +kernel
theorem dX8_missing_23 : decode cX8_missing 23 = .ok (.iload_n 1, 1) := by decide +kernel
theorem dX8_missing_24 : decode cX8_missing 24 = .ok (.iaload, 1) := by decide +kernel
theorem dX8_missing_25 : decode cX8_missing 25 = .ok (.ifCond .ge 5, 3) := by decide +kernel
theorem dX8_missing_28 : decode cX8_missing 28 = .ok (.iconst 1, 1) := by decide +kernel
theorem dX8_missing_29 : decode cX8_missing 29 = .ok (.ireturn, 1) := by decide +kernel
theorem dX8_missing_30 : decode cX8_missing 30 = .ok (.iinc 1 1, 3) := by decide +kernel
theorem dX8_missing_33 : decode cX8_missing 33 = .ok (.goto (-31), 3) := by decide +kernel
theorem dX8_missing_36 : decode cX8_missing 36 = .ok (.iconst 0, 1) := by decide +kernel
theorem dX8_missing_37 : decode cX8_missing 37 = .ok (.ireturn, 1) := by decide +kernel
theorem dX8_boundOf_0 : decode cX8_boundOf 0 = .ok (.iconst 0, 1) := by decide +kernel
theorem dX8_boundOf_1 : decode cX8_boundOf 1 = .ok (.istore_n 1, 1) := by decide +kernel
theorem dX8_boundOf_2 : decode cX8_boundOf 2 = .ok (.iconst 0, 1) := by decide +kernel
theorem dX8_boundOf_3 : decode cX8_boundOf 3 = .ok (.istore_n 2, 1) := by decide +kernel
theorem dX8_boundOf_4 : decode cX8_boundOf 4 = .ok (.iload_n 2, 1) := by decide +kernel
theorem dX8_boundOf_5 : decode cX8_boundOf 5 = .ok (.aload_n 0, 1) := by decide +kernel
theorem dX8_boundOf_6 : decode cX8_boundOf 6 = .ok (.getfield 62, 3) := by decide +kernel
theorem dX8_boundOf_9 : decode cX8_boundOf 9 = .ok (.if_icmp .ge 25, 3) := by decide +kernel
theorem dX8_boundOf_12 : decode cX8_boundOf 12 = .ok (.aload_n 0, 1) := by decide +kernel
theorem dX8_boundOf_13 : decode cX8_boundOf 13 = .ok (.iload_n 2, 1) := by decide +kernel
theorem dX8_boundOf_14 : decode cX8_boundOf 14 = .ok (.invokevirtual 125, 3) := by decide +kernel
theorem dX8_boundOf_17 : decode cX8_boundOf 17 = .ok (.istore_n 3, 1) := by decide +kernel
theorem dX8_boundOf_18 : decode cX8_boundOf 18 = .ok (.iload_n 3, 1) := by decide +kernel
theorem dX8_boundOf_19 : decode cX8_boundOf 19 = .ok (.ifCond .ge 5, 3) := by decide +kernel
theorem dX8_boundOf_22 : decode cX8_boundOf 22 = .ok (.iconst (-1), 1) := by decide +kernel
theorem dX8_boundOf_23 : decode cX8_boundOf 23 = .ok (.ireturn, 1) := by decide +kernel
theorem dX8_boundOf_24 : decode cX8_boundOf 24 = .ok (.iload_n 1, 1) := by decide +kernel
theorem dX8_boundOf_25 : decode cX8_boundOf 25 = .ok (.iload_n 3, 1) := by decide +kernel
theorem dX8_boundOf_26 : decode cX8_boundOf 26 = .ok (.iadd, 1) := by decide +kernel
theorem dX8_boundOf_27 : decode cX8_boundOf 27 = .ok (.istore_n 1, 1) := by decide +kernel
theorem dX8_boundOf_28 : decode cX8_boundOf 28 = .ok (.iinc 2 1, 3) := by decide +kernel
theorem dX8_boundOf_31 : decode cX8_boundOf 31 = .ok (.goto (-27), 3) := by decide +kernel
theorem dX8_boundOf_34 : decode cX8_boundOf 34 = .ok (.iload_n 1, 1) := by decide +kernel
theorem dX8_boundOf_35 : decode cX8_boundOf 35 = .ok (.ireturn, 1) := by decide +kernel
theorem dX8_thrown_0 : decode cX8_thrown 0 = .ok (.aload_n 0, 1) := by decide +kernel
theorem dX8_thrown_1 : decode cX8_thrown 1 = .ok (.getfield 7, 3) := by decide +kernel
theorem dX8_thrown_4 : decode cX8_thrown 4 = .ok (.ireturn, 1) := by decide +kernel
theorem dX8_grid_0 : decode cX8_grid 0 = .ok (.aload_n 0, 1) := by decide +kernel
theorem dX8_grid_1 : decode cX8_grid 1 = .ok (.iload_n 1, 1) := by decide +kernel
theorem dX8_grid_2 : decode cX8_grid 2 = .ok (.iconst 1, 1) := by decide +kernel
theorem dX8_grid_3 : decode cX8_grid 3 = .ok (.if_icmp .lt 20, 3) := by decide +kernel
theorem dX8_grid_6 : decode cX8_grid 6 = .ok (.iload_n 1, 1) := by decide +kernel
theorem dX8_grid_7 : decode cX8_grid 7 = .ok (.bipush 6, 2) := by decide +kernel
theorem dX8_grid_9 : decode cX8_grid 9 = .ok (.if_icmp .gt 14, 3) := by decide +kernel
theorem dX8_grid_12 : decode cX8_grid 12 = .ok (.iload_n 2, 1) := by decide +kernel
theorem dX8_grid_13 : decode cX8_grid 13 = .ok (.iconst 1, 1) := by decide +kernel
theorem dX8_grid_14 : decode cX8_grid 14 = .ok (.if_icmp .lt 9, 3) := by decide +kernel
theorem dX8_grid_17 : decode cX8_grid 17 = .ok (.iload_n 2, 1) := by decide +kernel
theorem dX8_grid_18 : decode cX8_grid 18 = .ok (.bipush 6, 2) := by decide +kernel
theorem dX8_grid_20 : decode cX8_grid 20 = .ok (.if_icmp .le 7, 3) := by decide +kernel
theorem dX8_grid_23 : decode cX8_grid 23 = .ok (.iconst 1, 1) := by decide +kernel
theorem dX8_grid_24 : decode cX8_grid 24 = .ok (.goto 4, 3) := by decide +kernel
theorem dX8_grid_27 : decode cX8_grid 27 = .ok (.iconst 0, 1) := by decide +kernel
theorem dX8_grid_28 : decode cX8_grid 28 = .ok (.putfield 7, 3) := by decide +kernel
theorem dX8_grid_31 : decode cX8_grid 31 = .ok (.aload_n 0, 1) := by decide +kernel
theorem dX8_grid_32 : decode cX8_grid 32 = .ok (.getfield 7, 3) := by decide +kernel
theorem dX8_grid_35 : decode cX8_grid 35 = .ok (.ifCond .ne 9, 3) := by decide +kernel
theorem dX8_grid_38 : decode cX8_grid 38 = .ok (.aload_n 0, 1) := by decide +kernel
theorem dX8_grid_39 : decode cX8_grid 39 = .ok (.iload_n 1, 1) := by decide +kernel
theorem dX8_grid_40 : decode cX8_grid 40 = .ok (.iload_n 2, 1) := by decide +kernel
theorem dX8_grid_41 : decode cX8_grid 41 = .ok (.invokevirtual 65, 3) := by decide +kernel
theorem dX8_grid_44 : decode cX8_grid 44 = .ok (.return_, 1) := by decide +kernel
theorem dX8_used_0 : decode cX8_used 0 = .ok (.iconst 0, 1) := by decide +kernel
theorem dX8_used_1 : decode cX8_used 1 = .ok (.istore_n 2, 1) := by decide +kernel
theorem dX8_used_2 : decode cX8_used 2 = .ok (.iload_n 2, 1) := by decide +kernel
theorem dX8_used_3 : decode cX8_used 3 = .ok (.aload_n 0, 1) := by decide +kernel
theorem dX8_used_4 : decode cX8_used 4 = .ok (.getfield 62, 3) := by decide +kernel
theorem dX8_used_7 : decode cX8_used 7 = .ok (.if_icmp .ge 31, 3) := by decide +kernel
theorem dX8_used_10 : decode cX8_used 10 = .ok (.aload_n 0, 1) := by decide +kernel
theorem dX8_used_11 : decode cX8_used 11 = .ok (.getfield 23, 3) := by decide +kernel
theorem dX8_used_14 : decode cX8_used 14 = .ok (.iload_n 2, 1) := by decide +kernel
theorem dX8_used_15 : decode cX8_used 15 = .ok (.iaload, 1) := by decide +kernel
theorem dX8_used_16 : decode cX8_used 16 = .ok (.iload_n 1, 1) := by decide +kernel
theorem dX8_used_17 : decode cX8_used 17 = .ok (.if_icmp .eq 13, 3) := by decide +kernel
theorem dX8_used_20 : decode cX8_used 20 = .ok (.aload_n 0, 1) := by decide +kernel
theorem dX8_used_21 : decode cX8_used 21 = .ok (.getfield 27, 3) := by decide +kernel
theorem dX8_used_24 : decode cX8_used 24 = .ok (.iload_n 2, 1) := by decide +kernel
theorem dX8_used_25 : decode cX8_used 25 = .ok (.iaload, 1) := by decide +kernel
theorem dX8_used_26 : decode cX8_used 26 = .ok (.iload_n 1, 1) := by decide +kernel
theorem dX8_used_27 : decode cX8_used 27 = .ok (.if_icmp .ne 5, 3) := by decide +kernel
theorem dX8_used_30 : decode cX8_used 30 = .ok (.iconst 1, 1) := by decide +kernel
theorem dX8_used_31 : decode cX8_used 31 = .ok (.ireturn, 1) := by decide +kernel
theorem dX8_used_32 : decode cX8_used 32 = .ok (.iinc 2 1, 3) := by decide +kernel
theorem dX8_used_35 : decode cX8_used 35 = .ok (.goto (-33), 3) := by decide +kernel
theorem dX8_used_38 : decode cX8_used 38 = .ok (.iconst 0, 1) := by decide +kernel
theorem dX8_used_39 : decode cX8_used 39 = .ok (.ireturn, 1) := by decide +kernel
theorem dX8_wall_0 : decode cX8_wall 0 = .ok (.aload_n 0, 1) := by decide +kernel
theorem dX8_wall_1 : decode cX8_wall 1 = .ok (.aload_n 0, 1) := by decide +kernel
theorem dX8_wall_2 : decode cX8_wall 2 = .ok (.iload_n 1, 1) := by decide +kernel
theorem dX8_wall_3 : decode cX8_wall 3 = .ok (.iload_n 2, 1) := by decide +kernel
theorem dX8_wall_4 : decode cX8_wall 4 = .ok (.invokevirtual 69, 3) := by decide +kernel
theorem dX8_wall_7 : decode cX8_wall 7 = .ok (.ifCond .eq 7, 3) := by decide +kernel
theorem dX8_wall_10 : decode cX8_wall 10 = .ok (.iconst 1, 1) := by decide +kernel
theorem dX8_wall_11 : decode cX8_wall 11 = .ok (.goto 21, 3) := by decide +kernel
theorem dX8_wall_14 : decode cX8_wall 14 = .ok (.aload_n 0, 1) := by decide +kernel
theorem dX8_wall_15 : decode cX8_wall 15 = .ok (.bipush 6, 2) := by decide +kernel
theorem dX8_wall_17 : decode cX8_wall 17 = .ok (.iload_n 2, 1) := by decide +kernel
theorem dX8_wall_18 : decode cX8_wall 18 = .ok (.imul, 1) := by decide +kernel
theorem dX8_wall_19 : decode cX8_wall 19 = .ok (.iload_n 1, 1) := by decide +kernel
theorem dX8_wall_20 : decode cX8_wall 20 = .ok (.iadd, 1) := by decide +kernel
theorem dX8_wall_21 : decode cX8_wall 21 = .ok (.invokevirtual 128, 3) := by decide +kernel
theorem dX8_wall_24 : decode cX8_wall 24 = .ok (.ifCond .eq 7, 3) := by decide +kernel
theorem dX8_wall_27 : decode cX8_wall 27 = .ok (.iconst 2, 1) := by decide +kernel
theorem dX8_wall_28 : decode cX8_wall 28 = .ok (.goto 4, 3) := by decide +kernel
theorem dX8_wall_31 : decode cX8_wall 31 = .ok (.iconst 0, 1) := by decide +kernel
theorem dX8_wall_32 : decode cX8_wall 32 = .ok (.putfield 7, 3) := by decide +kernel
theorem dX8_wall_35 : decode cX8_wall 35 = .ok (.aload_n 0, 1) := by decide +kernel
theorem dX8_wall_36 : decode cX8_wall 36 = .ok (.getfield 7, 3) := by decide +kernel
theorem dX8_wall_39 : decode cX8_wall 39 = .ok (.ifCond .eq 5, 3) := by decide +kernel
theorem dX8_wall_42 : decode cX8_wall 42 = .ok (.iconst 0, 1) := by decide +kernel
theorem dX8_wall_43 : decode cX8_wall 43 = .ok (.ireturn, 1) := by decide +kernel
theorem dX8_wall_44 : decode cX8_wall 44 = .ok (.aload_n 0, 1) := by decide +kernel
theorem dX8_wall_45 : decode cX8_wall 45 = .ok (.getfield 19, 3) := by decide +kernel
theorem dX8_wall_48 : decode cX8_wall 48 = .ok (.bipush 6, 2) := by decide +kernel
theorem dX8_wall_50 : decode cX8_wall 50 = .ok (.iload_n 2, 1) := by decide +kernel
theorem dX8_wall_51 : decode cX8_wall 51 = .ok (.imul, 1) := by decide +kernel
theorem dX8_wall_52 : decode cX8_wall 52 = .ok (.iload_n 1, 1) := by decide +kernel
theorem dX8_wall_53 : decode cX8_wall 53 = .ok (.iadd, 1) := by decide +kernel
theorem dX8_wall_54 : decode cX8_wall 54 = .ok (.baload, 1) := by decide +kernel
theorem dX8_wall_55 : decode cX8_wall 55 = .ok (.istore 4, 2) := by decide +kernel
theorem dX8_wall_57 : decode cX8_wall 57 = .ok (.aload_n 0, 1) := by decide +kernel
theorem dX8_wall_58 : decode cX8_wall 58 = .ok (.getfield 19, 3) := by decide +kernel
theorem dX8_wall_61 : decode cX8_wall 61 = .ok (.bipush 6, 2) := by decide +kernel
theorem dX8_wall_63 : decode cX8_wall 63 = .ok (.iload_n 2, 1) := by decide +kernel
theorem dX8_wall_64 : decode cX8_wall 64 = .ok (.imul, 1) := by decide +kernel
theorem dX8_wall_65 : decode cX8_wall 65 = .ok (.iload_n 1, 1) := by decide +kernel
theorem dX8_wall_66 : decode cX8_wall 66 = .ok (.iadd, 1) := by decide +kernel
theorem dX8_wall_67 : decode cX8_wall 67 = .ok (.iload_n 3, 1) := by decide +kernel
theorem dX8_wall_68 : decode cX8_wall 68 = .ok (.bastore, 1) := by decide +kernel
theorem dX8_wall_69 : decode cX8_wall 69 = .ok (.iload 4, 2) := by decide +kernel
theorem dX8_wall_71 : decode cX8_wall 71 = .ok (.ireturn, 1) := by decide +kernel
theorem dX8_put_0 : decode cX8_put 0 = .ok (.iload_n 2, 1) := by decide +kernel
theorem dX8_put_1 : decode cX8_put 1 = .ok (.ifCond .lt 21, 3) := by decide +kernel
theorem dX8_put_4 : decode cX8_put 4 = .ok (.iload_n 2, 1) := by decide +kernel
theorem dX8_put_5 : decode cX8_put 5 = .ok (.aload_n 0, 1) := by decide +kernel
theorem dX8_put_6 : decode cX8_put 6 = .ok (.getfield 62, 3) := by decide +kernel
theorem dX8_put_9 : decode cX8_put 9 = .ok (.if_icmp .ge 13, 3) := by decide +kernel
theorem dX8_put_12 : decode cX8_put 12 = .ok (.aload_n 0, 1) := by decide +kernel
theorem dX8_put_13 : decode cX8_put 13 = .ok (.iload_n 3, 1) := by decide +kernel
theorem dX8_put_14 : decode cX8_put 14 = .ok (.iload 4, 2) := by decide +kernel
theorem dX8_put_16 : decode cX8_put 16 = .ok (.invokevirtual 69, 3) := by decide +kernel
theorem dX8_put_19 : decode cX8_put 19 = .ok (.ifCond .eq 7, 3) := by decide +kernel
theorem dX8_put_22 : decode cX8_put 22 = .ok (.iconst 1, 1) := by decide +kernel
theorem dX8_put_23 : decode cX8_put 23 = .ok (.goto 4, 3) := by decide +kernel
theorem dX8_put_26 : decode cX8_put 26 = .ok (.iconst 0, 1) := by decide +kernel
theorem dX8_put_27 : decode cX8_put 27 = .ok (.istore 5, 2) := by decide +kernel
theorem dX8_put_29 : decode cX8_put 29 = .ok (.aload_n 0, 1) := by decide +kernel
theorem dX8_put_30 : decode cX8_put 30 = .ok (.iload 5, 2) := by decide +kernel
theorem dX8_put_32 : decode cX8_put 32 = .ok (.ifCond .eq 7, 3) := by decide +kernel
theorem dX8_put_35 : decode cX8_put 35 = .ok (.iconst 1, 1) := by decide +kernel
theorem dX8_put_36 : decode cX8_put 36 = .ok (.goto 23, 3) := by decide +kernel
theorem dX8_put_39 : decode cX8_put 39 = .ok (.aload_n 0, 1) := by decide +kernel
theorem dX8_put_40 : decode cX8_put 40 = .ok (.getfield 19, 3) := by decide +kernel
theorem dX8_put_43 : decode cX8_put 43 = .ok (.bipush 6, 2) := by decide +kernel
theorem dX8_put_45 : decode cX8_put 45 = .ok (.iload 4, 2) := by decide +kernel
theorem dX8_put_47 : decode cX8_put 47 = .ok (.imul, 1) := by decide +kernel
theorem dX8_put_48 : decode cX8_put 48 = .ok (.iload_n 3, 1) := by decide +kernel
theorem dX8_put_49 : decode cX8_put 49 = .ok (.iadd, 1) := by decide +kernel
theorem dX8_put_50 : decode cX8_put 50 = .ok (.baload, 1) := by decide +kernel
theorem dX8_put_51 : decode cX8_put 51 = .ok (.ifCond .eq 7, 3) := by decide +kernel
theorem dX8_put_54 : decode cX8_put 54 = .ok (.iconst 2, 1) := by decide +kernel
theorem dX8_put_55 : decode cX8_put 55 = .ok (.goto 4, 3) := by decide +kernel
theorem dX8_put_58 : decode cX8_put 58 = .ok (.iconst 0, 1) := by decide +kernel
theorem dX8_put_59 : decode cX8_put 59 = .ok (.putfield 7, 3) := by decide +kernel
theorem dX8_put_62 : decode cX8_put 62 = .ok (.aload_n 0, 1) := by decide +kernel
theorem dX8_put_63 : decode cX8_put 63 = .ok (.getfield 7, 3) := by decide +kernel
theorem dX8_put_66 : decode cX8_put 66 = .ok (.ifCond .eq 5, 3) := by decide +kernel
theorem dX8_put_69 : decode cX8_put 69 = .ok (.iconst 0, 1) := by decide +kernel
theorem dX8_put_70 : decode cX8_put 70 = .ok (.ireturn, 1) := by decide +kernel
theorem dX8_put_71 : decode cX8_put 71 = .ok (.iconst 0, 1) := by decide +kernel
theorem dX8_put_72 : decode cX8_put 72 = .ok (.istore 6, 2) := by decide +kernel
theorem dX8_put_74 : decode cX8_put 74 = .ok (.iload 6, 2) := by decide +kernel
theorem dX8_put_76 : decode cX8_put 76 = .ok (.aload_n 0, 1) := by decide +kernel
theorem dX8_put_77 : decode cX8_put 77 = .ok (.getfield 62, 3) := by decide +kernel
theorem dX8_put_80 : decode cX8_put 80 = .ok (.if_icmp .ge 31, 3) := by decide +kernel
theorem dX8_put_83 : decode cX8_put 83 = .ok (.iload 6, 2) := by decide +kernel
theorem dX8_put_85 : decode cX8_put 85 = .ok (.iload_n 2, 1) := by decide +kernel
theorem dX8_put_86 : decode cX8_put 86 = .ok (.if_icmp .eq 19, 3) := by decide +kernel
theorem dX8_put_89 : decode cX8_put 89 = .ok (.aload_n 1, 1) := by decide +kernel
theorem dX8_put_90 : decode cX8_put 90 = .ok (.iload 6, 2) := by decide +kernel
theorem dX8_put_92 : decode cX8_put 92 = .ok (.iaload, 1) := by decide +kernel
theorem dX8_put_93 : decode cX8_put 93 = .ok (.bipush 6, 2) := by decide +kernel
theorem dX8_put_95 : decode cX8_put 95 = .ok (.iload 4, 2) := by decide +kernel
theorem dX8_put_97 : decode cX8_put 97 = .ok (.imul, 1) := by decide +kernel
theorem dX8_put_98 : decode cX8_put 98 = .ok (.iload_n 3, 1) := by decide +kernel
theorem dX8_put_99 : decode cX8_put 99 = .ok (.iadd, 1) := by decide +kernel
theorem dX8_put_100 : decode cX8_put 100 = .ok (.if_icmp .ne 5, 3) := by decide +kernel
theorem dX8_put_103 : decode cX8_put 103 = .ok (.iconst 0, 1) := by decide +kernel
theorem dX8_put_104 : decode cX8_put 104 = .ok (.ireturn, 1) := by decide +kernel
theorem dX8_put_105 : decode cX8_put 105 = .ok (.iinc 6 1, 3) := by decide +kernel
theorem dX8_put_108 : decode cX8_put 108 = .ok (.goto (-34), 3) := by decide +kernel
theorem dX8_put_111 : decode cX8_put 111 = .ok (.aload_n 1, 1) := by decide +kernel
theorem dX8_put_112 : decode cX8_put 112 = .ok (.iload_n 2, 1) := by decide +kernel
theorem dX8_put_113 : decode cX8_put 113 = .ok (.bipush 6, 2) := by decide +kernel
theorem dX8_put_115 : decode cX8_put 115 = .ok (.iload 4, 2) := by decide +kernel
theorem dX8_put_117 : decode cX8_put 117 = .ok (.imul, 1) := by decide +kernel
theorem dX8_put_118 : decode cX8_put 118 = .ok (.iload_n 3, 1) := by decide +kernel
theorem dX8_put_119 : decode cX8_put 119 = .ok (.iadd, 1) := by decide +kernel
theorem dX8_put_120 : decode cX8_put 120 = .ok (.iastore, 1) := by decide +kernel
theorem dX8_put_121 : decode cX8_put 121 = .ok (.iconst 1, 1) := by decide +kernel
theorem dX8_put_122 : decode cX8_put 122 = .ok (.ireturn, 1) := by decide +kernel
theorem dX8_start_0 : decode cX8_start 0 = .ok (.aload_n 0, 1) := by decide +kernel
theorem dX8_start_1 : decode cX8_start 1 = .ok (.aload_n 0, 1) := by decide +kernel
theorem dX8_start_2 : decode cX8_start 2 = .ok (.getfield 23, 3) := by decide +kernel
theorem dX8_start_5 : decode cX8_start 5 = .ok (.iload_n 1, 1) := by decide +kernel
theorem dX8_start_6 : decode cX8_start 6 = .ok (.iload_n 2, 1) := by decide +kernel
theorem dX8_start_7 : decode cX8_start 7 = .ok (.iload_n 3, 1) := by decide +kernel
theorem dX8_start_8 : decode cX8_start 8 = .ok (.invokevirtual 131, 3) := by decide +kernel
theorem dX8_start_11 : decode cX8_start 11 = .ok (.ireturn, 1) := by decide +kernel
theorem dX8_end_0 : decode cX8_end 0 = .ok (.aload_n 0, 1) := by decide +kernel
theorem dX8_end_1 : decode cX8_end 1 = .ok (.aload_n 0, 1) := by decide +kernel
theorem dX8_end_2 : decode cX8_end 2 = .ok (.getfield 27, 3) := by decide +kernel
theorem dX8_end_5 : decode cX8_end 5 = .ok (.iload_n 1, 1) := by decide +kernel
theorem dX8_end_6 : decode cX8_end 6 = .ok (.iload_n 2, 1) := by decide +kernel
theorem dX8_end_7 : decode cX8_end 7 = .ok (.iload_n 3, 1) := by decide +kernel
theorem dX8_end_8 : decode cX8_end 8 = .ok (.invokevirtual 131, 3) := by decide +kernel
theorem dX8_end_11 : decode cX8_end 11 = .ok (.ireturn, 1) := by decide +kernel
theorem dX8_swap_0 : decode cX8_swap 0 = .ok (.aload_n 0, 1) := by decide +kernel
theorem dX8_swap_1 : decode cX8_swap 1 = .ok (.iconst 0, 1) := by decide +kernel
theorem dX8_swap_2 : decode cX8_swap 2 = .ok (.putfield 7, 3) := by decide +kernel
theorem dX8_swap_5 : decode cX8_swap 5 = .ok (.aload_n 0, 1) := by decide +kernel
theorem dX8_swap_6 : decode cX8_swap 6 = .ok (.getfield 30, 3) := by decide +kernel
theorem dX8_swap_9 : decode cX8_swap 9 = .ok (.istore_n 2, 1) := by decide +kernel
theorem dX8_swap_10 : decode cX8_swap 10 = .ok (.aload_n 0, 1) := by decide +kernel
theorem dX8_swap_11 : decode cX8_swap 11 = .ok (.iload_n 1, 1) := by decide +kernel
theorem dX8_swap_12 : decode cX8_swap 12 = .ok (.putfield 30, 3) := by decide +kernel
theorem dX8_swap_15 : decode cX8_swap 15 = .ok (.iload_n 2, 1) := by decide +kernel
theorem dX8_swap_16 : decode cX8_swap 16 = .ok (.ireturn, 1) := by decide +kernel
theorem dX8_seed_0 : decode cX8_seed 0 = .ok (.aload_n 0, 1) := by decide +kernel
theorem dX8_seed_1 : decode cX8_seed 1 = .ok (.iload_n 1, 1) := by decide +kernel
theorem dX8_seed_2 : decode cX8_seed 2 = .ok (.ifCond .ge 7, 3) := by decide +kernel
theorem dX8_seed_5 : decode cX8_seed 5 = .ok (.iconst 1, 1) := by decide +kernel
theorem dX8_seed_6 : decode cX8_seed 6 = .ok (.goto 4, 3) := by decide +kernel
theorem dX8_seed_9 : decode cX8_seed 9 = .ok (.iconst 0, 1) := by decide +kernel
theorem dX8_seed_10 : decode cX8_seed 10 = .ok (.putfield 7, 3) := by decide +kernel
theorem dX8_seed_13 : decode cX8_seed 13 = .ok (.aload_n 0, 1) := by decide +kernel
theorem dX8_seed_14 : decode cX8_seed 14 = .ok (.getfield 7, 3) := by decide +kernel
theorem dX8_seed_17 : decode cX8_seed 17 = .ok (.ifCond .ne 9, 3) := by decide +kernel
theorem dX8_seed_20 : decode cX8_seed 20 = .ok (.aload_n 0, 1) := by decide +kernel
theorem dX8_seed_21 : decode cX8_seed 21 = .ok (.iload_n 1, 1) := by decide +kernel
theorem dX8_seed_22 : decode cX8_seed 22 = .ok (.i2l, 1) := by decide +kernel
theorem dX8_seed_23 : decode cX8_seed 23 = .ok (.putfield 34, 3) := by decide +kernel
theorem dX8_seed_26 : decode cX8_seed 26 = .ok (.return_, 1) := by decide +kernel
theorem dX8_solve_0 : decode cX8_solve 0 = .ok (.aload_n 0, 1) := by decide +kernel
theorem dX8_solve_1 : decode cX8_solve 1 = .ok (.iload_n 1, 1) := by decide +kernel
theorem dX8_solve_2 : decode cX8_solve 2 = .ok (.ifCond .lt 8, 3) := by decide +kernel
theorem dX8_solve_5 : decode cX8_solve 5 = .ok (.iload_n 1, 1) := by decide +kernel
theorem dX8_solve_6 : decode cX8_solve 6 = .ok (.iconst 5, 1) := by decide +kernel
theorem dX8_solve_7 : decode cX8_solve 7 = .ok (.if_icmp .le 7, 3) := by decide +kernel
theorem dX8_solve_10 : decode cX8_solve 10 = .ok (.iconst 1, 1) := by decide +kernel
theorem dX8_solve_11 : decode cX8_solve 11 = .ok (.goto 15, 3) := by decide +kernel
theorem dX8_solve_14 : decode cX8_solve 14 = .ok (.aload_n 0, 1) := by decide +kernel
theorem dX8_solve_15 : decode cX8_solve 15 = .ok (.invokevirtual 135, 3) := by decide +kernel
theorem dX8_solve_18 : decode cX8_solve 18 = .ok (.ifCond .eq 7, 3) := by decide +kernel
theorem dX8_solve_21 : decode cX8_solve 21 = .ok (.iconst 2, 1) := by decide +kernel
theorem dX8_solve_22 : decode cX8_solve 22 = .ok (.goto 4, 3) := by decide +kernel
theorem dX8_solve_25 : decode cX8_solve 25 = .ok (.iconst 0, 1) := by decide +kernel
theorem dX8_solve_26 : decode cX8_solve 26 = .ok (.putfield 7, 3) := by decide +kernel
theorem dX8_solve_29 : decode cX8_solve 29 = .ok (.aload_n 0, 1) := by decide +kernel
theorem dX8_solve_30 : decode cX8_solve 30 = .ok (.getfield 7, 3) := by decide +kernel
theorem dX8_solve_33 : decode cX8_solve 33 = .ok (.ifCond .eq 5, 3) := by decide +kernel
theorem dX8_solve_36 : decode cX8_solve 36 = .ok (.iconst 0, 1) := by decide +kernel
theorem dX8_solve_37 : decode cX8_solve 37 = .ok (.ireturn, 1) := by decide +kernel
theorem dX8_solve_38 : decode cX8_solve 38 = .ok (.aload_n 0, 1) := by decide +kernel
theorem dX8_solve_39 : decode cX8_solve 39 = .ok (.getfield 62, 3) := by decide +kernel
theorem dX8_solve_42 : decode cX8_solve 42 = .ok (.iconst 3, 1) := by decide +kernel
theorem dX8_solve_43 : decode cX8_solve 43 = .ok (.if_icmp .ge 10, 3) := by decide +kernel
theorem dX8_solve_46 : decode cX8_solve 46 = .ok (.aload_n 0, 1) := by decide +kernel
theorem dX8_solve_47 : decode cX8_solve 47 = .ok (.invokevirtual 139, 3) := by decide +kernel
theorem dX8_solve_50 : decode cX8_solve 50 = .ok (.goto 8, 3) := by decide +kernel
theorem dX8_solve_53 : decode cX8_solve 53 = .ok (.aload_n 0, 1) := by decide +kernel
theorem dX8_solve_54 : decode cX8_solve 54 = .ok (.iload_n 1, 1) := by decide +kernel
theorem dX8_solve_55 : decode cX8_solve 55 = .ok (.invokevirtual 142, 3) := by decide +kernel
theorem dX8_solve_58 : decode cX8_solve 58 = .ok (.aload_n 0, 1) := by decide +kernel
theorem dX8_solve_59 : decode cX8_solve 59 = .ok (.getfield 38, 3) := by decide +kernel
theorem dX8_solve_62 : decode cX8_solve 62 = .ok (.ifCond .eq 10, 3) := by decide +kernel
theorem dX8_solve_65 : decode cX8_solve 65 = .ok (.aload_n 0, 1) := by decide +kernel
theorem dX8_solve_66 : decode cX8_solve 66 = .ok (.getfield 44, 3) := by decide +kernel
theorem dX8_solve_69 : decode cX8_solve 69 = .ok (.goto 4, 3) := by decide +kernel
theorem dX8_solve_72 : decode cX8_solve 72 = .ok (.iconst (-1), 1) := by decide +kernel
theorem dX8_solve_73 : decode cX8_solve 73 = .ok (.ireturn, 1) := by decide +kernel
theorem dX8_exact_0 : decode cX8_exact 0 = .ok (.aload_n 0, 1) := by decide +kernel
theorem dX8_exact_1 : decode cX8_exact 1 = .ok (.iconst 0, 1) := by decide +kernel
theorem dX8_exact_2 : decode cX8_exact 2 = .ok (.putfield 7, 3) := by decide +kernel
theorem dX8_exact_5 : decode cX8_exact 5 = .ok (.aload_n 0, 1) := by decide +kernel
theorem dX8_exact_6 : decode cX8_exact 6 = .ok (.getfield 38, 3) := by decide +kernel
theorem dX8_exact_9 : decode cX8_exact 9 = .ok (.ifCond .eq 14, 3) := by decide +kernel
theorem dX8_exact_12 : decode cX8_exact 12 = .ok (.aload_n 0, 1) := by decide +kernel
theorem dX8_exact_13 : decode cX8_exact 13 = .ok (.getfield 41, 3) := by decide +kernel
theorem dX8_exact_16 : decode cX8_exact 16 = .ok (.ifCond .eq 7, 3) := by decide +kernel
theorem dX8_exact_19 : decode cX8_exact 19 = .ok (.iconst 1, 1) := by decide +kernel
theorem dX8_exact_20 : decode cX8_exact 20 = .ok (.goto 4, 3) := by decide +kernel
theorem dX8_exact_23 : decode cX8_exact 23 = .ok (.iconst 0, 1) := by decide +kernel
theorem dX8_exact_24 : decode cX8_exact 24 = .ok (.ireturn, 1) := by decide +kernel
theorem dX8_at_0 : decode cX8_at 0 = .ok (.aload_n 0, 1) := by decide +kernel
theorem dX8_at_1 : decode cX8_at 1 = .ok (.iload_n 1, 1) := by decide +kernel
theorem dX8_at_2 : decode cX8_at 2 = .ok (.ifCond .lt 24, 3) := by decide +kernel
theorem dX8_at_5 : decode cX8_at 5 = .ok (.iload_n 1, 1) := by decide +kernel
theorem dX8_at_6 : decode cX8_at 6 = .ok (.aload_n 0, 1) := by decide +kernel
theorem dX8_at_7 : decode cX8_at 7 = .ok (.getfield 62, 3) := by decide +kernel
theorem dX8_at_10 : decode cX8_at 10 = .ok (.if_icmp .ge 16, 3) := by decide +kernel
theorem dX8_at_13 : decode cX8_at 13 = .ok (.iload_n 2, 1) := by decide +kernel
theorem dX8_at_14 : decode cX8_at 14 = .ok (.ifCond .lt 12, 3) := by decide +kernel
theorem dX8_at_17 : decode cX8_at 17 = .ok (.iload_n 3, 1) := by decide +kernel
theorem dX8_at_18 : decode cX8_at 18 = .ok (.ifCond .lt 8, 3) := by decide +kernel
theorem dX8_at_21 : decode cX8_at 21 = .ok (.iload_n 3, 1) := by decide +kernel
theorem dX8_at_22 : decode cX8_at 22 = .ok (.iconst 1, 1) := by decide +kernel
theorem dX8_at_23 : decode cX8_at 23 = .ok (.if_icmp .le 7, 3) := by decide +kernel
theorem dX8_at_26 : decode cX8_at 26 = .ok (.iconst 1, 1) := by decide +kernel
theorem dX8_at_27 : decode cX8_at 27 = .ok (.goto 15, 3) := by decide +kernel
theorem dX8_at_30 : decode cX8_at 30 = .ok (.aload_n 0, 1) := by decide +kernel
theorem dX8_at_31 : decode cX8_at 31 = .ok (.getfield 38, 3) := by decide +kernel
theorem dX8_at_34 : decode cX8_at 34 = .ok (.ifCond .ne 7, 3) := by decide +kernel
theorem dX8_at_37 : decode cX8_at 37 = .ok (.iconst 2, 1) := by decide +kernel
theorem dX8_at_38 : decode cX8_at 38 = .ok (.goto 4, 3) := by decide +kernel
theorem dX8_at_41 : decode cX8_at 41 = .ok (.iconst 0, 1) := by decide +kernel
theorem dX8_at_42 : decode cX8_at 42 = .ok (.putfield 7, 3) := by decide +kernel
theorem dX8_at_45 : decode cX8_at 45 = .ok (.aload_n 0, 1) := by decide +kernel
theorem dX8_at_46 : decode cX8_at 46 = .ok (.getfield 7, 3) := by decide +kernel
theorem dX8_at_49 : decode cX8_at 49 = .ok (.ifCond .eq 5, 3) := by decide +kernel
theorem dX8_at_52 : decode cX8_at 52 = .ok (.iconst 0, 1) := by decide +kernel
theorem dX8_at_53 : decode cX8_at 53 = .ok (.ireturn, 1) := by decide +kernel
theorem dX8_at_54 : decode cX8_at 54 = .ok (.aload_n 0, 1) := by decide +kernel
theorem dX8_at_55 : decode cX8_at 55 = .ok (.getfield 50, 3) := by decide +kernel
theorem dX8_at_58 : decode cX8_at 58 = .ok (.sipush 400, 3) := by decide +kernel
theorem dX8_at_61 : decode cX8_at 61 = .ok (.iload_n 1, 1) := by decide +kernel
theorem dX8_at_62 : decode cX8_at 62 = .ok (.imul, 1) := by decide +kernel
theorem dX8_at_63 : decode cX8_at 63 = .ok (.iload_n 2, 1) := by decide +kernel
theorem dX8_at_64 : decode cX8_at 64 = .ok (.aload_n 0, 1) := by decide +kernel
theorem dX8_at_65 : decode cX8_at 65 = .ok (.getfield 47, 3) := by decide +kernel
theorem dX8_at_68 : decode cX8_at 68 = .ok (.if_icmp .ge 7, 3) := by decide +kernel
theorem dX8_at_71 : decode cX8_at 71 = .ok (.iload_n 2, 1) := by decide +kernel
theorem dX8_at_72 : decode cX8_at 72 = .ok (.goto 7, 3) := by decide +kernel
theorem dX8_at_75 : decode cX8_at 75 = .ok (.aload_n 0, 1) := by decide +kernel
theorem dX8_at_76 : decode cX8_at 76 = .ok (.getfield 47, 3) := by decide +kernel
theorem dX8_at_79 : decode cX8_at 79 = .ok (.iadd, 1) := by decide +kernel
theorem dX8_at_80 : decode cX8_at 80 = .ok (.iaload, 1) := by decide +kernel
theorem dX8_at_81 : decode cX8_at 81 = .ok (.istore 4, 2) := by decide +kernel
theorem dX8_at_83 : decode cX8_at 83 = .ok (.iload_n 3, 1) := by decide +kernel
theorem dX8_at_84 : decode cX8_at 84 = .ok (.ifCond .ne 11, 3) := by decide +kernel
theorem dX8_at_87 : decode cX8_at 87 = .ok (.iload 4, 2) := by decide +kernel
theorem dX8_at_89 : decode cX8_at 89 = .ok (.bipush 6, 2) := by decide +kernel
theorem dX8_at_91 : decode cX8_at 91 = .ok (.irem, 1) := by decide +kernel
theorem dX8_at_92 : decode cX8_at 92 = .ok (.goto 8, 3) := by decide +kernel
theorem dX8_at_95 : decode cX8_at 95 = .ok (.iload 4, 2) := by decide +kernel
theorem dX8_at_97 : decode cX8_at 97 = .ok (.bipush 6, 2) := by decide +kernel
theorem dX8_at_99 : decode cX8_at 99 = .ok (.idiv, 1) := by decide +kernel
theorem dX8_at_100 : decode cX8_at 100 = .ok (.ireturn, 1) := by decide +kernel
theorem dX8_last_0 : decode cX8_last 0 = .ok (.aload_n 0, 1) := by decide +kernel
theorem dX8_last_1 : decode cX8_last 1 = .ok (.aload_n 0, 1) := by decide +kernel
theorem dX8_last_2 : decode cX8_last 2 = .ok (.getfield 38, 3) := by decide +kernel
theorem dX8_last_5 : decode cX8_last 5 = .ok (.ifCond .eq 7, 3) := by decide +kernel
theorem dX8_last_8 : decode cX8_last 8 = .ok (.iconst 0, 1) := by decide +kernel
theorem dX8_last_9 : decode cX8_last 9 = .ok (.goto 4, 3) := by decide +kernel
theorem dX8_last_12 : decode cX8_last 12 = .ok (.iconst 1, 1) := by decide +kernel
theorem dX8_last_13 : decode cX8_last 13 = .ok (.putfield 7, 3) := by decide +kernel
theorem dX8_last_16 : decode cX8_last 16 = .ok (.aload_n 0, 1) := by decide +kernel
theorem dX8_last_17 : decode cX8_last 17 = .ok (.getfield 7, 3) := by decide +kernel
theorem dX8_last_20 : decode cX8_last 20 = .ok (.ifCond .eq 7, 3) := by decide +kernel
theorem dX8_last_23 : decode cX8_last 23 = .ok (.iconst 0, 1) := by decide +kernel
theorem dX8_last_24 : decode cX8_last 24 = .ok (.goto 7, 3) := by decide +kernel
theorem dX8_last_27 : decode cX8_last 27 = .ok (.aload_n 0, 1) := by decide +kernel
theorem dX8_last_28 : decode cX8_last 28 = .ok (.getfield 47, 3) := by decide +kernel
theorem dX8_last_31 : decode cX8_last 31 = .ok (.ireturn, 1) := by decide +kernel
theorem dX8_alone_0 : decode cX8_alone 0 = .ok (.aload_n 0, 1) := by decide +kernel
theorem dX8_alone_1 : decode cX8_alone 1 = .ok (.iload_n 1, 1) := by decide +kernel
theorem dX8_alone_2 : decode cX8_alone 2 = .ok (.ifCond .lt 11, 3) := by decide +kernel
theorem dX8_alone_5 : decode cX8_alone 5 = .ok (.iload_n 1, 1) := by decide +kernel
theorem dX8_alone_6 : decode cX8_alone 6 = .ok (.aload_n 0, 1) := by decide +kernel
theorem dX8_alone_7 : decode cX8_alone 7 = .ok (.getfield 62, 3) := by decide +kernel
theorem dX8_alone_10 : decode cX8_alone 10 = .ok (.if_icmp .lt 7, 3) := by decide +kernel
theorem dX8_alone_13 : decode cX8_alone 13 = .ok (.iconst 1, 1) := by decide +kernel
theorem dX8_alone_14 : decode cX8_alone 14 = .ok (.goto 26, 3) := by decide +kernel
theorem dX8_alone_17 : decode cX8_alone 17 = .ok (.aload_n 0, 1) := by decide +kernel
theorem dX8_alone_18 : decode cX8_alone 18 = .ok (.getfield 23, 3) := by decide +kernel
theorem dX8_alone_21 : decode cX8_alone 21 = .ok (.iload_n 1, 1) := by decide +kernel
theorem dX8_alone_22 : decode cX8_alone 22 = .ok (.iaload, 1) := by decide +kernel
theorem dX8_alone_23 : decode cX8_alone 23 = .ok (.ifCond .lt 12, 3) := by decide +kernel
theorem dX8_alone_26 : decode cX8_alone 26 = .ok (.aload_n 0, 1) := by decide +kernel
theorem dX8_alone_27 : decode cX8_alone 27 = .ok (.getfield 27, 3) := by decide +kernel
theorem dX8_alone_30 : decode cX8_alone 30 = .ok (.iload_n 1, 1) := by decide +kernel
theorem dX8_alone_31 : decode cX8_alone 31 = .ok (.iaload, 1) := by decide +kernel
theorem dX8_alone_32 : decode cX8_alone 32 = .ok (.ifCond .ge 7, 3) := by decide +kernel
theorem dX8_alone_35 : decode cX8_alone 35 = .ok (.iconst 2, 1) := by decide +kernel
theorem dX8_alone_36 : decode cX8_alone 36 = .ok (.goto 4, 3) := by decide +kernel
theorem dX8_alone_39 : decode cX8_alone 39 = .ok (.iconst 0, 1) := by decide +kernel
theorem dX8_alone_40 : decode cX8_alone 40 = .ok (.putfield 7, 3) := by decide +kernel
theorem dX8_alone_43 : decode cX8_alone 43 = .ok (.aload_n 0, 1) := by decide +kernel
theorem dX8_alone_44 : decode cX8_alone 44 = .ok (.getfield 7, 3) := by decide +kernel
theorem dX8_alone_47 : decode cX8_alone 47 = .ok (.ifCond .eq 7, 3) := by decide +kernel
theorem dX8_alone_50 : decode cX8_alone 50 = .ok (.iconst 0, 1) := by decide +kernel
theorem dX8_alone_51 : decode cX8_alone 51 = .ok (.goto 8, 3) := by decide +kernel
theorem dX8_alone_54 : decode cX8_alone 54 = .ok (.aload_n 0, 1) := by decide +kernel
theorem dX8_alone_55 : decode cX8_alone 55 = .ok (.iload_n 1, 1) := by decide +kernel
theorem dX8_alone_56 : decode cX8_alone 56 = .ok (.invokevirtual 125, 3) := by decide +kernel
theorem dX8_alone_59 : decode cX8_alone 59 = .ok (.ireturn, 1) := by decide +kernel
theorem dX8_bound_0 : decode cX8_bound 0 = .ok (.aload_n 0, 1) := by decide +kernel
theorem dX8_bound_1 : decode cX8_bound 1 = .ok (.aload_n 0, 1) := by decide +kernel
theorem dX8_bound_2 : decode cX8_bound 2 = .ok (.invokevirtual 135, 3) := by decide +kernel
theorem dX8_bound_5 : decode cX8_bound 5 = .ok (.ifCond .eq 7, 3) := by decide +kernel
theorem dX8_bound_8 : decode cX8_bound 8 = .ok (.iconst 1, 1) := by decide +kernel
theorem dX8_bound_9 : decode cX8_bound 9 = .ok (.goto 4, 3) := by decide +kernel
theorem dX8_bound_12 : decode cX8_bound 12 = .ok (.iconst 0, 1) := by decide +kernel
theorem dX8_bound_13 : decode cX8_bound 13 = .ok (.putfield 7, 3) := by decide +kernel
theorem dX8_bound_16 : decode cX8_bound 16 = .ok (.aload_n 0, 1) := by decide +kernel
theorem dX8_bound_17 : decode cX8_bound 17 = .ok (.getfield 7, 3) := by decide +kernel
theorem dX8_bound_20 : decode cX8_bound 20 = .ok (.ifCond .eq 7, 3) := by decide +kernel
theorem dX8_bound_23 : decode cX8_bound 23 = .ok (.iconst 0, 1) := by decide +kernel
theorem dX8_bound_24 : decode cX8_bound 24 = .ok (.goto 7, 3) := by decide +kernel
theorem dX8_bound_27 : decode cX8_bound 27 = .ok (.aload_n 0, 1) := by decide +kernel
theorem dX8_bound_28 : decode cX8_bound 28 = .ok (.invokevirtual 146, 3) := by decide +kernel
theorem dX8_bound_31 : decode cX8_bound 31 = .ok (.ireturn, 1) := by decide +kernel
theorem dX8_share_0 : decode cX8_share 0 = .ok (.aload_n 0, 1) := by decide +kernel
theorem dX8_share_1 : decode cX8_share 1 = .ok (.aload_n 0, 1) := by decide +kernel
theorem dX8_share_2 : decode cX8_share 2 = .ok (.getfield 38, 3) := by decide +kernel
theorem dX8_share_5 : decode cX8_share 5 = .ok (.ifCond .eq 10, 3) := by decide +kernel
theorem dX8_share_8 : decode cX8_share 8 = .ok (.aload_n 0, 1) := by decide +kernel
theorem dX8_share_9 : decode cX8_share 9 = .ok (.invokevirtual 135, 3) := by decide +kernel
theorem dX8_share_12 : decode cX8_share 12 = .ok (.ifCond .eq 7, 3) := by decide +kernel
theorem dX8_share_15 : decode cX8_share 15 = .ok (.iconst 1, 1) := by decide +kernel
theorem dX8_share_16 : decode cX8_share 16 = .ok (.goto 15, 3) := by decide +kernel
theorem dX8_share_19 : decode cX8_share 19 = .ok (.aload_n 0, 1) := by decide +kernel
theorem dX8_share_20 : decode cX8_share 20 = .ok (.getfield 44, 3) := by decide +kernel
theorem dX8_share_23 : decode cX8_share 23 = .ok (.ifCond .ne 7, 3) := by decide +kernel
theorem dX8_share_26 : decode cX8_share 26 = .ok (.iconst 2, 1) := by decide +kernel
theorem dX8_share_27 : decode cX8_share 27 = .ok (.goto 4, 3) := by decide +kernel
theorem dX8_share_30 : decode cX8_share 30 = .ok (.iconst 0, 1) := by decide +kernel
theorem dX8_share_31 : decode cX8_share 31 = .ok (.putfield 7, 3) := by decide +kernel
theorem dX8_share_34 : decode cX8_share 34 = .ok (.aload_n 0, 1) := by decide +kernel
theorem dX8_share_35 : decode cX8_share 35 = .ok (.getfield 7, 3) := by decide +kernel
theorem dX8_share_38 : decode cX8_share 38 = .ok (.ifCond .eq 7, 3) := by decide +kernel
theorem dX8_share_41 : decode cX8_share 41 = .ok (.iconst 0, 1) := by decide +kernel
theorem dX8_share_42 : decode cX8_share 42 = .ok (.goto 15, 3) := by decide +kernel
theorem dX8_share_45 : decode cX8_share 45 = .ok (.bipush 100, 2) := by decide +kernel
theorem dX8_share_47 : decode cX8_share 47 = .ok (.aload_n 0, 1) := by decide +kernel
theorem dX8_share_48 : decode cX8_share 48 = .ok (.invokevirtual 146, 3) := by decide +kernel
theorem dX8_share_51 : decode cX8_share 51 = .ok (.imul, 1) := by decide +kernel
theorem dX8_share_52 : decode cX8_share 52 = .ok (.aload_n 0, 1) := by decide +kernel
theorem dX8_share_53 : decode cX8_share 53 = .ok (.getfield 44, 3) := by decide +kernel
theorem dX8_share_56 : decode cX8_share 56 = .ok (.idiv, 1) := by decide +kernel
theorem dX8_share_57 : decode cX8_share 57 = .ok (.ireturn, 1) := by decide +kernel
theorem dX8_count_0 : decode cX8_count 0 = .ok (.aload_n 0, 1) := by decide +kernel
theorem dX8_count_1 : decode cX8_count 1 = .ok (.iconst 0, 1) := by decide +kernel
theorem dX8_count_2 : decode cX8_count 2 = .ok (.putfield 7, 3) := by decide +kernel
theorem dX8_count_5 : decode cX8_count 5 = .ok (.iconst 0, 1) := by decide +kernel
theorem dX8_count_6 : decode cX8_count 6 = .ok (.istore_n 2, 1) := by decide +kernel
theorem dX8_count_7 : decode cX8_count 7 = .ok (.iconst 0, 1) := by decide +kernel
theorem dX8_count_8 : decode cX8_count 8 = .ok (.istore_n 3, 1) := by decide +kernel
theorem dX8_count_9 : decode cX8_count 9 = .ok (.iload_n 3, 1) := by decide +kernel
theorem dX8_count_10 : decode cX8_count 10 = .ok (.bipush 36, 2) := by decide +kernel
theorem dX8_count_12 : decode cX8_count 12 = .ok (.if_icmp .ge 26, 3) := by decide +kernel
theorem dX8_count_15 : decode cX8_count 15 = .ok (.iload_n 2, 1) := by decide +kernel
theorem dX8_count_16 : decode cX8_count 16 = .ok (.aload_n 0, 1) := by decide +kernel
theorem dX8_count_17 : decode cX8_count 17 = .ok (.getfield 19, 3) := by decide +kernel
theorem dX8_count_20 : decode cX8_count 20 = .ok (.iload_n 3, 1) := by decide +kernel
theorem dX8_count_21 : decode cX8_count 21 = .ok (.baload, 1) := by decide +kernel
theorem dX8_count_22 : decode cX8_count 22 = .ok (.ifCond .eq 7, 3) := by decide +kernel
theorem dX8_count_25 : decode cX8_count 25 = .ok (.iconst 1, 1) := by decide +kernel
theorem dX8_count_26 : decode cX8_count 26 = .ok (.goto 4, 3) := by decide +kernel
theorem dX8_count_29 : decode cX8_count 29 = .ok (.iconst 0, 1) := by decide +kernel
theorem dX8_count_30 : decode cX8_count 30 = .ok (.iadd, 1) := by decide +kernel
theorem dX8_count_31 : decode cX8_count 31 = .ok (.istore_n 2, 1) := by decide +kernel
theorem dX8_count_32 : decode cX8_count 32 = .ok (.iinc 3 1, 3) := by decide +kernel
theorem dX8_count_35 : decode cX8_count 35 = .ok (.goto (-26), 3) := by decide +kernel
theorem dX8_count_38 : decode cX8_count 38 = .ok (.iload_n 1, 1) := by decide +kernel
theorem dX8_count_39 : decode cX8_count 39 = .ok (.ifCond .ne 10, 3) := by decide +kernel
theorem dX8_count_42 : decode cX8_count 42 = .ok (.aload_n 0, 1) := by decide +kernel
theorem dX8_count_43 : decode cX8_count 43 = .ok (.getfield 62, 3) := by decide +kernel
theorem dX8_count_46 : decode cX8_count 46 = .ok (.goto 60, 3) := by decide +kernel
theorem dX8_count_49 : decode cX8_count 49 = .ok (.iload_n 1, 1) := by decide +kernel
theorem dX8_count_50 : decode cX8_count 50 = .ok (.iconst 1, 1) := by decide +kernel
theorem dX8_count_51 : decode cX8_count 51 = .ok (.if_icmp .ne 10, 3) := by decide +kernel
theorem dX8_count_54 : decode cX8_count 54 = .ok (.aload_n 0, 1) := by decide +kernel
theorem dX8_count_55 : decode cX8_count 55 = .ok (.getfield 13, 3) := by decide +kernel
theorem dX8_count_58 : decode cX8_count 58 = .ok (.goto 48, 3) := by decide +kernel
theorem dX8_count_61 : decode cX8_count 61 = .ok (.iload_n 1, 1) := by decide +kernel
theorem dX8_count_62 : decode cX8_count 62 = .ok (.iconst 2, 1) := by decide +kernel
theorem dX8_count_63 : decode cX8_count 63 = .ok (.if_icmp .ne 10, 3) := by decide +kernel
theorem dX8_count_66 : decode cX8_count 66 = .ok (.aload_n 0, 1) := by decide +kernel
theorem dX8_count_67 : decode cX8_count 67 = .ok (.getfield 16, 3) := by decide +kernel
theorem dX8_count_70 : decode cX8_count 70 = .ok (.goto 36, 3) := by decide +kernel
theorem dX8_count_73 : decode cX8_count 73 = .ok (.iload_n 1, 1) := by decide +kernel
theorem dX8_count_74 : decode cX8_count 74 = .ok (.iconst 3, 1) := by decide +kernel
theorem dX8_count_75 : decode cX8_count 75 = .ok (.if_icmp .ne 7, 3) := by decide +kernel
theorem dX8_count_78 : decode cX8_count 78 = .ok (.iload_n 2, 1) := by decide +kernel
theorem dX8_count_79 : decode cX8_count 79 = .ok (.goto 27, 3) := by decide +kernel
theorem dX8_count_82 : decode cX8_count 82 = .ok (.iload_n 1, 1) := by decide +kernel
theorem dX8_count_83 : decode cX8_count 83 = .ok (.iconst 4, 1) := by decide +kernel
theorem dX8_count_84 : decode cX8_count 84 = .ok (.if_icmp .ne 21, 3) := by decide +kernel
theorem dX8_count_87 : decode cX8_count 87 = .ok (.aload_n 0, 1) := by decide +kernel
theorem dX8_count_88 : decode cX8_count 88 = .ok (.getfield 38, 3) := by decide +kernel
theorem dX8_count_91 : decode cX8_count 91 = .ok (.ifCond .eq 10, 3) := by decide +kernel
theorem dX8_count_94 : decode cX8_count 94 = .ok (.aload_n 0, 1) := by decide +kernel
theorem dX8_count_95 : decode cX8_count 95 = .ok (.getfield 44, 3) := by decide +kernel
theorem dX8_count_98 : decode cX8_count 98 = .ok (.goto 8, 3) := by decide +kernel
theorem dX8_count_101 : decode cX8_count 101 = .ok (.iconst (-1), 1) := by decide +kernel
theorem dX8_count_102 : decode cX8_count 102 = .ok (.goto 4, 3) := by decide +kernel
theorem dX8_count_105 : decode cX8_count 105 = .ok (.iconst (-1), 1) := by decide +kernel
theorem dX8_count_106 : decode cX8_count 106 = .ok (.ireturn, 1) := by decide +kernel
end
section
theorem nw_104 : (Cond.methodLinkNest RX7 24 yX5_init "JointPlans") ∈ jp_ns := jp_nin (i := 104) (by decide +kernel) (by decide +kernel)
theorem nw_110 : (Cond.methodLinkNest RX5 11 yX0_init "JointPlans") ∈ jp_ns := jp_nin (i := 110) (by decide +kernel) (by decide +kernel)
theorem nw_119 : (Cond.fieldLinkNest RX7 176 RX0 "width" "I" "JointPlans") ∈ jp_ns := jp_nin (i := 119) (by decide +kernel) (by decide +kernel)
theorem nw_121 : (Cond.fieldLinkNest RX7 179 RX0 "height" "I" "JointPlans") ∈ jp_ns := jp_nin (i := 121) (by decide +kernel) (by decide +kernel)
theorem nw_123 : (Cond.fieldLinkNest RX7 182 RX0 "walls" "I" "JointPlans") ∈ jp_ns := jp_nin (i := 123) (by decide +kernel) (by decide +kernel)
theorem nw_144 : (Cond.methodLinkNest RX5 37 yX0_clear "JointPlans") ∈ jp_ns := jp_nin (i := 144) (by decide +kernel) (by decide +kernel)
theorem nw_159 : (Cond.fieldLinkNest RX0 59 RX7 "MOVE_X" "[I" "JointPlans") ∈ jp_ns := jp_nin (i := 159) (by decide +kernel) (by decide +kernel)
theorem nw_161 : (Cond.methodLinkNest RX0 43 yX7_read "JointPlans") ∈ jp_ns := jp_nin (i := 161) (by decide +kernel) (by decide +kernel)
theorem nw_164 : (Cond.fieldLinkNest RX0 62 RX7 "MOVE_Y" "[I" "JointPlans") ∈ jp_ns := jp_nin (i := 164) (by decide +kernel) (by decide +kernel)
theorem nw_174 : (Cond.methodLinkNest RX0 51 yX7_write "JointPlans") ∈ jp_ns := jp_nin (i := 174) (by decide +kernel) (by decide +kernel)
theorem nw_178 : (Cond.fieldLinkNest RX1 15 RX5 "robots" "I" "JointPlans") ∈ jp_ns := jp_nin (i := 178) (by decide +kernel) (by decide +kernel)
theorem nw_180 : (Cond.fieldLinkNest RX4 28 RX5 "robots" "I" "JointPlans") ∈ jp_ns := jp_nin (i := 180) (by decide +kernel) (by decide +kernel)
theorem nw_182 : (Cond.fieldLinkNest RX7 78 RX5 "floor" "LJointPlans$Floor;" "JointPlans") ∈ jp_ns := jp_nin (i := 182) (by decide +kernel) (by decide +kernel)
theorem nw_183 : (Cond.fieldLinkNest RX4 132 RX5 "floor" "LJointPlans$Floor;" "JointPlans") ∈ jp_ns := jp_nin (i := 183) (by decide +kernel) (by decide +kernel)
theorem nw_184 : (Cond.fieldLinkNest RX1 125 RX5 "floor" "LJointPlans$Floor;" "JointPlans") ∈ jp_ns := jp_nin (i := 184) (by decide +kernel) (by decide +kernel)
theorem nw_186 : (Cond.fieldLinkNest RX1 46 RX5 "starts" "[I" "JointPlans") ∈ jp_ns := jp_nin (i := 186) (by decide +kernel) (by decide +kernel)
theorem nw_187 : (Cond.fieldLinkNest RX7 92 RX5 "starts" "[I" "JointPlans") ∈ jp_ns := jp_nin (i := 187) (by decide +kernel) (by decide +kernel)
theorem nw_188 : (Cond.fieldLinkNest RX4 99 RX5 "starts" "[I" "JointPlans") ∈ jp_ns := jp_nin (i := 188) (by decide +kernel) (by decide +kernel)
theorem nw_190 : (Cond.fieldLinkNest RX1 33 RX5 "ends" "[I" "JointPlans") ∈ jp_ns := jp_nin (i := 190) (by decide +kernel) (by decide +kernel)
theorem nw_191 : (Cond.fieldLinkNest RX7 100 RX5 "ends" "[I" "JointPlans") ∈ jp_ns := jp_nin (i := 191) (by decide +kernel) (by decide +kernel)
theorem nw_192 : (Cond.fieldLinkNest RX4 96 RX5 "ends" "[I" "JointPlans") ∈ jp_ns := jp_nin (i := 192) (by decide +kernel) (by decide +kernel)
theorem nw_194 : (Cond.fieldLinkNest RX7 116 RX5 "swapsBarred" "Z" "JointPlans") ∈ jp_ns := jp_nin (i := 194) (by decide +kernel) (by decide +kernel)
theorem nw_195 : (Cond.fieldLinkNest RX4 148 RX5 "swapsBarred" "Z" "JointPlans") ∈ jp_ns := jp_nin (i := 195) (by decide +kernel) (by decide +kernel)
theorem nw_196 : (Cond.fieldLinkNest RX1 138 RX5 "swapsBarred" "Z" "JointPlans") ∈ jp_ns := jp_nin (i := 196) (by decide +kernel) (by decide +kernel)
theorem nw_210 : (Cond.methodLinkNest RX7 33 yX6_init "JointPlans") ∈ jp_ns := jp_nin (i := 210) (by decide +kernel) (by decide +kernel)
theorem nw_215 : (Cond.fieldLinkNest RX4 79 RX6 "order" "[I" "JointPlans") ∈ jp_ns := jp_nin (i := 215) (by decide +kernel) (by decide +kernel)
theorem nw_217 : (Cond.fieldLinkNest RX7 122 RX6 "state" "J" "JointPlans") ∈ jp_ns := jp_nin (i := 217) (by decide +kernel) (by decide +kernel)
theorem nw_225 : (Cond.methodLinkNest RX7 40 yX1_init "JointPlans") ∈ jp_ns := jp_nin (i := 225) (by decide +kernel) (by decide +kernel)
theorem nw_229 : (Cond.methodLinkNest RX1 22 yX7_jointStates "JointPlans") ∈ jp_ns := jp_nin (i := 229) (by decide +kernel) (by decide +kernel)
theorem nw_256 : (Cond.methodLinkNest RX7 45 yX4_init "JointPlans") ∈ jp_ns := jp_nin (i := 256) (by decide +kernel) (by decide +kernel)
theorem nw_262 : (Cond.methodLinkNest RX4 34 yX7_mostSteps "JointPlans") ∈ jp_ns := jp_nin (i := 262) (by decide +kernel) (by decide +kernel)
theorem nw_266 : (Cond.methodLinkNest RX4 38 yX2_init "JointPlans") ∈ jp_ns := jp_nin (i := 266) (by decide +kernel) (by decide +kernel)
theorem nw_272 : (Cond.fieldLinkNest RX1 69 RX2 "steps" "I" "JointPlans") ∈ jp_ns := jp_nin (i := 272) (by decide +kernel) (by decide +kernel)
theorem nw_274 : (Cond.fieldLinkNest RX4 93 RX2 "steps" "I" "JointPlans") ∈ jp_ns := jp_nin (i := 274) (by decide +kernel) (by decide +kernel)
theorem nw_275 : (Cond.fieldLinkNest RX7 152 RX2 "steps" "I" "JointPlans") ∈ jp_ns := jp_nin (i := 275) (by decide +kernel) (by decide +kernel)
theorem nw_277 : (Cond.fieldLinkNest RX1 56 RX2 "cost" "I" "JointPlans") ∈ jp_ns := jp_nin (i := 277) (by decide +kernel) (by decide +kernel)
theorem nw_278 : (Cond.fieldLinkNest RX4 64 RX2 "cost" "I" "JointPlans") ∈ jp_ns := jp_nin (i := 278) (by decide +kernel) (by decide +kernel)
theorem nw_279 : (Cond.fieldLinkNest RX7 137 RX2 "cost" "I" "JointPlans") ∈ jp_ns := jp_nin (i := 279) (by decide +kernel) (by decide +kernel)
theorem nw_307 : (Cond.methodLinkNest RX7 58 yX2_init "JointPlans") ∈ jp_ns := jp_nin (i := 307) (by decide +kernel) (by decide +kernel)
theorem nw_332 : (Cond.methodLinkNest RX7 140 yX2_isMade "JointPlans") ∈ jp_ns := jp_nin (i := 332) (by decide +kernel) (by decide +kernel)
theorem nw_420 : (Cond.methodLinkNest RX7 72 yX5_renew "JointPlans") ∈ jp_ns := jp_nin (i := 420) (by decide +kernel) (by decide +kernel)
theorem nw_421 : (Cond.methodLinkNest RX7 75 yX2_drop "JointPlans") ∈ jp_ns := jp_nin (i := 421) (by decide +kernel) (by decide +kernel)
theorem nw_434 : (Cond.methodLinkNest RX7 82 yX0_cellAt "JointPlans") ∈ jp_ns := jp_nin (i := 434) (by decide +kernel) (by decide +kernel)
theorem nw_475 : (Cond.methodLinkNest RX7 108 yX0_build "JointPlans") ∈ jp_ns := jp_nin (i := 475) (by decide +kernel) (by decide +kernel)
theorem nw_495 : (Cond.methodLinkNest RX7 185 yX0_isWall "JointPlans") ∈ jp_ns := jp_nin (i := 495) (by decide +kernel) (by decide +kernel)
theorem nw_525 : (Cond.methodLinkNest RX7 158 yX5_isComplete "JointPlans") ∈ jp_ns := jp_nin (i := 525) (by decide +kernel) (by decide +kernel)
theorem nw_529 : (Cond.methodLinkNest RX5 46 yX7_read "JointPlans") ∈ jp_ns := jp_nin (i := 529) (by decide +kernel) (by decide +kernel)
theorem nw_545 : (Cond.methodLinkNest RX1 53 yX7_read "JointPlans") ∈ jp_ns := jp_nin (i := 545) (by decide +kernel) (by decide +kernel)
theorem nw_555 : (Cond.methodLinkNest RX1 104 yX7_write "JointPlans") ∈ jp_ns := jp_nin (i := 555) (by decide +kernel) (by decide +kernel)
theorem nw_568 : (Cond.methodLinkNest RX1 129 yX0_moved "JointPlans") ∈ jp_ns := jp_nin (i := 568) (by decide +kernel) (by decide +kernel)
theorem nw_576 : (Cond.methodLinkNest RX1 135 yX7_ownCost "JointPlans") ∈ jp_ns := jp_nin (i := 576) (by decide +kernel) (by decide +kernel)
theorem nw_583 : (Cond.methodLinkNest RX1 61 yX2_isMade "JointPlans") ∈ jp_ns := jp_nin (i := 583) (by decide +kernel) (by decide +kernel)
theorem nw_592 : (Cond.methodLinkNest RX1 118 yX2_put "JointPlans") ∈ jp_ns := jp_nin (i := 592) (by decide +kernel) (by decide +kernel)
theorem nw_596 : (Cond.methodLinkNest RX2 29 yX7_write "JointPlans") ∈ jp_ns := jp_nin (i := 596) (by decide +kernel) (by decide +kernel)
theorem nw_597 : (Cond.methodLinkNest RX1 112 yX7_mostSteps "JointPlans") ∈ jp_ns := jp_nin (i := 597) (by decide +kernel) (by decide +kernel)
theorem nw_612 : (Cond.methodLinkNest RX4 45 yX6_reset "JointPlans") ∈ jp_ns := jp_nin (i := 612) (by decide +kernel) (by decide +kernel)
theorem nw_625 : (Cond.methodLinkNest RX4 76 yX2_drop "JointPlans") ∈ jp_ns := jp_nin (i := 625) (by decide +kernel) (by decide +kernel)
theorem nw_626 : (Cond.methodLinkNest RX4 82 yX7_read "JointPlans") ∈ jp_ns := jp_nin (i := 626) (by decide +kernel) (by decide +kernel)
theorem nw_635 : (Cond.methodLinkNest RX4 121 yX7_write "JointPlans") ∈ jp_ns := jp_nin (i := 635) (by decide +kernel) (by decide +kernel)
theorem nw_644 : (Cond.methodLinkNest RX4 136 yX0_moved "JointPlans") ∈ jp_ns := jp_nin (i := 644) (by decide +kernel) (by decide +kernel)
theorem nw_649 : (Cond.methodLinkNest RX4 145 yX7_ownCost "JointPlans") ∈ jp_ns := jp_nin (i := 649) (by decide +kernel) (by decide +kernel)
theorem nw_650 : (Cond.methodLinkNest RX4 106 yX2_put "JointPlans") ∈ jp_ns := jp_nin (i := 650) (by decide +kernel) (by decide +kernel)
theorem nw_659 : (Cond.methodLinkNest RX4 117 yX2_cellOf "JointPlans") ∈ jp_ns := jp_nin (i := 659) (by decide +kernel) (by decide +kernel)
theorem nw_663 : (Cond.methodLinkNest RX2 25 yX7_read "JointPlans") ∈ jp_ns := jp_nin (i := 663) (by decide +kernel) (by decide +kernel)
theorem nw_672 : (Cond.methodLinkNest RX4 60 yX2_isMade "JointPlans") ∈ jp_ns := jp_nin (i := 672) (by decide +kernel) (by decide +kernel)
theorem nw_673 : (Cond.methodLinkNest RX4 67 yX2_copy "JointPlans") ∈ jp_ns := jp_nin (i := 673) (by decide +kernel) (by decide +kernel)
theorem nw_677 : (Cond.methodLinkNest RX4 54 yX6_draw "JointPlans") ∈ jp_ns := jp_nin (i := 677) (by decide +kernel) (by decide +kernel)
theorem nw_690 : (Cond.methodLinkNest RX6 32 yX7_read "JointPlans") ∈ jp_ns := jp_nin (i := 690) (by decide +kernel) (by decide +kernel)
theorem nw_691 : (Cond.methodLinkNest RX6 38 yX7_write "JointPlans") ∈ jp_ns := jp_nin (i := 691) (by decide +kernel) (by decide +kernel)
theorem nw_705 : (Cond.methodLinkNest RX7 155 yX2_cellOf "JointPlans") ∈ jp_ns := jp_nin (i := 705) (by decide +kernel) (by decide +kernel)
theorem nw_721 : (Cond.methodLinkNest RX7 164 yX5_way "JointPlans") ∈ jp_ns := jp_nin (i := 721) (by decide +kernel) (by decide +kernel)
theorem nw_725 : (Cond.methodLinkNest RX5 50 yX0_movesBetween "JointPlans") ∈ jp_ns := jp_nin (i := 725) (by decide +kernel) (by decide +kernel)
theorem nw_741 : (Cond.methodLinkNest RX7 167 yX5_allWays "JointPlans") ∈ jp_ns := jp_nin (i := 741) (by decide +kernel) (by decide +kernel)
theorem ddX0_init : yX0_init.cls ≠ "java/lang/invoke/MethodHandle" ∧ yX0_init.cls ≠ "java/lang/invoke/VarHandle" ∧ (parseMethodDescriptor yX0_init.desc).map (fun d => d.parameters.length) = some 0 := by decide +kernel
theorem ddX0_clear : yX0_clear.cls ≠ "java/lang/invoke/MethodHandle" ∧ yX0_clear.cls ≠ "java/lang/invoke/VarHandle" ∧ (parseMethodDescriptor yX0_clear.desc).map (fun d => d.parameters.length) = some 2 := by decide +kernel
theorem ddX0_cellAt : yX0_cellAt.cls ≠ "java/lang/invoke/MethodHandle" ∧ yX0_cellAt.cls ≠ "java/lang/invoke/VarHandle" ∧ (parseMethodDescriptor yX0_cellAt.desc).map (fun d => d.parameters.length) = some 2 := by decide +kernel
theorem ddX0_isWall : yX0_isWall.cls ≠ "java/lang/invoke/MethodHandle" ∧ yX0_isWall.cls ≠ "java/lang/invoke/VarHandle" ∧ (parseMethodDescriptor yX0_isWall.desc).map (fun d => d.parameters.length) = some 1 := by decide +kernel
theorem ddX0_build : yX0_build.cls ≠ "java/lang/invoke/MethodHandle" ∧ yX0_build.cls ≠ "java/lang/invoke/VarHandle" ∧ (parseMethodDescriptor yX0_build.desc).map (fun d => d.parameters.length) = some 2 := by decide +kernel
theorem ddX0_chart : yX0_chart.cls ≠ "java/lang/invoke/MethodHandle" ∧ yX0_chart.cls ≠ "java/lang/invoke/VarHandle" ∧ (parseMethodDescriptor yX0_chart.desc).map (fun d => d.parameters.length) = some 0 := by decide +kernel
theorem ddX0_target : yX0_target.cls ≠ "java/lang/invoke/MethodHandle" ∧ yX0_target.cls ≠ "java/lang/invoke/VarHandle" ∧ (parseMethodDescriptor yX0_target.desc).map (fun d => d.parameters.length) = some 2 := by decide +kernel
theorem ddX0_moved : yX0_moved.cls ≠ "java/lang/invoke/MethodHandle" ∧ yX0_moved.cls ≠ "java/lang/invoke/VarHandle" ∧ (parseMethodDescriptor yX0_moved.desc).map (fun d => d.parameters.length) = some 2 := by decide +kernel
theorem ddX0_movesBetween : yX0_movesBetween.cls ≠ "java/lang/invoke/MethodHandle" ∧ yX0_movesBetween.cls ≠ "java/lang/invoke/VarHandle" ∧ (parseMethodDescriptor yX0_movesBetween.desc).map (fun d => d.parameters.length) = some 2 := by decide +kernel
theorem ddX0_spread : yX0_spread.cls ≠ "java/lang/invoke/MethodHandle" ∧ yX0_spread.cls ≠ "java/lang/invoke/VarHandle" ∧ (parseMethodDescriptor yX0_spread.desc).map (fun d => d.parameters.length) = some 2 := by decide +kernel
theorem ddX1_init : yX1_init.cls ≠ "java/lang/invoke/MethodHandle" ∧ yX1_init.cls ≠ "java/lang/invoke/VarHandle" ∧ (parseMethodDescriptor yX1_init.desc).map (fun d => d.parameters.length) = some 1 := by decide +kernel
theorem ddX1_make : yX1_make.cls ≠ "java/lang/invoke/MethodHandle" ∧ yX1_make.cls ≠ "java/lang/invoke/VarHandle" ∧ (parseMethodDescriptor yX1_make.desc).map (fun d => d.parameters.length) = some 2 := by decide +kernel
theorem ddX1_placeOf : yX1_placeOf.cls ≠ "java/lang/invoke/MethodHandle" ∧ yX1_placeOf.cls ≠ "java/lang/invoke/VarHandle" ∧ (parseMethodDescriptor yX1_placeOf.desc).map (fun d => d.parameters.length) = some 2 := by decide +kernel
theorem ddX1_measure : yX1_measure.cls ≠ "java/lang/invoke/MethodHandle" ∧ yX1_measure.cls ≠ "java/lang/invoke/VarHandle" ∧ (parseMethodDescriptor yX1_measure.desc).map (fun d => d.parameters.length) = some 2 := by decide +kernel
theorem ddX1_reachFrom : yX1_reachFrom.cls ≠ "java/lang/invoke/MethodHandle" ∧ yX1_reachFrom.cls ≠ "java/lang/invoke/VarHandle" ∧ (parseMethodDescriptor yX1_reachFrom.desc).map (fun d => d.parameters.length) = some 4 := by decide +kernel
theorem ddX1_reachBefore : yX1_reachBefore.cls ≠ "java/lang/invoke/MethodHandle" ∧ yX1_reachBefore.cls ≠ "java/lang/invoke/VarHandle" ∧ (parseMethodDescriptor yX1_reachBefore.desc).map (fun d => d.parameters.length) = some 3 := by decide +kernel
theorem ddX1_reach : yX1_reach.cls ≠ "java/lang/invoke/MethodHandle" ∧ yX1_reach.cls ≠ "java/lang/invoke/VarHandle" ∧ (parseMethodDescriptor yX1_reach.desc).map (fun d => d.parameters.length) = some 2 := by decide +kernel
theorem ddX1_walk : yX1_walk.cls ≠ "java/lang/invoke/MethodHandle" ∧ yX1_walk.cls ≠ "java/lang/invoke/VarHandle" ∧ (parseMethodDescriptor yX1_walk.desc).map (fun d => d.parameters.length) = some 2 := by decide +kernel
theorem ddX1_note : yX1_note.cls ≠ "java/lang/invoke/MethodHandle" ∧ yX1_note.cls ≠ "java/lang/invoke/VarHandle" ∧ (parseMethodDescriptor yX1_note.desc).map (fun d => d.parameters.length) = some 3 := by decide +kernel
theorem ddX1_follow : yX1_follow.cls ≠ "java/lang/invoke/MethodHandle" ∧ yX1_follow.cls ≠ "java/lang/invoke/VarHandle" ∧ (parseMethodDescriptor yX1_follow.desc).map (fun d => d.parameters.length) = some 1 := by decide +kernel
theorem ddX1_keeps : yX1_keeps.cls ≠ "java/lang/invoke/MethodHandle" ∧ yX1_keeps.cls ≠ "java/lang/invoke/VarHandle" ∧ (parseMethodDescriptor yX1_keeps.desc).map (fun d => d.parameters.length) = some 3 := by decide +kernel
theorem ddX1_next : yX1_next.cls ≠ "java/lang/invoke/MethodHandle" ∧ yX1_next.cls ≠ "java/lang/invoke/VarHandle" ∧ (parseMethodDescriptor yX1_next.desc).map (fun d => d.parameters.length) = some 3 := by decide +kernel
theorem ddX1_stepCost : yX1_stepCost.cls ≠ "java/lang/invoke/MethodHandle" ∧ yX1_stepCost.cls ≠ "java/lang/invoke/VarHandle" ∧ (parseMethodDescriptor yX1_stepCost.desc).map (fun d => d.parameters.length) = some 4 := by decide +kernel
theorem ddX1_fits : yX1_fits.cls ≠ "java/lang/invoke/MethodHandle" ∧ yX1_fits.cls ≠ "java/lang/invoke/VarHandle" ∧ (parseMethodDescriptor yX1_fits.desc).map (fun d => d.parameters.length) = some 4 := by decide +kernel
theorem ddX2_init : yX2_init.cls ≠ "java/lang/invoke/MethodHandle" ∧ yX2_init.cls ≠ "java/lang/invoke/VarHandle" ∧ (parseMethodDescriptor yX2_init.desc).map (fun d => d.parameters.length) = some 2 := by decide +kernel
theorem ddX2_isMade : yX2_isMade.cls ≠ "java/lang/invoke/MethodHandle" ∧ yX2_isMade.cls ≠ "java/lang/invoke/VarHandle" ∧ (parseMethodDescriptor yX2_isMade.desc).map (fun d => d.parameters.length) = some 0 := by decide +kernel
theorem ddX2_drop : yX2_drop.cls ≠ "java/lang/invoke/MethodHandle" ∧ yX2_drop.cls ≠ "java/lang/invoke/VarHandle" ∧ (parseMethodDescriptor yX2_drop.desc).map (fun d => d.parameters.length) = some 0 := by decide +kernel
theorem ddX2_cellOf : yX2_cellOf.cls ≠ "java/lang/invoke/MethodHandle" ∧ yX2_cellOf.cls ≠ "java/lang/invoke/VarHandle" ∧ (parseMethodDescriptor yX2_cellOf.desc).map (fun d => d.parameters.length) = some 2 := by decide +kernel
theorem ddX2_put : yX2_put.cls ≠ "java/lang/invoke/MethodHandle" ∧ yX2_put.cls ≠ "java/lang/invoke/VarHandle" ∧ (parseMethodDescriptor yX2_put.desc).map (fun d => d.parameters.length) = some 3 := by decide +kernel
theorem ddX2_copy : yX2_copy.cls ≠ "java/lang/invoke/MethodHandle" ∧ yX2_copy.cls ≠ "java/lang/invoke/VarHandle" ∧ (parseMethodDescriptor yX2_copy.desc).map (fun d => d.parameters.length) = some 1 := by decide +kernel
theorem ddX4_init : yX4_init.cls ≠ "java/lang/invoke/MethodHandle" ∧ yX4_init.cls ≠ "java/lang/invoke/VarHandle" ∧ (parseMethodDescriptor yX4_init.desc).map (fun d => d.parameters.length) = some 2 := by decide +kernel
theorem ddX4_make : yX4_make.cls ≠ "java/lang/invoke/MethodHandle" ∧ yX4_make.cls ≠ "java/lang/invoke/VarHandle" ∧ (parseMethodDescriptor yX4_make.desc).map (fun d => d.parameters.length) = some 2 := by decide +kernel
theorem ddX4_improve : yX4_improve.cls ≠ "java/lang/invoke/MethodHandle" ∧ yX4_improve.cls ≠ "java/lang/invoke/VarHandle" ∧ (parseMethodDescriptor yX4_improve.desc).map (fun d => d.parameters.length) = some 1 := by decide +kernel
theorem ddX4_tryOrder : yX4_tryOrder.cls ≠ "java/lang/invoke/MethodHandle" ∧ yX4_tryOrder.cls ≠ "java/lang/invoke/VarHandle" ∧ (parseMethodDescriptor yX4_tryOrder.desc).map (fun d => d.parameters.length) = some 0 := by decide +kernel
theorem ddX4_route : yX4_route.cls ≠ "java/lang/invoke/MethodHandle" ∧ yX4_route.cls ≠ "java/lang/invoke/VarHandle" ∧ (parseMethodDescriptor yX4_route.desc).map (fun d => d.parameters.length) = some 1 := by decide +kernel
theorem ddX4_occupy : yX4_occupy.cls ≠ "java/lang/invoke/MethodHandle" ∧ yX4_occupy.cls ≠ "java/lang/invoke/VarHandle" ∧ (parseMethodDescriptor yX4_occupy.desc).map (fun d => d.parameters.length) = some 1 := by decide +kernel
theorem ddX4_measure : yX4_measure.cls ≠ "java/lang/invoke/MethodHandle" ∧ yX4_measure.cls ≠ "java/lang/invoke/VarHandle" ∧ (parseMethodDescriptor yX4_measure.desc).map (fun d => d.parameters.length) = some 1 := by decide +kernel
theorem ddX4_leastFrom : yX4_leastFrom.cls ≠ "java/lang/invoke/MethodHandle" ∧ yX4_leastFrom.cls ≠ "java/lang/invoke/VarHandle" ∧ (parseMethodDescriptor yX4_leastFrom.desc).map (fun d => d.parameters.length) = some 3 := by decide +kernel
theorem ddX4_costBy : yX4_costBy.cls ≠ "java/lang/invoke/MethodHandle" ∧ yX4_costBy.cls ≠ "java/lang/invoke/VarHandle" ∧ (parseMethodDescriptor yX4_costBy.desc).map (fun d => d.parameters.length) = some 4 := by decide +kernel
theorem ddX4_isBarred : yX4_isBarred.cls ≠ "java/lang/invoke/MethodHandle" ∧ yX4_isBarred.cls ≠ "java/lang/invoke/VarHandle" ∧ (parseMethodDescriptor yX4_isBarred.desc).map (fun d => d.parameters.length) = some 3 := by decide +kernel
theorem ddX4_follow : yX4_follow.cls ≠ "java/lang/invoke/MethodHandle" ∧ yX4_follow.cls ≠ "java/lang/invoke/VarHandle" ∧ (parseMethodDescriptor yX4_follow.desc).map (fun d => d.parameters.length) = some 3 := by decide +kernel
theorem ddX4_stepsOfTrial : yX4_stepsOfTrial.cls ≠ "java/lang/invoke/MethodHandle" ∧ yX4_stepsOfTrial.cls ≠ "java/lang/invoke/VarHandle" ∧ (parseMethodDescriptor yX4_stepsOfTrial.desc).map (fun d => d.parameters.length) = some 0 := by decide +kernel
theorem ddX4_allAtEnds : yX4_allAtEnds.cls ≠ "java/lang/invoke/MethodHandle" ∧ yX4_allAtEnds.cls ≠ "java/lang/invoke/VarHandle" ∧ (parseMethodDescriptor yX4_allAtEnds.desc).map (fun d => d.parameters.length) = some 1 := by decide +kernel
theorem ddX5_init : yX5_init.cls ≠ "java/lang/invoke/MethodHandle" ∧ yX5_init.cls ≠ "java/lang/invoke/VarHandle" ∧ (parseMethodDescriptor yX5_init.desc).map (fun d => d.parameters.length) = some 1 := by decide +kernel
theorem ddX5_renew : yX5_renew.cls ≠ "java/lang/invoke/MethodHandle" ∧ yX5_renew.cls ≠ "java/lang/invoke/VarHandle" ∧ (parseMethodDescriptor yX5_renew.desc).map (fun d => d.parameters.length) = some 2 := by decide +kernel
theorem ddX5_isComplete : yX5_isComplete.cls ≠ "java/lang/invoke/MethodHandle" ∧ yX5_isComplete.cls ≠ "java/lang/invoke/VarHandle" ∧ (parseMethodDescriptor yX5_isComplete.desc).map (fun d => d.parameters.length) = some 1 := by decide +kernel
theorem ddX5_way : yX5_way.cls ≠ "java/lang/invoke/MethodHandle" ∧ yX5_way.cls ≠ "java/lang/invoke/VarHandle" ∧ (parseMethodDescriptor yX5_way.desc).map (fun d => d.parameters.length) = some 1 := by decide +kernel
theorem ddX5_allWays : yX5_allWays.cls ≠ "java/lang/invoke/MethodHandle" ∧ yX5_allWays.cls ≠ "java/lang/invoke/VarHandle" ∧ (parseMethodDescriptor yX5_allWays.desc).map (fun d => d.parameters.length) = some 0 := by decide +kernel
theorem ddX6_init : yX6_init.cls ≠ "java/lang/invoke/MethodHandle" ∧ yX6_init.cls ≠ "java/lang/invoke/VarHandle" ∧ (parseMethodDescriptor yX6_init.desc).map (fun d => d.parameters.length) = some 1 := by decide +kernel
theorem ddX6_reset : yX6_reset.cls ≠ "java/lang/invoke/MethodHandle" ∧ yX6_reset.cls ≠ "java/lang/invoke/VarHandle" ∧ (parseMethodDescriptor yX6_reset.desc).map (fun d => d.parameters.length) = some 0 := by decide +kernel
theorem ddX6_draw : yX6_draw.cls ≠ "java/lang/invoke/MethodHandle" ∧ yX6_draw.cls ≠ "java/lang/invoke/VarHandle" ∧ (parseMethodDescriptor yX6_draw.desc).map (fun d => d.parameters.length) = some 0 := by decide +kernel
theorem ddX6_exchange : yX6_exchange.cls ≠ "java/lang/invoke/MethodHandle" ∧ yX6_exchange.cls ≠ "java/lang/invoke/VarHandle" ∧ (parseMethodDescriptor yX6_exchange.desc).map (fun d => d.parameters.length) = some 2 := by decide +kernel
theorem ddX7_init : yX7_init.cls ≠ "java/lang/invoke/MethodHandle" ∧ yX7_init.cls ≠ "java/lang/invoke/VarHandle" ∧ (parseMethodDescriptor yX7_init.desc).map (fun d => d.parameters.length) = some 1 := by decide +kernel
theorem ddX7_grid : yX7_grid.cls ≠ "java/lang/invoke/MethodHandle" ∧ yX7_grid.cls ≠ "java/lang/invoke/VarHandle" ∧ (parseMethodDescriptor yX7_grid.desc).map (fun d => d.parameters.length) = some 2 := by decide +kernel
theorem ddX7_wall : yX7_wall.cls ≠ "java/lang/invoke/MethodHandle" ∧ yX7_wall.cls ≠ "java/lang/invoke/VarHandle" ∧ (parseMethodDescriptor yX7_wall.desc).map (fun d => d.parameters.length) = some 3 := by decide +kernel
theorem ddX7_start : yX7_start.cls ≠ "java/lang/invoke/MethodHandle" ∧ yX7_start.cls ≠ "java/lang/invoke/VarHandle" ∧ (parseMethodDescriptor yX7_start.desc).map (fun d => d.parameters.length) = some 3 := by decide +kernel
theorem ddX7_end : yX7_end.cls ≠ "java/lang/invoke/MethodHandle" ∧ yX7_end.cls ≠ "java/lang/invoke/VarHandle" ∧ (parseMethodDescriptor yX7_end.desc).map (fun d => d.parameters.length) = some 3 := by decide +kernel
theorem ddX7_swap : yX7_swap.cls ≠ "java/lang/invoke/MethodHandle" ∧ yX7_swap.cls ≠ "java/lang/invoke/VarHandle" ∧ (parseMethodDescriptor yX7_swap.desc).map (fun d => d.parameters.length) = some 1 := by decide +kernel
theorem ddX7_seed : yX7_seed.cls ≠ "java/lang/invoke/MethodHandle" ∧ yX7_seed.cls ≠ "java/lang/invoke/VarHandle" ∧ (parseMethodDescriptor yX7_seed.desc).map (fun d => d.parameters.length) = some 1 := by decide +kernel
theorem ddX7_solve : yX7_solve.cls ≠ "java/lang/invoke/MethodHandle" ∧ yX7_solve.cls ≠ "java/lang/invoke/VarHandle" ∧ (parseMethodDescriptor yX7_solve.desc).map (fun d => d.parameters.length) = some 1 := by decide +kernel
theorem ddX7_exact : yX7_exact.cls ≠ "java/lang/invoke/MethodHandle" ∧ yX7_exact.cls ≠ "java/lang/invoke/VarHandle" ∧ (parseMethodDescriptor yX7_exact.desc).map (fun d => d.parameters.length) = some 0 := by decide +kernel
theorem ddX7_at : yX7_at.cls ≠ "java/lang/invoke/MethodHandle" ∧ yX7_at.cls ≠ "java/lang/invoke/VarHandle" ∧ (parseMethodDescriptor yX7_at.desc).map (fun d => d.parameters.length) = some 3 := by decide +kernel
theorem ddX7_last : yX7_last.cls ≠ "java/lang/invoke/MethodHandle" ∧ yX7_last.cls ≠ "java/lang/invoke/VarHandle" ∧ (parseMethodDescriptor yX7_last.desc).map (fun d => d.parameters.length) = some 0 := by decide +kernel
theorem ddX7_alone : yX7_alone.cls ≠ "java/lang/invoke/MethodHandle" ∧ yX7_alone.cls ≠ "java/lang/invoke/VarHandle" ∧ (parseMethodDescriptor yX7_alone.desc).map (fun d => d.parameters.length) = some 1 := by decide +kernel
theorem ddX7_bound : yX7_bound.cls ≠ "java/lang/invoke/MethodHandle" ∧ yX7_bound.cls ≠ "java/lang/invoke/VarHandle" ∧ (parseMethodDescriptor yX7_bound.desc).map (fun d => d.parameters.length) = some 0 := by decide +kernel
theorem ddX7_share : yX7_share.cls ≠ "java/lang/invoke/MethodHandle" ∧ yX7_share.cls ≠ "java/lang/invoke/VarHandle" ∧ (parseMethodDescriptor yX7_share.desc).map (fun d => d.parameters.length) = some 0 := by decide +kernel
theorem ddX7_count : yX7_count.cls ≠ "java/lang/invoke/MethodHandle" ∧ yX7_count.cls ≠ "java/lang/invoke/VarHandle" ∧ (parseMethodDescriptor yX7_count.desc).map (fun d => d.parameters.length) = some 1 := by decide +kernel
theorem ddX7_settle : yX7_settle.cls ≠ "java/lang/invoke/MethodHandle" ∧ yX7_settle.cls ≠ "java/lang/invoke/VarHandle" ∧ (parseMethodDescriptor yX7_settle.desc).map (fun d => d.parameters.length) = some 4 := by decide +kernel
theorem ddX7_needRobot : yX7_needRobot.cls ≠ "java/lang/invoke/MethodHandle" ∧ yX7_needRobot.cls ≠ "java/lang/invoke/VarHandle" ∧ (parseMethodDescriptor yX7_needRobot.desc).map (fun d => d.parameters.length) = some 1 := by decide +kernel
theorem ddX7_needComplete : yX7_needComplete.cls ≠ "java/lang/invoke/MethodHandle" ∧ yX7_needComplete.cls ≠ "java/lang/invoke/VarHandle" ∧ (parseMethodDescriptor yX7_needComplete.desc).map (fun d => d.parameters.length) = some 0 := by decide +kernel
theorem ddX7_needPlan : yX7_needPlan.cls ≠ "java/lang/invoke/MethodHandle" ∧ yX7_needPlan.cls ≠ "java/lang/invoke/VarHandle" ∧ (parseMethodDescriptor yX7_needPlan.desc).map (fun d => d.parameters.length) = some 0 := by decide +kernel
theorem ddX7_mostSteps : yX7_mostSteps.cls ≠ "java/lang/invoke/MethodHandle" ∧ yX7_mostSteps.cls ≠ "java/lang/invoke/VarHandle" ∧ (parseMethodDescriptor yX7_mostSteps.desc).map (fun d => d.parameters.length) = some 1 := by decide +kernel
theorem ddX7_jointStates : yX7_jointStates.cls ≠ "java/lang/invoke/MethodHandle" ∧ yX7_jointStates.cls ≠ "java/lang/invoke/VarHandle" ∧ (parseMethodDescriptor yX7_jointStates.desc).map (fun d => d.parameters.length) = some 1 := by decide +kernel
theorem ddX7_ownerOf : yX7_ownerOf.cls ≠ "java/lang/invoke/MethodHandle" ∧ yX7_ownerOf.cls ≠ "java/lang/invoke/VarHandle" ∧ (parseMethodDescriptor yX7_ownerOf.desc).map (fun d => d.parameters.length) = some 2 := by decide +kernel
theorem ddX7_ownCost : yX7_ownCost.cls ≠ "java/lang/invoke/MethodHandle" ∧ yX7_ownCost.cls ≠ "java/lang/invoke/VarHandle" ∧ (parseMethodDescriptor yX7_ownCost.desc).map (fun d => d.parameters.length) = some 3 := by decide +kernel
theorem ddX7_read : yX7_read.cls ≠ "java/lang/invoke/MethodHandle" ∧ yX7_read.cls ≠ "java/lang/invoke/VarHandle" ∧ (parseMethodDescriptor yX7_read.desc).map (fun d => d.parameters.length) = some 2 := by decide +kernel
theorem ddX7_write : yX7_write.cls ≠ "java/lang/invoke/MethodHandle" ∧ yX7_write.cls ≠ "java/lang/invoke/VarHandle" ∧ (parseMethodDescriptor yX7_write.desc).map (fun d => d.parameters.length) = some 3 := by decide +kernel
theorem ddX8_init : yX8_init.cls ≠ "java/lang/invoke/MethodHandle" ∧ yX8_init.cls ≠ "java/lang/invoke/VarHandle" ∧ (parseMethodDescriptor yX8_init.desc).map (fun d => d.parameters.length) = some 1 := by decide +kernel
theorem ddX8_fresh : yX8_fresh.cls ≠ "java/lang/invoke/MethodHandle" ∧ yX8_fresh.cls ≠ "java/lang/invoke/VarHandle" ∧ (parseMethodDescriptor yX8_fresh.desc).map (fun d => d.parameters.length) = some 2 := by decide +kernel
theorem ddX8_noCell : yX8_noCell.cls ≠ "java/lang/invoke/MethodHandle" ∧ yX8_noCell.cls ≠ "java/lang/invoke/VarHandle" ∧ (parseMethodDescriptor yX8_noCell.desc).map (fun d => d.parameters.length) = some 2 := by decide +kernel
theorem ddX8_moved : yX8_moved.cls ≠ "java/lang/invoke/MethodHandle" ∧ yX8_moved.cls ≠ "java/lang/invoke/VarHandle" ∧ (parseMethodDescriptor yX8_moved.desc).map (fun d => d.parameters.length) = some 2 := by decide +kernel
theorem ddX8_stays : yX8_stays.cls ≠ "java/lang/invoke/MethodHandle" ∧ yX8_stays.cls ≠ "java/lang/invoke/VarHandle" ∧ (parseMethodDescriptor yX8_stays.desc).map (fun d => d.parameters.length) = some 3 := by decide +kernel
theorem ddX8_goal : yX8_goal.cls ≠ "java/lang/invoke/MethodHandle" ∧ yX8_goal.cls ≠ "java/lang/invoke/VarHandle" ∧ (parseMethodDescriptor yX8_goal.desc).map (fun d => d.parameters.length) = some 1 := by decide +kernel
theorem ddX8_through : yX8_through.cls ≠ "java/lang/invoke/MethodHandle" ∧ yX8_through.cls ≠ "java/lang/invoke/VarHandle" ∧ (parseMethodDescriptor yX8_through.desc).map (fun d => d.parameters.length) = some 4 := by decide +kernel
theorem ddX8_jointly : yX8_jointly.cls ≠ "java/lang/invoke/MethodHandle" ∧ yX8_jointly.cls ≠ "java/lang/invoke/VarHandle" ∧ (parseMethodDescriptor yX8_jointly.desc).map (fun d => d.parameters.length) = some 0 := by decide +kernel
theorem ddX8_outside : yX8_outside.cls ≠ "java/lang/invoke/MethodHandle" ∧ yX8_outside.cls ≠ "java/lang/invoke/VarHandle" ∧ (parseMethodDescriptor yX8_outside.desc).map (fun d => d.parameters.length) = some 1 := by decide +kernel
theorem ddX8_lower : yX8_lower.cls ≠ "java/lang/invoke/MethodHandle" ∧ yX8_lower.cls ≠ "java/lang/invoke/VarHandle" ∧ (parseMethodDescriptor yX8_lower.desc).map (fun d => d.parameters.length) = some 2 := by decide +kernel
theorem ddX8_firstMove : yX8_firstMove.cls ≠ "java/lang/invoke/MethodHandle" ∧ yX8_firstMove.cls ≠ "java/lang/invoke/VarHandle" ∧ (parseMethodDescriptor yX8_firstMove.desc).map (fun d => d.parameters.length) = some 2 := by decide +kernel
theorem ddX8_open : yX8_open.cls ≠ "java/lang/invoke/MethodHandle" ∧ yX8_open.cls ≠ "java/lang/invoke/VarHandle" ∧ (parseMethodDescriptor yX8_open.desc).map (fun d => d.parameters.length) = some 4 := by decide +kernel
theorem ddX8_way : yX8_way.cls ≠ "java/lang/invoke/MethodHandle" ∧ yX8_way.cls ≠ "java/lang/invoke/VarHandle" ∧ (parseMethodDescriptor yX8_way.desc).map (fun d => d.parameters.length) = some 1 := by decide +kernel
theorem ddX8_step : yX8_step.cls ≠ "java/lang/invoke/MethodHandle" ∧ yX8_step.cls ≠ "java/lang/invoke/VarHandle" ∧ (parseMethodDescriptor yX8_step.desc).map (fun d => d.parameters.length) = some 4 := by decide +kernel
theorem ddX8_ways : yX8_ways.cls ≠ "java/lang/invoke/MethodHandle" ∧ yX8_ways.cls ≠ "java/lang/invoke/VarHandle" ∧ (parseMethodDescriptor yX8_ways.desc).map (fun d => d.parameters.length) = some 0 := by decide +kernel
theorem ddX8_draw : yX8_draw.cls ≠ "java/lang/invoke/MethodHandle" ∧ yX8_draw.cls ≠ "java/lang/invoke/VarHandle" ∧ (parseMethodDescriptor yX8_draw.desc).map (fun d => d.parameters.length) = some 0 := by decide +kernel
theorem ddX8_byPriorities : yX8_byPriorities.cls ≠ "java/lang/invoke/MethodHandle" ∧ yX8_byPriorities.cls ≠ "java/lang/invoke/VarHandle" ∧ (parseMethodDescriptor yX8_byPriorities.desc).map (fun d => d.parameters.length) = some 1 := by decide +kernel
theorem ddX8_distance : yX8_distance.cls ≠ "java/lang/invoke/MethodHandle" ∧ yX8_distance.cls ≠ "java/lang/invoke/VarHandle" ∧ (parseMethodDescriptor yX8_distance.desc).map (fun d => d.parameters.length) = some 1 := by decide +kernel
theorem ddX8_missing : yX8_missing.cls ≠ "java/lang/invoke/MethodHandle" ∧ yX8_missing.cls ≠ "java/lang/invoke/VarHandle" ∧ (parseMethodDescriptor yX8_missing.desc).map (fun d => d.parameters.length) = some 0 := by decide +kernel
theorem ddX8_boundOf : yX8_boundOf.cls ≠ "java/lang/invoke/MethodHandle" ∧ yX8_boundOf.cls ≠ "java/lang/invoke/VarHandle" ∧ (parseMethodDescriptor yX8_boundOf.desc).map (fun d => d.parameters.length) = some 0 := by decide +kernel
theorem ddX8_thrown : yX8_thrown.cls ≠ "java/lang/invoke/MethodHandle" ∧ yX8_thrown.cls ≠ "java/lang/invoke/VarHandle" ∧ (parseMethodDescriptor yX8_thrown.desc).map (fun d => d.parameters.length) = some 0 := by decide +kernel
theorem ddX8_grid : yX8_grid.cls ≠ "java/lang/invoke/MethodHandle" ∧ yX8_grid.cls ≠ "java/lang/invoke/VarHandle" ∧ (parseMethodDescriptor yX8_grid.desc).map (fun d => d.parameters.length) = some 2 := by decide +kernel
theorem ddX8_used : yX8_used.cls ≠ "java/lang/invoke/MethodHandle" ∧ yX8_used.cls ≠ "java/lang/invoke/VarHandle" ∧ (parseMethodDescriptor yX8_used.desc).map (fun d => d.parameters.length) = some 1 := by decide +kernel
theorem ddX8_wall : yX8_wall.cls ≠ "java/lang/invoke/MethodHandle" ∧ yX8_wall.cls ≠ "java/lang/invoke/VarHandle" ∧ (parseMethodDescriptor yX8_wall.desc).map (fun d => d.parameters.length) = some 3 := by decide +kernel
theorem ddX8_put : yX8_put.cls ≠ "java/lang/invoke/MethodHandle" ∧ yX8_put.cls ≠ "java/lang/invoke/VarHandle" ∧ (parseMethodDescriptor yX8_put.desc).map (fun d => d.parameters.length) = some 4 := by decide +kernel
theorem ddX8_start : yX8_start.cls ≠ "java/lang/invoke/MethodHandle" ∧ yX8_start.cls ≠ "java/lang/invoke/VarHandle" ∧ (parseMethodDescriptor yX8_start.desc).map (fun d => d.parameters.length) = some 3 := by decide +kernel
theorem ddX8_end : yX8_end.cls ≠ "java/lang/invoke/MethodHandle" ∧ yX8_end.cls ≠ "java/lang/invoke/VarHandle" ∧ (parseMethodDescriptor yX8_end.desc).map (fun d => d.parameters.length) = some 3 := by decide +kernel
theorem ddX8_swap : yX8_swap.cls ≠ "java/lang/invoke/MethodHandle" ∧ yX8_swap.cls ≠ "java/lang/invoke/VarHandle" ∧ (parseMethodDescriptor yX8_swap.desc).map (fun d => d.parameters.length) = some 1 := by decide +kernel
theorem ddX8_seed : yX8_seed.cls ≠ "java/lang/invoke/MethodHandle" ∧ yX8_seed.cls ≠ "java/lang/invoke/VarHandle" ∧ (parseMethodDescriptor yX8_seed.desc).map (fun d => d.parameters.length) = some 1 := by decide +kernel
theorem ddX8_solve : yX8_solve.cls ≠ "java/lang/invoke/MethodHandle" ∧ yX8_solve.cls ≠ "java/lang/invoke/VarHandle" ∧ (parseMethodDescriptor yX8_solve.desc).map (fun d => d.parameters.length) = some 1 := by decide +kernel
theorem ddX8_exact : yX8_exact.cls ≠ "java/lang/invoke/MethodHandle" ∧ yX8_exact.cls ≠ "java/lang/invoke/VarHandle" ∧ (parseMethodDescriptor yX8_exact.desc).map (fun d => d.parameters.length) = some 0 := by decide +kernel
theorem ddX8_at : yX8_at.cls ≠ "java/lang/invoke/MethodHandle" ∧ yX8_at.cls ≠ "java/lang/invoke/VarHandle" ∧ (parseMethodDescriptor yX8_at.desc).map (fun d => d.parameters.length) = some 3 := by decide +kernel
theorem ddX8_last : yX8_last.cls ≠ "java/lang/invoke/MethodHandle" ∧ yX8_last.cls ≠ "java/lang/invoke/VarHandle" ∧ (parseMethodDescriptor yX8_last.desc).map (fun d => d.parameters.length) = some 0 := by decide +kernel
theorem ddX8_alone : yX8_alone.cls ≠ "java/lang/invoke/MethodHandle" ∧ yX8_alone.cls ≠ "java/lang/invoke/VarHandle" ∧ (parseMethodDescriptor yX8_alone.desc).map (fun d => d.parameters.length) = some 1 := by decide +kernel
theorem ddX8_bound : yX8_bound.cls ≠ "java/lang/invoke/MethodHandle" ∧ yX8_bound.cls ≠ "java/lang/invoke/VarHandle" ∧ (parseMethodDescriptor yX8_bound.desc).map (fun d => d.parameters.length) = some 0 := by decide +kernel
theorem ddX8_share : yX8_share.cls ≠ "java/lang/invoke/MethodHandle" ∧ yX8_share.cls ≠ "java/lang/invoke/VarHandle" ∧ (parseMethodDescriptor yX8_share.desc).map (fun d => d.parameters.length) = some 0 := by decide +kernel
theorem ddX8_count : yX8_count.cls ≠ "java/lang/invoke/MethodHandle" ∧ yX8_count.cls ≠ "java/lang/invoke/VarHandle" ∧ (parseMethodDescriptor yX8_count.desc).map (fun d => d.parameters.length) = some 1 := by decide +kernel
theorem ddJx00060_init_a7421 : yJx00060_init_a7421.cls ≠ "java/lang/invoke/MethodHandle" ∧ yJx00060_init_a7421.cls ≠ "java/lang/invoke/VarHandle" ∧ (parseMethodDescriptor yJx00060_init_a7421.desc).map (fun d => d.parameters.length) = some 1 := by decide +kernel
theorem ddJ9_max_7cf53 : yJ9_max_7cf53.cls ≠ "java/lang/invoke/MethodHandle" ∧ yJ9_max_7cf53.cls ≠ "java/lang/invoke/VarHandle" ∧ (parseMethodDescriptor yJ9_max_7cf53.desc).map (fun d => d.parameters.length) = some 2 := by decide +kernel
theorem ddJ9_min_7cf53 : yJ9_min_7cf53.cls ≠ "java/lang/invoke/MethodHandle" ∧ yJ9_min_7cf53.cls ≠ "java/lang/invoke/VarHandle" ∧ (parseMethodDescriptor yJ9_min_7cf53.desc).map (fun d => d.parameters.length) = some 2 := by decide +kernel
theorem ddJ7_fill_53178 : yJ7_fill_53178.cls ≠ "java/lang/invoke/MethodHandle" ∧ yJ7_fill_53178.cls ≠ "java/lang/invoke/VarHandle" ∧ (parseMethodDescriptor yJ7_fill_53178.desc).map (fun d => d.parameters.length) = some 2 := by decide +kernel
theorem ddL_cell : yL_cell.cls ≠ "java/lang/invoke/MethodHandle" ∧ yL_cell.cls ≠ "java/lang/invoke/VarHandle" ∧ (parseMethodDescriptor yL_cell.desc).map (fun d => d.parameters.length) = some 2 := by decide +kernel
end
section
/-- the classes whose objects the memory holds, by their places -/
abbrev vwCl : List vw_C := [(RJx00060, TJx00060, 6), (RX0, TX0, 7), (RX1, TX1, 7), (RX2, TX2, 4), (RX4, TX4, 5), (RX5, TX5, 5), (RX6, TX6, 2), (RX7, TX7, 5), (RX8, TX8, 17)]
/-! ===== the memory of the law's objects: ids, their shapes, their numbers ===== -/
/-- a shape: a tag (0 an object, 1 an int array, 2 a boolean array, 3 a long array), the class's place in vwCl or the length, the fields (kind 0 int, 1 a reference to that id, 2 long, 3 null) -/
abbrev jp_Sh : Type := Nat × Nat × List (Nat × Nat)
abbrev jp_I : Type := Nat → Nat → Int32
abbrev jp_J : Type := Nat → Nat → Int64
/-- what stays for a whole run: the classes' numbers and slots, the array classes, the address of each id, the heap's size at the law's entry -/
abbrev jp_G : Type := va_G × (Nat → ClassId) × (Nat → Nat) × Nat
abbrev jp_G.ad (Γ : jp_G) : Nat → Nat := Γ.2.2.1
abbrev jp_G.h0 (Γ : jp_G) : Nat := Γ.2.2.2
abbrev jp_A (Γ : jp_G) : Nat → Prop := fun q => Γ.2.2.2 ≤ q
def jp_fv (ad : Nat → Nat) (σ : jp_I) (τ : jp_J) (id k : Nat) (f : Nat × Nat) : Value := match f.1 with
  | 0 => .int (σ id k)
  | 1 => .ref (ad f.2)
  | 2 => .long (τ id k)
  | _ => .null
def jp_fl (ad : Nat → Nat) (σ : jp_I) (τ : jp_J) (id : Nat) : Nat → List (Nat × Nat) → List Value
  | _, [] => []
  | k, f :: fs => jp_fv ad σ τ id k f :: jp_fl ad σ τ id (k + 1) fs
theorem jp_fl_get (ad : Nat → Nat) (σ : jp_I) (τ : jp_J) (id : Nat) : ∀ (fs : List (Nat × Nat)) (k j : Nat), (jp_fl ad σ τ id k fs)[j]? = (fs[j]?).map (jp_fv ad σ τ id (k + j))
  | [], k, j => by simp [jp_fl]
  | f :: fs, k, 0 => by simp [jp_fl]
  | f :: fs, k, j + 1 => by
    rw [jp_fl, List.getElem?_cons_succ, List.getElem?_cons_succ, jp_fl_get ad σ τ id fs (k + 1) j, Nat.add_assoc, Nat.add_comm 1 j]
theorem jp_fl_len (ad : Nat → Nat) (σ : jp_I) (τ : jp_J) (id : Nat) : ∀ (fs : List (Nat × Nat)) (k : Nat), (jp_fl ad σ τ id k fs).length = fs.length
  | [], k => rfl
  | f :: fs, k => by rw [jp_fl, List.length_cons, List.length_cons, jp_fl_len ad σ τ id fs (k + 1)]
def jp_el (Γ : jp_G) (σ : jp_I) (τ : jp_J) (id : Nat) (sh : jp_Sh) : va_E := match sh.1 with
  | 0 => .inr (sh.2.1, jp_fl Γ.2.2.1 σ τ id 0 sh.2.2)
  | 1 => .inl (Γ.2.1 0, (sh.2.1, .inl (σ id)))
  | 2 => .inl (Γ.2.1 1, (sh.2.1, .inl (σ id)))
  | _ => .inl (Γ.2.1 2, (sh.2.1, .inr (.inl (τ id))))
/-- the heap holds the ids of Z, with the numbers σ and τ -/
def jp_P (Γ : jp_G) (Z : Nat → Option jp_Sh) (σ : jp_I) (τ : jp_J) (H : Heap) : Prop :=
  (∀ (id : Nat) (sh : jp_Sh), Z id = some sh → va_at Γ.1 vwCl (Γ.2.2.1 id, jp_el Γ σ τ id sh) H ∧ Γ.2.2.2 ≤ Γ.2.2.1 id) ∧
  ∀ i j : Nat, Z i ≠ none → Z j ≠ none → Γ.2.2.1 i = Γ.2.2.1 j → i = j
def jp_up (σ : jp_I) (id k : Nat) (v : Int32) : jp_I := fun i => if i = id then upd (σ i) k v else σ i
def jp_upl (τ : jp_J) (id k : Nat) (v : Int64) : jp_J := fun i => if i = id then vp_updL (τ i) k v else τ i
theorem jp_up_s (σ : jp_I) (id k : Nat) (v : Int32) : jp_up σ id k v id = upd (σ id) k v := by simp [jp_up]
theorem jp_up_n (σ : jp_I) {id k i : Nat} (v : Int32) (h : i ≠ id) : jp_up σ id k v i = σ i := by simp [jp_up, h]
theorem jp_upl_s (τ : jp_J) (id k : Nat) (v : Int64) : jp_upl τ id k v id = vp_updL (τ id) k v := by simp [jp_upl]
theorem jp_upl_n (τ : jp_J) {id k i : Nat} (v : Int64) (h : i ≠ id) : jp_upl τ id k v i = τ i := by simp [jp_upl, h]
/-- the same element where the numbers of that id are the same -/
theorem jp_el_congr (Γ : jp_G) {σ σ' : jp_I} {τ τ' : jp_J} {id : Nat} (sh : jp_Sh) (h : σ' id = σ id) (h2 : τ' id = τ id) : jp_el Γ σ' τ' id sh = jp_el Γ σ τ id sh := by
  have hf : ∀ (fs : List (Nat × Nat)) (k : Nat), jp_fl Γ.2.2.1 σ' τ' id k fs = jp_fl Γ.2.2.1 σ τ id k fs := by
    intro fs
    induction fs with
    | nil => intro k; rfl
    | cons f fs ih =>
      intro k
      rw [jp_fl, jp_fl, ih (k + 1)]
      congr 1
      unfold jp_fv
      split <;> simp [h, h2]
  unfold jp_el
  split <;> simp [h, h2, hf]
theorem jp_P.lt {Γ : jp_G} {Z : Nat → Option jp_Sh} {σ : jp_I} {τ : jp_J} {H : Heap} (h : jp_P Γ Z σ τ H) {id : Nat} {sh : jp_Sh} (hz : Z id = some sh) : Γ.2.2.1 id < H.size := (h.1 id sh hz).1.lt
/-- one id's numbers are new, its cell holds them, no other cell has changed -/
theorem jp_P.set {Γ : jp_G} {Z : Nat → Option jp_Sh} {σ σ' : jp_I} {τ τ' : jp_J} {H H1 : Heap} (h : jp_P Γ Z σ τ H) {id : Nat} {sh : jp_Sh} (hz : Z id = some sh)
    (hs : ∀ i, i ≠ id → σ' i = σ i) (ht : ∀ i, i ≠ id → τ' i = τ i) (he : va_at Γ.1 vwCl (Γ.2.2.1 id, jp_el Γ σ' τ' id sh) H1) (oq : ∀ q : Nat, q ≠ Γ.2.2.1 id → H1[q]? = H[q]?) : jp_P Γ Z σ' τ' H1 := by
  refine ⟨fun i sh' hi => ?_, h.2⟩
  by_cases hii : i = id
  · subst hii
    rw [hz] at hi
    obtain rfl := Option.some.inj hi
    exact ⟨he, (h.1 i sh hz).2⟩
  · have h1 := h.1 i sh' hi
    refine ⟨?_, h1.2⟩
    rw [jp_el_congr Γ sh' (hs i hii) (ht i hii)]
    refine h1.1.kept (oq _ fun q => hii (h.2 i id (by rw [hi]; exact fun z => by cases z) (by rw [hz]; exact fun z => by cases z) q))
theorem jp_P.kept {Γ : jp_G} {Z : Nat → Option jp_Sh} {σ : jp_I} {τ : jp_J} {H H1 : Heap} (h : jp_P Γ Z σ τ H) (hk : ∀ q : Nat, q < H.size → H1[q]? = H[q]?) : jp_P Γ Z σ τ H1 :=
  ⟨fun i sh hi => ⟨(h.1 i sh hi).1.kept (hk _ (h.lt hi)), (h.1 i sh hi).2⟩, h.2⟩
/-! ===== what goes along unseen: the tables' words that aren't good ones, the statics, the texts ===== -/
def jp_mx : Nat → Int32 := fun j => if j = 2 then 1 else if j = 4 then -1 else 0
def jp_my : Nat → Int32 := fun j => if j = 1 then -1 else if j = 3 then 1 else 0
def jp_Y (Γ : jp_G) (U : State) : Prop :=
  ∃ mx my : Nat, va_Z "JointPlans" "MOVE_X" "[I" (.ref mx) (jp_A Γ) U U.heap ∧ va_T .int mx 5 (fun j => .int (jp_mx j)) (jp_A Γ) U U.heap ∧
    va_Z "JointPlans" "MOVE_Y" "[I" (.ref my) (jp_A Γ) U U.heap ∧ va_T .int my 5 (fun j => .int (jp_my j)) (jp_A Γ) U U.heap
def jp_E (Γ : jp_G) (U : State) : Prop :=
  va_K Γ.1 vwCl [(Γ.2.1 0, .int), (Γ.2.1 1, .boolean), (Γ.2.1 2, .long)] U ∧ (∀ w ∈ jp_ns, va_Nw w U) ∧ Γ.2.2.2 ≤ U.heap.size ∧ jp_Y Γ U
theorem jp_Y.moved {Γ : jp_G} {s U : State} (h : jp_Y Γ s) (hW : s.vm.Alike U.vm) (hk : ∀ q : Nat, q < s.heap.size → ¬ jp_A Γ q → U.heap[q]? = s.heap[q]?) : jp_Y Γ U := by
  obtain ⟨mx, my, h1, h2, h3, h4⟩ := h
  exact ⟨mx, my, va_Z.moved hW (h1.kept hk), va_T.moved hW (h2.kept hk), va_Z.moved hW (h3.kept hk), va_T.moved hW (h4.kept hk)⟩
theorem jp_N.warm {s U : State} (hW : s.WarmedH U.vm) {w : Cond} (hw : jp_isN w = true) (h : va_Nw w s) : va_Nw w U := by
  unfold jp_isN at hw
  split at hw
  · exact va_Nw.warmF hW h
  · exact va_Nw.warmM hW h
  · cases hw
theorem jp_E.moved {Γ : jp_G} {s U : State} (h : jp_E Γ s) (hW : s.WarmedH U.vm) (hz : s.heap.size ≤ U.heap.size) (hk : ∀ q : Nat, q < s.heap.size → ¬ jp_A Γ q → U.heap[q]? = s.heap[q]?) : jp_E Γ U :=
  ⟨va_K.moved hW.alike h.1, fun w hw => jp_N.warm hW (List.mem_filter.mp hw).2 (h.2.1 w hw), Nat.le_trans h.2.2.1 hz, h.2.2.2.moved hW.alike hk⟩
theorem jp_isN_tab {w : Cond} (hw : jp_isN w = true) : w.onTables = true := by
  unfold jp_isN at hw
  split at hw
  · rfl
  · rfl
  · cases hw
theorem jp_E.same {Γ : jp_G} {s U : State} (h : jp_E Γ s) (hv : s.vm = U.vm) (hh : s.heap = U.heap) : jp_E Γ U :=
  ⟨va_K.moved (by rw [hv]; exact Vm.Alike.refl _) h.1, fun w hw => va_Nw.same (jp_isN_tab (List.mem_filter.mp hw).2) hv (h.2.1 w hw), by rw [← hh]; exact h.2.2.1, h.2.2.2.moved (by rw [hv]; exact Vm.Alike.refl _) (fun q _ _ => by rw [hh])⟩
/-! ===== a contract: from the memory (Z, σ, τ) the method answers res, and the memory is (Z, σ', τ') ===== -/
def jp_Pre (Γ : jp_G) (Z : Nat → Option jp_Sh) (σ : jp_I) (τ : jp_J) (U : State) : Prop := jp_P Γ Z σ τ U.heap ∧ jp_E Γ U
def jp_Q (Γ : jp_G) (Z : Nat → Option jp_Sh) (res : Option Value) (σ : jp_I) (τ : jp_J) : Array Value → State → Outcome → State → Prop := fun _ st oc t => oc = .returned res ∧ jp_P Γ Z σ τ t.heap ∧ va_F (jp_A Γ) st t
def jp_W (y : MethodName) (cc : ByteArray) (n : Nat) (ret : Option FieldType) : List Cond := Cond.code y cc n ret :: jp_ws
abbrev jp_R (fr lo : Nat) : Room := { frames := fr, cells := 0, slots := 0, locals := lo }
def jp_M (l : Launch) (y : MethodName) (cc : ByteArray) (n : Nat) (ret : Option FieldType) (fr lo : Nat) (Γ : jp_G) (Z : Nat → Option jp_Sh) (σ : jp_I) (τ : jp_J) (av : List Value) (res : Option Value) (σ' : jp_I) (τ' : jp_J) : Prop :=
  Met l y (jp_W y cc n ret) (jp_R fr lo) (va_Pc av (jp_Pre Γ Z σ τ)) (jp_Q Γ Z res σ' τ') 0 0 (jp_A Γ)
theorem jp_blind {av : List Value} {Γ : jp_G} {Z : Nat → Option jp_Sh} {σ : jp_I} {τ : jp_J} : FrameBlind (va_Pc av (jp_Pre Γ Z σ τ)) :=
  fun a U g mk q => ⟨q.1, q.2.1, jp_E.same q.2.2 rfl rfl⟩
/-- what every row of a walk may use -/
def jp_B (Γ : jp_G) (p : Program) (s : State) (m : MethodId) (args : Array Value) (meth : Method) (c : Code) (own : String) (cc : ByteArray) (n : Nat) (ret : Option FieldType) : Prop :=
  p.tables.exec = Jvm.exec ∧ c.code = cc ∧ c.maxLocals = n ∧ s.vm.findClass own = some m.cls ∧ (∀ w ∈ jp_ws, w.before args s = true) ∧ meth.sig.returnType = ret ∧ meth.locks = false ∧ jp_E Γ s
theorem jp_good {y : MethodName} {cc : ByteArray} {n : Nat} {ret : Option FieldType} {y' : MethodName} {cc' : ByteArray} {n' : Nat} {ret' : Option FieldType} (h : Cond.code y' cc' n' ret' ∈ jp_ws) : GoodIn jp_ws (jp_W y' cc' n' ret') := by
  intro w hw
  rcases List.mem_cons.mp hw with rfl | hw
  · exact ⟨h, good_of_word (jp_gd _ h)⟩
  · exact ⟨hw, good_of_word (jp_gd _ hw)⟩
set_option maxHeartbeats 1000000 in
/-- a contract, out of a walk -/
theorem jp_intro {l : Launch} {y : MethodName} {cc : ByteArray} {n : Nat} {ret : Option FieldType} {fr lo : Nat} {Γ : jp_G} {Z : Nat → Option jp_Sh} {σ : jp_I} {τ : jp_J} {av : List Value} {res : Option Value} {σ' : jp_I} {τ' : jp_J} (hy : plainName y.cls = true) (hn : (lg_sl av).length ≤ n)
    (body : ∀ (p : Program) (e : Jvm.Env) (s : State) (m : MethodId) (args : Array Value) (below : List Frame) (meth : Method) (c : Code), jp_B Γ p s m args meth c y.cls cc n ret → jp_P Γ Z σ τ s.heap → ∀ ls : Array Slot, lv_has ls n (lv_args 0 av) →
      W p l e (jp_R fr lo) s m args below meth c s.heap [] 0 0 (MQ below (jp_Q Γ Z res σ' τ') args s 0 0 (jp_A Γ)) (F0 m 0 ls [])) : jp_M l y cc n ret fr lo Γ Z σ τ av res σ' τ' := by
  refine Met.ofW (cc := cc) (maxL := n) (ret := ret) hy rfl ?_
  intro p e s m args below meth c s₁ B hml hv
  obtain ⟨rfl, hP, hE⟩ := hv
  have hts := atoms_spec (ws := jp_W y cc n ret) B.pre
  have hl := lv_entry av (n := n) hn
  rw [lg_entry_eq]
  exact body p e s m _ below meth c ⟨B.exec, B.bytes, hml, findClass_of_methodNamed B.named, fun w hw => hts w (List.mem_cons_of_mem _ hw), B.returns, B.notSynchronized, hE⟩ hP _ hl
end
section
section JPR
variable {p : Program} {l : Launch} {e : Jvm.Env} {R : Room} {s : State} {m : MethodId} {args : Array Value} {below : List Frame} {meth : Method} {c : Code} {H : Heap} {locs : List Loc} {cells slots : Nat} {Q : State → Prop} {cc : ByteArray} {pc : Nat} {ls : Array Slot} {rest : List Value} {Γ : jp_G} {Z : Nat → Option jp_Sh} {σ : jp_I} {τ : jp_J} {own : String} {n : Nat} {ret : Option FieldType}
variable {id ci k r index N : Nat} {C host : String} {T : u_T} {fs : List (Nat × Nat)}
theorem jp_P.one (hP : jp_P Γ Z σ τ H) {sh : jp_Sh} (hZ : Z id = some sh) : va_P Γ.1 vwCl [(Γ.2.2.1 id, jp_el Γ σ τ id sh)] H := by
  intro j q hq
  cases j with
  | zero => cases hq; exact (hP.1 id sh hZ).1
  | succ j => simp at hq
/-! getfield -/
theorem jp_get (B : jp_B Γ p s m args meth c own cc n ret) (hP : jp_P Γ Z σ τ H) (hZ : Z id = some (0, ci, fs)) {f : Nat × Nat} (hk : fs[k]? = some f) (hc : vwCl[ci]? = some (C, T, N)) (hkN : k < N) (hin : ∀ w ∈ u_ws C T N, w ∈ jp_ws) (hT : (T k).1 = C) (hlink : Cond.fieldLink own index C (T k).2.1 (T k).2.2.1 ∈ jp_ws) (hdg : decode cc pc = .ok (.getfield index, 3))
    (kk : W p l e R s m args below meth c H locs cells slots Q (F0 m (pc + 3) ls (jp_fv Γ.2.2.1 σ τ id k f :: rest))) : W p l e R s m args below meth c H locs cells slots Q (F0 m pc ls (.ref (Γ.2.2.1 id) :: rest)) :=
  va_get (D := Γ.1) (cl := vwCl) (ws := [(Γ.2.2.1 id, jp_el Γ σ τ id (0, ci, fs))]) (ci := ci) (fs := jp_fl Γ.2.2.1 σ τ id 0 fs) (C := C) (T := T) (N := N) B.1 B.2.1 B.2.2.2.2.1 hin B.2.2.2.1 B.2.2.2.2.2.2.2.1 (hP.one hZ) 0 rfl hc k hkN (B.2.2.2.2.1 _ hlink) (fun _ h9 => by rw [hT] at h9; exact h9) (by rw [jp_fl_get, hk, Nat.zero_add]; rfl) hdg kk
theorem jp_getN (B : jp_B Γ p s m args meth c own cc n ret) (hP : jp_P Γ Z σ τ H) (hZ : Z id = some (0, ci, fs)) {f : Nat × Nat} (hk : fs[k]? = some f) (hc : vwCl[ci]? = some (C, T, N)) (hkN : k < N) (hin : ∀ w ∈ u_ws C T N, w ∈ jp_ws) (hT : (T k).1 = C) (hlink : Cond.fieldLinkNest own index C (T k).2.1 (T k).2.2.1 host ∈ jp_ns) (hdg : decode cc pc = .ok (.getfield index, 3))
    (kk : W p l e R s m args below meth c H locs cells slots Q (F0 m (pc + 3) ls (jp_fv Γ.2.2.1 σ τ id k f :: rest))) : W p l e R s m args below meth c H locs cells slots Q (F0 m pc ls (.ref (Γ.2.2.1 id) :: rest)) :=
  va_getN (D := Γ.1) (cl := vwCl) (ws := [(Γ.2.2.1 id, jp_el Γ σ τ id (0, ci, fs))]) (ci := ci) (fs := jp_fl Γ.2.2.1 σ τ id 0 fs) (C := C) (T := T) (N := N) B.1 B.2.1 B.2.2.2.2.1 hin B.2.2.2.1 B.2.2.2.2.2.2.2.1 (hP.one hZ) 0 rfl hc k hkN (va_Nw.use rfl (B.2.2.2.2.2.2.2.2.1 _ hlink)) (fun _ h9 => by rw [hT] at h9; exact h9) (by rw [jp_fl_get, hk, Nat.zero_add]; rfl) hdg kk
theorem jp_geti (B : jp_B Γ p s m args meth c own cc n ret) (hP : jp_P Γ Z σ τ H) (hZ : Z id = some (0, ci, fs)) (hk : fs[k]? = some (0, r)) (hc : vwCl[ci]? = some (C, T, N)) (hkN : k < N) (hin : ∀ w ∈ u_ws C T N, w ∈ jp_ws) (hT : (T k).1 = C) (hlink : Cond.fieldLink own index C (T k).2.1 (T k).2.2.1 ∈ jp_ws) (hdg : decode cc pc = .ok (.getfield index, 3))
    (kk : W p l e R s m args below meth c H locs cells slots Q (F0 m (pc + 3) ls (.int (σ id k) :: rest))) : W p l e R s m args below meth c H locs cells slots Q (F0 m pc ls (.ref (Γ.2.2.1 id) :: rest)) := jp_get B hP hZ hk hc hkN hin hT hlink hdg kk
theorem jp_getr (B : jp_B Γ p s m args meth c own cc n ret) (hP : jp_P Γ Z σ τ H) (hZ : Z id = some (0, ci, fs)) (hk : fs[k]? = some (1, r)) (hc : vwCl[ci]? = some (C, T, N)) (hkN : k < N) (hin : ∀ w ∈ u_ws C T N, w ∈ jp_ws) (hT : (T k).1 = C) (hlink : Cond.fieldLink own index C (T k).2.1 (T k).2.2.1 ∈ jp_ws) (hdg : decode cc pc = .ok (.getfield index, 3))
    (kk : W p l e R s m args below meth c H locs cells slots Q (F0 m (pc + 3) ls (.ref (Γ.2.2.1 r) :: rest))) : W p l e R s m args below meth c H locs cells slots Q (F0 m pc ls (.ref (Γ.2.2.1 id) :: rest)) := jp_get B hP hZ hk hc hkN hin hT hlink hdg kk
theorem jp_getl (B : jp_B Γ p s m args meth c own cc n ret) (hP : jp_P Γ Z σ τ H) (hZ : Z id = some (0, ci, fs)) (hk : fs[k]? = some (2, r)) (hc : vwCl[ci]? = some (C, T, N)) (hkN : k < N) (hin : ∀ w ∈ u_ws C T N, w ∈ jp_ws) (hT : (T k).1 = C) (hlink : Cond.fieldLink own index C (T k).2.1 (T k).2.2.1 ∈ jp_ws) (hdg : decode cc pc = .ok (.getfield index, 3))
    (kk : W p l e R s m args below meth c H locs cells slots Q (F0 m (pc + 3) ls (.long (τ id k) :: rest))) : W p l e R s m args below meth c H locs cells slots Q (F0 m pc ls (.ref (Γ.2.2.1 id) :: rest)) := jp_get B hP hZ hk hc hkN hin hT hlink hdg kk
theorem jp_getiN (B : jp_B Γ p s m args meth c own cc n ret) (hP : jp_P Γ Z σ τ H) (hZ : Z id = some (0, ci, fs)) (hk : fs[k]? = some (0, r)) (hc : vwCl[ci]? = some (C, T, N)) (hkN : k < N) (hin : ∀ w ∈ u_ws C T N, w ∈ jp_ws) (hT : (T k).1 = C) (hlink : Cond.fieldLinkNest own index C (T k).2.1 (T k).2.2.1 host ∈ jp_ns) (hdg : decode cc pc = .ok (.getfield index, 3))
    (kk : W p l e R s m args below meth c H locs cells slots Q (F0 m (pc + 3) ls (.int (σ id k) :: rest))) : W p l e R s m args below meth c H locs cells slots Q (F0 m pc ls (.ref (Γ.2.2.1 id) :: rest)) := jp_getN B hP hZ hk hc hkN hin hT hlink hdg kk
theorem jp_getrN (B : jp_B Γ p s m args meth c own cc n ret) (hP : jp_P Γ Z σ τ H) (hZ : Z id = some (0, ci, fs)) (hk : fs[k]? = some (1, r)) (hc : vwCl[ci]? = some (C, T, N)) (hkN : k < N) (hin : ∀ w ∈ u_ws C T N, w ∈ jp_ws) (hT : (T k).1 = C) (hlink : Cond.fieldLinkNest own index C (T k).2.1 (T k).2.2.1 host ∈ jp_ns) (hdg : decode cc pc = .ok (.getfield index, 3))
    (kk : W p l e R s m args below meth c H locs cells slots Q (F0 m (pc + 3) ls (.ref (Γ.2.2.1 r) :: rest))) : W p l e R s m args below meth c H locs cells slots Q (F0 m pc ls (.ref (Γ.2.2.1 id) :: rest)) := jp_getN B hP hZ hk hc hkN hin hT hlink hdg kk
/-! putfield -/
theorem jp_fl_seti (ad : Nat → Nat) (hk : fs[k]? = some (0, r)) (v : Int32) : jp_fl ad (jp_up σ id k v) τ id 0 fs = (jp_fl ad σ τ id 0 fs).set k (.int v) := by
  apply List.ext_getElem?
  intro j
  have hl : k < (jp_fl ad σ τ id 0 fs).length := by rw [jp_fl_len]; exact (List.getElem?_eq_some_iff.mp hk).1
  by_cases hj : j = k
  · subst hj
    rw [List.getElem?_set_self hl, jp_fl_get, hk, Nat.zero_add]
    simp [jp_fv, jp_up, upd]
  · rw [List.getElem?_set_ne (fun q => hj q.symm), jp_fl_get, jp_fl_get, Nat.zero_add]
    cases fs[j]? with
    | none => rfl
    | some f =>
      simp only [Option.map_some]
      congr 1
      unfold jp_fv
      split <;> simp [jp_up, upd, hj]
theorem jp_fl_setl (ad : Nat → Nat) (hk : fs[k]? = some (2, r)) (v : Int64) : jp_fl ad σ (jp_upl τ id k v) id 0 fs = (jp_fl ad σ τ id 0 fs).set k (.long v) := by
  apply List.ext_getElem?
  intro j
  have hl : k < (jp_fl ad σ τ id 0 fs).length := by rw [jp_fl_len]; exact (List.getElem?_eq_some_iff.mp hk).1
  by_cases hj : j = k
  · subst hj
    rw [List.getElem?_set_self hl, jp_fl_get, hk, Nat.zero_add]
    simp [jp_fv, jp_upl, vp_updL]
  · rw [List.getElem?_set_ne (fun q => hj q.symm), jp_fl_get, jp_fl_get, Nat.zero_add]
    cases fs[j]? with
    | none => rfl
    | some f =>
      simp only [Option.map_some]
      congr 1
      unfold jp_fv
      split <;> simp [jp_upl, vp_updL, hj]
theorem jp_put (B : jp_B Γ p s m args meth c own cc n ret) (hP : jp_P Γ Z σ τ H) (hS : va_S (jp_A Γ) s.heap H locs) (hZ : Z id = some (0, ci, fs)) (hl : k < fs.length) (hc : vwCl[ci]? = some (C, T, N)) (hkN : k < N) (hin : ∀ w ∈ u_ws C T N, w ∈ jp_ws) (ty0 : Nat → FieldType) (hty : ∀ k, k < N → parseFieldDescriptor (T k).2.2.1 = some (ty0 k)) (hnm : ∀ a, a < N → ∀ b, b < N → a ≠ b → (T a).2.1 ≠ (T b).2.1) (hT : (T k).1 = C) (hlink : Cond.fieldLink own index C (T k).2.1 (T k).2.2.1 ∈ jp_ws) (hfin : (T k).2.2.2 = false) {ty : FieldType} {v : Value} (hd : parseFieldDescriptor (T k).2.2.1 = some ty) (hn : narrow ty v = v) (hfit : fits ty v = true)
    {σ' : jp_I} {τ' : jp_J} (hσ : ∀ i, i ≠ id → σ' i = σ i) (hτ : ∀ i, i ≠ id → τ' i = τ i) (hset : jp_fl Γ.2.2.1 σ' τ' id 0 fs = (jp_fl Γ.2.2.1 σ τ id 0 fs).set k v) (hdg : decode cc pc = .ok (.putfield index, 3))
    (kk : ∀ (H1 : Heap) (locs1 : List Loc), jp_P Γ Z σ' τ' H1 → va_S (jp_A Γ) s.heap H1 locs1 → W p l e R s m args below meth c H1 locs1 cells slots Q (F0 m (pc + 3) ls rest)) : W p l e R s m args below meth c H locs cells slots Q (F0 m pc ls (v :: .ref (Γ.2.2.1 id) :: rest)) := by
  have hts := B.2.2.2.2.1
  have hK := B.2.2.2.2.2.2.2.1
  have hap := va_apart (own := own) hts hin ty0 hty hnm hK hc
  obtain ⟨r9, h1, cell, q1, q2, q3, q4⟩ := (hP.1 id _ hZ).1
  have hr : r9 = (C, T, N) := Option.some.inj (h1.symm.trans hc)
  subst hr
  obtain ⟨hS9, hfc, kC, hkC, hkind⟩ := hK.1 ci _ hc
  obtain ⟨cf, kf, fi, f, hi, hsl⟩ := hS9 k hkN
  have hlay := hts _ (hin _ (u_in_lay hkN))
  unfold u_lay at hlay
  rw [if_neg (by rw [hfin]; decide)] at hlay
  have hst := (u_facts hfc hkC (u_lays hts hin hkN) hi).1
  have h6 := u_store hfc hkC hkind hlay hi hd hn hfit
  refine W.putK B.1 B.2.1 (f := f) ⟨B.2.2.2.1, hts _ hlink, ⟨_, _, _, by rw [hT] at hi; exact hi⟩, hst⟩ (by rw [q2]; exact h6) q1 q3 (by rw [hsl]; exact k2_hasslot (q4 k hkN)) rfl rfl hdg fun H' e1 e2 e3 => ?_
  rw [hsl] at e1 ⊢
  refine kk H' _ (hP.set hZ hσ hτ ?_ e3) (hS.put e2 e3 (hP.1 id _ hZ).2)
  refine ⟨_, hc, ?_⟩
  show t_OB _ _ _ _ _ (vp_V (jp_fl Γ.2.2.1 σ' τ' id 0 fs))
  rw [hset]
  exact t_OB.to (V := updV (vp_V (jp_fl Γ.2.2.1 σ τ id 0 fs)) k v) ⟨_, e1, q2, q3, t_set q4 hap hkN v⟩ (fun j _ => vp_updV_set (by rw [jp_fl_len]; exact hl) v j)
theorem jp_putN (B : jp_B Γ p s m args meth c own cc n ret) (hP : jp_P Γ Z σ τ H) (hS : va_S (jp_A Γ) s.heap H locs) (hZ : Z id = some (0, ci, fs)) (hl : k < fs.length) (hc : vwCl[ci]? = some (C, T, N)) (hkN : k < N) (hin : ∀ w ∈ u_ws C T N, w ∈ jp_ws) (ty0 : Nat → FieldType) (hty : ∀ k, k < N → parseFieldDescriptor (T k).2.2.1 = some (ty0 k)) (hnm : ∀ a, a < N → ∀ b, b < N → a ≠ b → (T a).2.1 ≠ (T b).2.1) (hT : (T k).1 = C) (hlink : Cond.fieldLinkNest own index C (T k).2.1 (T k).2.2.1 host ∈ jp_ns) (hfin : (T k).2.2.2 = false) {ty : FieldType} {v : Value} (hd : parseFieldDescriptor (T k).2.2.1 = some ty) (hn : narrow ty v = v) (hfit : fits ty v = true)
    {σ' : jp_I} {τ' : jp_J} (hσ : ∀ i, i ≠ id → σ' i = σ i) (hτ : ∀ i, i ≠ id → τ' i = τ i) (hset : jp_fl Γ.2.2.1 σ' τ' id 0 fs = (jp_fl Γ.2.2.1 σ τ id 0 fs).set k v) (hdg : decode cc pc = .ok (.putfield index, 3))
    (kk : ∀ (H1 : Heap) (locs1 : List Loc), jp_P Γ Z σ' τ' H1 → va_S (jp_A Γ) s.heap H1 locs1 → W p l e R s m args below meth c H1 locs1 cells slots Q (F0 m (pc + 3) ls rest)) : W p l e R s m args below meth c H locs cells slots Q (F0 m pc ls (v :: .ref (Γ.2.2.1 id) :: rest)) := by
  have hts := B.2.2.2.2.1
  have hK := B.2.2.2.2.2.2.2.1
  have hap := va_apart (own := own) hts hin ty0 hty hnm hK hc
  obtain ⟨r9, h1, cell, q1, q2, q3, q4⟩ := (hP.1 id _ hZ).1
  have hr : r9 = (C, T, N) := Option.some.inj (h1.symm.trans hc)
  subst hr
  obtain ⟨hS9, hfc, kC, hkC, hkind⟩ := hK.1 ci _ hc
  obtain ⟨cf, kf, fi, f, hi, hsl⟩ := hS9 k hkN
  have hlay := hts _ (hin _ (u_in_lay hkN))
  unfold u_lay at hlay
  rw [if_neg (by rw [hfin]; decide)] at hlay
  have hst := (u_facts hfc hkC (u_lays hts hin hkN) hi).1
  have h6 := u_store hfc hkC hkind hlay hi hd hn hfit
  refine va_WputK B.1 B.2.1 (f := f) B.2.2.2.1 (va_Nw.use rfl (B.2.2.2.2.2.2.2.2.1 _ hlink)) (by rw [hT] at hi; exact hi) hst (by rw [q2]; exact h6) q1 q3 (by rw [hsl]; exact k2_hasslot (q4 k hkN)) rfl rfl hdg fun H' e1 e2 e3 => ?_
  rw [hsl] at e1 ⊢
  refine kk H' _ (hP.set hZ hσ hτ ?_ e3) (hS.put e2 e3 (hP.1 id _ hZ).2)
  refine ⟨_, hc, ?_⟩
  show t_OB _ _ _ _ _ (vp_V (jp_fl Γ.2.2.1 σ' τ' id 0 fs))
  rw [hset]
  exact t_OB.to (V := updV (vp_V (jp_fl Γ.2.2.1 σ τ id 0 fs)) k v) ⟨_, e1, q2, q3, t_set q4 hap hkN v⟩ (fun j _ => vp_updV_set (by rw [jp_fl_len]; exact hl) v j)
theorem jp_puti (B : jp_B Γ p s m args meth c own cc n ret) (hP : jp_P Γ Z σ τ H) (hS : va_S (jp_A Γ) s.heap H locs) (hZ : Z id = some (0, ci, fs)) (hk : fs[k]? = some (0, r)) (hc : vwCl[ci]? = some (C, T, N)) (hkN : k < N) (hin : ∀ w ∈ u_ws C T N, w ∈ jp_ws) (ty0 : Nat → FieldType) (hty : ∀ k, k < N → parseFieldDescriptor (T k).2.2.1 = some (ty0 k)) (hnm : ∀ a, a < N → ∀ b, b < N → a ≠ b → (T a).2.1 ≠ (T b).2.1) (hT : (T k).1 = C) (hlink : Cond.fieldLink own index C (T k).2.1 (T k).2.2.1 ∈ jp_ws) (hfin : (T k).2.2.2 = false) {ty : FieldType} {v : Int32} (hd : parseFieldDescriptor (T k).2.2.1 = some ty) (hn : narrow ty (.int v) = .int v) (hfit : fits ty (.int v) = true) (hdg : decode cc pc = .ok (.putfield index, 3))
    (kk : ∀ (H1 : Heap) (locs1 : List Loc), jp_P Γ Z (jp_up σ id k v) τ H1 → va_S (jp_A Γ) s.heap H1 locs1 → W p l e R s m args below meth c H1 locs1 cells slots Q (F0 m (pc + 3) ls rest)) : W p l e R s m args below meth c H locs cells slots Q (F0 m pc ls (.int v :: .ref (Γ.2.2.1 id) :: rest)) :=
  jp_put B hP hS hZ (List.getElem?_eq_some_iff.mp hk).1 hc hkN hin ty0 hty hnm hT hlink hfin hd hn hfit (fun i h => jp_up_n σ v h) (fun i _ => rfl) (jp_fl_seti _ hk v) hdg kk
theorem jp_putiN (B : jp_B Γ p s m args meth c own cc n ret) (hP : jp_P Γ Z σ τ H) (hS : va_S (jp_A Γ) s.heap H locs) (hZ : Z id = some (0, ci, fs)) (hk : fs[k]? = some (0, r)) (hc : vwCl[ci]? = some (C, T, N)) (hkN : k < N) (hin : ∀ w ∈ u_ws C T N, w ∈ jp_ws) (ty0 : Nat → FieldType) (hty : ∀ k, k < N → parseFieldDescriptor (T k).2.2.1 = some (ty0 k)) (hnm : ∀ a, a < N → ∀ b, b < N → a ≠ b → (T a).2.1 ≠ (T b).2.1) (hT : (T k).1 = C) (hlink : Cond.fieldLinkNest own index C (T k).2.1 (T k).2.2.1 host ∈ jp_ns) (hfin : (T k).2.2.2 = false) {ty : FieldType} {v : Int32} (hd : parseFieldDescriptor (T k).2.2.1 = some ty) (hn : narrow ty (.int v) = .int v) (hfit : fits ty (.int v) = true) (hdg : decode cc pc = .ok (.putfield index, 3))
    (kk : ∀ (H1 : Heap) (locs1 : List Loc), jp_P Γ Z (jp_up σ id k v) τ H1 → va_S (jp_A Γ) s.heap H1 locs1 → W p l e R s m args below meth c H1 locs1 cells slots Q (F0 m (pc + 3) ls rest)) : W p l e R s m args below meth c H locs cells slots Q (F0 m pc ls (.int v :: .ref (Γ.2.2.1 id) :: rest)) :=
  jp_putN B hP hS hZ (List.getElem?_eq_some_iff.mp hk).1 hc hkN hin ty0 hty hnm hT hlink hfin hd hn hfit (fun i h => jp_up_n σ v h) (fun i _ => rfl) (jp_fl_seti _ hk v) hdg kk
theorem jp_putl (B : jp_B Γ p s m args meth c own cc n ret) (hP : jp_P Γ Z σ τ H) (hS : va_S (jp_A Γ) s.heap H locs) (hZ : Z id = some (0, ci, fs)) (hk : fs[k]? = some (2, r)) (hc : vwCl[ci]? = some (C, T, N)) (hkN : k < N) (hin : ∀ w ∈ u_ws C T N, w ∈ jp_ws) (ty0 : Nat → FieldType) (hty : ∀ k, k < N → parseFieldDescriptor (T k).2.2.1 = some (ty0 k)) (hnm : ∀ a, a < N → ∀ b, b < N → a ≠ b → (T a).2.1 ≠ (T b).2.1) (hT : (T k).1 = C) (hlink : Cond.fieldLink own index C (T k).2.1 (T k).2.2.1 ∈ jp_ws) (hfin : (T k).2.2.2 = false) {v : Int64} (hd : parseFieldDescriptor (T k).2.2.1 = some .long) (hdg : decode cc pc = .ok (.putfield index, 3))
    (kk : ∀ (H1 : Heap) (locs1 : List Loc), jp_P Γ Z σ (jp_upl τ id k v) H1 → va_S (jp_A Γ) s.heap H1 locs1 → W p l e R s m args below meth c H1 locs1 cells slots Q (F0 m (pc + 3) ls rest)) : W p l e R s m args below meth c H locs cells slots Q (F0 m pc ls (.long v :: .ref (Γ.2.2.1 id) :: rest)) :=
  jp_put B hP hS hZ (List.getElem?_eq_some_iff.mp hk).1 hc hkN hin ty0 hty hnm hT hlink hfin hd rfl rfl (fun i _ => rfl) (fun i h => jp_upl_n τ v h) (jp_fl_setl _ hk v) hdg kk
theorem jp_putlN (B : jp_B Γ p s m args meth c own cc n ret) (hP : jp_P Γ Z σ τ H) (hS : va_S (jp_A Γ) s.heap H locs) (hZ : Z id = some (0, ci, fs)) (hk : fs[k]? = some (2, r)) (hc : vwCl[ci]? = some (C, T, N)) (hkN : k < N) (hin : ∀ w ∈ u_ws C T N, w ∈ jp_ws) (ty0 : Nat → FieldType) (hty : ∀ k, k < N → parseFieldDescriptor (T k).2.2.1 = some (ty0 k)) (hnm : ∀ a, a < N → ∀ b, b < N → a ≠ b → (T a).2.1 ≠ (T b).2.1) (hT : (T k).1 = C) (hlink : Cond.fieldLinkNest own index C (T k).2.1 (T k).2.2.1 host ∈ jp_ns) (hfin : (T k).2.2.2 = false) {v : Int64} (hd : parseFieldDescriptor (T k).2.2.1 = some .long) (hdg : decode cc pc = .ok (.putfield index, 3))
    (kk : ∀ (H1 : Heap) (locs1 : List Loc), jp_P Γ Z σ (jp_upl τ id k v) H1 → va_S (jp_A Γ) s.heap H1 locs1 → W p l e R s m args below meth c H1 locs1 cells slots Q (F0 m (pc + 3) ls rest)) : W p l e R s m args below meth c H locs cells slots Q (F0 m pc ls (.long v :: .ref (Γ.2.2.1 id) :: rest)) :=
  jp_putN B hP hS hZ (List.getElem?_eq_some_iff.mp hk).1 hc hkN hin ty0 hty hnm hT hlink hfin hd rfl rfl (fun i _ => rfl) (fun i h => jp_upl_n τ v h) (jp_fl_setl _ hk v) hdg kk
/-! arrays -/
theorem jp_iald (B : jp_B Γ p s m args meth c own cc n ret) (hP : jp_P Γ Z σ τ H) (hZ : Z id = some (1, N, fs)) {i : Int32} (hin : vp_in i N) (hdg : decode cc pc = .ok (.iaload, 1))
    (kk : W p l e R s m args below meth c H locs cells slots Q (F0 m (pc + 1) ls (.int (σ id i.toNatClampNeg) :: rest))) : W p l e R s m args below meth c H locs cells slots Q (F0 m pc ls (.int i :: .ref (Γ.2.2.1 id) :: rest)) :=
  va_iald B.1 B.2.1 B.2.2.2.2.2.2.2.1 (hP.one hZ) 0 0 (f := σ id) rfl rfl hin hdg kk
theorem jp_zald (B : jp_B Γ p s m args meth c own cc n ret) (hP : jp_P Γ Z σ τ H) (hZ : Z id = some (2, N, fs)) {i : Int32} (hin : vp_in i N) (hdg : decode cc pc = .ok (.baload, 1))
    (kk : W p l e R s m args below meth c H locs cells slots Q (F0 m (pc + 1) ls (.int (σ id i.toNatClampNeg) :: rest))) : W p l e R s m args below meth c H locs cells slots Q (F0 m pc ls (.int i :: .ref (Γ.2.2.1 id) :: rest)) :=
  va_zald B.1 B.2.1 B.2.2.2.2.2.2.2.1 (hP.one hZ) 0 1 (f := σ id) rfl rfl hin hdg kk
theorem jp_lald (B : jp_B Γ p s m args meth c own cc n ret) (hP : jp_P Γ Z σ τ H) (hZ : Z id = some (3, N, fs)) {i : Int32} (hin : vp_in i N) (hdg : decode cc pc = .ok (.laload, 1))
    (kk : W p l e R s m args below meth c H locs cells slots Q (F0 m (pc + 1) ls (.long (τ id i.toNatClampNeg) :: rest))) : W p l e R s m args below meth c H locs cells slots Q (F0 m pc ls (.int i :: .ref (Γ.2.2.1 id) :: rest)) :=
  va_lald B.1 B.2.1 B.2.2.2.2.2.2.2.1 (hP.one hZ) 0 2 (f := τ id) rfl rfl hin hdg kk
theorem jp_alen (B : jp_B Γ p s m args meth c own cc n ret) (hP : jp_P Γ Z σ τ H) (hZ : Z id = some (1, N, fs)) (hdg : decode cc pc = .ok (.arraylength, 1))
    (kk : W p l e R s m args below meth c H locs cells slots Q (F0 m (pc + 1) ls (.int (nI N) :: rest))) : W p l e R s m args below meth c H locs cells slots Q (F0 m pc ls (.ref (Γ.2.2.1 id) :: rest)) :=
  va_alen B.1 B.2.1 B.2.2.2.2.2.2.2.1 (hP.one hZ) 0 0 (x := (N, .inl (σ id))) rfl rfl rfl hdg kk
theorem jp_iast (B : jp_B Γ p s m args meth c own cc n ret) (hP : jp_P Γ Z σ τ H) (hS : va_S (jp_A Γ) s.heap H locs) (hZ : Z id = some (1, N, fs)) {i x : Int32} (hin : vp_in i N) (hdg : decode cc pc = .ok (.iastore, 1))
    (kk : ∀ (H1 : Heap) (locs1 : List Loc), jp_P Γ Z (jp_up σ id i.toNatClampNeg x) τ H1 → va_S (jp_A Γ) s.heap H1 locs1 → W p l e R s m args below meth c H1 locs1 cells slots Q (F0 m (pc + 1) ls rest)) : W p l e R s m args below meth c H locs cells slots Q (F0 m pc ls (.int x :: .int i :: .ref (Γ.2.2.1 id) :: rest)) := by
  have hK := B.2.2.2.2.2.2.2.1
  refine W.iast B.1 B.2.1 (hP.1 id _ hZ).1 ((hK.2 0 _ rfl).1 N (fun j => .int (σ id j))) (fun q => by cases q) (by show ¬ (i < 0 ∨ (arrV _ _ _).slots.size ≤ _); rw [arrV_size]; exact hin) rfl rfl hdg fun H1 e z oq => ?_
  refine kk H1 _ (hP.set hZ (fun i h => jp_up_n σ x h) (fun i _ => rfl) ?_ oq) (hS.put z oq (hP.1 id _ hZ).2)
  show H1[Γ.2.2.1 id]? = some (vp_cell _ _)
  rw [e]
  show some (Cell.setSlot (vp_cell _ (N, .inl (σ id))) _ _) = some (vp_cell _ (N, .inl (jp_up σ id i.toNatClampNeg x id)))
  rw [vp_cell_i, vp_cell_i, arrV_store, jp_up_s]
  congr 2
  funext q
  by_cases hq : q = i.toNatClampNeg
  · subst hq
    simp [updV, upd]
  · simp [updV, upd, hq]
theorem jp_zast (B : jp_B Γ p s m args meth c own cc n ret) (hP : jp_P Γ Z σ τ H) (hS : va_S (jp_A Γ) s.heap H locs) (hZ : Z id = some (2, N, fs)) {i x : Int32} (hin : vp_in i N) (hx : vp_nar .boolean x = x) (hdg : decode cc pc = .ok (.bastore, 1))
    (kk : ∀ (H1 : Heap) (locs1 : List Loc), jp_P Γ Z (jp_up σ id i.toNatClampNeg x) τ H1 → va_S (jp_A Γ) s.heap H1 locs1 → W p l e R s m args below meth c H1 locs1 cells slots Q (F0 m (pc + 1) ls rest)) : W p l e R s m args below meth c H locs cells slots Q (F0 m pc ls (.int x :: .int i :: .ref (Γ.2.2.1 id) :: rest)) := by
  have hK := B.2.2.2.2.2.2.2.1
  refine W.zast B.1 B.2.1 (hP.1 id _ hZ).1 ((hK.2 1 _ rfl).1 N (fun j => .int (σ id j))) (fun q => by cases q) (by show ¬ (i < 0 ∨ (arrV _ _ _).slots.size ≤ _); rw [arrV_size]; exact hin) rfl rfl hdg fun H1 e z oq => ?_
  refine kk H1 _ (hP.set hZ (fun i h => jp_up_n σ x h) (fun i _ => rfl) ?_ oq) (hS.put z oq (hP.1 id _ hZ).2)
  show H1[Γ.2.2.1 id]? = some (vp_cell _ _)
  rw [e]
  show some (Cell.setSlot (vp_cell _ (N, .inl (σ id))) _ _) = some (vp_cell _ (N, .inl (jp_up σ id i.toNatClampNeg x id)))
  rw [vp_cell_i, vp_cell_i, arrV_store, jp_up_s]
  congr 2
  funext q
  by_cases hq : q = i.toNatClampNeg
  · subst hq
    simp only [updV, upd, if_pos]
    have h9 : narrow .boolean (.int x) = .int (vp_nar .boolean x) := rfl
    first | (rw [h9, hx]) | (simp [vp_nar] at hx; simp [hx])
  · simp [updV, upd, hq]
/-! calls -/
theorem jp_after {av : List Value} {res : Option Value} {σ' : jp_I} {τ' : jp_J} {a : Array Value} {st0 : List Value} (hr : va_Run p l e R s m args below meth c H locs cells slots 0 0 (F0 m pc ls st0) rest (jp_Q Γ Z res σ' τ' a) (jp_A Γ)) (hS : va_S (jp_A Γ) s.heap H locs)
    (kk : ∀ (H1 : Heap) (locs1 : List Loc), jp_P Γ Z σ' τ' H1 → va_S (jp_A Γ) s.heap H1 locs1 → W p l e R s m args below meth c H1 locs1 cells slots Q (F0 m (pc + 3) ls (res.toList ++ rest))) : W p l e R s m args below meth c H locs cells slots Q (F0 m pc ls st0) := by
  intro T hT X
  obtain ⟨v, st₀, t, T', L, h0, X', hL, e1, e2, ⟨hv, hp, hz, hk⟩, st⟩ := hr T hT X
  cases hv
  rw [h0] at hz hk
  rw [← e1] at hz hk hp
  obtain ⟨t2, a1, b1⟩ := kk T'.heap (locs ++ L) hp ⟨Nat.le_trans hS.1 hz, fun q h1 h2 => by rw [hk q (Nat.lt_of_lt_of_le h1 hS.1) h2]; exact hS.2.1 q h1 h2, fun q hq => by
      rcases List.mem_append.mp hq with h | h
      · exact hS.2.2 q h
      · exact hL q h⟩ T' rfl X'
  exact ⟨t2, st t2 a1, b1⟩
theorem jp_preS {av : List Value} (B : jp_B Γ p s m args meth c own cc n ret) (hP : jp_P Γ Z σ τ H) (hS : va_S (jp_A Γ) s.heap H locs) : PreS s H (va_Pc av (jp_Pre Γ Z σ τ)) av :=
  ⟨jp_blind, fun U hU hW => ⟨rfl, by rw [hU]; exact hP, jp_E.moved B.2.2.2.2.2.2.2 hW (by rw [hU]; exact hS.1) (fun q h1 h2 => by rw [hU]; exact hS.2.1 q h1 h2)⟩⟩
variable {y : MethodName} {cc' : ByteArray} {n' fr lo : Nat} {ret' : Option FieldType} {av : List Value} {res : Option Value} {σ' : jp_I} {τ' : jp_J} {lv : List (Nat × Value)}
/-- a static method of the same class -/
theorem jp_callS (B : jp_B Γ p s m args meth c own cc n ret) (hP : jp_P Γ Z σ τ H) (hS : va_S (jp_A Γ) s.heap H locs) (hl : lv_has ls n lv) (hM : jp_M l y cc' n' ret' fr lo Γ Z σ τ av res σ' τ') (hcode : Cond.code y cc' n' ret' ∈ jp_ws) (hlink : Cond.methodLink own index y ∈ jp_ws) (hst : Cond.static y ∈ jp_ws) (hini : Cond.initialized y.cls ∈ jp_ws)
    (hd : y.cls ≠ "java/lang/invoke/MethodHandle" ∧ y.cls ≠ "java/lang/invoke/VarHandle" ∧ (parseMethodDescriptor y.desc).map (fun d => d.parameters.length) = some av.length) (hR : fr + 1 ≤ R.frames ∧ 8 + (n' + 11) + lo ≤ R.locals) (hf : cells ≤ R.cells ∧ slots ≤ R.slots) {st0 : List Value} (hst0 : st0 = av.reverse ++ rest) (hW : (rest.map fun v => v.category).sum ≤ 8) (hdg : decode cc pc = .ok (.invokestatic index, 3))
    (kk : ∀ (H1 : Heap) (locs1 : List Loc), jp_P Γ Z σ' τ' H1 → va_S (jp_A Γ) s.heap H1 locs1 → W p l e R s m args below meth c H1 locs1 cells slots Q (F0 m (pc + 3) ls (res.toList ++ rest))) : W p l e R s m args below meth c H locs cells slots Q (F0 m pc ls st0) := by
  have hts := B.2.2.2.2.1
  refine jp_after (av := av) (va_runS (As := av) (rest := rest) ⟨B.1, B.2.1, B.2.2.1, B.2.2.2.1, hts⟩ hM ⟨callB_of av.length hts (jp_good (y := y) (cc := cc) (n := n) (ret := ret) hcode) rfl rfl rfl (hts _ hini) (hts _ hlink) hd hR, hts _ hst⟩ (jp_preS B hP hS) rfl rfl hl.1 hst0 (lv_room hW) hdg hf) hS kk
/-- a private static method of a nest mate -/
theorem jp_callSN (B : jp_B Γ p s m args meth c own cc n ret) (hP : jp_P Γ Z σ τ H) (hS : va_S (jp_A Γ) s.heap H locs) (hl : lv_has ls n lv) (hM : jp_M l y cc' n' ret' fr lo Γ Z σ τ av res σ' τ') (hcode : Cond.code y cc' n' ret' ∈ jp_ws) (hlink : Cond.methodLinkNest own index y host ∈ jp_ns) (hst : Cond.static y ∈ jp_ws) (hini : Cond.initialized y.cls ∈ jp_ws)
    (hd : y.cls ≠ "java/lang/invoke/MethodHandle" ∧ y.cls ≠ "java/lang/invoke/VarHandle" ∧ (parseMethodDescriptor y.desc).map (fun d => d.parameters.length) = some av.length) (hR : fr + 1 ≤ R.frames ∧ 8 + (n' + 11) + lo ≤ R.locals) (hf : cells ≤ R.cells ∧ slots ≤ R.slots) {st0 : List Value} (hst0 : st0 = av.reverse ++ rest) (hW : (rest.map fun v => v.category).sum ≤ 8) (hdg : decode cc pc = .ok (.invokestatic index, 3))
    (kk : ∀ (H1 : Heap) (locs1 : List Loc), jp_P Γ Z σ' τ' H1 → va_S (jp_A Γ) s.heap H1 locs1 → W p l e R s m args below meth c H1 locs1 cells slots Q (F0 m (pc + 3) ls (res.toList ++ rest))) : W p l e R s m args below meth c H locs cells slots Q (F0 m pc ls st0) := by
  have hts := B.2.2.2.2.1
  refine jp_after (av := av) (va_runSN (As := av) (rest := rest) ⟨B.1, B.2.1, B.2.2.1, B.2.2.2.1, hts⟩ hM ⟨va_cnB av.length hts (jp_good (y := y) (cc := cc) (n := n) (ret := ret) hcode) rfl rfl rfl (B.2.2.2.2.2.2.2.2.1 _ hlink) (hts _ hini) hd hR, hts _ hst, trivial⟩ (jp_preS B hP hS) rfl rfl hl.1 hst0 (lv_room hW) hdg hf) hS kk
theorem jp_recv (B : jp_B Γ p s m args meth c own cc n ret) (hP : jp_P Γ Z σ τ H) (hZ : Z id = some (0, ci, fs)) (hc : vwCl[ci]? = some (C, T, N)) : ∃ cell : Cell, H[Γ.2.2.1 id]? = some cell ∧ cell.vm.isStatics = false ∧ s.vm.findClass C = some cell.cls :=
  va_recv B.2.2.2.2.2.2.2.1 (hP.one hZ) (q0 := 0) hc rfl
/-- a method of the same class, by its object -/
theorem jp_callV (B : jp_B Γ p s m args meth c own cc n ret) (hP : jp_P Γ Z σ τ H) (hS : va_S (jp_A Γ) s.heap H locs) (hl : lv_has ls n lv) (hM : jp_M l y cc' n' ret' fr lo Γ Z σ τ (.ref (Γ.2.2.1 id) :: av) res σ' τ') (hZ : Z id = some (0, ci, fs)) (hc : vwCl[ci]? = some (y.cls, T, N)) (hcode : Cond.code y cc' n' ret' ∈ jp_ws) (hlink : Cond.methodLink own index y ∈ jp_ws) (hin : Cond.instanceMethod y ∈ jp_ws) (hse : Cond.selects y.cls y y ∈ jp_ws) (hini : Cond.initialized y.cls ∈ jp_ws)
    (hd : y.cls ≠ "java/lang/invoke/MethodHandle" ∧ y.cls ≠ "java/lang/invoke/VarHandle" ∧ (parseMethodDescriptor y.desc).map (fun d => d.parameters.length) = some av.length) (hR : fr + 1 ≤ R.frames ∧ 8 + (n' + 11) + lo ≤ R.locals) (hf : cells ≤ R.cells ∧ slots ≤ R.slots) {st0 : List Value} (hst0 : st0 = av.reverse ++ .ref (Γ.2.2.1 id) :: rest) (hW : (rest.map fun v => v.category).sum ≤ 8) (hdg : decode cc pc = .ok (.invokevirtual index, 3))
    (kk : ∀ (H1 : Heap) (locs1 : List Loc), jp_P Γ Z σ' τ' H1 → va_S (jp_A Γ) s.heap H1 locs1 → W p l e R s m args below meth c H1 locs1 cells slots Q (F0 m (pc + 3) ls (res.toList ++ rest))) : W p l e R s m args below meth c H locs cells slots Q (F0 m pc ls st0) := by
  have hts := B.2.2.2.2.1
  have hp := jp_preS (av := .ref (Γ.2.2.1 id) :: av) B hP hS
  refine jp_after (av := av) (va_runV (C := y.cls) (As := av) (rest := rest) ⟨B.1, B.2.1, B.2.2.1, B.2.2.2.1, hts⟩ hM ⟨callB_of av.length hts (jp_good (y := y) (cc := cc) (n := n) (ret := ret) hcode) rfl rfl rfl (hts _ hini) (hts _ hlink) hd hR, hts _ hin, hts _ hse⟩ ⟨hp.1, jp_recv B hP hZ hc, hp.2⟩ rfl rfl hl.1 hst0 (lv_room hW) hdg hf) hS kk
/-- a private method of a nest mate, by its object -/
theorem jp_callVN (B : jp_B Γ p s m args meth c own cc n ret) (hP : jp_P Γ Z σ τ H) (hS : va_S (jp_A Γ) s.heap H locs) (hl : lv_has ls n lv) (hM : jp_M l y cc' n' ret' fr lo Γ Z σ τ (.ref (Γ.2.2.1 id) :: av) res σ' τ') (hZ : Z id = some (0, ci, fs)) (hc : vwCl[ci]? = some (y.cls, T, N)) (hcode : Cond.code y cc' n' ret' ∈ jp_ws) (hlink : Cond.methodLinkNest own index y host ∈ jp_ns) (hin : Cond.instanceMethod y ∈ jp_ws) (hse : Cond.selects y.cls y y ∈ jp_ws) (hini : Cond.initialized y.cls ∈ jp_ws)
    (hd : y.cls ≠ "java/lang/invoke/MethodHandle" ∧ y.cls ≠ "java/lang/invoke/VarHandle" ∧ (parseMethodDescriptor y.desc).map (fun d => d.parameters.length) = some av.length) (hR : fr + 1 ≤ R.frames ∧ 8 + (n' + 11) + lo ≤ R.locals) (hf : cells ≤ R.cells ∧ slots ≤ R.slots) {st0 : List Value} (hst0 : st0 = av.reverse ++ .ref (Γ.2.2.1 id) :: rest) (hW : (rest.map fun v => v.category).sum ≤ 8) (hdg : decode cc pc = .ok (.invokevirtual index, 3))
    (kk : ∀ (H1 : Heap) (locs1 : List Loc), jp_P Γ Z σ' τ' H1 → va_S (jp_A Γ) s.heap H1 locs1 → W p l e R s m args below meth c H1 locs1 cells slots Q (F0 m (pc + 3) ls (res.toList ++ rest))) : W p l e R s m args below meth c H locs cells slots Q (F0 m pc ls st0) := by
  have hts := B.2.2.2.2.1
  have hp := jp_preS (av := .ref (Γ.2.2.1 id) :: av) B hP hS
  refine jp_after (av := av) (va_runVN (C := y.cls) (As := av) (rest := rest) ⟨B.1, B.2.1, B.2.2.1, B.2.2.2.1, hts⟩ hM ⟨va_cnB av.length hts (jp_good (y := y) (cc := cc) (n := n) (ret := ret) hcode) rfl rfl rfl (B.2.2.2.2.2.2.2.2.1 _ hlink) (hts _ hini) hd hR, hts _ hin, hts _ hse⟩ ⟨hp.1, jp_recv B hP hZ hc, hp.2⟩ rfl rfl hl.1 hst0 (lv_room hW) hdg hf) hS kk
/-! ends -/
theorem jp_reti {v : Int32} (B : jp_B Γ p s m args meth c own cc n (some .int)) (hP : jp_P Γ Z σ τ H) (hS : va_S (jp_A Γ) s.heap H locs) (hdg : decode cc pc = .ok (.ireturn, 1)) (h : res = some (.int v) ∧ σ' = σ ∧ τ' = τ) : W p l e R s m args below meth c H locs cells slots (MQ below (jp_Q Γ Z res σ' τ') args s cells slots (jp_A Γ)) (F0 m pc ls [.int v]) := by
  obtain ⟨rfl, rfl, rfl⟩ := h
  exact W.iret B.1 B.2.1 B.2.2.2.2.2.1 (fun t ht hW => ⟨rfl, by rw [ht]; exact hP, hS.F ht⟩) hS.2.2 hdg B.2.2.2.2.2.2.1
theorem jp_retz {v : Int32} (B : jp_B Γ p s m args meth c own cc n (some .boolean)) (hP : jp_P Γ Z σ τ H) (hS : va_S (jp_A Γ) s.heap H locs) (hn : narrow .boolean (.int v) = .int v) (hdg : decode cc pc = .ok (.ireturn, 1)) (h : res = some (.int v) ∧ σ' = σ ∧ τ' = τ) : W p l e R s m args below meth c H locs cells slots (MQ below (jp_Q Γ Z res σ' τ') args s cells slots (jp_A Γ)) (F0 m pc ls [.int v]) := by
  obtain ⟨rfl, rfl, rfl⟩ := h
  exact W.zret B.1 B.2.1 B.2.2.2.2.2.1 hn (fun t ht hW => ⟨rfl, by rw [ht]; exact hP, hS.F ht⟩) hS.2.2 hdg B.2.2.2.2.2.2.1
theorem jp_retv (B : jp_B Γ p s m args meth c own cc n none) (hP : jp_P Γ Z σ τ H) (hS : va_S (jp_A Γ) s.heap H locs) (hdg : decode cc pc = .ok (.return_, 1)) (h : res = none ∧ σ' = σ ∧ τ' = τ) : W p l e R s m args below meth c H locs cells slots (MQ below (jp_Q Γ Z res σ' τ') args s cells slots (jp_A Γ)) (F0 m pc ls []) := by
  obtain ⟨rfl, rfl, rfl⟩ := h
  exact W.vret B.1 B.2.1 B.2.2.2.2.2.1 (fun t ht hW => ⟨rfl, by rw [ht]; exact hP, hS.F ht⟩) hS.2.2 hdg B.2.2.2.2.2.2.1
end JPR
end
section
/-! ===== programs as functions: none where a walk would leave the safe road (an index outside, no fuel) ===== -/
def jp_F : Nat := 10000000000
def jp_ok (i : Int32) (n : Nat) : Bool := !decide (i < 0) && decide (i.toNatClampNeg < n)
theorem jp_ok_vp {i : Int32} {n : Nat} (h : jp_ok i n = true) : vp_in i n := by
  simp only [jp_ok, Bool.and_eq_true, Bool.not_eq_true', decide_eq_false_iff_not, decide_eq_true_eq] at h
  intro q
  rcases q with q | q
  · exact h.1 q
  · exact absurd h.2 (Nat.not_lt.mpr q)
def jp_isb (v : Int32) : Bool := decide (v = 0) || decide (v = 1)
theorem jp_isb_or {v : Int32} (h : jp_isb v = true) : v = 0 ∨ v = 1 := by
  simpa only [jp_isb, Bool.or_eq_true, decide_eq_true_eq] using h
theorem jp_isb_n {v : Int32} (h : jp_isb v = true) : narrow .boolean (.int v) = .int v := by
  rcases jp_isb_or h with rfl | rfl <;> rfl
theorem jp_isb_f {v : Int32} (h : jp_isb v = true) : fits .boolean (.int v) = true := by
  rcases jp_isb_or h with rfl | rfl <;> rfl
theorem jp_isb_v {v : Int32} (h : jp_isb v = true) : vp_nar .boolean v = v := by
  rcases jp_isb_or h with rfl | rfl <;> rfl
theorem jp_if {α : Type} {b : Bool} {x : Option α} {y : α} (h : (if b = true then x else none) = some y) : b = true ∧ x = some y := by
  cases b with
  | true => exact ⟨rfl, h⟩
  | false => cases h
theorem jp_nz {α : Type} {v : Int32} {x : Option α} {y : α} (h : (if v = 0 then none else x) = some y) : ¬ v = 0 ∧ x = some y := by
  by_cases hv : v = 0
  · rw [if_pos hv] at h; cases h
  · rw [if_neg hv] at h; exact ⟨hv, h⟩
theorem jp_nzl {α : Type} {v : Int64} {x : Option α} {y : α} (h : (if v = 0 then none else x) = some y) : ¬ v = 0 ∧ x = some y := by
  by_cases hv : v = 0
  · rw [if_pos hv] at h; cases h
  · rw [if_neg hv] at h; exact ⟨hv, h⟩
theorem jp_bind {α β : Type} {x : Option α} {k : α → Option β} {y : β} (h : x.bind k = some y) : ∃ q, x = some q ∧ k q = some y := by
  cases x with
  | none => cases h
  | some q => exact ⟨q, rfl, h⟩
theorem jp_inj {v r : Int32} {σ σ' : jp_I} {τ τ' : jp_J} (h : some (v, σ, τ) = some (r, σ', τ')) : r = v ∧ σ' = σ ∧ τ' = τ := by
  cases h; exact ⟨rfl, rfl, rfl⟩
def jp_loop {V E : Type} (step : V × jp_I × jp_J → Option (Sum V E × jp_I × jp_J)) : Nat → V × jp_I × jp_J → Option (E × jp_I × jp_J)
  | 0, _ => none
  | k + 1, v => (step v).bind fun q => match q.1 with
    | .inl v' => jp_loop step k (v', q.2.1, q.2.2)
    | .inr e => some (e, q.2.1, q.2.2)
/-- a loop: what holds at its head for every round's numbers -/
theorem jp_loopI {V E : Type} {step : V × jp_I × jp_J → Option (Sum V E × jp_I × jp_J)} {P : V → jp_I → jp_J → Prop} {e : E} {σ' : jp_I} {τ' : jp_J}
    (hstep : ∀ (v : V) (σ : jp_I) (τ : jp_J) (q : Sum V E × jp_I × jp_J), step (v, σ, τ) = some q → (∀ v', q.1 = .inl v' → P v' q.2.1 q.2.2) → (∀ e', q.1 = .inr e' → e' = e ∧ q.2.1 = σ' ∧ q.2.2 = τ') → P v σ τ) :
    ∀ (k : Nat) (v : V) (σ : jp_I) (τ : jp_J), jp_loop step k (v, σ, τ) = some (e, σ', τ') → P v σ τ := by
  intro k
  induction k with
  | zero => intro v σ τ h; cases h
  | succ k ih =>
    intro v σ τ h
    rw [jp_loop] at h
    obtain ⟨⟨q1, q2, q3⟩, h1, h2⟩ := jp_bind h
    refine hstep v σ τ _ h1 (fun v' hv => ?_) (fun e' he => ?_)
    · dsimp only at hv
      subst hv
      exact ih _ _ _ h2
    · dsimp only at he
      subst he
      cases h2
      exact ⟨rfl, rfl, rfl⟩
section JPW
variable (p : Program) (l : Launch) (e : Jvm.Env) (R : Room) (s : State) (m : MethodId) (args : Array Value) (below : List Frame) (meth : Method) (c : Code) (Q : State → Prop) (n : Nat) (Γ : jp_G) (Z : Nat → Option jp_Sh)
/-- at pc, with these locals and this stack, in the memory (σ, τ): it comes to Q -/
def jp_at (pc : Nat) (lv : List (Nat × Value)) (st : List Value) (σ : jp_I) (τ : jp_J) : Prop :=
  ∀ (H : Heap) (locs : List Loc) (ls : Array Slot), jp_P Γ Z σ τ H → va_S (jp_A Γ) s.heap H locs → lv_has ls n lv → W p l e R s m args below meth c H locs 0 0 Q (F0 m pc ls st)
end JPW
/-- a contract, out of a walk from its entry -/
theorem jp_mk {l : Launch} {y : MethodName} {cc : ByteArray} {n : Nat} {ret : Option FieldType} {fr lo : Nat} {Γ : jp_G} {Z : Nat → Option jp_Sh} {σ : jp_I} {τ : jp_J} {av : List Value} {res : Option Value} {σ' : jp_I} {τ' : jp_J} (hy : plainName y.cls = true) (hn : (lg_sl av).length ≤ n) {lv : List (Nat × Value)} (hlv : lv_args 0 av = lv)
    (body : ∀ (p : Program) (e : Jvm.Env) (s : State) (m : MethodId) (args : Array Value) (below : List Frame) (meth : Method) (c : Code), jp_B Γ p s m args meth c y.cls cc n ret →
      jp_at p l e (jp_R fr lo) s m args below meth c (MQ below (jp_Q Γ Z res σ' τ') args s 0 0 (jp_A Γ)) n Γ Z 0 lv [] σ τ) : jp_M l y cc n ret fr lo Γ Z σ τ av res σ' τ' :=
  jp_intro hy hn fun p e s m args below meth c B hP ls hl => body p e s m args below meth c B s.heap [] ls hP va_S.rf (hlv ▸ hl)
/-! ===== which ids a method reaches, with their shapes ===== -/
def jp_hA (Z : Nat → Option jp_Sh) (row N : Nat) : Prop := Z row = some (1, N, [])
def jp_hF (Z : Nat → Option jp_Sh) : Prop := Z 2 = some (0, 1, [(1, 5), (1, 6), (1, 7), (1, 8), (0, 0), (0, 0), (0, 0)]) ∧ Z 5 = some (1, 36, []) ∧ Z 6 = some (1, 180, []) ∧ Z 7 = some (1, 36, []) ∧ Z 8 = some (1, 36, [])
def jp_hS (Z : Nat → Option jp_Sh) (n : Nat) : Prop := Z 1 = some (0, 5, [(0, 0), (1, 2), (1, 3), (1, 4), (0, 0)]) ∧ Z 3 = some (1, n, []) ∧ Z 4 = some (1, n, []) ∧ jp_hF Z
def jp_hU (Z : Nat → Option jp_Sh) (n : Nat) : Prop := Z 9 = some (0, 6, [(1, 10), (2, 0)]) ∧ Z 10 = some (1, n, [])
def jp_hL (Z : Nat → Option jp_Sh) (pl ce nc : Nat) : Prop := Z pl = some (0, 3, [(0, 0), (1, ce), (0, 0), (0, 0)]) ∧ Z ce = some (1, nc, [])
def jp_hC (Z : Nat → Option jp_Sh) (n nc : Nat) : Prop := Z 0 = some (0, 7, [(0, 0), (1, 1), (1, 9), (1, 13), (1, 11)]) ∧ jp_hS Z n ∧ jp_hU Z n ∧ jp_hL Z 11 12 nc
def jp_hJ (Z : Nat → Option jp_Sh) (n nc nl : Nat) : Prop := Z 13 = some (0, 2, [(1, 1), (0, 0), (1, 14), (1, 15), (0, 0), (0, 0), (0, 0)]) ∧ Z 14 = some (1, nl, []) ∧ Z 15 = some (1, nl, []) ∧ jp_hS Z n ∧ jp_hL Z 11 12 nc
def jp_hP (Z : Nat → Option jp_Sh) (n nc : Nat) : Prop := Z 13 = some (0, 4, [(1, 1), (1, 9), (1, 14), (1, 16), (1, 17)]) ∧ Z 16 = some (1, 1476, []) ∧ Z 17 = some (1, 1476, []) ∧ jp_hS Z n ∧ jp_hU Z n ∧ jp_hL Z 11 12 nc ∧ jp_hL Z 14 15 nc
def jp_hM (Z : Nat → Option jp_Sh) : Prop := Z 20 = some (0, 8, [(0, 0), (0, 0), (0, 0), (0, 0), (1, 21), (1, 22), (1, 23), (0, 0), (2, 0), (0, 0), (0, 0), (0, 0), (0, 0), (1, 24), (1, 25), (1, 26), (1, 27)]) ∧ Z 21 = some (2, 36, []) ∧ Z 22 = some (1, 4, []) ∧ Z 23 = some (1, 4, []) ∧ Z 24 = some (1, 1600, []) ∧ Z 25 = some (1, 640, []) ∧ Z 26 = some (1, 4, []) ∧ Z 27 = some (1, 1476, [])
section JPE
variable {p : Program} {l : Launch} {e : Jvm.Env} {R : Room} {s : State} {m : MethodId} {args : Array Value} {below : List Frame} {meth : Method} {c : Code} {H : Heap} {locs : List Loc} {cells slots : Nat} {cc : ByteArray} {pc : Nat} {ls : Array Slot} {Γ : jp_G} {Z : Nat → Option jp_Sh} {σ σ' : jp_I} {τ τ' : jp_J} {own : String} {n : Nat} {v r : Int32}
theorem jp_endi (B : jp_B Γ p s m args meth c own cc n (some .int)) (hP : jp_P Γ Z σ τ H) (hS : va_S (jp_A Γ) s.heap H locs) (hdg : decode cc pc = .ok (.ireturn, 1)) (h : r = v ∧ σ' = σ ∧ τ' = τ) : W p l e R s m args below meth c H locs cells slots (MQ below (jp_Q Γ Z (some (.int r)) σ' τ') args s cells slots (jp_A Γ)) (F0 m pc ls [.int v]) := jp_reti B hP hS hdg ⟨by rw [h.1], h.2⟩
theorem jp_endz (B : jp_B Γ p s m args meth c own cc n (some .boolean)) (hP : jp_P Γ Z σ τ H) (hS : va_S (jp_A Γ) s.heap H locs) (hv : jp_isb v = true) (hdg : decode cc pc = .ok (.ireturn, 1)) (h : r = v ∧ σ' = σ ∧ τ' = τ) : W p l e R s m args below meth c H locs cells slots (MQ below (jp_Q Γ Z (some (.int r)) σ' τ') args s cells slots (jp_A Γ)) (F0 m pc ls [.int v]) := jp_retz B hP hS (jp_isb_n hv) hdg ⟨by rw [h.1], h.2⟩
theorem jp_endv (B : jp_B Γ p s m args meth c own cc n none) (hP : jp_P Γ Z σ τ H) (hS : va_S (jp_A Γ) s.heap H locs) (hdg : decode cc pc = .ok (.return_, 1)) (h : r = 0 ∧ σ' = σ ∧ τ' = τ) : W p l e R s m args below meth c H locs cells slots (MQ below (jp_Q Γ Z none σ' τ') args s cells slots (jp_A Γ)) (F0 m pc ls []) := jp_retv B hP hS hdg ⟨rfl, h.2⟩
end JPE
end
section
-- X7_read
section
variable {p : Program} {l : Launch} {e : Jvm.Env} {s : State} {m : MethodId} {args : Array Value} {below : List Frame} {meth : Method} {c : Code} {Γ : jp_G} {Z : Nat → Option jp_Sh} {r0 : Int32} {σ0 : jp_I} {τ0 : jp_J}
def fX7_read (row : Nat) (N : Nat) (p1 : Int32) (σ : jp_I) (τ : jp_J) : Option (Int32 × jp_I × jp_J) :=
  if p1 < 0 then (some ((-1), σ, τ)) else (if (nI N) ≤ p1 then (some ((-1), σ, τ)) else (if jp_ok p1 N = true then some (σ row p1.toNatClampNeg, σ, τ) else none))
set_option maxHeartbeats 4000000 in
set_option maxRecDepth 20000 in
theorem ctX7_read {l : Launch} {Γ : jp_G} {Z : Nat → Option jp_Sh} {row : Nat} {N : Nat} (hX0 : jp_hA Z row N) {p1 : Int32} {σ σ0 : jp_I} {τ τ0 : jp_J} {r0 : Int32} (hf : fX7_read row N p1 σ τ = some (r0, σ0, τ0)) : jp_M l yX7_read cX7_read 2 (some .int) 0 0 Γ Z σ τ [.ref (Γ.2.2.1 row), .int p1] (some (.int r0)) σ0 τ0 := by
  refine jp_mk (lv := [(0, .ref (Γ.2.2.1 row)), (1, .int p1)]) (by decide) (Nat.le_of_ble_eq_true rfl) rfl fun p e s m args below meth c B => ?_
  obtain ⟨hx, hb, hml, hown, hts, hr, hlk, hE⟩ := id B
  unfold fX7_read at hf
  intro H locs ls hP hS hl
  refine lv_iload_n hx hb dX7_read_0 rfl (lv_at hl 1 rfl) ?_
  refine lv_if_lt (tgt := 16) hx hb dX7_read_1 (by decide) (fun c_1 => ?_) (fun c_1 => ?_)
  · rw [if_pos c_1] at hf
    refine lv_iconst (v := -1) hx hb dX7_read_16 (by decide) ?_
    exact jp_endi B hP hS dX7_read_17 (jp_inj hf)
  · rw [if_neg c_1] at hf
    refine lv_iload_n hx hb dX7_read_4 rfl (lv_at hl 1 rfl) ?_
    refine lv_aload_n hx hb dX7_read_5 rfl (lv_at hl 0 rfl) ?_
    refine jp_alen B hP hX0 dX7_read_6 ?_
    refine lv_icmp_ge (tgt := 16) hx hb dX7_read_7 (by decide) (fun c_2 => ?_) (fun c_2 => ?_)
    · rw [if_pos c_2] at hf
      refine lv_iconst (v := -1) hx hb dX7_read_16 (by decide) ?_
      exact jp_endi B hP hS dX7_read_17 (jp_inj hf)
    · rw [if_neg c_2] at hf
      refine lv_aload_n hx hb dX7_read_10 rfl (lv_at hl 0 rfl) ?_
      refine lv_iload_n hx hb dX7_read_11 rfl (lv_at hl 1 rfl) ?_
      obtain ⟨g_3, hf⟩ := jp_if hf
      refine jp_iald B hP hX0 (jp_ok_vp g_3) dX7_read_12 ?_
      refine lv_goto (tgt := 17) hx hb dX7_read_13 (by decide) ?_
      exact jp_endi B hP hS dX7_read_17 (jp_inj hf)
end
-- X7_write
section
variable {p : Program} {l : Launch} {e : Jvm.Env} {s : State} {m : MethodId} {args : Array Value} {below : List Frame} {meth : Method} {c : Code} {Γ : jp_G} {Z : Nat → Option jp_Sh} {r0 : Int32} {σ0 : jp_I} {τ0 : jp_J}
def fX7_write (row : Nat) (N : Nat) (p1 : Int32) (p2 : Int32) (σ : jp_I) (τ : jp_J) : Option (Int32 × jp_I × jp_J) :=
  if p1 < 0 then (some (0, σ, τ)) else (if (nI N) ≤ p1 then (some (0, σ, τ)) else (if jp_ok p1 N = true then some (0, jp_up σ row p1.toNatClampNeg p2, τ) else none))
set_option maxHeartbeats 4000000 in
set_option maxRecDepth 20000 in
theorem ctX7_write {l : Launch} {Γ : jp_G} {Z : Nat → Option jp_Sh} {row : Nat} {N : Nat} (hX0 : jp_hA Z row N) {p1 : Int32} {p2 : Int32} {σ σ0 : jp_I} {τ τ0 : jp_J} {r0 : Int32} (hf : fX7_write row N p1 p2 σ τ = some (r0, σ0, τ0)) : jp_M l yX7_write cX7_write 3 none 0 0 Γ Z σ τ [.ref (Γ.2.2.1 row), .int p1, .int p2] none σ0 τ0 := by
  refine jp_mk (lv := [(0, .ref (Γ.2.2.1 row)), (1, .int p1), (2, .int p2)]) (by decide) (Nat.le_of_ble_eq_true rfl) rfl fun p e s m args below meth c B => ?_
  obtain ⟨hx, hb, hml, hown, hts, hr, hlk, hE⟩ := id B
  unfold fX7_write at hf
  intro H locs ls hP hS hl
  refine lv_iload_n hx hb dX7_write_0 rfl (lv_at hl 1 rfl) ?_
  refine lv_if_lt (tgt := 14) hx hb dX7_write_1 (by decide) (fun c_1 => ?_) (fun c_1 => ?_)
  · rw [if_pos c_1] at hf
    exact jp_endv B hP hS dX7_write_14 (jp_inj hf)
  · rw [if_neg c_1] at hf
    refine lv_iload_n hx hb dX7_write_4 rfl (lv_at hl 1 rfl) ?_
    refine lv_aload_n hx hb dX7_write_5 rfl (lv_at hl 0 rfl) ?_
    refine jp_alen B hP hX0 dX7_write_6 ?_
    refine lv_icmp_ge (tgt := 14) hx hb dX7_write_7 (by decide) (fun c_2 => ?_) (fun c_2 => ?_)
    · rw [if_pos c_2] at hf
      exact jp_endv B hP hS dX7_write_14 (jp_inj hf)
    · rw [if_neg c_2] at hf
      refine lv_aload_n hx hb dX7_write_10 rfl (lv_at hl 0 rfl) ?_
      refine lv_iload_n hx hb dX7_write_11 rfl (lv_at hl 1 rfl) ?_
      refine lv_iload_n hx hb dX7_write_12 rfl (lv_at hl 2 rfl) ?_
      obtain ⟨g_3, hf⟩ := jp_if hf
      refine jp_iast B hP hS hX0 (jp_ok_vp g_3) dX7_write_13 (fun H locs hP hS => ?_)
      exact jp_endv B hP hS dX7_write_14 (jp_inj hf)
end
-- X7_ownCost
section
variable {p : Program} {l : Launch} {e : Jvm.Env} {s : State} {m : MethodId} {args : Array Value} {below : List Frame} {meth : Method} {c : Code} {Γ : jp_G} {Z : Nat → Option jp_Sh} {r0 : Int32} {σ0 : jp_I} {τ0 : jp_J}
def fX7_ownCost (p0 : Int32) (p1 : Int32) (p2 : Int32) (σ : jp_I) (τ : jp_J) : Option (Int32 × jp_I × jp_J) :=
  if p0 = p1 then (if p1 = p2 then (some (0, σ, τ)) else (some (1, σ, τ))) else (some (1, σ, τ))
set_option maxHeartbeats 4000000 in
set_option maxRecDepth 20000 in
theorem ctX7_ownCost {l : Launch} {Γ : jp_G} {Z : Nat → Option jp_Sh} {p0 : Int32} {p1 : Int32} {p2 : Int32} {σ σ0 : jp_I} {τ τ0 : jp_J} {r0 : Int32} (hf : fX7_ownCost p0 p1 p2 σ τ = some (r0, σ0, τ0)) : jp_M l yX7_ownCost cX7_ownCost 3 (some .int) 0 0 Γ Z σ τ [.int p0, .int p1, .int p2] (some (.int r0)) σ0 τ0 := by
  refine jp_mk (lv := [(0, .int p0), (1, .int p1), (2, .int p2)]) (by decide) (Nat.le_of_ble_eq_true rfl) rfl fun p e s m args below meth c B => ?_
  obtain ⟨hx, hb, hml, hown, hts, hr, hlk, hE⟩ := id B
  unfold fX7_ownCost at hf
  intro H locs ls hP hS hl
  refine lv_iload_n hx hb dX7_ownCost_0 rfl (lv_at hl 0 rfl) ?_
  refine lv_iload_n hx hb dX7_ownCost_1 rfl (lv_at hl 1 rfl) ?_
  refine lv_icmp_ne (tgt := 14) hx hb dX7_ownCost_2 (by decide) (fun c_1 => ?_) (fun c_1 => ?_)
  · rw [if_neg c_1] at hf
    refine lv_iconst (v := 1) hx hb dX7_ownCost_14 (by decide) ?_
    exact jp_endi B hP hS dX7_ownCost_15 (jp_inj hf)
  · rw [if_pos c_1] at hf
    refine lv_iload_n hx hb dX7_ownCost_5 rfl (lv_at hl 1 rfl) ?_
    refine lv_iload_n hx hb dX7_ownCost_6 rfl (lv_at hl 2 rfl) ?_
    refine lv_icmp_ne (tgt := 14) hx hb dX7_ownCost_7 (by decide) (fun c_2 => ?_) (fun c_2 => ?_)
    · rw [if_neg c_2] at hf
      refine lv_iconst (v := 1) hx hb dX7_ownCost_14 (by decide) ?_
      exact jp_endi B hP hS dX7_ownCost_15 (jp_inj hf)
    · rw [if_pos c_2] at hf
      refine lv_iconst (v := 0) hx hb dX7_ownCost_10 (by decide) ?_
      refine lv_goto (tgt := 15) hx hb dX7_ownCost_11 (by decide) ?_
      exact jp_endi B hP hS dX7_ownCost_15 (jp_inj hf)
end
-- X7_ownerOf
section
variable {p : Program} {l : Launch} {e : Jvm.Env} {s : State} {m : MethodId} {args : Array Value} {below : List Frame} {meth : Method} {c : Code} {Γ : jp_G} {Z : Nat → Option jp_Sh} {r0 : Int32} {σ0 : jp_I} {τ0 : jp_J}
def sX7_ownerOf_2 (row : Nat) (N : Nat) (x1 : Int32) (x2 : Int32) (σ : jp_I) (τ : jp_J) : Option (Sum (Int32) (Sum (Unit) Int32) × jp_I × jp_J) :=
  if (nI N) ≤ x2 then (some (.inr (.inl ()), σ, τ)) else (if jp_ok x2 N = true then if (σ row x2.toNatClampNeg) = x1 then (some (.inr (.inr x2), σ, τ)) else (some (.inl (x2 + 1), σ, τ)) else none)
set_option maxHeartbeats 4000000 in
set_option maxRecDepth 20000 in
theorem wsX7_ownerOf_2 (B : jp_B Γ p s m args meth c RX7 cX7_ownerOf 3 (some .int)) {row : Nat} {N : Nat} (hX0 : jp_hA Z row N) {x1 : Int32} {x2 : Int32} {σ : jp_I} {τ : jp_J} {q : Sum (Int32) (Sum (Unit) Int32) × jp_I × jp_J} (hf : sX7_ownerOf_2 row N x1 x2 σ τ = some q) (kb : ∀ v : Int32, q.1 = .inl v → jp_at p l e (jp_R 0 0) s m args below meth c (MQ below (jp_Q Γ Z (some (.int r0)) σ0 τ0) args s 0 0 (jp_A Γ)) 3 Γ Z 2 [(0, .ref (Γ.2.2.1 row)), (1, .int x1), (2, .int v)] [] q.2.1 q.2.2) (kx : ∀ v : Unit, q.1 = .inr (.inl v) → jp_at p l e (jp_R 0 0) s m args below meth c (MQ below (jp_Q Γ Z (some (.int r0)) σ0 τ0) args s 0 0 (jp_A Γ)) 3 Γ Z 23 [] [] q.2.1 q.2.2) (kr : ∀ v : Int32, q.1 = .inr (.inr v) → r0 = v ∧ σ0 = q.2.1 ∧ τ0 = q.2.2) : jp_at p l e (jp_R 0 0) s m args below meth c (MQ below (jp_Q Γ Z (some (.int r0)) σ0 τ0) args s 0 0 (jp_A Γ)) 3 Γ Z 2 [(0, .ref (Γ.2.2.1 row)), (1, .int x1), (2, .int x2)] [] σ τ := by
  obtain ⟨hx, hb, hml, hown, hts, hr, hlk, hE⟩ := id B
  unfold sX7_ownerOf_2 at hf
  intro H locs ls hP hS hl
  refine lv_iload_n hx hb dX7_ownerOf_2 rfl (lv_at hl 2 rfl) ?_
  refine lv_aload_n hx hb dX7_ownerOf_3 rfl (lv_at hl 0 rfl) ?_
  refine jp_alen B hP hX0 dX7_ownerOf_4 ?_
  refine lv_icmp_ge (tgt := 23) hx hb dX7_ownerOf_5 (by decide) (fun c_1 => ?_) (fun c_1 => ?_)
  · rw [if_pos c_1] at hf
    obtain rfl := Option.some.inj hf
    exact kx _ rfl H locs ls hP hS (lv_sub hl [] rfl)
  · rw [if_neg c_1] at hf
    refine lv_aload_n hx hb dX7_ownerOf_8 rfl (lv_at hl 0 rfl) ?_
    refine lv_iload_n hx hb dX7_ownerOf_9 rfl (lv_at hl 2 rfl) ?_
    obtain ⟨g_2, hf⟩ := jp_if hf
    refine jp_iald B hP hX0 (jp_ok_vp g_2) dX7_ownerOf_10 ?_
    refine lv_iload_n hx hb dX7_ownerOf_11 rfl (lv_at hl 1 rfl) ?_
    refine lv_icmp_ne (tgt := 17) hx hb dX7_ownerOf_12 (by decide) (fun c_3 => ?_) (fun c_3 => ?_)
    · rw [if_neg c_3] at hf
      refine lv_iinc (v := x2 + 1) (lv' := [(2, .int (x2 + 1)), (0, .ref (Γ.2.2.1 row)), (1, .int x1)]) hx hb dX7_ownerOf_17 hl (k := 2) rfl rfl (by decide) rfl (fun ls hl => ?_)
      refine lv_goto (tgt := 2) hx hb dX7_ownerOf_20 (by decide) ?_
      obtain rfl := Option.some.inj hf
      exact kb _ rfl H locs ls hP hS (lv_sub hl [1, 2, 0] rfl)
    · rw [if_pos c_3] at hf
      refine lv_iload_n hx hb dX7_ownerOf_15 rfl (lv_at hl 2 rfl) ?_
      obtain rfl := Option.some.inj hf
      exact jp_endi B hP hS dX7_ownerOf_16 (kr _ rfl)
set_option maxHeartbeats 4000000 in
theorem lX7_ownerOf_2 (B : jp_B Γ p s m args meth c RX7 cX7_ownerOf 3 (some .int)) {row : Nat} {N : Nat} (hX0 : jp_hA Z row N) {x1 : Int32} {e1 : Sum (Unit) Int32} {σ1 : jp_I} {τ1 : jp_J} (kx : ∀ v : Unit, e1 = .inl v → jp_at p l e (jp_R 0 0) s m args below meth c (MQ below (jp_Q Γ Z (some (.int r0)) σ0 τ0) args s 0 0 (jp_A Γ)) 3 Γ Z 23 [] [] σ1 τ1) (kr : ∀ v : Int32, e1 = .inr v → r0 = v ∧ σ0 = σ1 ∧ τ0 = τ1) : ∀ (k : Nat) (v : Int32) (σ : jp_I) (τ : jp_J), jp_loop (fun q : (Int32) × jp_I × jp_J => sX7_ownerOf_2 row N x1 q.1 q.2.1 q.2.2) k (v, σ, τ) = some (e1, σ1, τ1) → jp_at p l e (jp_R 0 0) s m args below meth c (MQ below (jp_Q Γ Z (some (.int r0)) σ0 τ0) args s 0 0 (jp_A Γ)) 3 Γ Z 2 [(0, .ref (Γ.2.2.1 row)), (1, .int x1), (2, .int v)] [] σ τ := by
  refine jp_loopI (P := fun v σ τ => jp_at p l e (jp_R 0 0) s m args below meth c (MQ below (jp_Q Γ Z (some (.int r0)) σ0 τ0) args s 0 0 (jp_A Γ)) 3 Γ Z 2 [(0, .ref (Γ.2.2.1 row)), (1, .int x1), (2, .int v)] [] σ τ) (fun v σ τ q hq hbk hen => ?_)
  exact wsX7_ownerOf_2 B hX0 hq (fun v' hv => hbk v' hv) (fun x hv => by obtain ⟨h1, h2, h3⟩ := hen _ hv; rw [h2, h3]; exact kx x h1.symm) (fun r hv => by obtain ⟨h1, h2, h3⟩ := hen _ hv; rw [h2, h3]; exact kr r h1.symm)
def fX7_ownerOf (row : Nat) (N : Nat) (p1 : Int32) (σ : jp_I) (τ : jp_J) : Option (Int32 × jp_I × jp_J) :=
  (jp_loop (fun q : (Int32) × jp_I × jp_J => sX7_ownerOf_2 row N p1 q.1 q.2.1 q.2.2) jp_F (0, σ, τ)).bind fun (e_1, σ_1, τ_1) => match e_1 with
    | .inl _ => (some ((-1), σ_1, τ_1))
    | .inr r_1 => some (r_1, σ_1, τ_1)
set_option maxHeartbeats 4000000 in
set_option maxRecDepth 20000 in
theorem ctX7_ownerOf {l : Launch} {Γ : jp_G} {Z : Nat → Option jp_Sh} {row : Nat} {N : Nat} (hX0 : jp_hA Z row N) {p1 : Int32} {σ σ0 : jp_I} {τ τ0 : jp_J} {r0 : Int32} (hf : fX7_ownerOf row N p1 σ τ = some (r0, σ0, τ0)) : jp_M l yX7_ownerOf cX7_ownerOf 3 (some .int) 0 0 Γ Z σ τ [.ref (Γ.2.2.1 row), .int p1] (some (.int r0)) σ0 τ0 := by
  refine jp_mk (lv := [(0, .ref (Γ.2.2.1 row)), (1, .int p1)]) (by decide) (Nat.le_of_ble_eq_true rfl) rfl fun p e s m args below meth c B => ?_
  obtain ⟨hx, hb, hml, hown, hts, hr, hlk, hE⟩ := id B
  unfold fX7_ownerOf at hf
  intro H locs ls hP hS hl
  refine lv_iconst (v := 0) hx hb dX7_ownerOf_0 (by decide) ?_
  refine lv_istore_n (lv' := [(2, .int 0), (0, .ref (Γ.2.2.1 row)), (1, .int p1)]) hx hb dX7_ownerOf_1 rfl hl (by decide) rfl (fun ls hl => ?_)
  obtain ⟨⟨e_1, σ_1, τ_1⟩, h_1, hf⟩ := jp_bind hf
  refine lX7_ownerOf_2 B hX0 (x1 := p1) (fun v_1 k_1 => ?_) (fun r_1 k_1 => ?_) _ _ _ _ h_1 H locs ls hP hS (lv_sub hl [1, 2, 0] rfl)
  · subst k_1
    dsimp only at hf
    intro H locs ls hP hS hl
    refine lv_iconst (v := -1) hx hb dX7_ownerOf_23 (by decide) ?_
    exact jp_endi B hP hS dX7_ownerOf_24 (jp_inj hf)
  · subst k_1
    dsimp only at hf
    exact jp_inj hf
end
end
