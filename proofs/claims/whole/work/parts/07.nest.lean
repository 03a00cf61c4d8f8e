theorem nw_101 : (Cond.methodLinkNest RX7 24 yX5_init "JointPlans") ∈ jp_ns := jp_nin (i := 101) (by decide +kernel) (by decide +kernel)
theorem nw_107 : (Cond.methodLinkNest RX5 11 yX0_init "JointPlans") ∈ jp_ns := jp_nin (i := 107) (by decide +kernel) (by decide +kernel)
theorem nw_116 : (Cond.fieldLinkNest RX7 176 RX0 "width" "I" "JointPlans") ∈ jp_ns := jp_nin (i := 116) (by decide +kernel) (by decide +kernel)
theorem nw_118 : (Cond.fieldLinkNest RX7 179 RX0 "height" "I" "JointPlans") ∈ jp_ns := jp_nin (i := 118) (by decide +kernel) (by decide +kernel)
theorem nw_120 : (Cond.fieldLinkNest RX7 182 RX0 "walls" "I" "JointPlans") ∈ jp_ns := jp_nin (i := 120) (by decide +kernel) (by decide +kernel)
theorem nw_137 : (Cond.fieldLinkNest RX1 15 RX5 "robots" "I" "JointPlans") ∈ jp_ns := jp_nin (i := 137) (by decide +kernel) (by decide +kernel)
theorem nw_139 : (Cond.fieldLinkNest RX4 28 RX5 "robots" "I" "JointPlans") ∈ jp_ns := jp_nin (i := 139) (by decide +kernel) (by decide +kernel)
theorem nw_141 : (Cond.fieldLinkNest RX7 78 RX5 "floor" "LJointPlans$Floor;" "JointPlans") ∈ jp_ns := jp_nin (i := 141) (by decide +kernel) (by decide +kernel)
theorem nw_142 : (Cond.fieldLinkNest RX4 125 RX5 "floor" "LJointPlans$Floor;" "JointPlans") ∈ jp_ns := jp_nin (i := 142) (by decide +kernel) (by decide +kernel)
theorem nw_143 : (Cond.fieldLinkNest RX1 121 RX5 "floor" "LJointPlans$Floor;" "JointPlans") ∈ jp_ns := jp_nin (i := 143) (by decide +kernel) (by decide +kernel)
theorem nw_145 : (Cond.fieldLinkNest RX1 46 RX5 "starts" "[I" "JointPlans") ∈ jp_ns := jp_nin (i := 145) (by decide +kernel) (by decide +kernel)
theorem nw_146 : (Cond.fieldLinkNest RX7 92 RX5 "starts" "[I" "JointPlans") ∈ jp_ns := jp_nin (i := 146) (by decide +kernel) (by decide +kernel)
theorem nw_147 : (Cond.fieldLinkNest RX4 83 RX5 "starts" "[I" "JointPlans") ∈ jp_ns := jp_nin (i := 147) (by decide +kernel) (by decide +kernel)
theorem nw_149 : (Cond.fieldLinkNest RX1 33 RX5 "ends" "[I" "JointPlans") ∈ jp_ns := jp_nin (i := 149) (by decide +kernel) (by decide +kernel)
theorem nw_150 : (Cond.fieldLinkNest RX7 100 RX5 "ends" "[I" "JointPlans") ∈ jp_ns := jp_nin (i := 150) (by decide +kernel) (by decide +kernel)
theorem nw_151 : (Cond.fieldLinkNest RX4 86 RX5 "ends" "[I" "JointPlans") ∈ jp_ns := jp_nin (i := 151) (by decide +kernel) (by decide +kernel)
theorem nw_153 : (Cond.fieldLinkNest RX7 116 RX5 "swapsBarred" "Z" "JointPlans") ∈ jp_ns := jp_nin (i := 153) (by decide +kernel) (by decide +kernel)
theorem nw_154 : (Cond.fieldLinkNest RX4 138 RX5 "swapsBarred" "Z" "JointPlans") ∈ jp_ns := jp_nin (i := 154) (by decide +kernel) (by decide +kernel)
theorem nw_155 : (Cond.fieldLinkNest RX1 134 RX5 "swapsBarred" "Z" "JointPlans") ∈ jp_ns := jp_nin (i := 155) (by decide +kernel) (by decide +kernel)
theorem nw_167 : (Cond.methodLinkNest RX7 31 yX5_renew "JointPlans") ∈ jp_ns := jp_nin (i := 167) (by decide +kernel) (by decide +kernel)
theorem nw_171 : (Cond.methodLinkNest RX5 33 yX0_clear "JointPlans") ∈ jp_ns := jp_nin (i := 171) (by decide +kernel) (by decide +kernel)
theorem nw_186 : (Cond.fieldLinkNest RX0 59 RX7 "MOVE_X" "[I" "JointPlans") ∈ jp_ns := jp_nin (i := 186) (by decide +kernel) (by decide +kernel)
theorem nw_188 : (Cond.methodLinkNest RX0 43 yX7_read "JointPlans") ∈ jp_ns := jp_nin (i := 188) (by decide +kernel) (by decide +kernel)
theorem nw_191 : (Cond.fieldLinkNest RX0 62 RX7 "MOVE_Y" "[I" "JointPlans") ∈ jp_ns := jp_nin (i := 191) (by decide +kernel) (by decide +kernel)
theorem nw_201 : (Cond.methodLinkNest RX0 51 yX7_write "JointPlans") ∈ jp_ns := jp_nin (i := 201) (by decide +kernel) (by decide +kernel)
theorem nw_207 : (Cond.methodLinkNest RX7 37 yX6_init "JointPlans") ∈ jp_ns := jp_nin (i := 207) (by decide +kernel) (by decide +kernel)
theorem nw_212 : (Cond.fieldLinkNest RX4 76 RX6 "order" "[I" "JointPlans") ∈ jp_ns := jp_nin (i := 212) (by decide +kernel) (by decide +kernel)
theorem nw_214 : (Cond.fieldLinkNest RX7 122 RX6 "state" "J" "JointPlans") ∈ jp_ns := jp_nin (i := 214) (by decide +kernel) (by decide +kernel)
theorem nw_222 : (Cond.methodLinkNest RX7 44 yX1_init "JointPlans") ∈ jp_ns := jp_nin (i := 222) (by decide +kernel) (by decide +kernel)
theorem nw_226 : (Cond.methodLinkNest RX1 22 yX7_jointStates "JointPlans") ∈ jp_ns := jp_nin (i := 226) (by decide +kernel) (by decide +kernel)
theorem nw_253 : (Cond.methodLinkNest RX7 49 yX4_init "JointPlans") ∈ jp_ns := jp_nin (i := 253) (by decide +kernel) (by decide +kernel)
theorem nw_259 : (Cond.methodLinkNest RX4 34 yX7_mostSteps "JointPlans") ∈ jp_ns := jp_nin (i := 259) (by decide +kernel) (by decide +kernel)
theorem nw_263 : (Cond.methodLinkNest RX4 38 yX2_init "JointPlans") ∈ jp_ns := jp_nin (i := 263) (by decide +kernel) (by decide +kernel)
theorem nw_269 : (Cond.fieldLinkNest RX1 69 RX2 "steps" "I" "JointPlans") ∈ jp_ns := jp_nin (i := 269) (by decide +kernel) (by decide +kernel)
theorem nw_271 : (Cond.fieldLinkNest RX4 104 RX2 "steps" "I" "JointPlans") ∈ jp_ns := jp_nin (i := 271) (by decide +kernel) (by decide +kernel)
theorem nw_272 : (Cond.fieldLinkNest RX7 152 RX2 "steps" "I" "JointPlans") ∈ jp_ns := jp_nin (i := 272) (by decide +kernel) (by decide +kernel)
theorem nw_274 : (Cond.fieldLinkNest RX4 60 RX2 "cost" "I" "JointPlans") ∈ jp_ns := jp_nin (i := 274) (by decide +kernel) (by decide +kernel)
theorem nw_275 : (Cond.fieldLinkNest RX1 56 RX2 "cost" "I" "JointPlans") ∈ jp_ns := jp_nin (i := 275) (by decide +kernel) (by decide +kernel)
theorem nw_276 : (Cond.fieldLinkNest RX7 137 RX2 "cost" "I" "JointPlans") ∈ jp_ns := jp_nin (i := 276) (by decide +kernel) (by decide +kernel)
theorem nw_304 : (Cond.methodLinkNest RX7 62 yX2_init "JointPlans") ∈ jp_ns := jp_nin (i := 304) (by decide +kernel) (by decide +kernel)
theorem nw_329 : (Cond.methodLinkNest RX7 140 yX2_isMade "JointPlans") ∈ jp_ns := jp_nin (i := 329) (by decide +kernel) (by decide +kernel)
theorem nw_417 : (Cond.methodLinkNest RX7 75 yX2_drop "JointPlans") ∈ jp_ns := jp_nin (i := 417) (by decide +kernel) (by decide +kernel)
theorem nw_430 : (Cond.methodLinkNest RX7 82 yX0_cellAt "JointPlans") ∈ jp_ns := jp_nin (i := 430) (by decide +kernel) (by decide +kernel)
theorem nw_471 : (Cond.methodLinkNest RX7 108 yX0_build "JointPlans") ∈ jp_ns := jp_nin (i := 471) (by decide +kernel) (by decide +kernel)
theorem nw_491 : (Cond.methodLinkNest RX7 185 yX0_isWall "JointPlans") ∈ jp_ns := jp_nin (i := 491) (by decide +kernel) (by decide +kernel)
theorem nw_521 : (Cond.methodLinkNest RX7 158 yX5_isComplete "JointPlans") ∈ jp_ns := jp_nin (i := 521) (by decide +kernel) (by decide +kernel)
theorem nw_525 : (Cond.methodLinkNest RX5 43 yX7_read "JointPlans") ∈ jp_ns := jp_nin (i := 525) (by decide +kernel) (by decide +kernel)
theorem nw_541 : (Cond.methodLinkNest RX1 53 yX7_read "JointPlans") ∈ jp_ns := jp_nin (i := 541) (by decide +kernel) (by decide +kernel)
theorem nw_551 : (Cond.methodLinkNest RX1 100 yX7_write "JointPlans") ∈ jp_ns := jp_nin (i := 551) (by decide +kernel) (by decide +kernel)
theorem nw_560 : (Cond.methodLinkNest RX1 125 yX0_moved "JointPlans") ∈ jp_ns := jp_nin (i := 560) (by decide +kernel) (by decide +kernel)
theorem nw_568 : (Cond.methodLinkNest RX1 131 yX7_ownCost "JointPlans") ∈ jp_ns := jp_nin (i := 568) (by decide +kernel) (by decide +kernel)
theorem nw_575 : (Cond.methodLinkNest RX1 61 yX2_isMade "JointPlans") ∈ jp_ns := jp_nin (i := 575) (by decide +kernel) (by decide +kernel)
theorem nw_584 : (Cond.methodLinkNest RX1 114 yX2_put "JointPlans") ∈ jp_ns := jp_nin (i := 584) (by decide +kernel) (by decide +kernel)
theorem nw_588 : (Cond.methodLinkNest RX2 29 yX7_write "JointPlans") ∈ jp_ns := jp_nin (i := 588) (by decide +kernel) (by decide +kernel)
theorem nw_589 : (Cond.methodLinkNest RX1 108 yX7_mostSteps "JointPlans") ∈ jp_ns := jp_nin (i := 589) (by decide +kernel) (by decide +kernel)
theorem nw_604 : (Cond.methodLinkNest RX4 45 yX6_reset "JointPlans") ∈ jp_ns := jp_nin (i := 604) (by decide +kernel) (by decide +kernel)
theorem nw_608 : (Cond.methodLinkNest RX4 50 yX6_draw "JointPlans") ∈ jp_ns := jp_nin (i := 608) (by decide +kernel) (by decide +kernel)
theorem nw_621 : (Cond.methodLinkNest RX6 32 yX7_read "JointPlans") ∈ jp_ns := jp_nin (i := 621) (by decide +kernel) (by decide +kernel)
theorem nw_622 : (Cond.methodLinkNest RX6 38 yX7_write "JointPlans") ∈ jp_ns := jp_nin (i := 622) (by decide +kernel) (by decide +kernel)
theorem nw_628 : (Cond.methodLinkNest RX4 73 yX2_drop "JointPlans") ∈ jp_ns := jp_nin (i := 628) (by decide +kernel) (by decide +kernel)
theorem nw_629 : (Cond.methodLinkNest RX4 79 yX7_read "JointPlans") ∈ jp_ns := jp_nin (i := 629) (by decide +kernel) (by decide +kernel)
theorem nw_634 : (Cond.methodLinkNest RX4 118 yX7_write "JointPlans") ∈ jp_ns := jp_nin (i := 634) (by decide +kernel) (by decide +kernel)
theorem nw_639 : (Cond.methodLinkNest RX4 129 yX0_moved "JointPlans") ∈ jp_ns := jp_nin (i := 639) (by decide +kernel) (by decide +kernel)
theorem nw_644 : (Cond.methodLinkNest RX4 142 yX7_ownCost "JointPlans") ∈ jp_ns := jp_nin (i := 644) (by decide +kernel) (by decide +kernel)
theorem nw_649 : (Cond.methodLinkNest RX4 107 yX2_put "JointPlans") ∈ jp_ns := jp_nin (i := 649) (by decide +kernel) (by decide +kernel)
theorem nw_658 : (Cond.methodLinkNest RX4 114 yX2_cellOf "JointPlans") ∈ jp_ns := jp_nin (i := 658) (by decide +kernel) (by decide +kernel)
theorem nw_662 : (Cond.methodLinkNest RX2 25 yX7_read "JointPlans") ∈ jp_ns := jp_nin (i := 662) (by decide +kernel) (by decide +kernel)
theorem nw_671 : (Cond.methodLinkNest RX4 56 yX2_isMade "JointPlans") ∈ jp_ns := jp_nin (i := 671) (by decide +kernel) (by decide +kernel)
theorem nw_672 : (Cond.methodLinkNest RX4 63 yX2_copy "JointPlans") ∈ jp_ns := jp_nin (i := 672) (by decide +kernel) (by decide +kernel)
theorem nw_689 : (Cond.methodLinkNest RX7 155 yX2_cellOf "JointPlans") ∈ jp_ns := jp_nin (i := 689) (by decide +kernel) (by decide +kernel)
theorem nw_705 : (Cond.methodLinkNest RX7 164 yX5_way "JointPlans") ∈ jp_ns := jp_nin (i := 705) (by decide +kernel) (by decide +kernel)
theorem nw_709 : (Cond.methodLinkNest RX5 47 yX0_movesBetween "JointPlans") ∈ jp_ns := jp_nin (i := 709) (by decide +kernel) (by decide +kernel)
theorem nw_725 : (Cond.methodLinkNest RX7 167 yX5_allWays "JointPlans") ∈ jp_ns := jp_nin (i := 725) (by decide +kernel) (by decide +kernel)
theorem ddX0_init : yX0_init.cls ≠ "java/lang/invoke/MethodHandle" ∧ yX0_init.cls ≠ "java/lang/invoke/VarHandle" ∧ (parseMethodDescriptor yX0_init.desc).map (fun d => d.parameters.length) = some 0 := by decide +kernel
theorem ddX0_clear : yX0_clear.cls ≠ "java/lang/invoke/MethodHandle" ∧ yX0_clear.cls ≠ "java/lang/invoke/VarHandle" ∧ (parseMethodDescriptor yX0_clear.desc).map (fun d => d.parameters.length) = some 2 := by decide +kernel
theorem ddX0_cellAt : yX0_cellAt.cls ≠ "java/lang/invoke/MethodHandle" ∧ yX0_cellAt.cls ≠ "java/lang/invoke/VarHandle" ∧ (parseMethodDescriptor yX0_cellAt.desc).map (fun d => d.parameters.length) = some 2 := by decide +kernel
theorem ddX0_isWall : yX0_isWall.cls ≠ "java/lang/invoke/MethodHandle" ∧ yX0_isWall.cls ≠ "java/lang/invoke/VarHandle" ∧ (parseMethodDescriptor yX0_isWall.desc).map (fun d => d.parameters.length) = some 1 := by decide +kernel
theorem ddX0_build : yX0_build.cls ≠ "java/lang/invoke/MethodHandle" ∧ yX0_build.cls ≠ "java/lang/invoke/VarHandle" ∧ (parseMethodDescriptor yX0_build.desc).map (fun d => d.parameters.length) = some 2 := by decide +kernel
theorem ddX0_chart : yX0_chart.cls ≠ "java/lang/invoke/MethodHandle" ∧ yX0_chart.cls ≠ "java/lang/invoke/VarHandle" ∧ (parseMethodDescriptor yX0_chart.desc).map (fun d => d.parameters.length) = some 0 := by decide +kernel
theorem ddX0_target : yX0_target.cls ≠ "java/lang/invoke/MethodHandle" ∧ yX0_target.cls ≠ "java/lang/invoke/VarHandle" ∧ (parseMethodDescriptor yX0_target.desc).map (fun d => d.parameters.length) = some 2 := by decide +kernel
theorem ddX0_moved : yX0_moved.cls ≠ "java/lang/invoke/MethodHandle" ∧ yX0_moved.cls ≠ "java/lang/invoke/VarHandle" ∧ (parseMethodDescriptor yX0_moved.desc).map (fun d => d.parameters.length) = some 2 := by decide +kernel
theorem ddX0_movesBetween : yX0_movesBetween.cls ≠ "java/lang/invoke/MethodHandle" ∧ yX0_movesBetween.cls ≠ "java/lang/invoke/VarHandle" ∧ (parseMethodDescriptor yX0_movesBetween.desc).map (fun d => d.parameters.length) = some 2 := by decide +kernel
theorem ddX0_spread : yX0_spread.cls ≠ "java/lang/invoke/MethodHandle" ∧ yX0_spread.cls ≠ "java/lang/invoke/VarHandle" ∧ (parseMethodDescriptor yX0_spread.desc).map (fun d => d.parameters.length) = some 2 := by decide +kernel
theorem ddX1_init : yX1_init.cls ≠ "java/lang/invoke/MethodHandle" ∧ yX1_init.cls ≠ "java/lang/invoke/VarHandle" ∧ (parseMethodDescriptor yX1_init.desc).map (fun d => d.parameters.length) = some 1 := by decide +kernel
theorem ddX1_make : yX1_make.cls ≠ "java/lang/invoke/MethodHandle" ∧ yX1_make.cls ≠ "java/lang/invoke/VarHandle" ∧ (parseMethodDescriptor yX1_make.desc).map (fun d => d.parameters.length) = some 2 := by decide +kernel
theorem ddX1_placeOf : yX1_placeOf.cls ≠ "java/lang/invoke/MethodHandle" ∧ yX1_placeOf.cls ≠ "java/lang/invoke/VarHandle" ∧ (parseMethodDescriptor yX1_placeOf.desc).map (fun d => d.parameters.length) = some 2 := by decide +kernel
theorem ddX1_measure : yX1_measure.cls ≠ "java/lang/invoke/MethodHandle" ∧ yX1_measure.cls ≠ "java/lang/invoke/VarHandle" ∧ (parseMethodDescriptor yX1_measure.desc).map (fun d => d.parameters.length) = some 2 := by decide +kernel
theorem ddX1_reachBefore : yX1_reachBefore.cls ≠ "java/lang/invoke/MethodHandle" ∧ yX1_reachBefore.cls ≠ "java/lang/invoke/VarHandle" ∧ (parseMethodDescriptor yX1_reachBefore.desc).map (fun d => d.parameters.length) = some 3 := by decide +kernel
theorem ddX1_reach : yX1_reach.cls ≠ "java/lang/invoke/MethodHandle" ∧ yX1_reach.cls ≠ "java/lang/invoke/VarHandle" ∧ (parseMethodDescriptor yX1_reach.desc).map (fun d => d.parameters.length) = some 2 := by decide +kernel
theorem ddX1_walk : yX1_walk.cls ≠ "java/lang/invoke/MethodHandle" ∧ yX1_walk.cls ≠ "java/lang/invoke/VarHandle" ∧ (parseMethodDescriptor yX1_walk.desc).map (fun d => d.parameters.length) = some 2 := by decide +kernel
theorem ddX1_note : yX1_note.cls ≠ "java/lang/invoke/MethodHandle" ∧ yX1_note.cls ≠ "java/lang/invoke/VarHandle" ∧ (parseMethodDescriptor yX1_note.desc).map (fun d => d.parameters.length) = some 3 := by decide +kernel
theorem ddX1_follow : yX1_follow.cls ≠ "java/lang/invoke/MethodHandle" ∧ yX1_follow.cls ≠ "java/lang/invoke/VarHandle" ∧ (parseMethodDescriptor yX1_follow.desc).map (fun d => d.parameters.length) = some 1 := by decide +kernel
theorem ddX1_keeps : yX1_keeps.cls ≠ "java/lang/invoke/MethodHandle" ∧ yX1_keeps.cls ≠ "java/lang/invoke/VarHandle" ∧ (parseMethodDescriptor yX1_keeps.desc).map (fun d => d.parameters.length) = some 3 := by decide +kernel
theorem ddX1_next : yX1_next.cls ≠ "java/lang/invoke/MethodHandle" ∧ yX1_next.cls ≠ "java/lang/invoke/VarHandle" ∧ (parseMethodDescriptor yX1_next.desc).map (fun d => d.parameters.length) = some 3 := by decide +kernel
theorem ddX1_stepCost : yX1_stepCost.cls ≠ "java/lang/invoke/MethodHandle" ∧ yX1_stepCost.cls ≠ "java/lang/invoke/VarHandle" ∧ (parseMethodDescriptor yX1_stepCost.desc).map (fun d => d.parameters.length) = some 4 := by decide +kernel
theorem ddX1_fits : yX1_fits.cls ≠ "java/lang/invoke/MethodHandle" ∧ yX1_fits.cls ≠ "java/lang/invoke/VarHandle" ∧ (parseMethodDescriptor yX1_fits.desc).map (fun d => d.parameters.length) = some 4 := by decide +kernel
theorem ddX2_init : yX2_init.cls ≠ "java/lang/invoke/MethodHandle" ∧ yX2_init.cls ≠ "java/lang/invoke/VarHandle" ∧ (parseMethodDescriptor yX2_init.desc).map (fun d => d.parameters.length) = some 2 := by decide +kernel
theorem ddX2_isMade : yX2_isMade.cls ≠ "java/lang/invoke/MethodHandle" ∧ yX2_isMade.cls ≠ "java/lang/invoke/VarHandle" ∧ (parseMethodDescriptor yX2_isMade.desc).map (fun d => d.parameters.length) = some 0 := by decide +kernel
theorem ddX2_drop : yX2_drop.cls ≠ "java/lang/invoke/MethodHandle" ∧ yX2_drop.cls ≠ "java/lang/invoke/VarHandle" ∧ (parseMethodDescriptor yX2_drop.desc).map (fun d => d.parameters.length) = some 0 := by decide +kernel
theorem ddX2_cellOf : yX2_cellOf.cls ≠ "java/lang/invoke/MethodHandle" ∧ yX2_cellOf.cls ≠ "java/lang/invoke/VarHandle" ∧ (parseMethodDescriptor yX2_cellOf.desc).map (fun d => d.parameters.length) = some 2 := by decide +kernel
theorem ddX2_put : yX2_put.cls ≠ "java/lang/invoke/MethodHandle" ∧ yX2_put.cls ≠ "java/lang/invoke/VarHandle" ∧ (parseMethodDescriptor yX2_put.desc).map (fun d => d.parameters.length) = some 3 := by decide +kernel
theorem ddX2_copy : yX2_copy.cls ≠ "java/lang/invoke/MethodHandle" ∧ yX2_copy.cls ≠ "java/lang/invoke/VarHandle" ∧ (parseMethodDescriptor yX2_copy.desc).map (fun d => d.parameters.length) = some 1 := by decide +kernel
theorem ddX4_init : yX4_init.cls ≠ "java/lang/invoke/MethodHandle" ∧ yX4_init.cls ≠ "java/lang/invoke/VarHandle" ∧ (parseMethodDescriptor yX4_init.desc).map (fun d => d.parameters.length) = some 2 := by decide +kernel
theorem ddX4_make : yX4_make.cls ≠ "java/lang/invoke/MethodHandle" ∧ yX4_make.cls ≠ "java/lang/invoke/VarHandle" ∧ (parseMethodDescriptor yX4_make.desc).map (fun d => d.parameters.length) = some 2 := by decide +kernel
theorem ddX4_tryOrder : yX4_tryOrder.cls ≠ "java/lang/invoke/MethodHandle" ∧ yX4_tryOrder.cls ≠ "java/lang/invoke/VarHandle" ∧ (parseMethodDescriptor yX4_tryOrder.desc).map (fun d => d.parameters.length) = some 0 := by decide +kernel
theorem ddX4_walk : yX4_walk.cls ≠ "java/lang/invoke/MethodHandle" ∧ yX4_walk.cls ≠ "java/lang/invoke/VarHandle" ∧ (parseMethodDescriptor yX4_walk.desc).map (fun d => d.parameters.length) = some 3 := by decide +kernel
theorem ddX4_occupy : yX4_occupy.cls ≠ "java/lang/invoke/MethodHandle" ∧ yX4_occupy.cls ≠ "java/lang/invoke/VarHandle" ∧ (parseMethodDescriptor yX4_occupy.desc).map (fun d => d.parameters.length) = some 1 := by decide +kernel
theorem ddX4_measure : yX4_measure.cls ≠ "java/lang/invoke/MethodHandle" ∧ yX4_measure.cls ≠ "java/lang/invoke/VarHandle" ∧ (parseMethodDescriptor yX4_measure.desc).map (fun d => d.parameters.length) = some 1 := by decide +kernel
theorem ddX4_leastFrom : yX4_leastFrom.cls ≠ "java/lang/invoke/MethodHandle" ∧ yX4_leastFrom.cls ≠ "java/lang/invoke/VarHandle" ∧ (parseMethodDescriptor yX4_leastFrom.desc).map (fun d => d.parameters.length) = some 3 := by decide +kernel
theorem ddX4_costBy : yX4_costBy.cls ≠ "java/lang/invoke/MethodHandle" ∧ yX4_costBy.cls ≠ "java/lang/invoke/VarHandle" ∧ (parseMethodDescriptor yX4_costBy.desc).map (fun d => d.parameters.length) = some 4 := by decide +kernel
theorem ddX4_follow : yX4_follow.cls ≠ "java/lang/invoke/MethodHandle" ∧ yX4_follow.cls ≠ "java/lang/invoke/VarHandle" ∧ (parseMethodDescriptor yX4_follow.desc).map (fun d => d.parameters.length) = some 3 := by decide +kernel
theorem ddX4_stepsOfTrial : yX4_stepsOfTrial.cls ≠ "java/lang/invoke/MethodHandle" ∧ yX4_stepsOfTrial.cls ≠ "java/lang/invoke/VarHandle" ∧ (parseMethodDescriptor yX4_stepsOfTrial.desc).map (fun d => d.parameters.length) = some 0 := by decide +kernel
theorem ddX4_allAtEnds : yX4_allAtEnds.cls ≠ "java/lang/invoke/MethodHandle" ∧ yX4_allAtEnds.cls ≠ "java/lang/invoke/VarHandle" ∧ (parseMethodDescriptor yX4_allAtEnds.desc).map (fun d => d.parameters.length) = some 1 := by decide +kernel
theorem ddX5_init : yX5_init.cls ≠ "java/lang/invoke/MethodHandle" ∧ yX5_init.cls ≠ "java/lang/invoke/VarHandle" ∧ (parseMethodDescriptor yX5_init.desc).map (fun d => d.parameters.length) = some 1 := by decide +kernel
theorem ddX5_renew : yX5_renew.cls ≠ "java/lang/invoke/MethodHandle" ∧ yX5_renew.cls ≠ "java/lang/invoke/VarHandle" ∧ (parseMethodDescriptor yX5_renew.desc).map (fun d => d.parameters.length) = some 2 := by decide +kernel
theorem ddX5_isComplete : yX5_isComplete.cls ≠ "java/lang/invoke/MethodHandle" ∧ yX5_isComplete.cls ≠ "java/lang/invoke/VarHandle" ∧ (parseMethodDescriptor yX5_isComplete.desc).map (fun d => d.parameters.length) = some 1 := by decide +kernel
theorem ddX5_way : yX5_way.cls ≠ "java/lang/invoke/MethodHandle" ∧ yX5_way.cls ≠ "java/lang/invoke/VarHandle" ∧ (parseMethodDescriptor yX5_way.desc).map (fun d => d.parameters.length) = some 1 := by decide +kernel
theorem ddX5_allWays : yX5_allWays.cls ≠ "java/lang/invoke/MethodHandle" ∧ yX5_allWays.cls ≠ "java/lang/invoke/VarHandle" ∧ (parseMethodDescriptor yX5_allWays.desc).map (fun d => d.parameters.length) = some 0 := by decide +kernel
theorem ddX6_init : yX6_init.cls ≠ "java/lang/invoke/MethodHandle" ∧ yX6_init.cls ≠ "java/lang/invoke/VarHandle" ∧ (parseMethodDescriptor yX6_init.desc).map (fun d => d.parameters.length) = some 1 := by decide +kernel
theorem ddX6_reset : yX6_reset.cls ≠ "java/lang/invoke/MethodHandle" ∧ yX6_reset.cls ≠ "java/lang/invoke/VarHandle" ∧ (parseMethodDescriptor yX6_reset.desc).map (fun d => d.parameters.length) = some 0 := by decide +kernel
theorem ddX6_draw : yX6_draw.cls ≠ "java/lang/invoke/MethodHandle" ∧ yX6_draw.cls ≠ "java/lang/invoke/VarHandle" ∧ (parseMethodDescriptor yX6_draw.desc).map (fun d => d.parameters.length) = some 0 := by decide +kernel
theorem ddX6_exchange : yX6_exchange.cls ≠ "java/lang/invoke/MethodHandle" ∧ yX6_exchange.cls ≠ "java/lang/invoke/VarHandle" ∧ (parseMethodDescriptor yX6_exchange.desc).map (fun d => d.parameters.length) = some 2 := by decide +kernel
theorem ddX7_init : yX7_init.cls ≠ "java/lang/invoke/MethodHandle" ∧ yX7_init.cls ≠ "java/lang/invoke/VarHandle" ∧ (parseMethodDescriptor yX7_init.desc).map (fun d => d.parameters.length) = some 1 := by decide +kernel
theorem ddX7_grid : yX7_grid.cls ≠ "java/lang/invoke/MethodHandle" ∧ yX7_grid.cls ≠ "java/lang/invoke/VarHandle" ∧ (parseMethodDescriptor yX7_grid.desc).map (fun d => d.parameters.length) = some 2 := by decide +kernel
theorem ddX7_wall : yX7_wall.cls ≠ "java/lang/invoke/MethodHandle" ∧ yX7_wall.cls ≠ "java/lang/invoke/VarHandle" ∧ (parseMethodDescriptor yX7_wall.desc).map (fun d => d.parameters.length) = some 3 := by decide +kernel
theorem ddX7_start : yX7_start.cls ≠ "java/lang/invoke/MethodHandle" ∧ yX7_start.cls ≠ "java/lang/invoke/VarHandle" ∧ (parseMethodDescriptor yX7_start.desc).map (fun d => d.parameters.length) = some 3 := by decide +kernel
theorem ddX7_end : yX7_end.cls ≠ "java/lang/invoke/MethodHandle" ∧ yX7_end.cls ≠ "java/lang/invoke/VarHandle" ∧ (parseMethodDescriptor yX7_end.desc).map (fun d => d.parameters.length) = some 3 := by decide +kernel
theorem ddX7_swap : yX7_swap.cls ≠ "java/lang/invoke/MethodHandle" ∧ yX7_swap.cls ≠ "java/lang/invoke/VarHandle" ∧ (parseMethodDescriptor yX7_swap.desc).map (fun d => d.parameters.length) = some 1 := by decide +kernel
theorem ddX7_seed : yX7_seed.cls ≠ "java/lang/invoke/MethodHandle" ∧ yX7_seed.cls ≠ "java/lang/invoke/VarHandle" ∧ (parseMethodDescriptor yX7_seed.desc).map (fun d => d.parameters.length) = some 1 := by decide +kernel
theorem ddX7_solve : yX7_solve.cls ≠ "java/lang/invoke/MethodHandle" ∧ yX7_solve.cls ≠ "java/lang/invoke/VarHandle" ∧ (parseMethodDescriptor yX7_solve.desc).map (fun d => d.parameters.length) = some 1 := by decide +kernel
theorem ddX7_exact : yX7_exact.cls ≠ "java/lang/invoke/MethodHandle" ∧ yX7_exact.cls ≠ "java/lang/invoke/VarHandle" ∧ (parseMethodDescriptor yX7_exact.desc).map (fun d => d.parameters.length) = some 0 := by decide +kernel
theorem ddX7_at : yX7_at.cls ≠ "java/lang/invoke/MethodHandle" ∧ yX7_at.cls ≠ "java/lang/invoke/VarHandle" ∧ (parseMethodDescriptor yX7_at.desc).map (fun d => d.parameters.length) = some 3 := by decide +kernel
theorem ddX7_last : yX7_last.cls ≠ "java/lang/invoke/MethodHandle" ∧ yX7_last.cls ≠ "java/lang/invoke/VarHandle" ∧ (parseMethodDescriptor yX7_last.desc).map (fun d => d.parameters.length) = some 0 := by decide +kernel
theorem ddX7_alone : yX7_alone.cls ≠ "java/lang/invoke/MethodHandle" ∧ yX7_alone.cls ≠ "java/lang/invoke/VarHandle" ∧ (parseMethodDescriptor yX7_alone.desc).map (fun d => d.parameters.length) = some 1 := by decide +kernel
theorem ddX7_bound : yX7_bound.cls ≠ "java/lang/invoke/MethodHandle" ∧ yX7_bound.cls ≠ "java/lang/invoke/VarHandle" ∧ (parseMethodDescriptor yX7_bound.desc).map (fun d => d.parameters.length) = some 0 := by decide +kernel
theorem ddX7_share : yX7_share.cls ≠ "java/lang/invoke/MethodHandle" ∧ yX7_share.cls ≠ "java/lang/invoke/VarHandle" ∧ (parseMethodDescriptor yX7_share.desc).map (fun d => d.parameters.length) = some 0 := by decide +kernel
theorem ddX7_count : yX7_count.cls ≠ "java/lang/invoke/MethodHandle" ∧ yX7_count.cls ≠ "java/lang/invoke/VarHandle" ∧ (parseMethodDescriptor yX7_count.desc).map (fun d => d.parameters.length) = some 1 := by decide +kernel
theorem ddX7_settle : yX7_settle.cls ≠ "java/lang/invoke/MethodHandle" ∧ yX7_settle.cls ≠ "java/lang/invoke/VarHandle" ∧ (parseMethodDescriptor yX7_settle.desc).map (fun d => d.parameters.length) = some 4 := by decide +kernel
theorem ddX7_needRobot : yX7_needRobot.cls ≠ "java/lang/invoke/MethodHandle" ∧ yX7_needRobot.cls ≠ "java/lang/invoke/VarHandle" ∧ (parseMethodDescriptor yX7_needRobot.desc).map (fun d => d.parameters.length) = some 1 := by decide +kernel
theorem ddX7_needComplete : yX7_needComplete.cls ≠ "java/lang/invoke/MethodHandle" ∧ yX7_needComplete.cls ≠ "java/lang/invoke/VarHandle" ∧ (parseMethodDescriptor yX7_needComplete.desc).map (fun d => d.parameters.length) = some 0 := by decide +kernel
theorem ddX7_needPlan : yX7_needPlan.cls ≠ "java/lang/invoke/MethodHandle" ∧ yX7_needPlan.cls ≠ "java/lang/invoke/VarHandle" ∧ (parseMethodDescriptor yX7_needPlan.desc).map (fun d => d.parameters.length) = some 0 := by decide +kernel
theorem ddX7_mostSteps : yX7_mostSteps.cls ≠ "java/lang/invoke/MethodHandle" ∧ yX7_mostSteps.cls ≠ "java/lang/invoke/VarHandle" ∧ (parseMethodDescriptor yX7_mostSteps.desc).map (fun d => d.parameters.length) = some 1 := by decide +kernel
theorem ddX7_jointStates : yX7_jointStates.cls ≠ "java/lang/invoke/MethodHandle" ∧ yX7_jointStates.cls ≠ "java/lang/invoke/VarHandle" ∧ (parseMethodDescriptor yX7_jointStates.desc).map (fun d => d.parameters.length) = some 1 := by decide +kernel
theorem ddX7_ownerOf : yX7_ownerOf.cls ≠ "java/lang/invoke/MethodHandle" ∧ yX7_ownerOf.cls ≠ "java/lang/invoke/VarHandle" ∧ (parseMethodDescriptor yX7_ownerOf.desc).map (fun d => d.parameters.length) = some 2 := by decide +kernel
theorem ddX7_ownCost : yX7_ownCost.cls ≠ "java/lang/invoke/MethodHandle" ∧ yX7_ownCost.cls ≠ "java/lang/invoke/VarHandle" ∧ (parseMethodDescriptor yX7_ownCost.desc).map (fun d => d.parameters.length) = some 3 := by decide +kernel
theorem ddX7_read : yX7_read.cls ≠ "java/lang/invoke/MethodHandle" ∧ yX7_read.cls ≠ "java/lang/invoke/VarHandle" ∧ (parseMethodDescriptor yX7_read.desc).map (fun d => d.parameters.length) = some 2 := by decide +kernel
theorem ddX7_write : yX7_write.cls ≠ "java/lang/invoke/MethodHandle" ∧ yX7_write.cls ≠ "java/lang/invoke/VarHandle" ∧ (parseMethodDescriptor yX7_write.desc).map (fun d => d.parameters.length) = some 3 := by decide +kernel
theorem ddX8_init : yX8_init.cls ≠ "java/lang/invoke/MethodHandle" ∧ yX8_init.cls ≠ "java/lang/invoke/VarHandle" ∧ (parseMethodDescriptor yX8_init.desc).map (fun d => d.parameters.length) = some 1 := by decide +kernel
theorem ddX8_fresh : yX8_fresh.cls ≠ "java/lang/invoke/MethodHandle" ∧ yX8_fresh.cls ≠ "java/lang/invoke/VarHandle" ∧ (parseMethodDescriptor yX8_fresh.desc).map (fun d => d.parameters.length) = some 2 := by decide +kernel
theorem ddX8_noCell : yX8_noCell.cls ≠ "java/lang/invoke/MethodHandle" ∧ yX8_noCell.cls ≠ "java/lang/invoke/VarHandle" ∧ (parseMethodDescriptor yX8_noCell.desc).map (fun d => d.parameters.length) = some 2 := by decide +kernel
theorem ddX8_moved : yX8_moved.cls ≠ "java/lang/invoke/MethodHandle" ∧ yX8_moved.cls ≠ "java/lang/invoke/VarHandle" ∧ (parseMethodDescriptor yX8_moved.desc).map (fun d => d.parameters.length) = some 2 := by decide +kernel
theorem ddX8_stays : yX8_stays.cls ≠ "java/lang/invoke/MethodHandle" ∧ yX8_stays.cls ≠ "java/lang/invoke/VarHandle" ∧ (parseMethodDescriptor yX8_stays.desc).map (fun d => d.parameters.length) = some 3 := by decide +kernel
theorem ddX8_goal : yX8_goal.cls ≠ "java/lang/invoke/MethodHandle" ∧ yX8_goal.cls ≠ "java/lang/invoke/VarHandle" ∧ (parseMethodDescriptor yX8_goal.desc).map (fun d => d.parameters.length) = some 1 := by decide +kernel
theorem ddX8_through : yX8_through.cls ≠ "java/lang/invoke/MethodHandle" ∧ yX8_through.cls ≠ "java/lang/invoke/VarHandle" ∧ (parseMethodDescriptor yX8_through.desc).map (fun d => d.parameters.length) = some 4 := by decide +kernel
theorem ddX8_jointly : yX8_jointly.cls ≠ "java/lang/invoke/MethodHandle" ∧ yX8_jointly.cls ≠ "java/lang/invoke/VarHandle" ∧ (parseMethodDescriptor yX8_jointly.desc).map (fun d => d.parameters.length) = some 0 := by decide +kernel
theorem ddX8_outside : yX8_outside.cls ≠ "java/lang/invoke/MethodHandle" ∧ yX8_outside.cls ≠ "java/lang/invoke/VarHandle" ∧ (parseMethodDescriptor yX8_outside.desc).map (fun d => d.parameters.length) = some 1 := by decide +kernel
theorem ddX8_lower : yX8_lower.cls ≠ "java/lang/invoke/MethodHandle" ∧ yX8_lower.cls ≠ "java/lang/invoke/VarHandle" ∧ (parseMethodDescriptor yX8_lower.desc).map (fun d => d.parameters.length) = some 2 := by decide +kernel
theorem ddX8_firstMove : yX8_firstMove.cls ≠ "java/lang/invoke/MethodHandle" ∧ yX8_firstMove.cls ≠ "java/lang/invoke/VarHandle" ∧ (parseMethodDescriptor yX8_firstMove.desc).map (fun d => d.parameters.length) = some 2 := by decide +kernel
theorem ddX8_open : yX8_open.cls ≠ "java/lang/invoke/MethodHandle" ∧ yX8_open.cls ≠ "java/lang/invoke/VarHandle" ∧ (parseMethodDescriptor yX8_open.desc).map (fun d => d.parameters.length) = some 4 := by decide +kernel
theorem ddX8_way : yX8_way.cls ≠ "java/lang/invoke/MethodHandle" ∧ yX8_way.cls ≠ "java/lang/invoke/VarHandle" ∧ (parseMethodDescriptor yX8_way.desc).map (fun d => d.parameters.length) = some 1 := by decide +kernel
theorem ddX8_step : yX8_step.cls ≠ "java/lang/invoke/MethodHandle" ∧ yX8_step.cls ≠ "java/lang/invoke/VarHandle" ∧ (parseMethodDescriptor yX8_step.desc).map (fun d => d.parameters.length) = some 4 := by decide +kernel
theorem ddX8_ways : yX8_ways.cls ≠ "java/lang/invoke/MethodHandle" ∧ yX8_ways.cls ≠ "java/lang/invoke/VarHandle" ∧ (parseMethodDescriptor yX8_ways.desc).map (fun d => d.parameters.length) = some 0 := by decide +kernel
theorem ddX8_draw : yX8_draw.cls ≠ "java/lang/invoke/MethodHandle" ∧ yX8_draw.cls ≠ "java/lang/invoke/VarHandle" ∧ (parseMethodDescriptor yX8_draw.desc).map (fun d => d.parameters.length) = some 0 := by decide +kernel
theorem ddX8_byPriorities : yX8_byPriorities.cls ≠ "java/lang/invoke/MethodHandle" ∧ yX8_byPriorities.cls ≠ "java/lang/invoke/VarHandle" ∧ (parseMethodDescriptor yX8_byPriorities.desc).map (fun d => d.parameters.length) = some 1 := by decide +kernel
theorem ddX8_distance : yX8_distance.cls ≠ "java/lang/invoke/MethodHandle" ∧ yX8_distance.cls ≠ "java/lang/invoke/VarHandle" ∧ (parseMethodDescriptor yX8_distance.desc).map (fun d => d.parameters.length) = some 1 := by decide +kernel
theorem ddX8_missing : yX8_missing.cls ≠ "java/lang/invoke/MethodHandle" ∧ yX8_missing.cls ≠ "java/lang/invoke/VarHandle" ∧ (parseMethodDescriptor yX8_missing.desc).map (fun d => d.parameters.length) = some 0 := by decide +kernel
theorem ddX8_boundOf : yX8_boundOf.cls ≠ "java/lang/invoke/MethodHandle" ∧ yX8_boundOf.cls ≠ "java/lang/invoke/VarHandle" ∧ (parseMethodDescriptor yX8_boundOf.desc).map (fun d => d.parameters.length) = some 0 := by decide +kernel
theorem ddX8_thrown : yX8_thrown.cls ≠ "java/lang/invoke/MethodHandle" ∧ yX8_thrown.cls ≠ "java/lang/invoke/VarHandle" ∧ (parseMethodDescriptor yX8_thrown.desc).map (fun d => d.parameters.length) = some 0 := by decide +kernel
theorem ddX8_grid : yX8_grid.cls ≠ "java/lang/invoke/MethodHandle" ∧ yX8_grid.cls ≠ "java/lang/invoke/VarHandle" ∧ (parseMethodDescriptor yX8_grid.desc).map (fun d => d.parameters.length) = some 2 := by decide +kernel
theorem ddX8_used : yX8_used.cls ≠ "java/lang/invoke/MethodHandle" ∧ yX8_used.cls ≠ "java/lang/invoke/VarHandle" ∧ (parseMethodDescriptor yX8_used.desc).map (fun d => d.parameters.length) = some 1 := by decide +kernel
theorem ddX8_wall : yX8_wall.cls ≠ "java/lang/invoke/MethodHandle" ∧ yX8_wall.cls ≠ "java/lang/invoke/VarHandle" ∧ (parseMethodDescriptor yX8_wall.desc).map (fun d => d.parameters.length) = some 3 := by decide +kernel
theorem ddX8_put : yX8_put.cls ≠ "java/lang/invoke/MethodHandle" ∧ yX8_put.cls ≠ "java/lang/invoke/VarHandle" ∧ (parseMethodDescriptor yX8_put.desc).map (fun d => d.parameters.length) = some 4 := by decide +kernel
theorem ddX8_start : yX8_start.cls ≠ "java/lang/invoke/MethodHandle" ∧ yX8_start.cls ≠ "java/lang/invoke/VarHandle" ∧ (parseMethodDescriptor yX8_start.desc).map (fun d => d.parameters.length) = some 3 := by decide +kernel
theorem ddX8_end : yX8_end.cls ≠ "java/lang/invoke/MethodHandle" ∧ yX8_end.cls ≠ "java/lang/invoke/VarHandle" ∧ (parseMethodDescriptor yX8_end.desc).map (fun d => d.parameters.length) = some 3 := by decide +kernel
theorem ddX8_swap : yX8_swap.cls ≠ "java/lang/invoke/MethodHandle" ∧ yX8_swap.cls ≠ "java/lang/invoke/VarHandle" ∧ (parseMethodDescriptor yX8_swap.desc).map (fun d => d.parameters.length) = some 1 := by decide +kernel
theorem ddX8_seed : yX8_seed.cls ≠ "java/lang/invoke/MethodHandle" ∧ yX8_seed.cls ≠ "java/lang/invoke/VarHandle" ∧ (parseMethodDescriptor yX8_seed.desc).map (fun d => d.parameters.length) = some 1 := by decide +kernel
theorem ddX8_solve : yX8_solve.cls ≠ "java/lang/invoke/MethodHandle" ∧ yX8_solve.cls ≠ "java/lang/invoke/VarHandle" ∧ (parseMethodDescriptor yX8_solve.desc).map (fun d => d.parameters.length) = some 1 := by decide +kernel
theorem ddX8_exact : yX8_exact.cls ≠ "java/lang/invoke/MethodHandle" ∧ yX8_exact.cls ≠ "java/lang/invoke/VarHandle" ∧ (parseMethodDescriptor yX8_exact.desc).map (fun d => d.parameters.length) = some 0 := by decide +kernel
theorem ddX8_at : yX8_at.cls ≠ "java/lang/invoke/MethodHandle" ∧ yX8_at.cls ≠ "java/lang/invoke/VarHandle" ∧ (parseMethodDescriptor yX8_at.desc).map (fun d => d.parameters.length) = some 3 := by decide +kernel
theorem ddX8_last : yX8_last.cls ≠ "java/lang/invoke/MethodHandle" ∧ yX8_last.cls ≠ "java/lang/invoke/VarHandle" ∧ (parseMethodDescriptor yX8_last.desc).map (fun d => d.parameters.length) = some 0 := by decide +kernel
theorem ddX8_alone : yX8_alone.cls ≠ "java/lang/invoke/MethodHandle" ∧ yX8_alone.cls ≠ "java/lang/invoke/VarHandle" ∧ (parseMethodDescriptor yX8_alone.desc).map (fun d => d.parameters.length) = some 1 := by decide +kernel
theorem ddX8_bound : yX8_bound.cls ≠ "java/lang/invoke/MethodHandle" ∧ yX8_bound.cls ≠ "java/lang/invoke/VarHandle" ∧ (parseMethodDescriptor yX8_bound.desc).map (fun d => d.parameters.length) = some 0 := by decide +kernel
theorem ddX8_share : yX8_share.cls ≠ "java/lang/invoke/MethodHandle" ∧ yX8_share.cls ≠ "java/lang/invoke/VarHandle" ∧ (parseMethodDescriptor yX8_share.desc).map (fun d => d.parameters.length) = some 0 := by decide +kernel
theorem ddX8_count : yX8_count.cls ≠ "java/lang/invoke/MethodHandle" ∧ yX8_count.cls ≠ "java/lang/invoke/VarHandle" ∧ (parseMethodDescriptor yX8_count.desc).map (fun d => d.parameters.length) = some 1 := by decide +kernel
theorem ddJx00060_init_a7421 : yJx00060_init_a7421.cls ≠ "java/lang/invoke/MethodHandle" ∧ yJx00060_init_a7421.cls ≠ "java/lang/invoke/VarHandle" ∧ (parseMethodDescriptor yJx00060_init_a7421.desc).map (fun d => d.parameters.length) = some 1 := by decide +kernel
theorem ddJ9_max_7cf53 : yJ9_max_7cf53.cls ≠ "java/lang/invoke/MethodHandle" ∧ yJ9_max_7cf53.cls ≠ "java/lang/invoke/VarHandle" ∧ (parseMethodDescriptor yJ9_max_7cf53.desc).map (fun d => d.parameters.length) = some 2 := by decide +kernel
theorem ddJ9_min_7cf53 : yJ9_min_7cf53.cls ≠ "java/lang/invoke/MethodHandle" ∧ yJ9_min_7cf53.cls ≠ "java/lang/invoke/VarHandle" ∧ (parseMethodDescriptor yJ9_min_7cf53.desc).map (fun d => d.parameters.length) = some 2 := by decide +kernel
theorem ddJ7_fill_53178 : yJ7_fill_53178.cls ≠ "java/lang/invoke/MethodHandle" ∧ yJ7_fill_53178.cls ≠ "java/lang/invoke/VarHandle" ∧ (parseMethodDescriptor yJ7_fill_53178.desc).map (fun d => d.parameters.length) = some 2 := by decide +kernel
theorem ddL_cell : yL_cell.cls ≠ "java/lang/invoke/MethodHandle" ∧ yL_cell.cls ≠ "java/lang/invoke/VarHandle" ∧ (parseMethodDescriptor yL_cell.desc).map (fun d => d.parameters.length) = some 2 := by decide +kernel
