theorem nw_104 : (Cond.methodLinkNest RX7 24 yX5_init "JointPlans") ∈ jp_ns := jp_nin (i := 104) (by decide +kernel) (by decide +kernel)
theorem nw_110 : (Cond.methodLinkNest RX5 11 yX0_init "JointPlans") ∈ jp_ns := jp_nin (i := 110) (by decide +kernel) (by decide +kernel)
theorem nw_119 : (Cond.fieldLinkNest RX7 176 RX0 "width" "I" "JointPlans") ∈ jp_ns := jp_nin (i := 119) (by decide +kernel) (by decide +kernel)
theorem nw_121 : (Cond.fieldLinkNest RX7 179 RX0 "height" "I" "JointPlans") ∈ jp_ns := jp_nin (i := 121) (by decide +kernel) (by decide +kernel)
theorem nw_123 : (Cond.fieldLinkNest RX7 182 RX0 "walls" "I" "JointPlans") ∈ jp_ns := jp_nin (i := 123) (by decide +kernel) (by decide +kernel)
theorem nw_144 : (Cond.methodLinkNest RX5 37 yX0_clear "JointPlans") ∈ jp_ns := jp_nin (i := 144) (by decide +kernel) (by decide +kernel)
theorem nw_159 : (Cond.fieldLinkNest RX0 59 RX7 "MOVE_X" "[I" "JointPlans") ∈ jp_ns := jp_nin (i := 159) (by decide +kernel) (by decide +kernel)
theorem nw_161 : (Cond.methodLinkNest RX0 43 yX7_read "JointPlans") ∈ jp_ns := jp_nin (i := 161) (by decide +kernel) (by decide +kernel)
theorem nw_164 : (Cond.fieldLinkNest RX0 62 RX7 "MOVE_Y" "[I" "JointPlans") ∈ jp_ns := jp_nin (i := 164) (by decide +kernel) (by decide +kernel)
theorem nw_174 : (Cond.methodLinkNest RX0 51 yX7_write "JointPlans") ∈ jp_ns := jp_nin (i := 174) (by decide +kernel) (by decide +kernel)
theorem nw_178 : (Cond.fieldLinkNest RX1 15 RX5 "robots" "I" "JointPlans") ∈ jp_ns := jp_nin (i := 178) (by decide +kernel) (by decide +kernel)
theorem nw_180 : (Cond.fieldLinkNest RX4 28 RX5 "robots" "I" "JointPlans") ∈ jp_ns := jp_nin (i := 180) (by decide +kernel) (by decide +kernel)
theorem nw_182 : (Cond.fieldLinkNest RX7 78 RX5 "floor" "LJointPlans$Floor;" "JointPlans") ∈ jp_ns := jp_nin (i := 182) (by decide +kernel) (by decide +kernel)
theorem nw_183 : (Cond.fieldLinkNest RX4 132 RX5 "floor" "LJointPlans$Floor;" "JointPlans") ∈ jp_ns := jp_nin (i := 183) (by decide +kernel) (by decide +kernel)
theorem nw_184 : (Cond.fieldLinkNest RX1 125 RX5 "floor" "LJointPlans$Floor;" "JointPlans") ∈ jp_ns := jp_nin (i := 184) (by decide +kernel) (by decide +kernel)
theorem nw_186 : (Cond.fieldLinkNest RX1 46 RX5 "starts" "[I" "JointPlans") ∈ jp_ns := jp_nin (i := 186) (by decide +kernel) (by decide +kernel)
theorem nw_187 : (Cond.fieldLinkNest RX7 92 RX5 "starts" "[I" "JointPlans") ∈ jp_ns := jp_nin (i := 187) (by decide +kernel) (by decide +kernel)
theorem nw_188 : (Cond.fieldLinkNest RX4 99 RX5 "starts" "[I" "JointPlans") ∈ jp_ns := jp_nin (i := 188) (by decide +kernel) (by decide +kernel)
theorem nw_190 : (Cond.fieldLinkNest RX1 33 RX5 "ends" "[I" "JointPlans") ∈ jp_ns := jp_nin (i := 190) (by decide +kernel) (by decide +kernel)
theorem nw_191 : (Cond.fieldLinkNest RX7 100 RX5 "ends" "[I" "JointPlans") ∈ jp_ns := jp_nin (i := 191) (by decide +kernel) (by decide +kernel)
theorem nw_192 : (Cond.fieldLinkNest RX4 96 RX5 "ends" "[I" "JointPlans") ∈ jp_ns := jp_nin (i := 192) (by decide +kernel) (by decide +kernel)
theorem nw_194 : (Cond.fieldLinkNest RX7 116 RX5 "swapsBarred" "Z" "JointPlans") ∈ jp_ns := jp_nin (i := 194) (by decide +kernel) (by decide +kernel)
theorem nw_195 : (Cond.fieldLinkNest RX4 148 RX5 "swapsBarred" "Z" "JointPlans") ∈ jp_ns := jp_nin (i := 195) (by decide +kernel) (by decide +kernel)
theorem nw_196 : (Cond.fieldLinkNest RX1 138 RX5 "swapsBarred" "Z" "JointPlans") ∈ jp_ns := jp_nin (i := 196) (by decide +kernel) (by decide +kernel)
theorem nw_210 : (Cond.methodLinkNest RX7 33 yX6_init "JointPlans") ∈ jp_ns := jp_nin (i := 210) (by decide +kernel) (by decide +kernel)
theorem nw_215 : (Cond.fieldLinkNest RX4 79 RX6 "order" "[I" "JointPlans") ∈ jp_ns := jp_nin (i := 215) (by decide +kernel) (by decide +kernel)
theorem nw_217 : (Cond.fieldLinkNest RX7 122 RX6 "state" "J" "JointPlans") ∈ jp_ns := jp_nin (i := 217) (by decide +kernel) (by decide +kernel)
theorem nw_225 : (Cond.methodLinkNest RX7 40 yX1_init "JointPlans") ∈ jp_ns := jp_nin (i := 225) (by decide +kernel) (by decide +kernel)
theorem nw_229 : (Cond.methodLinkNest RX1 22 yX7_jointStates "JointPlans") ∈ jp_ns := jp_nin (i := 229) (by decide +kernel) (by decide +kernel)
theorem nw_256 : (Cond.methodLinkNest RX7 45 yX4_init "JointPlans") ∈ jp_ns := jp_nin (i := 256) (by decide +kernel) (by decide +kernel)
theorem nw_262 : (Cond.methodLinkNest RX4 34 yX7_mostSteps "JointPlans") ∈ jp_ns := jp_nin (i := 262) (by decide +kernel) (by decide +kernel)
theorem nw_266 : (Cond.methodLinkNest RX4 38 yX2_init "JointPlans") ∈ jp_ns := jp_nin (i := 266) (by decide +kernel) (by decide +kernel)
theorem nw_272 : (Cond.fieldLinkNest RX1 69 RX2 "steps" "I" "JointPlans") ∈ jp_ns := jp_nin (i := 272) (by decide +kernel) (by decide +kernel)
theorem nw_274 : (Cond.fieldLinkNest RX4 93 RX2 "steps" "I" "JointPlans") ∈ jp_ns := jp_nin (i := 274) (by decide +kernel) (by decide +kernel)
theorem nw_275 : (Cond.fieldLinkNest RX7 152 RX2 "steps" "I" "JointPlans") ∈ jp_ns := jp_nin (i := 275) (by decide +kernel) (by decide +kernel)
theorem nw_277 : (Cond.fieldLinkNest RX1 56 RX2 "cost" "I" "JointPlans") ∈ jp_ns := jp_nin (i := 277) (by decide +kernel) (by decide +kernel)
theorem nw_278 : (Cond.fieldLinkNest RX4 64 RX2 "cost" "I" "JointPlans") ∈ jp_ns := jp_nin (i := 278) (by decide +kernel) (by decide +kernel)
theorem nw_279 : (Cond.fieldLinkNest RX7 137 RX2 "cost" "I" "JointPlans") ∈ jp_ns := jp_nin (i := 279) (by decide +kernel) (by decide +kernel)
theorem nw_307 : (Cond.methodLinkNest RX7 58 yX2_init "JointPlans") ∈ jp_ns := jp_nin (i := 307) (by decide +kernel) (by decide +kernel)
theorem nw_332 : (Cond.methodLinkNest RX7 140 yX2_isMade "JointPlans") ∈ jp_ns := jp_nin (i := 332) (by decide +kernel) (by decide +kernel)
theorem nw_420 : (Cond.methodLinkNest RX7 72 yX5_renew "JointPlans") ∈ jp_ns := jp_nin (i := 420) (by decide +kernel) (by decide +kernel)
theorem nw_421 : (Cond.methodLinkNest RX7 75 yX2_drop "JointPlans") ∈ jp_ns := jp_nin (i := 421) (by decide +kernel) (by decide +kernel)
theorem nw_434 : (Cond.methodLinkNest RX7 82 yX0_cellAt "JointPlans") ∈ jp_ns := jp_nin (i := 434) (by decide +kernel) (by decide +kernel)
theorem nw_475 : (Cond.methodLinkNest RX7 108 yX0_build "JointPlans") ∈ jp_ns := jp_nin (i := 475) (by decide +kernel) (by decide +kernel)
theorem nw_495 : (Cond.methodLinkNest RX7 185 yX0_isWall "JointPlans") ∈ jp_ns := jp_nin (i := 495) (by decide +kernel) (by decide +kernel)
theorem nw_525 : (Cond.methodLinkNest RX7 158 yX5_isComplete "JointPlans") ∈ jp_ns := jp_nin (i := 525) (by decide +kernel) (by decide +kernel)
theorem nw_529 : (Cond.methodLinkNest RX5 46 yX7_read "JointPlans") ∈ jp_ns := jp_nin (i := 529) (by decide +kernel) (by decide +kernel)
theorem nw_545 : (Cond.methodLinkNest RX1 53 yX7_read "JointPlans") ∈ jp_ns := jp_nin (i := 545) (by decide +kernel) (by decide +kernel)
theorem nw_555 : (Cond.methodLinkNest RX1 104 yX7_write "JointPlans") ∈ jp_ns := jp_nin (i := 555) (by decide +kernel) (by decide +kernel)
theorem nw_568 : (Cond.methodLinkNest RX1 129 yX0_moved "JointPlans") ∈ jp_ns := jp_nin (i := 568) (by decide +kernel) (by decide +kernel)
theorem nw_576 : (Cond.methodLinkNest RX1 135 yX7_ownCost "JointPlans") ∈ jp_ns := jp_nin (i := 576) (by decide +kernel) (by decide +kernel)
theorem nw_583 : (Cond.methodLinkNest RX1 61 yX2_isMade "JointPlans") ∈ jp_ns := jp_nin (i := 583) (by decide +kernel) (by decide +kernel)
theorem nw_592 : (Cond.methodLinkNest RX1 118 yX2_put "JointPlans") ∈ jp_ns := jp_nin (i := 592) (by decide +kernel) (by decide +kernel)
theorem nw_596 : (Cond.methodLinkNest RX2 29 yX7_write "JointPlans") ∈ jp_ns := jp_nin (i := 596) (by decide +kernel) (by decide +kernel)
theorem nw_597 : (Cond.methodLinkNest RX1 112 yX7_mostSteps "JointPlans") ∈ jp_ns := jp_nin (i := 597) (by decide +kernel) (by decide +kernel)
theorem nw_612 : (Cond.methodLinkNest RX4 45 yX6_reset "JointPlans") ∈ jp_ns := jp_nin (i := 612) (by decide +kernel) (by decide +kernel)
theorem nw_625 : (Cond.methodLinkNest RX4 76 yX2_drop "JointPlans") ∈ jp_ns := jp_nin (i := 625) (by decide +kernel) (by decide +kernel)
theorem nw_626 : (Cond.methodLinkNest RX4 82 yX7_read "JointPlans") ∈ jp_ns := jp_nin (i := 626) (by decide +kernel) (by decide +kernel)
theorem nw_635 : (Cond.methodLinkNest RX4 121 yX7_write "JointPlans") ∈ jp_ns := jp_nin (i := 635) (by decide +kernel) (by decide +kernel)
theorem nw_644 : (Cond.methodLinkNest RX4 136 yX0_moved "JointPlans") ∈ jp_ns := jp_nin (i := 644) (by decide +kernel) (by decide +kernel)
theorem nw_649 : (Cond.methodLinkNest RX4 145 yX7_ownCost "JointPlans") ∈ jp_ns := jp_nin (i := 649) (by decide +kernel) (by decide +kernel)
theorem nw_650 : (Cond.methodLinkNest RX4 106 yX2_put "JointPlans") ∈ jp_ns := jp_nin (i := 650) (by decide +kernel) (by decide +kernel)
theorem nw_659 : (Cond.methodLinkNest RX4 117 yX2_cellOf "JointPlans") ∈ jp_ns := jp_nin (i := 659) (by decide +kernel) (by decide +kernel)
theorem nw_663 : (Cond.methodLinkNest RX2 25 yX7_read "JointPlans") ∈ jp_ns := jp_nin (i := 663) (by decide +kernel) (by decide +kernel)
theorem nw_672 : (Cond.methodLinkNest RX4 60 yX2_isMade "JointPlans") ∈ jp_ns := jp_nin (i := 672) (by decide +kernel) (by decide +kernel)
theorem nw_673 : (Cond.methodLinkNest RX4 67 yX2_copy "JointPlans") ∈ jp_ns := jp_nin (i := 673) (by decide +kernel) (by decide +kernel)
theorem nw_677 : (Cond.methodLinkNest RX4 54 yX6_draw "JointPlans") ∈ jp_ns := jp_nin (i := 677) (by decide +kernel) (by decide +kernel)
theorem nw_690 : (Cond.methodLinkNest RX6 32 yX7_read "JointPlans") ∈ jp_ns := jp_nin (i := 690) (by decide +kernel) (by decide +kernel)
theorem nw_691 : (Cond.methodLinkNest RX6 38 yX7_write "JointPlans") ∈ jp_ns := jp_nin (i := 691) (by decide +kernel) (by decide +kernel)
theorem nw_705 : (Cond.methodLinkNest RX7 155 yX2_cellOf "JointPlans") ∈ jp_ns := jp_nin (i := 705) (by decide +kernel) (by decide +kernel)
theorem nw_721 : (Cond.methodLinkNest RX7 164 yX5_way "JointPlans") ∈ jp_ns := jp_nin (i := 721) (by decide +kernel) (by decide +kernel)
theorem nw_725 : (Cond.methodLinkNest RX5 50 yX0_movesBetween "JointPlans") ∈ jp_ns := jp_nin (i := 725) (by decide +kernel) (by decide +kernel)
theorem nw_741 : (Cond.methodLinkNest RX7 167 yX5_allWays "JointPlans") ∈ jp_ns := jp_nin (i := 741) (by decide +kernel) (by decide +kernel)
theorem ddX0_init : yX0_init.cls ≠ "java/lang/invoke/MethodHandle" ∧ yX0_init.cls ≠ "java/lang/invoke/VarHandle" ∧ (parseMethodDescriptor yX0_init.desc).map (fun d => d.parameters.length) = some 0 := by decide +kernel
theorem ddX0_clear : yX0_clear.cls ≠ "java/lang/invoke/MethodHandle" ∧ yX0_clear.cls ≠ "java/lang/invoke/VarHandle" ∧ (parseMethodDescriptor yX0_clear.desc).map (fun d => d.parameters.length) = some 2 := by decide +kernel
theorem ddX0_cellAt : yX0_cellAt.cls ≠ "java/lang/invoke/MethodHandle" ∧ yX0_cellAt.cls ≠ "java/lang/invoke/VarHandle" ∧ (parseMethodDescriptor yX0_cellAt.desc).map (fun d => d.parameters.length) = some 2 := by decide +kernel
theorem ddX0_isWall : yX0_isWall.cls ≠ "java/lang/invoke/MethodHandle" ∧ yX0_isWall.cls ≠ "java/lang/invoke/VarHandle" ∧ (parseMethodDescriptor yX0_isWall.desc).map (fun d => d.parameters.length) = some 1 := by decide +kernel
theorem ddX0_build : yX0_build.cls ≠ "java/lang/invoke/MethodHandle" ∧ yX0_build.cls ≠ "java/lang/invoke/VarHandle" ∧ (parseMethodDescriptor yX0_build.desc).map (fun d => d.parameters.length) = some 2 := by decide +kernel
theorem ddX0_chart : yX0_chart.cls ≠ "java/lang/invoke/MethodHandle" ∧ yX0_chart.cls ≠ "java/lang/invoke/VarHandle" ∧ (parseMethodDescriptor yX0_chart.desc).map (fun d => d.parameters.length) = some 0 := by decide +kernel
theorem ddX0_target : yX0_target.cls ≠ "java/lang/invoke/MethodHandle" ∧ yX0_target.cls ≠ "java/lang/invoke/VarHandle" ∧ (parseMethodDescriptor yX0_target.desc).map (fun d => d.parameters.length) = some 2 := by decide +kernel
theorem ddX0_moved : yX0_moved.cls ≠ "java/lang/invoke/MethodHandle" ∧ yX0_moved.cls ≠ "java/lang/invoke/VarHandle" ∧ (parseMethodDescriptor yX0_moved.desc).map (fun d => d.parameters.length) = some 2 := by decide +kernel
theorem ddX0_movesBetween : yX0_movesBetween.cls ≠ "java/lang/invoke/MethodHandle" ∧ yX0_movesBetween.cls ≠ "java/lang/invoke/VarHandle" ∧ (parseMethodDescriptor yX0_movesBetween.desc).map (fun d => d.parameters.length) = some 2 := by decide +kernel
theorem ddX0_spread : yX0_spread.cls ≠ "java/lang/invoke/MethodHandle" ∧ yX0_spread.cls ≠ "java/lang/invoke/VarHandle" ∧ (parseMethodDescriptor yX0_spread.desc).map (fun d => d.parameters.length) = some 2 := by decide +kernel
theorem ddX1_init : yX1_init.cls ≠ "java/lang/invoke/MethodHandle" ∧ yX1_init.cls ≠ "java/lang/invoke/VarHandle" ∧ (parseMethodDescriptor yX1_init.desc).map (fun d => d.parameters.length) = some 1 := by decide +kernel
theorem ddX1_make : yX1_make.cls ≠ "java/lang/invoke/MethodHandle" ∧ yX1_make.cls ≠ "java/lang/invoke/VarHandle" ∧ (parseMethodDescriptor yX1_make.desc).map (fun d => d.parameters.length) = some 2 := by decide +kernel
theorem ddX1_placeOf : yX1_placeOf.cls ≠ "java/lang/invoke/MethodHandle" ∧ yX1_placeOf.cls ≠ "java/lang/invoke/VarHandle" ∧ (parseMethodDescriptor yX1_placeOf.desc).map (fun d => d.parameters.length) = some 2 := by decide +kernel
theorem ddX1_measure : yX1_measure.cls ≠ "java/lang/invoke/MethodHandle" ∧ yX1_measure.cls ≠ "java/lang/invoke/VarHandle" ∧ (parseMethodDescriptor yX1_measure.desc).map (fun d => d.parameters.length) = some 2 := by decide +kernel
theorem ddX1_reachFrom : yX1_reachFrom.cls ≠ "java/lang/invoke/MethodHandle" ∧ yX1_reachFrom.cls ≠ "java/lang/invoke/VarHandle" ∧ (parseMethodDescriptor yX1_reachFrom.desc).map (fun d => d.parameters.length) = some 4 := by decide +kernel
theorem ddX1_reachBefore : yX1_reachBefore.cls ≠ "java/lang/invoke/MethodHandle" ∧ yX1_reachBefore.cls ≠ "java/lang/invoke/VarHandle" ∧ (parseMethodDescriptor yX1_reachBefore.desc).map (fun d => d.parameters.length) = some 3 := by decide +kernel
theorem ddX1_reach : yX1_reach.cls ≠ "java/lang/invoke/MethodHandle" ∧ yX1_reach.cls ≠ "java/lang/invoke/VarHandle" ∧ (parseMethodDescriptor yX1_reach.desc).map (fun d => d.parameters.length) = some 2 := by decide +kernel
theorem ddX1_walk : yX1_walk.cls ≠ "java/lang/invoke/MethodHandle" ∧ yX1_walk.cls ≠ "java/lang/invoke/VarHandle" ∧ (parseMethodDescriptor yX1_walk.desc).map (fun d => d.parameters.length) = some 2 := by decide +kernel
theorem ddX1_note : yX1_note.cls ≠ "java/lang/invoke/MethodHandle" ∧ yX1_note.cls ≠ "java/lang/invoke/VarHandle" ∧ (parseMethodDescriptor yX1_note.desc).map (fun d => d.parameters.length) = some 3 := by decide +kernel
theorem ddX1_follow : yX1_follow.cls ≠ "java/lang/invoke/MethodHandle" ∧ yX1_follow.cls ≠ "java/lang/invoke/VarHandle" ∧ (parseMethodDescriptor yX1_follow.desc).map (fun d => d.parameters.length) = some 1 := by decide +kernel
theorem ddX1_keeps : yX1_keeps.cls ≠ "java/lang/invoke/MethodHandle" ∧ yX1_keeps.cls ≠ "java/lang/invoke/VarHandle" ∧ (parseMethodDescriptor yX1_keeps.desc).map (fun d => d.parameters.length) = some 3 := by decide +kernel
theorem ddX1_next : yX1_next.cls ≠ "java/lang/invoke/MethodHandle" ∧ yX1_next.cls ≠ "java/lang/invoke/VarHandle" ∧ (parseMethodDescriptor yX1_next.desc).map (fun d => d.parameters.length) = some 3 := by decide +kernel
theorem ddX1_stepCost : yX1_stepCost.cls ≠ "java/lang/invoke/MethodHandle" ∧ yX1_stepCost.cls ≠ "java/lang/invoke/VarHandle" ∧ (parseMethodDescriptor yX1_stepCost.desc).map (fun d => d.parameters.length) = some 4 := by decide +kernel
theorem ddX1_fits : yX1_fits.cls ≠ "java/lang/invoke/MethodHandle" ∧ yX1_fits.cls ≠ "java/lang/invoke/VarHandle" ∧ (parseMethodDescriptor yX1_fits.desc).map (fun d => d.parameters.length) = some 4 := by decide +kernel
theorem ddX2_init : yX2_init.cls ≠ "java/lang/invoke/MethodHandle" ∧ yX2_init.cls ≠ "java/lang/invoke/VarHandle" ∧ (parseMethodDescriptor yX2_init.desc).map (fun d => d.parameters.length) = some 2 := by decide +kernel
theorem ddX2_isMade : yX2_isMade.cls ≠ "java/lang/invoke/MethodHandle" ∧ yX2_isMade.cls ≠ "java/lang/invoke/VarHandle" ∧ (parseMethodDescriptor yX2_isMade.desc).map (fun d => d.parameters.length) = some 0 := by decide +kernel
theorem ddX2_drop : yX2_drop.cls ≠ "java/lang/invoke/MethodHandle" ∧ yX2_drop.cls ≠ "java/lang/invoke/VarHandle" ∧ (parseMethodDescriptor yX2_drop.desc).map (fun d => d.parameters.length) = some 0 := by decide +kernel
theorem ddX2_cellOf : yX2_cellOf.cls ≠ "java/lang/invoke/MethodHandle" ∧ yX2_cellOf.cls ≠ "java/lang/invoke/VarHandle" ∧ (parseMethodDescriptor yX2_cellOf.desc).map (fun d => d.parameters.length) = some 2 := by decide +kernel
theorem ddX2_put : yX2_put.cls ≠ "java/lang/invoke/MethodHandle" ∧ yX2_put.cls ≠ "java/lang/invoke/VarHandle" ∧ (parseMethodDescriptor yX2_put.desc).map (fun d => d.parameters.length) = some 3 := by decide +kernel
theorem ddX2_copy : yX2_copy.cls ≠ "java/lang/invoke/MethodHandle" ∧ yX2_copy.cls ≠ "java/lang/invoke/VarHandle" ∧ (parseMethodDescriptor yX2_copy.desc).map (fun d => d.parameters.length) = some 1 := by decide +kernel
theorem ddX4_init : yX4_init.cls ≠ "java/lang/invoke/MethodHandle" ∧ yX4_init.cls ≠ "java/lang/invoke/VarHandle" ∧ (parseMethodDescriptor yX4_init.desc).map (fun d => d.parameters.length) = some 2 := by decide +kernel
theorem ddX4_make : yX4_make.cls ≠ "java/lang/invoke/MethodHandle" ∧ yX4_make.cls ≠ "java/lang/invoke/VarHandle" ∧ (parseMethodDescriptor yX4_make.desc).map (fun d => d.parameters.length) = some 2 := by decide +kernel
theorem ddX4_improve : yX4_improve.cls ≠ "java/lang/invoke/MethodHandle" ∧ yX4_improve.cls ≠ "java/lang/invoke/VarHandle" ∧ (parseMethodDescriptor yX4_improve.desc).map (fun d => d.parameters.length) = some 1 := by decide +kernel
theorem ddX4_tryOrder : yX4_tryOrder.cls ≠ "java/lang/invoke/MethodHandle" ∧ yX4_tryOrder.cls ≠ "java/lang/invoke/VarHandle" ∧ (parseMethodDescriptor yX4_tryOrder.desc).map (fun d => d.parameters.length) = some 0 := by decide +kernel
theorem ddX4_route : yX4_route.cls ≠ "java/lang/invoke/MethodHandle" ∧ yX4_route.cls ≠ "java/lang/invoke/VarHandle" ∧ (parseMethodDescriptor yX4_route.desc).map (fun d => d.parameters.length) = some 1 := by decide +kernel
theorem ddX4_occupy : yX4_occupy.cls ≠ "java/lang/invoke/MethodHandle" ∧ yX4_occupy.cls ≠ "java/lang/invoke/VarHandle" ∧ (parseMethodDescriptor yX4_occupy.desc).map (fun d => d.parameters.length) = some 1 := by decide +kernel
theorem ddX4_measure : yX4_measure.cls ≠ "java/lang/invoke/MethodHandle" ∧ yX4_measure.cls ≠ "java/lang/invoke/VarHandle" ∧ (parseMethodDescriptor yX4_measure.desc).map (fun d => d.parameters.length) = some 1 := by decide +kernel
theorem ddX4_leastFrom : yX4_leastFrom.cls ≠ "java/lang/invoke/MethodHandle" ∧ yX4_leastFrom.cls ≠ "java/lang/invoke/VarHandle" ∧ (parseMethodDescriptor yX4_leastFrom.desc).map (fun d => d.parameters.length) = some 3 := by decide +kernel
theorem ddX4_costBy : yX4_costBy.cls ≠ "java/lang/invoke/MethodHandle" ∧ yX4_costBy.cls ≠ "java/lang/invoke/VarHandle" ∧ (parseMethodDescriptor yX4_costBy.desc).map (fun d => d.parameters.length) = some 4 := by decide +kernel
theorem ddX4_isBarred : yX4_isBarred.cls ≠ "java/lang/invoke/MethodHandle" ∧ yX4_isBarred.cls ≠ "java/lang/invoke/VarHandle" ∧ (parseMethodDescriptor yX4_isBarred.desc).map (fun d => d.parameters.length) = some 3 := by decide +kernel
theorem ddX4_follow : yX4_follow.cls ≠ "java/lang/invoke/MethodHandle" ∧ yX4_follow.cls ≠ "java/lang/invoke/VarHandle" ∧ (parseMethodDescriptor yX4_follow.desc).map (fun d => d.parameters.length) = some 3 := by decide +kernel
theorem ddX4_stepsOfTrial : yX4_stepsOfTrial.cls ≠ "java/lang/invoke/MethodHandle" ∧ yX4_stepsOfTrial.cls ≠ "java/lang/invoke/VarHandle" ∧ (parseMethodDescriptor yX4_stepsOfTrial.desc).map (fun d => d.parameters.length) = some 0 := by decide +kernel
theorem ddX4_allAtEnds : yX4_allAtEnds.cls ≠ "java/lang/invoke/MethodHandle" ∧ yX4_allAtEnds.cls ≠ "java/lang/invoke/VarHandle" ∧ (parseMethodDescriptor yX4_allAtEnds.desc).map (fun d => d.parameters.length) = some 1 := by decide +kernel
theorem ddX5_init : yX5_init.cls ≠ "java/lang/invoke/MethodHandle" ∧ yX5_init.cls ≠ "java/lang/invoke/VarHandle" ∧ (parseMethodDescriptor yX5_init.desc).map (fun d => d.parameters.length) = some 1 := by decide +kernel
theorem ddX5_renew : yX5_renew.cls ≠ "java/lang/invoke/MethodHandle" ∧ yX5_renew.cls ≠ "java/lang/invoke/VarHandle" ∧ (parseMethodDescriptor yX5_renew.desc).map (fun d => d.parameters.length) = some 2 := by decide +kernel
theorem ddX5_isComplete : yX5_isComplete.cls ≠ "java/lang/invoke/MethodHandle" ∧ yX5_isComplete.cls ≠ "java/lang/invoke/VarHandle" ∧ (parseMethodDescriptor yX5_isComplete.desc).map (fun d => d.parameters.length) = some 1 := by decide +kernel
theorem ddX5_way : yX5_way.cls ≠ "java/lang/invoke/MethodHandle" ∧ yX5_way.cls ≠ "java/lang/invoke/VarHandle" ∧ (parseMethodDescriptor yX5_way.desc).map (fun d => d.parameters.length) = some 1 := by decide +kernel
theorem ddX5_allWays : yX5_allWays.cls ≠ "java/lang/invoke/MethodHandle" ∧ yX5_allWays.cls ≠ "java/lang/invoke/VarHandle" ∧ (parseMethodDescriptor yX5_allWays.desc).map (fun d => d.parameters.length) = some 0 := by decide +kernel
theorem ddX6_init : yX6_init.cls ≠ "java/lang/invoke/MethodHandle" ∧ yX6_init.cls ≠ "java/lang/invoke/VarHandle" ∧ (parseMethodDescriptor yX6_init.desc).map (fun d => d.parameters.length) = some 1 := by decide +kernel
theorem ddX6_reset : yX6_reset.cls ≠ "java/lang/invoke/MethodHandle" ∧ yX6_reset.cls ≠ "java/lang/invoke/VarHandle" ∧ (parseMethodDescriptor yX6_reset.desc).map (fun d => d.parameters.length) = some 0 := by decide +kernel
theorem ddX6_draw : yX6_draw.cls ≠ "java/lang/invoke/MethodHandle" ∧ yX6_draw.cls ≠ "java/lang/invoke/VarHandle" ∧ (parseMethodDescriptor yX6_draw.desc).map (fun d => d.parameters.length) = some 0 := by decide +kernel
theorem ddX6_exchange : yX6_exchange.cls ≠ "java/lang/invoke/MethodHandle" ∧ yX6_exchange.cls ≠ "java/lang/invoke/VarHandle" ∧ (parseMethodDescriptor yX6_exchange.desc).map (fun d => d.parameters.length) = some 2 := by decide +kernel
theorem ddX7_init : yX7_init.cls ≠ "java/lang/invoke/MethodHandle" ∧ yX7_init.cls ≠ "java/lang/invoke/VarHandle" ∧ (parseMethodDescriptor yX7_init.desc).map (fun d => d.parameters.length) = some 1 := by decide +kernel
theorem ddX7_grid : yX7_grid.cls ≠ "java/lang/invoke/MethodHandle" ∧ yX7_grid.cls ≠ "java/lang/invoke/VarHandle" ∧ (parseMethodDescriptor yX7_grid.desc).map (fun d => d.parameters.length) = some 2 := by decide +kernel
theorem ddX7_wall : yX7_wall.cls ≠ "java/lang/invoke/MethodHandle" ∧ yX7_wall.cls ≠ "java/lang/invoke/VarHandle" ∧ (parseMethodDescriptor yX7_wall.desc).map (fun d => d.parameters.length) = some 3 := by decide +kernel
theorem ddX7_start : yX7_start.cls ≠ "java/lang/invoke/MethodHandle" ∧ yX7_start.cls ≠ "java/lang/invoke/VarHandle" ∧ (parseMethodDescriptor yX7_start.desc).map (fun d => d.parameters.length) = some 3 := by decide +kernel
theorem ddX7_end : yX7_end.cls ≠ "java/lang/invoke/MethodHandle" ∧ yX7_end.cls ≠ "java/lang/invoke/VarHandle" ∧ (parseMethodDescriptor yX7_end.desc).map (fun d => d.parameters.length) = some 3 := by decide +kernel
theorem ddX7_swap : yX7_swap.cls ≠ "java/lang/invoke/MethodHandle" ∧ yX7_swap.cls ≠ "java/lang/invoke/VarHandle" ∧ (parseMethodDescriptor yX7_swap.desc).map (fun d => d.parameters.length) = some 1 := by decide +kernel
theorem ddX7_seed : yX7_seed.cls ≠ "java/lang/invoke/MethodHandle" ∧ yX7_seed.cls ≠ "java/lang/invoke/VarHandle" ∧ (parseMethodDescriptor yX7_seed.desc).map (fun d => d.parameters.length) = some 1 := by decide +kernel
theorem ddX7_solve : yX7_solve.cls ≠ "java/lang/invoke/MethodHandle" ∧ yX7_solve.cls ≠ "java/lang/invoke/VarHandle" ∧ (parseMethodDescriptor yX7_solve.desc).map (fun d => d.parameters.length) = some 1 := by decide +kernel
theorem ddX7_exact : yX7_exact.cls ≠ "java/lang/invoke/MethodHandle" ∧ yX7_exact.cls ≠ "java/lang/invoke/VarHandle" ∧ (parseMethodDescriptor yX7_exact.desc).map (fun d => d.parameters.length) = some 0 := by decide +kernel
theorem ddX7_at : yX7_at.cls ≠ "java/lang/invoke/MethodHandle" ∧ yX7_at.cls ≠ "java/lang/invoke/VarHandle" ∧ (parseMethodDescriptor yX7_at.desc).map (fun d => d.parameters.length) = some 3 := by decide +kernel
theorem ddX7_last : yX7_last.cls ≠ "java/lang/invoke/MethodHandle" ∧ yX7_last.cls ≠ "java/lang/invoke/VarHandle" ∧ (parseMethodDescriptor yX7_last.desc).map (fun d => d.parameters.length) = some 0 := by decide +kernel
theorem ddX7_alone : yX7_alone.cls ≠ "java/lang/invoke/MethodHandle" ∧ yX7_alone.cls ≠ "java/lang/invoke/VarHandle" ∧ (parseMethodDescriptor yX7_alone.desc).map (fun d => d.parameters.length) = some 1 := by decide +kernel
theorem ddX7_bound : yX7_bound.cls ≠ "java/lang/invoke/MethodHandle" ∧ yX7_bound.cls ≠ "java/lang/invoke/VarHandle" ∧ (parseMethodDescriptor yX7_bound.desc).map (fun d => d.parameters.length) = some 0 := by decide +kernel
theorem ddX7_share : yX7_share.cls ≠ "java/lang/invoke/MethodHandle" ∧ yX7_share.cls ≠ "java/lang/invoke/VarHandle" ∧ (parseMethodDescriptor yX7_share.desc).map (fun d => d.parameters.length) = some 0 := by decide +kernel
theorem ddX7_count : yX7_count.cls ≠ "java/lang/invoke/MethodHandle" ∧ yX7_count.cls ≠ "java/lang/invoke/VarHandle" ∧ (parseMethodDescriptor yX7_count.desc).map (fun d => d.parameters.length) = some 1 := by decide +kernel
theorem ddX7_settle : yX7_settle.cls ≠ "java/lang/invoke/MethodHandle" ∧ yX7_settle.cls ≠ "java/lang/invoke/VarHandle" ∧ (parseMethodDescriptor yX7_settle.desc).map (fun d => d.parameters.length) = some 4 := by decide +kernel
theorem ddX7_needRobot : yX7_needRobot.cls ≠ "java/lang/invoke/MethodHandle" ∧ yX7_needRobot.cls ≠ "java/lang/invoke/VarHandle" ∧ (parseMethodDescriptor yX7_needRobot.desc).map (fun d => d.parameters.length) = some 1 := by decide +kernel
theorem ddX7_needComplete : yX7_needComplete.cls ≠ "java/lang/invoke/MethodHandle" ∧ yX7_needComplete.cls ≠ "java/lang/invoke/VarHandle" ∧ (parseMethodDescriptor yX7_needComplete.desc).map (fun d => d.parameters.length) = some 0 := by decide +kernel
theorem ddX7_needPlan : yX7_needPlan.cls ≠ "java/lang/invoke/MethodHandle" ∧ yX7_needPlan.cls ≠ "java/lang/invoke/VarHandle" ∧ (parseMethodDescriptor yX7_needPlan.desc).map (fun d => d.parameters.length) = some 0 := by decide +kernel
theorem ddX7_mostSteps : yX7_mostSteps.cls ≠ "java/lang/invoke/MethodHandle" ∧ yX7_mostSteps.cls ≠ "java/lang/invoke/VarHandle" ∧ (parseMethodDescriptor yX7_mostSteps.desc).map (fun d => d.parameters.length) = some 1 := by decide +kernel
theorem ddX7_jointStates : yX7_jointStates.cls ≠ "java/lang/invoke/MethodHandle" ∧ yX7_jointStates.cls ≠ "java/lang/invoke/VarHandle" ∧ (parseMethodDescriptor yX7_jointStates.desc).map (fun d => d.parameters.length) = some 1 := by decide +kernel
theorem ddX7_ownerOf : yX7_ownerOf.cls ≠ "java/lang/invoke/MethodHandle" ∧ yX7_ownerOf.cls ≠ "java/lang/invoke/VarHandle" ∧ (parseMethodDescriptor yX7_ownerOf.desc).map (fun d => d.parameters.length) = some 2 := by decide +kernel
theorem ddX7_ownCost : yX7_ownCost.cls ≠ "java/lang/invoke/MethodHandle" ∧ yX7_ownCost.cls ≠ "java/lang/invoke/VarHandle" ∧ (parseMethodDescriptor yX7_ownCost.desc).map (fun d => d.parameters.length) = some 3 := by decide +kernel
theorem ddX7_read : yX7_read.cls ≠ "java/lang/invoke/MethodHandle" ∧ yX7_read.cls ≠ "java/lang/invoke/VarHandle" ∧ (parseMethodDescriptor yX7_read.desc).map (fun d => d.parameters.length) = some 2 := by decide +kernel
theorem ddX7_write : yX7_write.cls ≠ "java/lang/invoke/MethodHandle" ∧ yX7_write.cls ≠ "java/lang/invoke/VarHandle" ∧ (parseMethodDescriptor yX7_write.desc).map (fun d => d.parameters.length) = some 3 := by decide +kernel
theorem ddX8_init : yX8_init.cls ≠ "java/lang/invoke/MethodHandle" ∧ yX8_init.cls ≠ "java/lang/invoke/VarHandle" ∧ (parseMethodDescriptor yX8_init.desc).map (fun d => d.parameters.length) = some 1 := by decide +kernel
theorem ddX8_fresh : yX8_fresh.cls ≠ "java/lang/invoke/MethodHandle" ∧ yX8_fresh.cls ≠ "java/lang/invoke/VarHandle" ∧ (parseMethodDescriptor yX8_fresh.desc).map (fun d => d.parameters.length) = some 2 := by decide +kernel
theorem ddX8_noCell : yX8_noCell.cls ≠ "java/lang/invoke/MethodHandle" ∧ yX8_noCell.cls ≠ "java/lang/invoke/VarHandle" ∧ (parseMethodDescriptor yX8_noCell.desc).map (fun d => d.parameters.length) = some 2 := by decide +kernel
theorem ddX8_moved : yX8_moved.cls ≠ "java/lang/invoke/MethodHandle" ∧ yX8_moved.cls ≠ "java/lang/invoke/VarHandle" ∧ (parseMethodDescriptor yX8_moved.desc).map (fun d => d.parameters.length) = some 2 := by decide +kernel
theorem ddX8_stays : yX8_stays.cls ≠ "java/lang/invoke/MethodHandle" ∧ yX8_stays.cls ≠ "java/lang/invoke/VarHandle" ∧ (parseMethodDescriptor yX8_stays.desc).map (fun d => d.parameters.length) = some 3 := by decide +kernel
theorem ddX8_goal : yX8_goal.cls ≠ "java/lang/invoke/MethodHandle" ∧ yX8_goal.cls ≠ "java/lang/invoke/VarHandle" ∧ (parseMethodDescriptor yX8_goal.desc).map (fun d => d.parameters.length) = some 1 := by decide +kernel
theorem ddX8_through : yX8_through.cls ≠ "java/lang/invoke/MethodHandle" ∧ yX8_through.cls ≠ "java/lang/invoke/VarHandle" ∧ (parseMethodDescriptor yX8_through.desc).map (fun d => d.parameters.length) = some 4 := by decide +kernel
theorem ddX8_jointly : yX8_jointly.cls ≠ "java/lang/invoke/MethodHandle" ∧ yX8_jointly.cls ≠ "java/lang/invoke/VarHandle" ∧ (parseMethodDescriptor yX8_jointly.desc).map (fun d => d.parameters.length) = some 0 := by decide +kernel
theorem ddX8_outside : yX8_outside.cls ≠ "java/lang/invoke/MethodHandle" ∧ yX8_outside.cls ≠ "java/lang/invoke/VarHandle" ∧ (parseMethodDescriptor yX8_outside.desc).map (fun d => d.parameters.length) = some 1 := by decide +kernel
theorem ddX8_lower : yX8_lower.cls ≠ "java/lang/invoke/MethodHandle" ∧ yX8_lower.cls ≠ "java/lang/invoke/VarHandle" ∧ (parseMethodDescriptor yX8_lower.desc).map (fun d => d.parameters.length) = some 2 := by decide +kernel
theorem ddX8_firstMove : yX8_firstMove.cls ≠ "java/lang/invoke/MethodHandle" ∧ yX8_firstMove.cls ≠ "java/lang/invoke/VarHandle" ∧ (parseMethodDescriptor yX8_firstMove.desc).map (fun d => d.parameters.length) = some 2 := by decide +kernel
theorem ddX8_open : yX8_open.cls ≠ "java/lang/invoke/MethodHandle" ∧ yX8_open.cls ≠ "java/lang/invoke/VarHandle" ∧ (parseMethodDescriptor yX8_open.desc).map (fun d => d.parameters.length) = some 4 := by decide +kernel
theorem ddX8_way : yX8_way.cls ≠ "java/lang/invoke/MethodHandle" ∧ yX8_way.cls ≠ "java/lang/invoke/VarHandle" ∧ (parseMethodDescriptor yX8_way.desc).map (fun d => d.parameters.length) = some 1 := by decide +kernel
theorem ddX8_step : yX8_step.cls ≠ "java/lang/invoke/MethodHandle" ∧ yX8_step.cls ≠ "java/lang/invoke/VarHandle" ∧ (parseMethodDescriptor yX8_step.desc).map (fun d => d.parameters.length) = some 4 := by decide +kernel
theorem ddX8_ways : yX8_ways.cls ≠ "java/lang/invoke/MethodHandle" ∧ yX8_ways.cls ≠ "java/lang/invoke/VarHandle" ∧ (parseMethodDescriptor yX8_ways.desc).map (fun d => d.parameters.length) = some 0 := by decide +kernel
theorem ddX8_draw : yX8_draw.cls ≠ "java/lang/invoke/MethodHandle" ∧ yX8_draw.cls ≠ "java/lang/invoke/VarHandle" ∧ (parseMethodDescriptor yX8_draw.desc).map (fun d => d.parameters.length) = some 0 := by decide +kernel
theorem ddX8_byPriorities : yX8_byPriorities.cls ≠ "java/lang/invoke/MethodHandle" ∧ yX8_byPriorities.cls ≠ "java/lang/invoke/VarHandle" ∧ (parseMethodDescriptor yX8_byPriorities.desc).map (fun d => d.parameters.length) = some 1 := by decide +kernel
theorem ddX8_distance : yX8_distance.cls ≠ "java/lang/invoke/MethodHandle" ∧ yX8_distance.cls ≠ "java/lang/invoke/VarHandle" ∧ (parseMethodDescriptor yX8_distance.desc).map (fun d => d.parameters.length) = some 1 := by decide +kernel
theorem ddX8_missing : yX8_missing.cls ≠ "java/lang/invoke/MethodHandle" ∧ yX8_missing.cls ≠ "java/lang/invoke/VarHandle" ∧ (parseMethodDescriptor yX8_missing.desc).map (fun d => d.parameters.length) = some 0 := by decide +kernel
theorem ddX8_boundOf : yX8_boundOf.cls ≠ "java/lang/invoke/MethodHandle" ∧ yX8_boundOf.cls ≠ "java/lang/invoke/VarHandle" ∧ (parseMethodDescriptor yX8_boundOf.desc).map (fun d => d.parameters.length) = some 0 := by decide +kernel
theorem ddX8_thrown : yX8_thrown.cls ≠ "java/lang/invoke/MethodHandle" ∧ yX8_thrown.cls ≠ "java/lang/invoke/VarHandle" ∧ (parseMethodDescriptor yX8_thrown.desc).map (fun d => d.parameters.length) = some 0 := by decide +kernel
theorem ddX8_grid : yX8_grid.cls ≠ "java/lang/invoke/MethodHandle" ∧ yX8_grid.cls ≠ "java/lang/invoke/VarHandle" ∧ (parseMethodDescriptor yX8_grid.desc).map (fun d => d.parameters.length) = some 2 := by decide +kernel
theorem ddX8_used : yX8_used.cls ≠ "java/lang/invoke/MethodHandle" ∧ yX8_used.cls ≠ "java/lang/invoke/VarHandle" ∧ (parseMethodDescriptor yX8_used.desc).map (fun d => d.parameters.length) = some 1 := by decide +kernel
theorem ddX8_wall : yX8_wall.cls ≠ "java/lang/invoke/MethodHandle" ∧ yX8_wall.cls ≠ "java/lang/invoke/VarHandle" ∧ (parseMethodDescriptor yX8_wall.desc).map (fun d => d.parameters.length) = some 3 := by decide +kernel
theorem ddX8_put : yX8_put.cls ≠ "java/lang/invoke/MethodHandle" ∧ yX8_put.cls ≠ "java/lang/invoke/VarHandle" ∧ (parseMethodDescriptor yX8_put.desc).map (fun d => d.parameters.length) = some 4 := by decide +kernel
theorem ddX8_start : yX8_start.cls ≠ "java/lang/invoke/MethodHandle" ∧ yX8_start.cls ≠ "java/lang/invoke/VarHandle" ∧ (parseMethodDescriptor yX8_start.desc).map (fun d => d.parameters.length) = some 3 := by decide +kernel
theorem ddX8_end : yX8_end.cls ≠ "java/lang/invoke/MethodHandle" ∧ yX8_end.cls ≠ "java/lang/invoke/VarHandle" ∧ (parseMethodDescriptor yX8_end.desc).map (fun d => d.parameters.length) = some 3 := by decide +kernel
theorem ddX8_swap : yX8_swap.cls ≠ "java/lang/invoke/MethodHandle" ∧ yX8_swap.cls ≠ "java/lang/invoke/VarHandle" ∧ (parseMethodDescriptor yX8_swap.desc).map (fun d => d.parameters.length) = some 1 := by decide +kernel
theorem ddX8_seed : yX8_seed.cls ≠ "java/lang/invoke/MethodHandle" ∧ yX8_seed.cls ≠ "java/lang/invoke/VarHandle" ∧ (parseMethodDescriptor yX8_seed.desc).map (fun d => d.parameters.length) = some 1 := by decide +kernel
theorem ddX8_solve : yX8_solve.cls ≠ "java/lang/invoke/MethodHandle" ∧ yX8_solve.cls ≠ "java/lang/invoke/VarHandle" ∧ (parseMethodDescriptor yX8_solve.desc).map (fun d => d.parameters.length) = some 1 := by decide +kernel
theorem ddX8_exact : yX8_exact.cls ≠ "java/lang/invoke/MethodHandle" ∧ yX8_exact.cls ≠ "java/lang/invoke/VarHandle" ∧ (parseMethodDescriptor yX8_exact.desc).map (fun d => d.parameters.length) = some 0 := by decide +kernel
theorem ddX8_at : yX8_at.cls ≠ "java/lang/invoke/MethodHandle" ∧ yX8_at.cls ≠ "java/lang/invoke/VarHandle" ∧ (parseMethodDescriptor yX8_at.desc).map (fun d => d.parameters.length) = some 3 := by decide +kernel
theorem ddX8_last : yX8_last.cls ≠ "java/lang/invoke/MethodHandle" ∧ yX8_last.cls ≠ "java/lang/invoke/VarHandle" ∧ (parseMethodDescriptor yX8_last.desc).map (fun d => d.parameters.length) = some 0 := by decide +kernel
theorem ddX8_alone : yX8_alone.cls ≠ "java/lang/invoke/MethodHandle" ∧ yX8_alone.cls ≠ "java/lang/invoke/VarHandle" ∧ (parseMethodDescriptor yX8_alone.desc).map (fun d => d.parameters.length) = some 1 := by decide +kernel
theorem ddX8_bound : yX8_bound.cls ≠ "java/lang/invoke/MethodHandle" ∧ yX8_bound.cls ≠ "java/lang/invoke/VarHandle" ∧ (parseMethodDescriptor yX8_bound.desc).map (fun d => d.parameters.length) = some 0 := by decide +kernel
theorem ddX8_share : yX8_share.cls ≠ "java/lang/invoke/MethodHandle" ∧ yX8_share.cls ≠ "java/lang/invoke/VarHandle" ∧ (parseMethodDescriptor yX8_share.desc).map (fun d => d.parameters.length) = some 0 := by decide +kernel
theorem ddX8_count : yX8_count.cls ≠ "java/lang/invoke/MethodHandle" ∧ yX8_count.cls ≠ "java/lang/invoke/VarHandle" ∧ (parseMethodDescriptor yX8_count.desc).map (fun d => d.parameters.length) = some 1 := by decide +kernel
theorem ddJx00060_init_a7421 : yJx00060_init_a7421.cls ≠ "java/lang/invoke/MethodHandle" ∧ yJx00060_init_a7421.cls ≠ "java/lang/invoke/VarHandle" ∧ (parseMethodDescriptor yJx00060_init_a7421.desc).map (fun d => d.parameters.length) = some 1 := by decide +kernel
theorem ddJ9_max_7cf53 : yJ9_max_7cf53.cls ≠ "java/lang/invoke/MethodHandle" ∧ yJ9_max_7cf53.cls ≠ "java/lang/invoke/VarHandle" ∧ (parseMethodDescriptor yJ9_max_7cf53.desc).map (fun d => d.parameters.length) = some 2 := by decide +kernel
theorem ddJ9_min_7cf53 : yJ9_min_7cf53.cls ≠ "java/lang/invoke/MethodHandle" ∧ yJ9_min_7cf53.cls ≠ "java/lang/invoke/VarHandle" ∧ (parseMethodDescriptor yJ9_min_7cf53.desc).map (fun d => d.parameters.length) = some 2 := by decide +kernel
theorem ddJ7_fill_53178 : yJ7_fill_53178.cls ≠ "java/lang/invoke/MethodHandle" ∧ yJ7_fill_53178.cls ≠ "java/lang/invoke/VarHandle" ∧ (parseMethodDescriptor yJ7_fill_53178.desc).map (fun d => d.parameters.length) = some 2 := by decide +kernel
theorem ddL_cell : yL_cell.cls ≠ "java/lang/invoke/MethodHandle" ∧ yL_cell.cls ≠ "java/lang/invoke/VarHandle" ∧ (parseMethodDescriptor yL_cell.desc).map (fun d => d.parameters.length) = some 2 := by decide +kernel
