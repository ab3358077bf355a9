set_option maxRecDepth 100000 in
theorem zm_0 : (zTb 1)[187]? = some (.code yX0_init cX0_init 1 none) := by rfl
set_option maxRecDepth 100000 in
theorem zm_1 : (zTb 4)[126]? = some (.code yX0_clear cX0_clear 1 none) := by rfl
set_option maxRecDepth 100000 in
theorem zm_2 : (zTb 3)[177]? = some (.code yX0_take cX0_take 3 none) := by rfl
set_option maxRecDepth 100000 in
theorem zm_3 : (zTb 3)[184]? = some (.code yX0_codeOf cX0_codeOf 1 (some .int)) := by rfl
set_option maxRecDepth 100000 in
theorem zm_4 : (zTb 3)[188]? = some (.code yX0_claim cX0_claim 4 none) := by rfl
set_option maxRecDepth 100000 in
theorem zm_5 : (zTb 4)[135]? = some (.code yX0_isBegunBySole cX0_isBegunBySole 4 (some .boolean)) := by rfl
set_option maxRecDepth 100000 in
theorem zm_6 : (zTb 4)[139]? = some (.code yX0_otherOf cX0_otherOf 3 (some .int)) := by rfl
set_option maxRecDepth 100000 in
theorem zm_7 : (zTb 4)[143]? = some (.code yX0_stepOfOther cX0_stepOfOther 3 (some .int)) := by rfl
set_option maxRecDepth 100000 in
theorem zm_8 : (zTb 4)[147]? = some (.code yX0_turnOf cX0_turnOf 3 (some .int)) := by rfl
set_option maxRecDepth 100000 in
theorem zm_9 : (zTb 4)[151]? = some (.code yX0_areAllOf cX0_areAllOf 3 (some .boolean)) := by rfl
set_option maxRecDepth 100000 in
theorem zm_10 : (zTb 4)[155]? = some (.code yX0_isSole cX0_isSole 3 (some .boolean)) := by rfl
set_option maxRecDepth 100000 in
theorem zm_11 : (zTb 3)[181]? = some (.code yX0_slotOf cX0_slotOf 2 (some .int)) := by rfl
set_option maxRecDepth 100000 in
theorem zm_12 : (zTb 1)[44]? = some (.code yX1_init cX1_init 1 none) := by rfl
set_option maxRecDepth 100000 in
theorem zm_13 : (zTb 1)[37]? = some (.code yX2_init cX2_init 2 none) := by rfl
set_option maxRecDepth 100000 in
theorem zm_14 : (zTb 2)[193]? = some (.code yX2_has cX2_has 2 (some .boolean)) := by rfl
set_option maxRecDepth 100000 in
theorem zm_15 : (zTb 4)[12]? = some (.code yX2_firstFree cX2_firstFree 2 (some .int)) := by rfl
set_option maxRecDepth 100000 in
theorem zm_16 : (zTb 4)[192]? = some (.code yX2_latest cX2_latest 3 (some .int)) := by rfl
set_option maxRecDepth 100000 in
theorem zm_17 : (zTb 4)[23]? = some (.code yX2_write cX2_write 6 none) := by rfl
set_option maxRecDepth 100000 in
theorem zm_18 : (zTb 4)[78]? = some (.code yX2_strike cX2_strike 3 none) := by rfl
set_option maxRecDepth 100000 in
theorem zm_19 : (zTb 4)[29]? = some (.code yX2_setSteps cX2_setSteps 4 none) := by rfl
set_option maxRecDepth 100000 in
theorem zm_20 : (zTb 3)[25]? = some (.code yX3_takesMarks cX3_takesMarks 1 (some .boolean)) := by rfl
set_option maxRecDepth 100000 in
theorem zm_21 : (zTb 1)[154]? = some (.code yX4_init cX4_init 1 none) := by rfl
set_option maxRecDepth 100000 in
theorem zm_22 : (zTb 2)[177]? = some (.code yX4_layAll cX4_layAll 6 none) := by rfl
set_option maxRecDepth 100000 in
theorem zm_23 : (zTb 2)[189]? = some (.code yX4_layNeighboursOf cX4_layNeighboursOf 6 none) := by rfl
set_option maxRecDepth 100000 in
theorem zm_24 : (zTb 2)[182]? = some (.code yX4_lay cX4_lay 4 none) := by rfl
set_option maxRecDepth 100000 in
theorem zm_25 : (zTb 2)[197]? = some (.code yX4_offsetX cX4_offsetX 3 (some .int)) := by rfl
set_option maxRecDepth 100000 in
theorem zm_26 : (zTb 2)[211]? = some (.code yX4_offsetY cX4_offsetY 3 (some .int)) := by rfl
set_option maxRecDepth 100000 in
theorem zm_27 : (zTb 4)[17]? = some (.code yX4_missOf cX4_missOf 5 (some .int)) := by rfl
set_option maxRecDepth 100000 in
theorem zm_28 : (zTb 2)[77]? = some (.code yX5_init cX5_init 1 none) := by rfl
set_option maxRecDepth 100000 in
theorem zm_29 : (zTb 4)[43]? = some (.code yX5_draw cX5_draw 6 none) := by rfl
set_option maxRecDepth 100000 in
theorem zm_30 : (zTb 4)[51]? = some (.code yX5_pointsSharedWith cX5_pointsSharedWith 6 (some .int)) := by rfl
set_option maxRecDepth 100000 in
theorem zm_31 : (zTb 4)[74]? = some (.code yX5_pointsOfRowSharedWith cX5_pointsOfRowSharedWith 7 (some .int)) := by rfl
set_option maxRecDepth 100000 in
theorem zm_32 : (zTb 4)[58]? = some (.code yX5_cutAt cX5_cutAt 4 none) := by rfl
set_option maxRecDepth 100000 in
theorem zm_33 : (zTb 4)[62]? = some (.code yX5_cutOf cX5_cutOf 8 (some .int)) := by rfl
set_option maxRecDepth 100000 in
theorem zm_34 : (zTb 4)[70]? = some (.code yX5_keepCut cX5_keepCut 3 none) := by rfl
set_option maxRecDepth 100000 in
theorem zm_35 : (zTb 1)[47]? = some (.code yX6_init cX6_init 1 none) := by rfl
set_option maxRecDepth 100000 in
theorem zm_36 : (zTb 3)[102]? = some (.code yX6_put cX6_put 6 none) := by rfl
set_option maxRecDepth 100000 in
theorem zm_37 : (zTb 4)[89]? = some (.code yX6_putFacing cX6_putFacing 7 none) := by rfl
set_option maxRecDepth 100000 in
theorem zm_38 : (zTb 3)[210]? = some (.code yX6_copyPairs cX6_copyPairs 2 none) := by rfl
set_option maxRecDepth 100000 in
theorem zm_39 : (zTb 3)[116]? = some (.code yX6_stepOfA cX6_stepOfA 3 (some .int)) := by rfl
set_option maxRecDepth 100000 in
theorem zm_40 : (zTb 3)[122]? = some (.code yX6_stepOfB cX6_stepOfB 3 (some .int)) := by rfl
set_option maxRecDepth 100000 in
theorem zm_41 : (zTb 2)[16]? = some (.code yX7_init cX7_init 2 none) := by rfl
set_option maxRecDepth 100000 in
theorem zm_42 : (zTb 2)[234]? = some (.code yX7_addStep cX7_addStep 3 none) := by rfl
set_option maxRecDepth 100000 in
theorem zm_43 : (zTb 3)[29]? = some (.code yX7_setMark cX7_setMark 3 none) := by rfl
set_option maxRecDepth 100000 in
theorem zm_44 : (zTb 3)[109]? = some (.code yX7_slackWith cX7_slackWith 2 (some .int)) := by rfl
set_option maxRecDepth 100000 in
theorem zm_45 : (zTb 3)[126]? = some (.code yX7_canPair cX7_canPair 5 (some .boolean)) := by rfl
set_option maxRecDepth 100000 in
theorem zm_46 : (zTb 3)[167]? = some (.code yX7_behind cX7_behind 2 (some .int)) := by rfl
set_option maxRecDepth 100000 in
theorem zm_47 : (zTb 3)[163]? = some (.code yX7_before cX7_before 2 (some .int)) := by rfl
set_option maxRecDepth 100000 in
theorem zm_48 : (zTb 2)[205]? = some (.code yX7_goesX cX7_goesX 3 (some .int)) := by rfl
set_option maxRecDepth 100000 in
theorem zm_49 : (zTb 2)[219]? = some (.code yX7_goesY cX7_goesY 3 (some .int)) := by rfl
set_option maxRecDepth 100000 in
theorem zm_50 : (zTb 2)[201]? = some (.code yX7_placeX cX7_placeX 5 (some .int)) := by rfl
set_option maxRecDepth 100000 in
theorem zm_51 : (zTb 2)[215]? = some (.code yX7_placeY cX7_placeY 5 (some .int)) := by rfl
set_option maxRecDepth 100000 in
theorem zm_52 : (zTb 3)[73]? = some (.code yX7_twiceItsArea cX7_twiceItsArea 13 (some .long)) := by rfl
set_option maxRecDepth 100000 in
theorem zm_53 : (zTb 5)[32]? = some (.code yX7_stepsInJoins cX7_stepsInJoins 3 (some .int)) := by rfl
set_option maxRecDepth 100000 in
theorem zm_54 : (zTb 1)[210]? = some (.code yX8_init cX8_init 1 none) := by rfl
set_option maxRecDepth 100000 in
theorem zm_55 : (zTb 3)[96]? = some (.code yX8_measure cX8_measure 16 none) := by rfl
set_option maxRecDepth 100000 in
theorem zm_56 : (zTb 3)[199]? = some (.code yX8_goesAheadOf cX8_goesAheadOf 2 (some .boolean)) := by rfl
set_option maxRecDepth 100000 in
theorem zm_57 : (zTb 3)[204]? = some (.code yX8_copySpan cX8_copySpan 2 none) := by rfl
set_option maxRecDepth 100000 in
theorem zm_58 : (zTb 1)[203]? = some (.code yX9_init cX9_init 3 none) := by rfl
set_option maxRecDepth 100000 in
theorem zm_59 : (zTb 3)[142]? = some (.code yX9_clear cX9_clear 1 none) := by rfl
set_option maxRecDepth 100000 in
theorem zm_60 : (zTb 3)[195]? = some (.code yX9_take cX9_take 6 none) := by rfl
set_option maxRecDepth 100000 in
theorem zm_61 : (zTb 1)[25]? = some (.code yX11_init cX11_init 2 none) := by rfl
set_option maxRecDepth 100000 in
theorem zm_62 : (zTb 2)[171]? = some (.code yX11_sherd cX11_sherd 3 (some .int)) := by rfl
set_option maxRecDepth 100000 in
theorem zm_63 : (zTb 2)[223]? = some (.code yX11_step cX11_step 5 (some .int)) := by rfl
set_option maxRecDepth 100000 in
theorem zm_64 : (zTb 2)[238]? = some (.code yX11_close cX11_close 4 (some .int)) := by rfl
set_option maxRecDepth 100000 in
theorem zm_65 : (zTb 3)[13]? = some (.code yX11_mark cX11_mark 4 (some .boolean)) := by rfl
set_option maxRecDepth 100000 in
theorem zm_66 : (zTb 3)[33]? = some (.code yX11_paint cX11_paint 4 (some .boolean)) := by rfl
set_option maxRecDepth 100000 in
theorem zm_67 : (zTb 3)[37]? = some (.code yX11_thick cX11_thick 4 (some .boolean)) := by rfl
set_option maxRecDepth 100000 in
theorem zm_68 : (zTb 3)[57]? = some (.code yX11_circle cX11_circle 3 (some .boolean)) := by rfl
set_option maxRecDepth 100000 in
theorem zm_69 : (zTb 3)[63]? = some (.code yX11_tell cX11_tell 3 (some .boolean)) := by rfl
set_option maxRecDepth 100000 in
theorem zm_70 : (zTb 4)[201]? = some (.code yX11_look cX11_look 4 (some .int)) := by rfl
set_option maxRecDepth 100000 in
theorem zm_71 : (zTb 5)[55]? = some (.code yX11_edge cX11_edge 5 (some .int)) := by rfl
set_option maxRecDepth 100000 in
theorem zm_72 : (zTb 3)[68]? = some (.code yX11_area cX11_area 3 (some .long)) := by rfl
set_option maxRecDepth 100000 in
theorem zm_73 : (zTb 3)[80]? = some (.code yX11_fit cX11_fit 6 (some .int)) := by rfl
set_option maxRecDepth 100000 in
theorem zm_74 : (zTb 3)[134]? = some (.code yX11_fitted cX11_fitted 2 (some .int)) := by rfl
set_option maxRecDepth 100000 in
theorem zm_75 : (zTb 3)[138]? = some (.code yX11_spans cX11_spans 3 (some .int)) := by rfl
set_option maxRecDepth 100000 in
theorem zm_76 : (zTb 3)[214]? = some (.code yX11_span cX11_span 4 (some .int)) := by rfl
set_option maxRecDepth 100000 in
theorem zm_77 : (zTb 3)[218]? = some (.code yX11_two cX11_two 3 (some .int)) := by rfl
set_option maxRecDepth 100000 in
theorem zm_78 : (zTb 3)[228]? = some (.code yX11_apart cX11_apart 3 (some .int)) := by rfl
set_option maxRecDepth 100000 in
theorem zm_79 : (zTb 4)[0]? = some (.code yX11_join cX11_join 6 (some .int)) := by rfl
set_option maxRecDepth 100000 in
theorem zm_80 : (zTb 4)[82]? = some (.code yX11_hand cX11_hand 7 (some .int)) := by rfl
set_option maxRecDepth 100000 in
theorem zm_81 : (zTb 4)[101]? = some (.code yX11_part cX11_part 2 (some .int)) := by rfl
set_option maxRecDepth 100000 in
theorem zm_82 : (zTb 4)[106]? = some (.code yX11_joined cX11_joined 4 (some .int)) := by rfl
set_option maxRecDepth 100000 in
theorem zm_83 : (zTb 4)[110]? = some (.code yX11_round cX11_round 1 (some .int)) := by rfl
set_option maxRecDepth 100000 in
theorem zm_84 : (zTb 4)[114]? = some (.code yX11_lies cX11_lies 2 (some .int)) := by rfl
set_option maxRecDepth 100000 in
theorem zm_85 : (zTb 4)[118]? = some (.code yX11_order cX11_order 2 (some .int)) := by rfl
set_option maxRecDepth 100000 in
theorem zm_86 : (zTb 4)[164]? = some (.code yX11_groups cX11_groups 1 (some .int)) := by rfl
set_option maxRecDepth 100000 in
theorem zm_87 : (zTb 4)[168]? = some (.code yX11_group cX11_group 4 (some .long)) := by rfl
set_option maxRecDepth 100000 in
theorem zm_88 : (zTb 4)[188]? = some (.code yX11_undo cX11_undo 3 (some .int)) := by rfl
set_option maxRecDepth 100000 in
theorem zm_89 : (zTb 2)[227]? = some (.code yX11_hasSherd cX11_hasSherd 2 (some .boolean)) := by rfl
set_option maxRecDepth 100000 in
theorem zm_90 : (zTb 3)[21]? = some (.code yX11_hasStep cX11_hasStep 3 (some .boolean)) := by rfl
set_option maxRecDepth 100000 in
theorem zm_91 : (zTb 3)[88]? = some (.code yX11_isClosed cX11_isClosed 2 (some .boolean)) := by rfl
set_option maxRecDepth 100000 in
theorem zm_92 : (zTb 3)[17]? = some (.code yX11_canChange cX11_canChange 3 (some .boolean)) := by rfl
set_option maxRecDepth 100000 in
theorem zm_93 : (zTb 3)[84]? = some (.code yX11_canMeet cX11_canMeet 5 (some .boolean)) := by rfl
set_option maxRecDepth 100000 in
theorem zm_94 : (zTb 3)[41]? = some (.code yX11_isAlone cX11_isAlone 2 (some .boolean)) := by rfl
set_option maxRecDepth 100000 in
theorem zm_95 : (zTb 2)[230]? = some (.code yX11_isTurn cX11_isTurn 1 (some .boolean)) := by rfl
set_option maxRecDepth 100000 in
theorem zm_96 : (zTb 3)[3]? = some (.code yX11_greater cX11_greater 2 (some .int)) := by rfl
set_option maxRecDepth 100000 in
theorem zm_97 : (zTb 3)[48]? = some (.code yX11_tenthsOf cX11_tenthsOf 4 (some .int)) := by rfl
set_option maxRecDepth 100000 in
theorem zm_98 : (zTb 3)[92]? = some (.code yX11_measure cX11_measure 6 none) := by rfl
set_option maxRecDepth 100000 in
theorem zm_99 : (zTb 3)[159]? = some (.code yX11_isSpan cX11_isSpan 4 (some .boolean)) := by rfl
set_option maxRecDepth 100000 in
theorem zm_100 : (zTb 3)[147]? = some (.code yX11_walkSpans cX11_walkSpans 7 (some .int)) := by rfl
set_option maxRecDepth 100000 in
theorem zm_101 : (zTb 3)[152]? = some (.code yX11_walkTurns cX11_walkTurns 12 (some .int)) := by rfl
set_option maxRecDepth 100000 in
theorem zm_102 : (zTb 3)[222]? = some (.code yX11_whyNoOnePot cX11_whyNoOnePot 3 (some .int)) := by rfl
set_option maxRecDepth 100000 in
theorem zm_103 : (zTb 3)[232]? = some (.code yX11_firstPartFor cX11_firstPartFor 3 (some .int)) := by rfl
set_option maxRecDepth 100000 in
theorem zm_104 : (zTb 3)[236]? = some (.code yX11_isOfPart cX11_isOfPart 4 (some .boolean)) := by rfl
set_option maxRecDepth 100000 in
theorem zm_105 : (zTb 4)[95]? = some (.code yX11_isAnyStepJoined cX11_isAnyStepJoined 3 (some .boolean)) := by rfl
set_option maxRecDepth 100000 in
theorem zm_106 : (zTb 4)[4]? = some (.code yX11_tryToJoin cX11_tryToJoin 5 (some .int)) := by rfl
set_option maxRecDepth 100000 in
theorem zm_107 : (zTb 4)[8]? = some (.code yX11_areOfNoOnePot cX11_areOfNoOnePot 5 (some .boolean)) := by rfl
set_option maxRecDepth 100000 in
theorem zm_108 : (zTb 4)[35]? = some (.code yX11_anyLiesOnAnother cX11_anyLiesOnAnother 5 (some .boolean)) := by rfl
set_option maxRecDepth 100000 in
theorem zm_109 : (zTb 4)[39]? = some (.code yX11_drawGroup cX11_drawGroup 3 none) := by rfl
set_option maxRecDepth 100000 in
theorem zm_110 : (zTb 4)[160]? = some (.code yX11_joinFirstSure cX11_joinFirstSure 2 (some .boolean)) := by rfl
set_option maxRecDepth 100000 in
theorem zm_111 : (zTb 4)[122]? = some (.code yX11_claimAllSteps cX11_claimAllSteps 3 none) := by rfl
set_option maxRecDepth 100000 in
theorem zm_112 : (zTb 4)[131]? = some (.code yX11_gatherSure cX11_gatherSure 4 none) := by rfl
set_option maxRecDepth 100000 in
theorem zm_113 : (zTb 3)[45]? = some (.code yX11_sherdsIn cX11_sherdsIn 4 (some .int)) := by rfl
set_option maxRecDepth 100000 in
theorem zm_114 : (zTb 4)[172]? = some (.code yX11_joinsIn cX11_joinsIn 4 (some .int)) := by rfl
set_option maxRecDepth 100000 in
theorem zm_115 : (zTb 4)[176]? = some (.code yX11_areaOf cX11_areaOf 5 (some .long)) := by rfl
set_option maxRecDepth 100000 in
theorem zm_116 : (zTb 4)[180]? = some (.code yX11_missingOf cX11_missingOf 5 (some .long)) := by rfl
set_option maxRecDepth 100000 in
theorem zm_117 : (zTb 5)[61]? = some (.code yX12_init cX12_init 1 none) := by rfl
set_option maxRecDepth 100000 in
theorem zm_118 : (zTb 6)[1]? = some (.code yX12_thrown cX12_thrown 1 (some .int)) := by rfl
set_option maxRecDepth 100000 in
theorem zm_119 : (zTb 6)[98]? = some (.code yX12_fails cX12_fails 2 (some .int)) := by rfl
set_option maxRecDepth 100000 in
theorem zm_120 : (zTb 6)[24]? = some (.code yX12_x cX12_x 3 (some .int)) := by rfl
set_option maxRecDepth 100000 in
theorem zm_121 : (zTb 6)[34]? = some (.code yX12_y cX12_y 1 (some .int)) := by rfl
set_option maxRecDepth 100000 in
theorem zm_122 : (zTb 6)[21]? = some (.code yX12_placeX cX12_placeX 6 (some .int)) := by rfl
set_option maxRecDepth 100000 in
theorem zm_123 : (zTb 6)[31]? = some (.code yX12_placeY cX12_placeY 6 (some .int)) := by rfl
set_option maxRecDepth 100000 in
theorem zm_124 : (zTb 6)[27]? = some (.code yX12_size cX12_size 1 (some .int)) := by rfl
set_option maxRecDepth 100000 in
theorem zm_125 : (zTb 6)[37]? = some (.code yX12_greater cX12_greater 2 (some .int)) := by rfl
set_option maxRecDepth 100000 in
theorem zm_126 : (zTb 6)[13]? = some (.code yX12_isSherd cX12_isSherd 2 (some .boolean)) := by rfl
set_option maxRecDepth 100000 in
theorem zm_127 : (zTb 6)[5]? = some (.code yX12_sherd cX12_sherd 2 (some .int)) := by rfl
set_option maxRecDepth 100000 in
theorem zm_128 : (zTb 6)[9]? = some (.code yX12_step cX12_step 5 (some .int)) := by rfl
set_option maxRecDepth 100000 in
theorem zm_129 : (zTb 6)[17]? = some (.code yX12_close cX12_close 3 (some .int)) := by rfl
set_option maxRecDepth 100000 in
theorem zm_130 : (zTb 6)[45]? = some (.code yX12_isStep cX12_isStep 3 (some .boolean)) := by rfl
set_option maxRecDepth 100000 in
theorem zm_131 : (zTb 6)[41]? = some (.code yX12_mark cX12_mark 4 (some .boolean)) := by rfl
set_option maxRecDepth 100000 in
theorem zm_132 : (zTb 6)[53]? = some (.code yX12_shows cX12_shows 2 (some .boolean)) := by rfl
set_option maxRecDepth 100000 in
theorem zm_133 : (zTb 6)[49]? = some (.code yX12_paint cX12_paint 4 (some .boolean)) := by rfl
set_option maxRecDepth 100000 in
theorem zm_134 : (zTb 6)[106]? = some (.code yX12_isBreak cX12_isBreak 3 (some .boolean)) := by rfl
set_option maxRecDepth 100000 in
theorem zm_135 : (zTb 6)[65]? = some (.code yX12_inGroup cX12_inGroup 2 (some .int)) := by rfl
set_option maxRecDepth 100000 in
theorem zm_136 : (zTb 6)[57]? = some (.code yX12_thick cX12_thick 7 (some .boolean)) := by rfl
set_option maxRecDepth 100000 in
theorem zm_137 : (zTb 6)[85]? = some (.code yX12_circle cX12_circle 3 (some .boolean)) := by rfl
set_option maxRecDepth 100000 in
theorem zm_138 : (zTb 6)[89]? = some (.code yX12_tell cX12_tell 5 (some .boolean)) := by rfl
set_option maxRecDepth 100000 in
theorem zm_139 : (zTb 6)[94]? = some (.code yX12_look cX12_look 5 (some .int)) := by rfl
set_option maxRecDepth 100000 in
theorem zm_140 : (zTb 6)[102]? = some (.code yX12_edge cX12_edge 4 (some .int)) := by rfl
set_option maxRecDepth 100000 in
theorem zm_141 : (zTb 6)[115]? = some (.code yX12_areaOf cX12_areaOf 14 (some .long)) := by rfl
set_option maxRecDepth 100000 in
theorem zm_142 : (zTb 6)[110]? = some (.code yX12_area cX12_area 3 (some .long)) := by rfl
set_option maxRecDepth 100000 in
theorem zm_143 : (zTb 6)[131]? = some (.code yX12_fits cX12_fits 19 none) := by rfl
set_option maxRecDepth 100000 in
theorem zm_144 : (zTb 6)[127]? = some (.code yX12_isPair cX12_isPair 3 (some .boolean)) := by rfl
set_option maxRecDepth 100000 in
theorem zm_145 : (zTb 6)[123]? = some (.code yX12_isAsked cX12_isAsked 6 (some .boolean)) := by rfl
set_option maxRecDepth 100000 in
theorem zm_146 : (zTb 6)[119]? = some (.code yX12_fit cX12_fit 6 (some .int)) := by rfl
set_option maxRecDepth 100000 in
theorem zm_147 : (zTb 6)[135]? = some (.code yX12_fitted cX12_fitted 2 (some .int)) := by rfl
set_option maxRecDepth 100000 in
theorem zm_148 : (zTb 6)[143]? = some (.code yX12_isSpan cX12_isSpan 6 (some .boolean)) := by rfl
set_option maxRecDepth 100000 in
theorem zm_149 : (zTb 6)[147]? = some (.code yX12_isBefore cX12_isBefore 4 (some .boolean)) := by rfl
set_option maxRecDepth 100000 in
theorem zm_150 : (zTb 6)[139]? = some (.code yX12_spans cX12_spans 11 (some .int)) := by rfl
set_option maxRecDepth 100000 in
theorem zm_151 : (zTb 6)[151]? = some (.code yX12_span cX12_span 3 (some .int)) := by rfl
set_option maxRecDepth 100000 in
theorem zm_152 : (zTb 6)[159]? = some (.code yX12_noOnePot cX12_noOnePot 3 (some .int)) := by rfl
set_option maxRecDepth 100000 in
theorem zm_153 : (zTb 6)[155]? = some (.code yX12_two cX12_two 3 (some .int)) := by rfl
set_option maxRecDepth 100000 in
theorem zm_154 : (zTb 6)[163]? = some (.code yX12_apart cX12_apart 6 (some .int)) := by rfl
set_option maxRecDepth 100000 in
theorem zm_155 : (zTb 6)[69]? = some (.code yX12_groupOf cX12_groupOf 5 (some .int)) := by rfl
set_option maxRecDepth 100000 in
theorem zm_156 : (zTb 6)[81]? = some (.code yX12_layBy cX12_layBy 9 none) := by rfl
set_option maxRecDepth 100000 in
theorem zm_157 : (zTb 6)[77]? = some (.code yX12_putDown cX12_putDown 5 none) := by rfl
set_option maxRecDepth 100000 in
theorem zm_158 : (zTb 6)[73]? = some (.code yX12_lay cX12_lay 6 none) := by rfl
set_option maxRecDepth 100000 in
theorem zm_159 : (zTb 6)[183]? = some (.code yX12_misses cX12_misses 3 (some .int)) := by rfl
set_option maxRecDepth 100000 in
theorem zm_160 : (zTb 6)[199]? = some (.code yX12_isIn cX12_isIn 15 (some .boolean)) := by rfl
set_option maxRecDepth 100000 in
theorem zm_161 : (zTb 6)[188]? = some (.code yX12_bounds cX12_bounds 5 none) := by rfl
set_option maxRecDepth 100000 in
theorem zm_162 : (zTb 6)[195]? = some (.code yX12_floor cX12_floor 1 (some .int)) := by rfl
set_option maxRecDepth 100000 in
theorem zm_163 : (zTb 6)[192]? = some (.code yX12_points cX12_points 10 (some .int)) := by rfl
set_option maxRecDepth 100000 in
theorem zm_164 : (zTb 6)[175]? = some (.code yX12_freeJoin cX12_freeJoin 2 (some .int)) := by rfl
set_option maxRecDepth 100000 in
theorem zm_165 : (zTb 6)[179]? = some (.code yX12_putJoin cX12_putJoin 9 none) := by rfl
set_option maxRecDepth 100000 in
theorem zm_166 : (zTb 6)[207]? = some (.code yX12_holds cX12_holds 4 none) := by rfl
set_option maxRecDepth 100000 in
theorem zm_167 : (zTb 6)[203]? = some (.code yX12_joins cX12_joins 2 (some .int)) := by rfl
set_option maxRecDepth 100000 in
theorem zm_168 : (zTb 6)[171]? = some (.code yX12_tryJoin cX12_tryJoin 13 (some .int)) := by rfl
set_option maxRecDepth 100000 in
theorem zm_169 : (zTb 6)[167]? = some (.code yX12_join cX12_join 7 (some .int)) := by rfl
set_option maxRecDepth 100000 in
theorem zm_170 : (zTb 6)[215]? = some (.code yX12_byHand cX12_byHand 9 (some .int)) := by rfl
set_option maxRecDepth 100000 in
theorem zm_171 : (zTb 6)[211]? = some (.code yX12_hand cX12_hand 6 (some .int)) := by rfl
set_option maxRecDepth 100000 in
theorem zm_172 : (zTb 6)[231]? = some (.code yX12_groupMany cX12_groupMany 3 (some .int)) := by rfl
set_option maxRecDepth 100000 in
theorem zm_173 : (zTb 6)[227]? = some (.code yX12_takeAway cX12_takeAway 2 none) := by rfl
set_option maxRecDepth 100000 in
theorem zm_174 : (zTb 6)[223]? = some (.code yX12_isThere cX12_isThere 2 (some .boolean)) := by rfl
set_option maxRecDepth 100000 in
theorem zm_175 : (zTb 6)[219]? = some (.code yX12_part cX12_part 2 (some .int)) := by rfl
set_option maxRecDepth 100000 in
theorem zm_176 : (zTb 6)[235]? = some (.code yX12_joined cX12_joined 3 (some .int)) := by rfl
set_option maxRecDepth 100000 in
theorem zm_177 : (zTb 6)[239]? = some (.code yX12_round cX12_round 1 (some .int)) := by rfl
set_option maxRecDepth 100000 in
theorem zm_178 : (zTb 7)[3]? = some (.code yX12_lies cX12_lies 2 (some .int)) := by rfl
set_option maxRecDepth 100000 in
theorem zm_179 : (zTb 7)[19]? = some (.code yX12_along cX12_along 9 (some .boolean)) := by rfl
set_option maxRecDepth 100000 in
theorem zm_180 : (zTb 7)[15]? = some (.code yX12_through cX12_through 7 none) := by rfl
set_option maxRecDepth 100000 in
theorem zm_181 : (zTb 7)[23]? = some (.code yX12_addAlone cX12_addAlone 8 none) := by rfl
set_option maxRecDepth 100000 in
theorem zm_182 : (zTb 7)[11]? = some (.code yX12_orders cX12_orders 2 (some .boolean)) := by rfl
set_option maxRecDepth 100000 in
theorem zm_183 : (zTb 7)[7]? = some (.code yX12_order cX12_order 2 (some .int)) := by rfl
set_option maxRecDepth 100000 in
theorem zm_184 : (zTb 7)[27]? = some (.code yX12_groups cX12_groups 1 (some .int)) := by rfl
set_option maxRecDepth 100000 in
theorem zm_185 : (zTb 7)[31]? = some (.code yX12_group cX12_group 9 (some .long)) := by rfl
set_option maxRecDepth 100000 in
theorem zm_186 : (zTb 7)[36]? = some (.code yX12_undo cX12_undo 5 (some .int)) := by rfl
set_option maxRecDepth 100000 in
theorem zm_187 : (zTb 4)[54]? = some (.code yJ9_floorDiv_7cf53 cJ9_floorDiv_7cf53 3 (some .int)) := by rfl
set_option maxRecDepth 100000 in
theorem zm_188 : (zTb 4)[66]? = some (.code yJ9_floorDiv_f86c9 cJ9_floorDiv_f86c9 6 (some .long)) := by rfl
set_option maxRecDepth 100000 in
theorem zm_189 : (zTb 2)[185]? = some (.code yJ9_floorMod_7cf53 cJ9_floorMod_7cf53 3 (some .int)) := by rfl
set_option maxRecDepth 100000 in
theorem zm_190 : (zTb 3)[6]? = some (.code yJ9_abs_0f7a4 cJ9_abs_0f7a4 1 (some .int)) := by rfl
set_option maxRecDepth 100000 in
theorem zm_191 : (zTb 3)[76]? = some (.code yJ9_abs_067f4 cJ9_abs_067f4 2 (some .long)) := by rfl
set_option maxRecDepth 100000 in
theorem zm_192 : (zTb 3)[9]? = some (.code yJ9_max_7cf53 cJ9_max_7cf53 2 (some .int)) := by rfl
set_option maxRecDepth 100000 in
theorem zm_193 : (zTb 4)[184]? = some (.code yJ9_max_f86c9 cJ9_max_f86c9 4 (some .long)) := by rfl
set_option maxRecDepth 100000 in
theorem zm_194 : (zTb 3)[105]? = some (.code yJ9_min_7cf53 cJ9_min_7cf53 2 (some .int)) := by rfl
set_option maxRecDepth 100000 in
theorem zm_195 : (zTb 2)[22]? = some (.code yJ7_fill_53178 cJ7_fill_53178 4 none) := by rfl
theorem zGoodCode (y : MethodName) (c : ByteArray) (n : Nat) (r : Option FieldType) : goodWord (.code y c n r) = true := by rfl
theorem zMemOf {k i : Nat} {y : MethodName} {c : ByteArray} {n : Nat} {r : Option FieldType} (h : (zTb k)[i]? = some (.code y c n r)) : Cond.code y c n r ∈ zW := List.mem_filter.mpr ⟨zTb_in (List.mem_of_getElem? h), zGoodCode y c n r⟩
theorem zMem {y : Nat} (h : zOrd y = true) : Cond.code (zY y) (zB y) (zL y) (zR y) ∈ zW := by
  match y, h with
  | 0, _ => exact zMemOf zm_0
  | 1, _ => exact zMemOf zm_1
  | 2, _ => exact zMemOf zm_2
  | 3, _ => exact zMemOf zm_3
  | 4, _ => exact zMemOf zm_4
  | 5, _ => exact zMemOf zm_5
  | 6, _ => exact zMemOf zm_6
  | 7, _ => exact zMemOf zm_7
  | 8, _ => exact zMemOf zm_8
  | 9, _ => exact zMemOf zm_9
  | 10, _ => exact zMemOf zm_10
  | 11, _ => exact zMemOf zm_11
  | 12, _ => exact zMemOf zm_12
  | 13, _ => exact zMemOf zm_13
  | 14, _ => exact zMemOf zm_14
  | 15, _ => exact zMemOf zm_15
  | 16, _ => exact zMemOf zm_16
  | 17, _ => exact zMemOf zm_17
  | 18, _ => exact zMemOf zm_18
  | 19, _ => exact zMemOf zm_19
  | 20, _ => exact zMemOf zm_20
  | 21, _ => exact zMemOf zm_21
  | 22, _ => exact zMemOf zm_22
  | 23, _ => exact zMemOf zm_23
  | 24, _ => exact zMemOf zm_24
  | 25, _ => exact zMemOf zm_25
  | 26, _ => exact zMemOf zm_26
  | 27, _ => exact zMemOf zm_27
  | 28, _ => exact zMemOf zm_28
  | 29, _ => exact zMemOf zm_29
  | 30, _ => exact zMemOf zm_30
  | 31, _ => exact zMemOf zm_31
  | 32, _ => exact zMemOf zm_32
  | 33, _ => exact zMemOf zm_33
  | 34, _ => exact zMemOf zm_34
  | 35, _ => exact zMemOf zm_35
  | 36, _ => exact zMemOf zm_36
  | 37, _ => exact zMemOf zm_37
  | 38, _ => exact zMemOf zm_38
  | 39, _ => exact zMemOf zm_39
  | 40, _ => exact zMemOf zm_40
  | 41, _ => exact zMemOf zm_41
  | 42, _ => exact zMemOf zm_42
  | 43, _ => exact zMemOf zm_43
  | 44, _ => exact zMemOf zm_44
  | 45, _ => exact zMemOf zm_45
  | 46, _ => exact zMemOf zm_46
  | 47, _ => exact zMemOf zm_47
  | 48, _ => exact zMemOf zm_48
  | 49, _ => exact zMemOf zm_49
  | 50, _ => exact zMemOf zm_50
  | 51, _ => exact zMemOf zm_51
  | 52, _ => exact zMemOf zm_52
  | 53, _ => exact zMemOf zm_53
  | 54, _ => exact zMemOf zm_54
  | 55, _ => exact zMemOf zm_55
  | 56, _ => exact zMemOf zm_56
  | 57, _ => exact zMemOf zm_57
  | 58, _ => exact zMemOf zm_58
  | 59, _ => exact zMemOf zm_59
  | 60, _ => exact zMemOf zm_60
  | 61, _ => exact zMemOf zm_61
  | 62, _ => exact zMemOf zm_62
  | 63, _ => exact zMemOf zm_63
  | 64, _ => exact zMemOf zm_64
  | 65, _ => exact zMemOf zm_65
  | 66, _ => exact zMemOf zm_66
  | 67, _ => exact zMemOf zm_67
  | 68, _ => exact zMemOf zm_68
  | 69, _ => exact zMemOf zm_69
  | 70, _ => exact zMemOf zm_70
  | 71, _ => exact zMemOf zm_71
  | 72, _ => exact zMemOf zm_72
  | 73, _ => exact zMemOf zm_73
  | 74, _ => exact zMemOf zm_74
  | 75, _ => exact zMemOf zm_75
  | 76, _ => exact zMemOf zm_76
  | 77, _ => exact zMemOf zm_77
  | 78, _ => exact zMemOf zm_78
  | 79, _ => exact zMemOf zm_79
  | 80, _ => exact zMemOf zm_80
  | 81, _ => exact zMemOf zm_81
  | 82, _ => exact zMemOf zm_82
  | 83, _ => exact zMemOf zm_83
  | 84, _ => exact zMemOf zm_84
  | 85, _ => exact zMemOf zm_85
  | 86, _ => exact zMemOf zm_86
  | 87, _ => exact zMemOf zm_87
  | 88, _ => exact zMemOf zm_88
  | 89, _ => exact zMemOf zm_89
  | 90, _ => exact zMemOf zm_90
  | 91, _ => exact zMemOf zm_91
  | 92, _ => exact zMemOf zm_92
  | 93, _ => exact zMemOf zm_93
  | 94, _ => exact zMemOf zm_94
  | 95, _ => exact zMemOf zm_95
  | 96, _ => exact zMemOf zm_96
  | 97, _ => exact zMemOf zm_97
  | 98, _ => exact zMemOf zm_98
  | 99, _ => exact zMemOf zm_99
  | 100, _ => exact zMemOf zm_100
  | 101, _ => exact zMemOf zm_101
  | 102, _ => exact zMemOf zm_102
  | 103, _ => exact zMemOf zm_103
  | 104, _ => exact zMemOf zm_104
  | 105, _ => exact zMemOf zm_105
  | 106, _ => exact zMemOf zm_106
  | 107, _ => exact zMemOf zm_107
  | 108, _ => exact zMemOf zm_108
  | 109, _ => exact zMemOf zm_109
  | 110, _ => exact zMemOf zm_110
  | 111, _ => exact zMemOf zm_111
  | 112, _ => exact zMemOf zm_112
  | 113, _ => exact zMemOf zm_113
  | 114, _ => exact zMemOf zm_114
  | 115, _ => exact zMemOf zm_115
  | 116, _ => exact zMemOf zm_116
  | 117, _ => exact zMemOf zm_117
  | 118, _ => exact zMemOf zm_118
  | 119, _ => exact zMemOf zm_119
  | 120, _ => exact zMemOf zm_120
  | 121, _ => exact zMemOf zm_121
  | 122, _ => exact zMemOf zm_122
  | 123, _ => exact zMemOf zm_123
  | 124, _ => exact zMemOf zm_124
  | 125, _ => exact zMemOf zm_125
  | 126, _ => exact zMemOf zm_126
  | 127, _ => exact zMemOf zm_127
  | 128, _ => exact zMemOf zm_128
  | 129, _ => exact zMemOf zm_129
  | 130, _ => exact zMemOf zm_130
  | 131, _ => exact zMemOf zm_131
  | 132, _ => exact zMemOf zm_132
  | 133, _ => exact zMemOf zm_133
  | 134, _ => exact zMemOf zm_134
  | 135, _ => exact zMemOf zm_135
  | 136, _ => exact zMemOf zm_136
  | 137, _ => exact zMemOf zm_137
  | 138, _ => exact zMemOf zm_138
  | 139, _ => exact zMemOf zm_139
  | 140, _ => exact zMemOf zm_140
  | 141, _ => exact zMemOf zm_141
  | 142, _ => exact zMemOf zm_142
  | 143, _ => exact zMemOf zm_143
  | 144, _ => exact zMemOf zm_144
  | 145, _ => exact zMemOf zm_145
  | 146, _ => exact zMemOf zm_146
  | 147, _ => exact zMemOf zm_147
  | 148, _ => exact zMemOf zm_148
  | 149, _ => exact zMemOf zm_149
  | 150, _ => exact zMemOf zm_150
  | 151, _ => exact zMemOf zm_151
  | 152, _ => exact zMemOf zm_152
  | 153, _ => exact zMemOf zm_153
  | 154, _ => exact zMemOf zm_154
  | 155, _ => exact zMemOf zm_155
  | 156, _ => exact zMemOf zm_156
  | 157, _ => exact zMemOf zm_157
  | 158, _ => exact zMemOf zm_158
  | 159, _ => exact zMemOf zm_159
  | 160, _ => exact zMemOf zm_160
  | 161, _ => exact zMemOf zm_161
  | 162, _ => exact zMemOf zm_162
  | 163, _ => exact zMemOf zm_163
  | 164, _ => exact zMemOf zm_164
  | 165, _ => exact zMemOf zm_165
  | 166, _ => exact zMemOf zm_166
  | 167, _ => exact zMemOf zm_167
  | 168, _ => exact zMemOf zm_168
  | 169, _ => exact zMemOf zm_169
  | 170, _ => exact zMemOf zm_170
  | 171, _ => exact zMemOf zm_171
  | 172, _ => exact zMemOf zm_172
  | 173, _ => exact zMemOf zm_173
  | 174, _ => exact zMemOf zm_174
  | 175, _ => exact zMemOf zm_175
  | 176, _ => exact zMemOf zm_176
  | 177, _ => exact zMemOf zm_177
  | 178, _ => exact zMemOf zm_178
  | 179, _ => exact zMemOf zm_179
  | 180, _ => exact zMemOf zm_180
  | 181, _ => exact zMemOf zm_181
  | 182, _ => exact zMemOf zm_182
  | 183, _ => exact zMemOf zm_183
  | 184, _ => exact zMemOf zm_184
  | 185, _ => exact zMemOf zm_185
  | 186, _ => exact zMemOf zm_186
  | 187, _ => exact zMemOf zm_187
  | 188, _ => exact zMemOf zm_188
  | 189, _ => exact zMemOf zm_189
  | 190, _ => exact zMemOf zm_190
  | 191, _ => exact zMemOf zm_191
  | 192, _ => exact zMemOf zm_192
  | 193, _ => exact zMemOf zm_193
  | 194, _ => exact zMemOf zm_194
  | 195, _ => exact zMemOf zm_195
  | 196, h => exact absurd h (by decide)
  | 197, h => exact absurd h (by decide)
  | 198, h => exact absurd h (by decide)
  | k + 199, h => exact absurd h (by intro hh; simp only [zOrd, Bool.and_eq_true, decide_eq_true_eq] at hh; omega)
def zYok (y : Nat) : Bool := decide ((zY y).cls = zOn (zO y)) && plainFor (zY y) && decide ((zY y).cls ≠ "java/lang/invoke/MethodHandle") && decide ((zY y).cls ≠ "java/lang/invoke/VarHandle")
set_option maxRecDepth 100000 in
theorem zY_ok : ((List.range 199).all zYok) = true := by decide +kernel
