def zDok (c : ByteArray) (l : List (Nat × Instr × Nat)) : Bool := l.all fun e => decide (decode c e.1 = .ok (e.2.1, e.2.2))
set_option maxRecDepth 100000 in
theorem zd_0 : zDok cX0_init zc_0 = true := by decide +kernel
set_option maxRecDepth 100000 in
theorem zd_1 : zDok cX0_clear zc_1 = true := by decide +kernel
set_option maxRecDepth 100000 in
theorem zd_2 : zDok cX0_take zc_2 = true := by decide +kernel
set_option maxRecDepth 100000 in
theorem zd_3 : zDok cX0_codeOf zc_3 = true := by decide +kernel
set_option maxRecDepth 100000 in
theorem zd_4 : zDok cX0_claim zc_4 = true := by decide +kernel
set_option maxRecDepth 100000 in
theorem zd_5 : zDok cX0_isBegunBySole zc_5 = true := by decide +kernel
set_option maxRecDepth 100000 in
theorem zd_6 : zDok cX0_otherOf zc_6 = true := by decide +kernel
set_option maxRecDepth 100000 in
theorem zd_7 : zDok cX0_stepOfOther zc_7 = true := by decide +kernel
set_option maxRecDepth 100000 in
theorem zd_8 : zDok cX0_turnOf zc_8 = true := by decide +kernel
set_option maxRecDepth 100000 in
theorem zd_9 : zDok cX0_areAllOf zc_9 = true := by decide +kernel
set_option maxRecDepth 100000 in
theorem zd_10 : zDok cX0_isSole zc_10 = true := by decide +kernel
set_option maxRecDepth 100000 in
theorem zd_11 : zDok cX0_slotOf zc_11 = true := by decide +kernel
set_option maxRecDepth 100000 in
theorem zd_12 : zDok cX1_init zc_12 = true := by decide +kernel
set_option maxRecDepth 100000 in
theorem zd_13 : zDok cX2_init zc_13 = true := by decide +kernel
set_option maxRecDepth 100000 in
theorem zd_14 : zDok cX2_has zc_14 = true := by decide +kernel
set_option maxRecDepth 100000 in
theorem zd_15 : zDok cX2_firstFree zc_15 = true := by decide +kernel
set_option maxRecDepth 100000 in
theorem zd_16 : zDok cX2_latest zc_16 = true := by decide +kernel
set_option maxRecDepth 100000 in
theorem zd_17 : zDok cX2_write zc_17 = true := by decide +kernel
set_option maxRecDepth 100000 in
theorem zd_18 : zDok cX2_strike zc_18 = true := by decide +kernel
set_option maxRecDepth 100000 in
theorem zd_19 : zDok cX2_setSteps zc_19 = true := by decide +kernel
set_option maxRecDepth 100000 in
theorem zd_20 : zDok cX3_takesMarks zc_20 = true := by decide +kernel
set_option maxRecDepth 100000 in
theorem zd_21 : zDok cX4_init zc_21 = true := by decide +kernel
set_option maxRecDepth 100000 in
theorem zd_22 : zDok cX4_layAll zc_22 = true := by decide +kernel
set_option maxRecDepth 100000 in
theorem zd_23 : zDok cX4_layNeighboursOf zc_23 = true := by decide +kernel
set_option maxRecDepth 100000 in
theorem zd_24 : zDok cX4_lay zc_24 = true := by decide +kernel
set_option maxRecDepth 100000 in
theorem zd_25 : zDok cX4_offsetX zc_25 = true := by decide +kernel
set_option maxRecDepth 100000 in
theorem zd_26 : zDok cX4_offsetY zc_26 = true := by decide +kernel
set_option maxRecDepth 100000 in
theorem zd_27 : zDok cX4_missOf zc_27 = true := by decide +kernel
set_option maxRecDepth 100000 in
theorem zd_28 : zDok cX5_init zc_28 = true := by decide +kernel
set_option maxRecDepth 100000 in
theorem zd_29 : zDok cX5_draw zc_29 = true := by decide +kernel
set_option maxRecDepth 100000 in
theorem zd_30 : zDok cX5_pointsSharedWith zc_30 = true := by decide +kernel
set_option maxRecDepth 100000 in
theorem zd_31 : zDok cX5_pointsOfRowSharedWith zc_31 = true := by decide +kernel
set_option maxRecDepth 100000 in
theorem zd_32 : zDok cX5_cutAt zc_32 = true := by decide +kernel
set_option maxRecDepth 100000 in
theorem zd_33 : zDok cX5_cutOf zc_33 = true := by decide +kernel
set_option maxRecDepth 100000 in
theorem zd_34 : zDok cX5_keepCut zc_34 = true := by decide +kernel
set_option maxRecDepth 100000 in
theorem zd_35 : zDok cX6_init zc_35 = true := by decide +kernel
set_option maxRecDepth 100000 in
theorem zd_36 : zDok cX6_put zc_36 = true := by decide +kernel
set_option maxRecDepth 100000 in
theorem zd_37 : zDok cX6_putFacing zc_37 = true := by decide +kernel
set_option maxRecDepth 100000 in
theorem zd_38 : zDok cX6_copyPairs zc_38 = true := by decide +kernel
set_option maxRecDepth 100000 in
theorem zd_39 : zDok cX6_stepOfA zc_39 = true := by decide +kernel
set_option maxRecDepth 100000 in
theorem zd_40 : zDok cX6_stepOfB zc_40 = true := by decide +kernel
set_option maxRecDepth 100000 in
theorem zd_41 : zDok cX7_init zc_41 = true := by decide +kernel
set_option maxRecDepth 100000 in
theorem zd_42 : zDok cX7_addStep zc_42 = true := by decide +kernel
set_option maxRecDepth 100000 in
theorem zd_43 : zDok cX7_setMark zc_43 = true := by decide +kernel
set_option maxRecDepth 100000 in
theorem zd_44 : zDok cX7_slackWith zc_44 = true := by decide +kernel
set_option maxRecDepth 100000 in
theorem zd_45 : zDok cX7_canPair zc_45 = true := by decide +kernel
set_option maxRecDepth 100000 in
theorem zd_46 : zDok cX7_behind zc_46 = true := by decide +kernel
set_option maxRecDepth 100000 in
theorem zd_47 : zDok cX7_before zc_47 = true := by decide +kernel
set_option maxRecDepth 100000 in
theorem zd_48 : zDok cX7_goesX zc_48 = true := by decide +kernel
set_option maxRecDepth 100000 in
theorem zd_49 : zDok cX7_goesY zc_49 = true := by decide +kernel
set_option maxRecDepth 100000 in
theorem zd_50 : zDok cX7_placeX zc_50 = true := by decide +kernel
set_option maxRecDepth 100000 in
theorem zd_51 : zDok cX7_placeY zc_51 = true := by decide +kernel
set_option maxRecDepth 100000 in
theorem zd_52 : zDok cX7_twiceItsArea zc_52 = true := by decide +kernel
set_option maxRecDepth 100000 in
theorem zd_53 : zDok cX7_stepsInJoins zc_53 = true := by decide +kernel
set_option maxRecDepth 100000 in
theorem zd_54 : zDok cX8_init zc_54 = true := by decide +kernel
set_option maxRecDepth 100000 in
theorem zd_55 : zDok cX8_measure zc_55 = true := by decide +kernel
set_option maxRecDepth 100000 in
theorem zd_56 : zDok cX8_goesAheadOf zc_56 = true := by decide +kernel
set_option maxRecDepth 100000 in
theorem zd_57 : zDok cX8_copySpan zc_57 = true := by decide +kernel
set_option maxRecDepth 100000 in
theorem zd_58 : zDok cX9_init zc_58 = true := by decide +kernel
set_option maxRecDepth 100000 in
theorem zd_59 : zDok cX9_clear zc_59 = true := by decide +kernel
set_option maxRecDepth 100000 in
theorem zd_60 : zDok cX9_take zc_60 = true := by decide +kernel
set_option maxRecDepth 100000 in
theorem zd_61 : zDok cX11_init zc_61 = true := by decide +kernel
set_option maxRecDepth 100000 in
theorem zd_62 : zDok cX11_sherd zc_62 = true := by decide +kernel
set_option maxRecDepth 100000 in
theorem zd_63 : zDok cX11_step zc_63 = true := by decide +kernel
set_option maxRecDepth 100000 in
theorem zd_64 : zDok cX11_close zc_64 = true := by decide +kernel
set_option maxRecDepth 100000 in
theorem zd_65 : zDok cX11_mark zc_65 = true := by decide +kernel
set_option maxRecDepth 100000 in
theorem zd_66 : zDok cX11_paint zc_66 = true := by decide +kernel
set_option maxRecDepth 100000 in
theorem zd_67 : zDok cX11_thick zc_67 = true := by decide +kernel
set_option maxRecDepth 100000 in
theorem zd_68 : zDok cX11_circle zc_68 = true := by decide +kernel
set_option maxRecDepth 100000 in
theorem zd_69 : zDok cX11_tell zc_69 = true := by decide +kernel
set_option maxRecDepth 100000 in
theorem zd_70 : zDok cX11_look zc_70 = true := by decide +kernel
set_option maxRecDepth 100000 in
theorem zd_71 : zDok cX11_edge zc_71 = true := by decide +kernel
set_option maxRecDepth 100000 in
theorem zd_72 : zDok cX11_area zc_72 = true := by decide +kernel
set_option maxRecDepth 100000 in
theorem zd_73 : zDok cX11_fit zc_73 = true := by decide +kernel
set_option maxRecDepth 100000 in
theorem zd_74 : zDok cX11_fitted zc_74 = true := by decide +kernel
set_option maxRecDepth 100000 in
theorem zd_75 : zDok cX11_spans zc_75 = true := by decide +kernel
set_option maxRecDepth 100000 in
theorem zd_76 : zDok cX11_span zc_76 = true := by decide +kernel
set_option maxRecDepth 100000 in
theorem zd_77 : zDok cX11_two zc_77 = true := by decide +kernel
set_option maxRecDepth 100000 in
theorem zd_78 : zDok cX11_apart zc_78 = true := by decide +kernel
set_option maxRecDepth 100000 in
theorem zd_79 : zDok cX11_join zc_79 = true := by decide +kernel
set_option maxRecDepth 100000 in
theorem zd_80 : zDok cX11_hand zc_80 = true := by decide +kernel
set_option maxRecDepth 100000 in
theorem zd_81 : zDok cX11_part zc_81 = true := by decide +kernel
set_option maxRecDepth 100000 in
theorem zd_82 : zDok cX11_joined zc_82 = true := by decide +kernel
set_option maxRecDepth 100000 in
theorem zd_83 : zDok cX11_round zc_83 = true := by decide +kernel
set_option maxRecDepth 100000 in
theorem zd_84 : zDok cX11_lies zc_84 = true := by decide +kernel
set_option maxRecDepth 100000 in
theorem zd_85 : zDok cX11_order zc_85 = true := by decide +kernel
set_option maxRecDepth 100000 in
theorem zd_86 : zDok cX11_groups zc_86 = true := by decide +kernel
set_option maxRecDepth 100000 in
theorem zd_87 : zDok cX11_group zc_87 = true := by decide +kernel
set_option maxRecDepth 100000 in
theorem zd_88 : zDok cX11_undo zc_88 = true := by decide +kernel
set_option maxRecDepth 100000 in
theorem zd_89 : zDok cX11_hasSherd zc_89 = true := by decide +kernel
set_option maxRecDepth 100000 in
theorem zd_90 : zDok cX11_hasStep zc_90 = true := by decide +kernel
set_option maxRecDepth 100000 in
theorem zd_91 : zDok cX11_isClosed zc_91 = true := by decide +kernel
set_option maxRecDepth 100000 in
theorem zd_92 : zDok cX11_canChange zc_92 = true := by decide +kernel
set_option maxRecDepth 100000 in
theorem zd_93 : zDok cX11_canMeet zc_93 = true := by decide +kernel
set_option maxRecDepth 100000 in
theorem zd_94 : zDok cX11_isAlone zc_94 = true := by decide +kernel
set_option maxRecDepth 100000 in
theorem zd_95 : zDok cX11_isTurn zc_95 = true := by decide +kernel
set_option maxRecDepth 100000 in
theorem zd_96 : zDok cX11_greater zc_96 = true := by decide +kernel
set_option maxRecDepth 100000 in
theorem zd_97 : zDok cX11_tenthsOf zc_97 = true := by decide +kernel
set_option maxRecDepth 100000 in
theorem zd_98 : zDok cX11_measure zc_98 = true := by decide +kernel
set_option maxRecDepth 100000 in
theorem zd_99 : zDok cX11_isSpan zc_99 = true := by decide +kernel
set_option maxRecDepth 100000 in
theorem zd_100 : zDok cX11_walkSpans zc_100 = true := by decide +kernel
set_option maxRecDepth 100000 in
theorem zd_101 : zDok cX11_walkTurns zc_101 = true := by decide +kernel
set_option maxRecDepth 100000 in
theorem zd_102 : zDok cX11_whyNoOnePot zc_102 = true := by decide +kernel
set_option maxRecDepth 100000 in
theorem zd_103 : zDok cX11_firstPartFor zc_103 = true := by decide +kernel
set_option maxRecDepth 100000 in
theorem zd_104 : zDok cX11_isOfPart zc_104 = true := by decide +kernel
set_option maxRecDepth 100000 in
theorem zd_105 : zDok cX11_isAnyStepJoined zc_105 = true := by decide +kernel
set_option maxRecDepth 100000 in
theorem zd_106 : zDok cX11_tryToJoin zc_106 = true := by decide +kernel
set_option maxRecDepth 100000 in
theorem zd_107 : zDok cX11_areOfNoOnePot zc_107 = true := by decide +kernel
set_option maxRecDepth 100000 in
theorem zd_108 : zDok cX11_anyLiesOnAnother zc_108 = true := by decide +kernel
set_option maxRecDepth 100000 in
theorem zd_109 : zDok cX11_drawGroup zc_109 = true := by decide +kernel
set_option maxRecDepth 100000 in
theorem zd_110 : zDok cX11_joinFirstSure zc_110 = true := by decide +kernel
set_option maxRecDepth 100000 in
theorem zd_111 : zDok cX11_claimAllSteps zc_111 = true := by decide +kernel
set_option maxRecDepth 100000 in
theorem zd_112 : zDok cX11_gatherSure zc_112 = true := by decide +kernel
set_option maxRecDepth 100000 in
theorem zd_113 : zDok cX11_sherdsIn zc_113 = true := by decide +kernel
set_option maxRecDepth 100000 in
theorem zd_114 : zDok cX11_joinsIn zc_114 = true := by decide +kernel
set_option maxRecDepth 100000 in
theorem zd_115 : zDok cX11_areaOf zc_115 = true := by decide +kernel
set_option maxRecDepth 100000 in
theorem zd_116 : zDok cX11_missingOf zc_116 = true := by decide +kernel
set_option maxRecDepth 100000 in
theorem zd_117 : zDok cX12_init zc_117 = true := by decide +kernel
set_option maxRecDepth 100000 in
theorem zd_118 : zDok cX12_thrown zc_118 = true := by decide +kernel
set_option maxRecDepth 100000 in
theorem zd_119 : zDok cX12_fails zc_119 = true := by decide +kernel
set_option maxRecDepth 100000 in
theorem zd_120 : zDok cX12_x zc_120 = true := by decide +kernel
set_option maxRecDepth 100000 in
theorem zd_121 : zDok cX12_y zc_121 = true := by decide +kernel
set_option maxRecDepth 100000 in
theorem zd_122 : zDok cX12_placeX zc_122 = true := by decide +kernel
set_option maxRecDepth 100000 in
theorem zd_123 : zDok cX12_placeY zc_123 = true := by decide +kernel
set_option maxRecDepth 100000 in
theorem zd_124 : zDok cX12_size zc_124 = true := by decide +kernel
set_option maxRecDepth 100000 in
theorem zd_125 : zDok cX12_greater zc_125 = true := by decide +kernel
set_option maxRecDepth 100000 in
theorem zd_126 : zDok cX12_isSherd zc_126 = true := by decide +kernel
set_option maxRecDepth 100000 in
theorem zd_127 : zDok cX12_sherd zc_127 = true := by decide +kernel
set_option maxRecDepth 100000 in
theorem zd_128 : zDok cX12_step zc_128 = true := by decide +kernel
set_option maxRecDepth 100000 in
theorem zd_129 : zDok cX12_close zc_129 = true := by decide +kernel
set_option maxRecDepth 100000 in
theorem zd_130 : zDok cX12_isStep zc_130 = true := by decide +kernel
set_option maxRecDepth 100000 in
theorem zd_131 : zDok cX12_mark zc_131 = true := by decide +kernel
set_option maxRecDepth 100000 in
theorem zd_132 : zDok cX12_shows zc_132 = true := by decide +kernel
set_option maxRecDepth 100000 in
theorem zd_133 : zDok cX12_paint zc_133 = true := by decide +kernel
set_option maxRecDepth 100000 in
theorem zd_134 : zDok cX12_isBreak zc_134 = true := by decide +kernel
set_option maxRecDepth 100000 in
theorem zd_135 : zDok cX12_inGroup zc_135 = true := by decide +kernel
set_option maxRecDepth 100000 in
theorem zd_136 : zDok cX12_thick zc_136 = true := by decide +kernel
set_option maxRecDepth 100000 in
theorem zd_137 : zDok cX12_circle zc_137 = true := by decide +kernel
set_option maxRecDepth 100000 in
theorem zd_138 : zDok cX12_tell zc_138 = true := by decide +kernel
set_option maxRecDepth 100000 in
theorem zd_139 : zDok cX12_look zc_139 = true := by decide +kernel
set_option maxRecDepth 100000 in
theorem zd_140 : zDok cX12_edge zc_140 = true := by decide +kernel
set_option maxRecDepth 100000 in
theorem zd_141 : zDok cX12_areaOf zc_141 = true := by decide +kernel
set_option maxRecDepth 100000 in
theorem zd_142 : zDok cX12_area zc_142 = true := by decide +kernel
set_option maxRecDepth 100000 in
theorem zd_143 : zDok cX12_fits zc_143 = true := by decide +kernel
set_option maxRecDepth 100000 in
theorem zd_144 : zDok cX12_isPair zc_144 = true := by decide +kernel
set_option maxRecDepth 100000 in
theorem zd_145 : zDok cX12_isAsked zc_145 = true := by decide +kernel
set_option maxRecDepth 100000 in
theorem zd_146 : zDok cX12_fit zc_146 = true := by decide +kernel
set_option maxRecDepth 100000 in
theorem zd_147 : zDok cX12_fitted zc_147 = true := by decide +kernel
set_option maxRecDepth 100000 in
theorem zd_148 : zDok cX12_isSpan zc_148 = true := by decide +kernel
set_option maxRecDepth 100000 in
theorem zd_149 : zDok cX12_isBefore zc_149 = true := by decide +kernel
set_option maxRecDepth 100000 in
theorem zd_150 : zDok cX12_spans zc_150 = true := by decide +kernel
set_option maxRecDepth 100000 in
theorem zd_151 : zDok cX12_span zc_151 = true := by decide +kernel
set_option maxRecDepth 100000 in
theorem zd_152 : zDok cX12_noOnePot zc_152 = true := by decide +kernel
set_option maxRecDepth 100000 in
theorem zd_153 : zDok cX12_two zc_153 = true := by decide +kernel
set_option maxRecDepth 100000 in
theorem zd_154 : zDok cX12_apart zc_154 = true := by decide +kernel
set_option maxRecDepth 100000 in
theorem zd_155 : zDok cX12_groupOf zc_155 = true := by decide +kernel
set_option maxRecDepth 100000 in
theorem zd_156 : zDok cX12_layBy zc_156 = true := by decide +kernel
set_option maxRecDepth 100000 in
theorem zd_157 : zDok cX12_putDown zc_157 = true := by decide +kernel
set_option maxRecDepth 100000 in
theorem zd_158 : zDok cX12_lay zc_158 = true := by decide +kernel
set_option maxRecDepth 100000 in
theorem zd_159 : zDok cX12_misses zc_159 = true := by decide +kernel
set_option maxRecDepth 100000 in
theorem zd_160 : zDok cX12_isIn zc_160 = true := by decide +kernel
set_option maxRecDepth 100000 in
theorem zd_161 : zDok cX12_bounds zc_161 = true := by decide +kernel
set_option maxRecDepth 100000 in
theorem zd_162 : zDok cX12_floor zc_162 = true := by decide +kernel
set_option maxRecDepth 100000 in
theorem zd_163 : zDok cX12_points zc_163 = true := by decide +kernel
set_option maxRecDepth 100000 in
theorem zd_164 : zDok cX12_freeJoin zc_164 = true := by decide +kernel
set_option maxRecDepth 100000 in
theorem zd_165 : zDok cX12_putJoin zc_165 = true := by decide +kernel
set_option maxRecDepth 100000 in
theorem zd_166 : zDok cX12_holds zc_166 = true := by decide +kernel
set_option maxRecDepth 100000 in
theorem zd_167 : zDok cX12_joins zc_167 = true := by decide +kernel
set_option maxRecDepth 100000 in
theorem zd_168 : zDok cX12_tryJoin zc_168 = true := by decide +kernel
set_option maxRecDepth 100000 in
theorem zd_169 : zDok cX12_join zc_169 = true := by decide +kernel
set_option maxRecDepth 100000 in
theorem zd_170 : zDok cX12_byHand zc_170 = true := by decide +kernel
set_option maxRecDepth 100000 in
theorem zd_171 : zDok cX12_hand zc_171 = true := by decide +kernel
set_option maxRecDepth 100000 in
theorem zd_172 : zDok cX12_groupMany zc_172 = true := by decide +kernel
set_option maxRecDepth 100000 in
theorem zd_173 : zDok cX12_takeAway zc_173 = true := by decide +kernel
set_option maxRecDepth 100000 in
theorem zd_174 : zDok cX12_isThere zc_174 = true := by decide +kernel
set_option maxRecDepth 100000 in
theorem zd_175 : zDok cX12_part zc_175 = true := by decide +kernel
set_option maxRecDepth 100000 in
theorem zd_176 : zDok cX12_joined zc_176 = true := by decide +kernel
set_option maxRecDepth 100000 in
theorem zd_177 : zDok cX12_round zc_177 = true := by decide +kernel
set_option maxRecDepth 100000 in
theorem zd_178 : zDok cX12_lies zc_178 = true := by decide +kernel
set_option maxRecDepth 100000 in
theorem zd_179 : zDok cX12_along zc_179 = true := by decide +kernel
set_option maxRecDepth 100000 in
theorem zd_180 : zDok cX12_through zc_180 = true := by decide +kernel
set_option maxRecDepth 100000 in
theorem zd_181 : zDok cX12_addAlone zc_181 = true := by decide +kernel
set_option maxRecDepth 100000 in
theorem zd_182 : zDok cX12_orders zc_182 = true := by decide +kernel
set_option maxRecDepth 100000 in
theorem zd_183 : zDok cX12_order zc_183 = true := by decide +kernel
set_option maxRecDepth 100000 in
theorem zd_184 : zDok cX12_groups zc_184 = true := by decide +kernel
set_option maxRecDepth 100000 in
theorem zd_185 : zDok cX12_group zc_185 = true := by decide +kernel
set_option maxRecDepth 100000 in
theorem zd_186 : zDok cX12_undo zc_186 = true := by decide +kernel
set_option maxRecDepth 100000 in
theorem zd_187 : zDok cJ9_floorDiv_7cf53 zc_187 = true := by decide +kernel
set_option maxRecDepth 100000 in
theorem zd_188 : zDok cJ9_floorDiv_f86c9 zc_188 = true := by decide +kernel
set_option maxRecDepth 100000 in
theorem zd_189 : zDok cJ9_floorMod_7cf53 zc_189 = true := by decide +kernel
set_option maxRecDepth 100000 in
theorem zd_190 : zDok cJ9_abs_0f7a4 zc_190 = true := by decide +kernel
set_option maxRecDepth 100000 in
theorem zd_191 : zDok cJ9_abs_067f4 zc_191 = true := by decide +kernel
set_option maxRecDepth 100000 in
theorem zd_192 : zDok cJ9_max_7cf53 zc_192 = true := by decide +kernel
set_option maxRecDepth 100000 in
theorem zd_193 : zDok cJ9_max_f86c9 zc_193 = true := by decide +kernel
set_option maxRecDepth 100000 in
theorem zd_194 : zDok cJ9_min_7cf53 zc_194 = true := by decide +kernel
set_option maxRecDepth 100000 in
theorem zd_195 : zDok cJ7_fill_53178 zc_195 = true := by decide +kernel
set_option maxRecDepth 100000 in
theorem zd_196 : zDok cL_look zc_196 = true := by decide +kernel
set_option maxRecDepth 100000 in
theorem zd_197 : zDok cL_edge zc_197 = true := by decide +kernel
set_option maxRecDepth 100000 in
theorem zd_198_0 : zDok cL_law zc_198_0 = true := by decide +kernel
set_option maxRecDepth 100000 in
theorem zd_198_1 : zDok cL_law zc_198_1 = true := by decide +kernel
set_option maxRecDepth 100000 in
theorem zd_198_2 : zDok cL_law zc_198_2 = true := by decide +kernel
set_option maxRecDepth 100000 in
theorem zd_198_3 : zDok cL_law zc_198_3 = true := by decide +kernel
set_option maxRecDepth 100000 in
theorem zd_198_4 : zDok cL_law zc_198_4 = true := by decide +kernel
set_option maxRecDepth 100000 in
theorem zd_198_5 : zDok cL_law zc_198_5 = true := by decide +kernel
set_option maxRecDepth 100000 in
theorem zd_198_6 : zDok cL_law zc_198_6 = true := by decide +kernel
set_option maxRecDepth 100000 in
theorem zd_198_7 : zDok cL_law zc_198_7 = true := by decide +kernel
set_option maxRecDepth 100000 in
theorem zd_198_8 : zDok cL_law zc_198_8 = true := by decide +kernel
set_option maxRecDepth 100000 in
theorem zd_198_9 : zDok cL_law zc_198_9 = true := by decide +kernel
set_option maxRecDepth 100000 in
theorem zd_198_10 : zDok cL_law zc_198_10 = true := by decide +kernel
set_option maxRecDepth 100000 in
theorem zd_198_11 : zDok cL_law zc_198_11 = true := by decide +kernel
theorem zDok_app {c : ByteArray} {a b : List (Nat × Instr × Nat)} (ha : zDok c a = true) (hb : zDok c b = true) : zDok c (a ++ b) = true := by unfold zDok at *; rw [List.all_append, ha, hb]; rfl
theorem zd_198 : zDok cL_law zc_198 = true := zDok_app (zDok_app (zDok_app (zDok_app (zDok_app (zDok_app (zDok_app (zDok_app (zDok_app (zDok_app (zDok_app (zd_198_0) zd_198_1) zd_198_2) zd_198_3) zd_198_4) zd_198_5) zd_198_6) zd_198_7) zd_198_8) zd_198_9) zd_198_10) zd_198_11
def zDokL : List ByteArray → List (List (Nat × Instr × Nat)) → Bool
  | c :: cs, l :: ls => zDok c l && zDokL cs ls
  | _, _ => true
theorem zDokL_c {c : ByteArray} {cs : List ByteArray} {l : List (Nat × Instr × Nat)} {ls : List (List (Nat × Instr × Nat))} (h : zDok c l = true) (t : zDokL cs ls = true) : zDokL (c :: cs) (l :: ls) = true := by simp [zDokL, h, t]
set_option maxRecDepth 100000 in
theorem zDec0 : zDokL zBL zCdL = true := by
  unfold zBL zCdL
  refine zDokL_c zd_0 ?_
  refine zDokL_c zd_1 ?_
  refine zDokL_c zd_2 ?_
  refine zDokL_c zd_3 ?_
  refine zDokL_c zd_4 ?_
  refine zDokL_c zd_5 ?_
  refine zDokL_c zd_6 ?_
  refine zDokL_c zd_7 ?_
  refine zDokL_c zd_8 ?_
  refine zDokL_c zd_9 ?_
  refine zDokL_c zd_10 ?_
  refine zDokL_c zd_11 ?_
  refine zDokL_c zd_12 ?_
  refine zDokL_c zd_13 ?_
  refine zDokL_c zd_14 ?_
  refine zDokL_c zd_15 ?_
  refine zDokL_c zd_16 ?_
  refine zDokL_c zd_17 ?_
  refine zDokL_c zd_18 ?_
  refine zDokL_c zd_19 ?_
  refine zDokL_c zd_20 ?_
  refine zDokL_c zd_21 ?_
  refine zDokL_c zd_22 ?_
  refine zDokL_c zd_23 ?_
  refine zDokL_c zd_24 ?_
  refine zDokL_c zd_25 ?_
  refine zDokL_c zd_26 ?_
  refine zDokL_c zd_27 ?_
  refine zDokL_c zd_28 ?_
  refine zDokL_c zd_29 ?_
  refine zDokL_c zd_30 ?_
  refine zDokL_c zd_31 ?_
  refine zDokL_c zd_32 ?_
  refine zDokL_c zd_33 ?_
  refine zDokL_c zd_34 ?_
  refine zDokL_c zd_35 ?_
  refine zDokL_c zd_36 ?_
  refine zDokL_c zd_37 ?_
  refine zDokL_c zd_38 ?_
  refine zDokL_c zd_39 ?_
  refine zDokL_c zd_40 ?_
  refine zDokL_c zd_41 ?_
  refine zDokL_c zd_42 ?_
  refine zDokL_c zd_43 ?_
  refine zDokL_c zd_44 ?_
  refine zDokL_c zd_45 ?_
  refine zDokL_c zd_46 ?_
  refine zDokL_c zd_47 ?_
  refine zDokL_c zd_48 ?_
  refine zDokL_c zd_49 ?_
  refine zDokL_c zd_50 ?_
  refine zDokL_c zd_51 ?_
  refine zDokL_c zd_52 ?_
  refine zDokL_c zd_53 ?_
  refine zDokL_c zd_54 ?_
  refine zDokL_c zd_55 ?_
  refine zDokL_c zd_56 ?_
  refine zDokL_c zd_57 ?_
  refine zDokL_c zd_58 ?_
  refine zDokL_c zd_59 ?_
  refine zDokL_c zd_60 ?_
  refine zDokL_c zd_61 ?_
  refine zDokL_c zd_62 ?_
  refine zDokL_c zd_63 ?_
  refine zDokL_c zd_64 ?_
  refine zDokL_c zd_65 ?_
  refine zDokL_c zd_66 ?_
  refine zDokL_c zd_67 ?_
  refine zDokL_c zd_68 ?_
  refine zDokL_c zd_69 ?_
  refine zDokL_c zd_70 ?_
  refine zDokL_c zd_71 ?_
  refine zDokL_c zd_72 ?_
  refine zDokL_c zd_73 ?_
  refine zDokL_c zd_74 ?_
  refine zDokL_c zd_75 ?_
  refine zDokL_c zd_76 ?_
  refine zDokL_c zd_77 ?_
  refine zDokL_c zd_78 ?_
  refine zDokL_c zd_79 ?_
  refine zDokL_c zd_80 ?_
  refine zDokL_c zd_81 ?_
  refine zDokL_c zd_82 ?_
  refine zDokL_c zd_83 ?_
  refine zDokL_c zd_84 ?_
  refine zDokL_c zd_85 ?_
  refine zDokL_c zd_86 ?_
  refine zDokL_c zd_87 ?_
  refine zDokL_c zd_88 ?_
  refine zDokL_c zd_89 ?_
  refine zDokL_c zd_90 ?_
  refine zDokL_c zd_91 ?_
  refine zDokL_c zd_92 ?_
  refine zDokL_c zd_93 ?_
  refine zDokL_c zd_94 ?_
  refine zDokL_c zd_95 ?_
  refine zDokL_c zd_96 ?_
  refine zDokL_c zd_97 ?_
  refine zDokL_c zd_98 ?_
  refine zDokL_c zd_99 ?_
  refine zDokL_c zd_100 ?_
  refine zDokL_c zd_101 ?_
  refine zDokL_c zd_102 ?_
  refine zDokL_c zd_103 ?_
  refine zDokL_c zd_104 ?_
  refine zDokL_c zd_105 ?_
  refine zDokL_c zd_106 ?_
  refine zDokL_c zd_107 ?_
  refine zDokL_c zd_108 ?_
  refine zDokL_c zd_109 ?_
  refine zDokL_c zd_110 ?_
  refine zDokL_c zd_111 ?_
  refine zDokL_c zd_112 ?_
  refine zDokL_c zd_113 ?_
  refine zDokL_c zd_114 ?_
  refine zDokL_c zd_115 ?_
  refine zDokL_c zd_116 ?_
  refine zDokL_c zd_117 ?_
  refine zDokL_c zd_118 ?_
  refine zDokL_c zd_119 ?_
  refine zDokL_c zd_120 ?_
  refine zDokL_c zd_121 ?_
  refine zDokL_c zd_122 ?_
  refine zDokL_c zd_123 ?_
  refine zDokL_c zd_124 ?_
  refine zDokL_c zd_125 ?_
  refine zDokL_c zd_126 ?_
  refine zDokL_c zd_127 ?_
  refine zDokL_c zd_128 ?_
  refine zDokL_c zd_129 ?_
  refine zDokL_c zd_130 ?_
  refine zDokL_c zd_131 ?_
  refine zDokL_c zd_132 ?_
  refine zDokL_c zd_133 ?_
  refine zDokL_c zd_134 ?_
  refine zDokL_c zd_135 ?_
  refine zDokL_c zd_136 ?_
  refine zDokL_c zd_137 ?_
  refine zDokL_c zd_138 ?_
  refine zDokL_c zd_139 ?_
  refine zDokL_c zd_140 ?_
  refine zDokL_c zd_141 ?_
  refine zDokL_c zd_142 ?_
  refine zDokL_c zd_143 ?_
  refine zDokL_c zd_144 ?_
  refine zDokL_c zd_145 ?_
  refine zDokL_c zd_146 ?_
  refine zDokL_c zd_147 ?_
  refine zDokL_c zd_148 ?_
  refine zDokL_c zd_149 ?_
  refine zDokL_c zd_150 ?_
  refine zDokL_c zd_151 ?_
  refine zDokL_c zd_152 ?_
  refine zDokL_c zd_153 ?_
  refine zDokL_c zd_154 ?_
  refine zDokL_c zd_155 ?_
  refine zDokL_c zd_156 ?_
  refine zDokL_c zd_157 ?_
  refine zDokL_c zd_158 ?_
  refine zDokL_c zd_159 ?_
  refine zDokL_c zd_160 ?_
  refine zDokL_c zd_161 ?_
  refine zDokL_c zd_162 ?_
  refine zDokL_c zd_163 ?_
  refine zDokL_c zd_164 ?_
  refine zDokL_c zd_165 ?_
  refine zDokL_c zd_166 ?_
  refine zDokL_c zd_167 ?_
  refine zDokL_c zd_168 ?_
  refine zDokL_c zd_169 ?_
  refine zDokL_c zd_170 ?_
  refine zDokL_c zd_171 ?_
  refine zDokL_c zd_172 ?_
  refine zDokL_c zd_173 ?_
  refine zDokL_c zd_174 ?_
  refine zDokL_c zd_175 ?_
  refine zDokL_c zd_176 ?_
  refine zDokL_c zd_177 ?_
  refine zDokL_c zd_178 ?_
  refine zDokL_c zd_179 ?_
  refine zDokL_c zd_180 ?_
  refine zDokL_c zd_181 ?_
  refine zDokL_c zd_182 ?_
  refine zDokL_c zd_183 ?_
  refine zDokL_c zd_184 ?_
  refine zDokL_c zd_185 ?_
  refine zDokL_c zd_186 ?_
  refine zDokL_c zd_187 ?_
  refine zDokL_c zd_188 ?_
  refine zDokL_c zd_189 ?_
  refine zDokL_c zd_190 ?_
  refine zDokL_c zd_191 ?_
  refine zDokL_c zd_192 ?_
  refine zDokL_c zd_193 ?_
  refine zDokL_c zd_194 ?_
  refine zDokL_c zd_195 ?_
  refine zDokL_c zd_196 ?_
  refine zDokL_c zd_197 ?_
  refine zDokL_c zd_198 ?_
  rfl
theorem zDokL_at : ∀ (cs : List ByteArray) (ls : List (List (Nat × Instr × Nat))) (y : Nat) (c : ByteArray) (l : List (Nat × Instr × Nat)), zDokL cs ls = true → cs[y]? = some c → ls[y]? = some l → zDok c l = true
  | c :: cs, l :: ls, 0, _, _, h, hc, hl => by
    simp only [zDokL, Bool.and_eq_true] at h
    cases hc; cases hl
    exact h.1
  | c :: cs, l :: ls, y + 1, _, _, h, hc, hl => by
    simp only [zDokL, Bool.and_eq_true] at h
    exact zDokL_at cs ls y _ _ h.2 hc hl
  | [], _, _, _, _, _, hc, _ => by cases hc
  | _ :: _, [], _, _, _, _, _, hl => by cases hl
theorem zDec {y : Nat} (hy : y < 199) {e : Nat × Instr × Nat} (he : e ∈ zCd y) : decode (zB y) e.1 = .ok (e.2.1, e.2.2) := by
  have h1 : y < zBL.length := hy
  have h2 : y < zCdL.length := hy
  have hB : zBL[y]? = some (zB y) := by
    unfold zB
    rw [List.getElem?_eq_getElem h1, List.getD_eq_getElem?_getD, List.getElem?_eq_getElem h1]; rfl
  have hC : zCdL[y]? = some (zCd y) := by
    unfold zCd
    rw [List.getElem?_eq_getElem h2, List.getD_eq_getElem?_getD, List.getElem?_eq_getElem h2]; rfl
  have h := zDokL_at _ _ _ _ _ zDec0 hB hC
  exact of_decide_eq_true (List.all_eq_true.mp h e he)
