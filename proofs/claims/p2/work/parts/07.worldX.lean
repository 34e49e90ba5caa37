/-! the world of side X: its state, its cells, the words -/
theorem q_1_109 : Cond.fieldLink "InferReduce$Bounds" 24 "InferReduce$Bounds" "size" "I" ∈ tblG := tb_1 109 rfl rfl
theorem q_1_105 : Cond.fieldLink "InferReduce$Bounds" 9 "InferReduce$Bounds" "sort" "[I" ∈ tblG := tb_1 105 rfl rfl
theorem q_1_106 : Cond.fieldLink "InferReduce$Bounds" 15 "InferReduce$Bounds" "variable" "[I" ∈ tblG := tb_1 106 rfl rfl
theorem q_1_107 : Cond.fieldLink "InferReduce$Bounds" 18 "InferReduce$Bounds" "type" "[I" ∈ tblG := tb_1 107 rfl rfl
theorem q_1_108 : Cond.fieldLink "InferReduce$Bounds" 21 "InferReduce$Bounds" "origin" "[I" ∈ tblG := tb_1 108 rfl rfl
theorem q_1_72 : Cond.fieldLink "InferReduce$Types" 52 "InferReduce$Types" "size" "I" ∈ tblG := tb_1 72 rfl rfl
theorem q_1_67 : Cond.fieldLink "InferReduce$Types" 30 "InferReduce$Types" "variables" "[I" ∈ tblG := tb_1 67 rfl rfl
theorem q_3_181 : Cond.methodLink "InferReduce$Bounds" 28 y_Types_isProper ∈ tblG := tb_3 181 rfl rfl
theorem q_3_25 : Cond.code y_Types_isProper b_Types_isProper 2 (some .boolean) ∈ tblG := tb_3 25 rfl rfl
theorem q_1_3 : Cond.initialized "InferReduce$Types" ∈ tblG := tb_1 3 rfl rfl
theorem q_3_23 : Cond.instanceMethod y_Types_isProper ∈ tblG := tb_3 23 rfl rfl
theorem q_3_24 : Cond.selects "InferReduce$Types" y_Types_isProper y_Types_isProper ∈ tblG := tb_3 24 rfl rfl
theorem q_1_33 : Cond.fieldLink "InferReduce$Classes" 28 "InferReduce$Classes" "size" "I" ∈ tblG := tb_1 33 rfl rfl
theorem q_1_28 : Cond.fieldLink "InferReduce$Classes" 9 "InferReduce$Classes" "parameters" "[I" ∈ tblG := tb_1 28 rfl rfl
theorem q_1_32 : Cond.fieldLink "InferReduce$Classes" 24 "InferReduce$Classes" "reach" "[J" ∈ tblG := tb_1 32 rfl rfl
theorem q_2_142 : Cond.methodLink "InferReduce$Classes" 32 y_Classes_has ∈ tblG := tb_2 142 rfl rfl
theorem q_2_121 : Cond.code y_Classes_has b_Classes_has 2 (some .boolean) ∈ tblG := tb_2 121 rfl rfl
theorem q_1_2 : Cond.initialized "InferReduce$Classes" ∈ tblG := tb_1 2 rfl rfl
theorem q_2_119 : Cond.instanceMethod y_Classes_has ∈ tblG := tb_2 119 rfl rfl
theorem q_2_120 : Cond.selects "InferReduce$Classes" y_Classes_has y_Classes_has ∈ tblG := tb_2 120 rfl rfl
theorem q_1_29 : Cond.fieldLink "InferReduce$Classes" 15 "InferReduce$Classes" "parentCount" "[I" ∈ tblG := tb_1 29 rfl rfl
theorem q_1_31 : Cond.fieldLink "InferReduce$Classes" 21 "InferReduce$Classes" "parentClass" "[I" ∈ tblG := tb_1 31 rfl rfl
theorem q_1_30 : Cond.fieldLink "InferReduce$Classes" 18 "InferReduce$Classes" "parentType" "[I" ∈ tblG := tb_1 30 rfl rfl
theorem q_2_164 : Cond.methodLink "InferReduce$Classes" 36 y_Classes_renewReach ∈ tblG := tb_2 164 rfl rfl
theorem q_2_167 : Cond.code y_Classes_renewReach b_Classes_renewReach 6 none ∈ tblG := tb_2 167 rfl rfl
theorem q_2_166 : Cond.instanceMethod y_Classes_renewReach ∈ tblG := tb_2 166 rfl rfl
theorem q_s_1 : Cond.selects "InferReduce$Classes" y_Classes_renewReach y_Classes_renewReach ∈ tblG := tb_s 1 rfl rfl
theorem q_1_134 : Cond.fieldLink "InferReduce$Exchange" 29 "InferReduce$Exchange" "stamp" "I" ∈ tblG := tb_1 134 rfl rfl
theorem q_1_135 : Cond.fieldLink "InferReduce$Exchange" 32 "InferReduce$Exchange" "variables" "I" ∈ tblG := tb_1 135 rfl rfl
theorem q_1_136 : Cond.fieldLink "InferReduce$Exchange" 25 "InferReduce$Exchange" "owner" "I" ∈ tblG := tb_1 136 rfl rfl
theorem q_1_131 : Cond.fieldLink "InferReduce$Exchange" 9 "InferReduce$Exchange" "instead" "[I" ∈ tblG := tb_1 131 rfl rfl
theorem q_1_68 : Cond.fieldLink "InferReduce$Types" 33 "InferReduce$Types" "owners" "[J" ∈ tblG := tb_1 68 rfl rfl
theorem q_2_159 : Cond.constantLong "InferReduce$Types" 56 (-1 : Int64) ∈ tblG := tb_2 159 rfl rfl
theorem q_1_61 : Cond.fieldLink "InferReduce$Types" 9 "InferReduce$Types" "kind" "[I" ∈ tblG := tb_1 61 rfl rfl
theorem q_1_62 : Cond.fieldLink "InferReduce$Types" 15 "InferReduce$Types" "first" "[I" ∈ tblG := tb_1 62 rfl rfl
theorem q_1_63 : Cond.fieldLink "InferReduce$Types" 18 "InferReduce$Types" "second" "[I" ∈ tblG := tb_1 63 rfl rfl
theorem q_1_64 : Cond.fieldLink "InferReduce$Types" 21 "InferReduce$Types" "third" "[I" ∈ tblG := tb_1 64 rfl rfl
theorem q_1_70 : Cond.fieldLink "InferReduce$Types" 40 "InferReduce$Types" "chainFirst" "[I" ∈ tblG := tb_1 70 rfl rfl
theorem q_1_71 : Cond.fieldLink "InferReduce$Types" 43 "InferReduce$Types" "chainNext" "[I" ∈ tblG := tb_1 71 rfl rfl
theorem q_1_65 : Cond.fieldLink "InferReduce$Types" 24 "InferReduce$Types" "depth" "[I" ∈ tblG := tb_1 65 rfl rfl
theorem q_1_66 : Cond.fieldLink "InferReduce$Types" 27 "InferReduce$Types" "kinds" "[I" ∈ tblG := tb_1 66 rfl rfl
theorem q_1_69 : Cond.fieldLink "InferReduce$Types" 37 "InferReduce$Types" "named" "[J" ∈ tblG := tb_1 69 rfl rfl
theorem q_1_130 : Cond.fieldLink "InferReduce$Exchange" 21 "InferReduce$Exchange" "types" "LInferReduce$Types;" ∈ tblG := tb_1 130 rfl rfl
theorem q_3_81 : Cond.methodLink "InferReduce$Exchange" 41 y_Types_ownersIn ∈ tblG := tb_3 81 rfl rfl
theorem q_2_158 : Cond.code y_Types_ownersIn b_Types_ownersIn 3 (some .long) ∈ tblG := tb_2 158 rfl rfl
theorem q_2_156 : Cond.instanceMethod y_Types_ownersIn ∈ tblG := tb_2 156 rfl rfl
theorem q_2_157 : Cond.selects "InferReduce$Types" y_Types_ownersIn y_Types_ownersIn ∈ tblG := tb_2 157 rfl rfl
theorem q_1_133 : Cond.fieldLink "InferReduce$Exchange" 18 "InferReduce$Exchange" "doneAt" "[I" ∈ tblG := tb_1 133 rfl rfl
theorem q_1_132 : Cond.fieldLink "InferReduce$Exchange" 15 "InferReduce$Exchange" "done" "[I" ∈ tblG := tb_1 132 rfl rfl
theorem q_3_82 : Cond.methodLink "InferReduce$Exchange" 45 y_Types_kindOf ∈ tblG := tb_3 82 rfl rfl
theorem q_2_129 : Cond.code y_Types_kindOf b_Types_kindOf 2 (some .int) ∈ tblG := tb_2 129 rfl rfl
theorem q_2_127 : Cond.instanceMethod y_Types_kindOf ∈ tblG := tb_2 127 rfl rfl
theorem q_2_128 : Cond.selects "InferReduce$Types" y_Types_kindOf y_Types_kindOf ∈ tblG := tb_2 128 rfl rfl
theorem q_3_83 : Cond.methodLink "InferReduce$Exchange" 48 y_Types_firstOf ∈ tblG := tb_3 83 rfl rfl
theorem q_2_133 : Cond.code y_Types_firstOf b_Types_firstOf 2 (some .int) ∈ tblG := tb_2 133 rfl rfl
theorem q_2_131 : Cond.instanceMethod y_Types_firstOf ∈ tblG := tb_2 131 rfl rfl
theorem q_2_132 : Cond.selects "InferReduce$Types" y_Types_firstOf y_Types_firstOf ∈ tblG := tb_2 132 rfl rfl
theorem q_3_84 : Cond.methodLink "InferReduce$Exchange" 51 y_Types_secondOf ∈ tblG := tb_3 84 rfl rfl
theorem q_2_146 : Cond.code y_Types_secondOf b_Types_secondOf 2 (some .int) ∈ tblG := tb_2 146 rfl rfl
theorem q_2_144 : Cond.instanceMethod y_Types_secondOf ∈ tblG := tb_2 144 rfl rfl
theorem q_2_145 : Cond.selects "InferReduce$Types" y_Types_secondOf y_Types_secondOf ∈ tblG := tb_2 145 rfl rfl
theorem q_3_85 : Cond.methodLink "InferReduce$Exchange" 54 y_Types_thirdOf ∈ tblG := tb_3 85 rfl rfl
theorem q_2_150 : Cond.code y_Types_thirdOf b_Types_thirdOf 2 (some .int) ∈ tblG := tb_2 150 rfl rfl
theorem q_2_148 : Cond.instanceMethod y_Types_thirdOf ∈ tblG := tb_2 148 rfl rfl
theorem q_2_149 : Cond.selects "InferReduce$Types" y_Types_thirdOf y_Types_thirdOf ∈ tblG := tb_2 149 rfl rfl
theorem q_3_86 : Cond.methodLink "InferReduce$Exchange" 57 y_Types_argumentOf ∈ tblG := tb_3 86 rfl rfl
theorem q_3_57 : Cond.code y_Types_argumentOf b_Types_argumentOf 3 (some .int) ∈ tblG := tb_3 57 rfl rfl
theorem q_3_55 : Cond.instanceMethod y_Types_argumentOf ∈ tblG := tb_3 55 rfl rfl
theorem q_3_56 : Cond.selects "InferReduce$Types" y_Types_argumentOf y_Types_argumentOf ∈ tblG := tb_3 56 rfl rfl
theorem q_3_87 : Cond.methodLink "InferReduce$Exchange" 61 y_Types_make ∈ tblG := tb_3 87 rfl rfl
theorem q_2_175 : Cond.code y_Types_make b_Types_make 16 (some .int) ∈ tblG := tb_2 175 rfl rfl
theorem q_2_173 : Cond.instanceMethod y_Types_make ∈ tblG := tb_2 173 rfl rfl
theorem q_2_174 : Cond.selects "InferReduce$Types" y_Types_make y_Types_make ∈ tblG := tb_2 174 rfl rfl
theorem q_3_88 : Cond.methodLink "InferReduce$Exchange" 65 y_Exchange_put ∈ tblG := tb_3 88 rfl rfl
theorem q_3_79 : Cond.code y_Exchange_put b_Exchange_put 11 (some .int) ∈ tblG := tb_3 79 rfl rfl
theorem q_1_6 : Cond.initialized "InferReduce$Exchange" ∈ tblG := tb_1 6 rfl rfl
theorem q_3_77 : Cond.instanceMethod y_Exchange_put ∈ tblG := tb_3 77 rfl rfl
theorem q_3_78 : Cond.selects "InferReduce$Exchange" y_Exchange_put y_Exchange_put ∈ tblG := tb_3 78 rfl rfl
theorem q_3_80 : Cond.methodLink "InferReduce$Exchange" 35 y_Types_variablesIn ∈ tblG := tb_3 80 rfl rfl
theorem q_2_223 : Cond.code y_Types_variablesIn b_Types_variablesIn 2 (some .int) ∈ tblG := tb_2 223 rfl rfl
theorem q_2_221 : Cond.instanceMethod y_Types_variablesIn ∈ tblG := tb_2 221 rfl rfl
theorem q_2_222 : Cond.selects "InferReduce$Types" y_Types_variablesIn y_Types_variablesIn ∈ tblG := tb_2 222 rfl rfl
theorem q_1_168 : Cond.fieldLink "InferReduce$Work" 24 "InferReduce$Work" "size" "I" ∈ tblG := tb_1 168 rfl rfl
theorem q_1_164 : Cond.fieldLink "InferReduce$Work" 11 "InferReduce$Work" "sorts" "[I" ∈ tblG := tb_1 164 rfl rfl
theorem q_1_170 : Cond.fieldLink "InferReduce$Work" 28 "InferReduce$Work" "sort" "I" ∈ tblG := tb_1 170 rfl rfl
theorem q_1_165 : Cond.fieldLink "InferReduce$Work" 15 "InferReduce$Work" "lefts" "[I" ∈ tblG := tb_1 165 rfl rfl
theorem q_1_172 : Cond.fieldLink "InferReduce$Work" 31 "InferReduce$Work" "left" "I" ∈ tblG := tb_1 172 rfl rfl
theorem q_1_166 : Cond.fieldLink "InferReduce$Work" 18 "InferReduce$Work" "rights" "[I" ∈ tblG := tb_1 166 rfl rfl
theorem q_1_174 : Cond.fieldLink "InferReduce$Work" 34 "InferReduce$Work" "right" "I" ∈ tblG := tb_1 174 rfl rfl
theorem q_1_167 : Cond.fieldLink "InferReduce$Work" 21 "InferReduce$Work" "levels" "[I" ∈ tblG := tb_1 167 rfl rfl
theorem q_1_176 : Cond.fieldLink "InferReduce$Work" 37 "InferReduce$Work" "level" "I" ∈ tblG := tb_1 176 rfl rfl
theorem q_1_198 : Cond.fieldLink "InferReduce$Reducer" 22 "InferReduce$Reducer" "types" "LInferReduce$Types;" ∈ tblG := tb_1 198 rfl rfl
theorem q_3_26 : Cond.methodLink "InferReduce$Reducer" 109 y_Types_firstOf ∈ tblG := tb_3 26 rfl rfl
theorem q_3_37 : Cond.methodLink "InferReduce$Reducer" 142 y_Types_make ∈ tblG := tb_3 37 rfl rfl
theorem q_1_202 : Cond.fieldLink "InferReduce$Reducer" 12 "InferReduce$Reducer" "work" "LInferReduce$Work;" ∈ tblG := tb_1 202 rfl rfl
theorem q_1_177 : Cond.fieldLink "InferReduce$Reducer" 56 "InferReduce$Work" "level" "I" ∈ tblG := tb_1 177 rfl rfl
theorem q_3_1 : Cond.methodLink "InferReduce$Reducer" 48 y_Work_add ∈ tblG := tb_3 1 rfl rfl
theorem q_3_4 : Cond.code y_Work_add b_Work_add 5 (some .boolean) ∈ tblG := tb_3 4 rfl rfl
theorem q_1_8 : Cond.initialized "InferReduce$Work" ∈ tblG := tb_1 8 rfl rfl
theorem q_3_2 : Cond.instanceMethod y_Work_add ∈ tblG := tb_3 2 rfl rfl
theorem q_3_3 : Cond.selects "InferReduce$Work" y_Work_add y_Work_add ∈ tblG := tb_3 3 rfl rfl
theorem q_3_21 : Cond.methodLink "InferReduce$Reducer" 102 y_Types_kindOf ∈ tblG := tb_3 21 rfl rfl
theorem q_3_27 : Cond.methodLink "InferReduce$Reducer" 112 y_Reducer_widens ∈ tblG := tb_3 27 rfl rfl
theorem q_3_29 : Cond.code y_Reducer_widens b_Reducer_widens 2 (some .boolean) ∈ tblG := tb_3 29 rfl rfl
theorem q_1_7 : Cond.initialized "InferReduce$Reducer" ∈ tblG := tb_1 7 rfl rfl
theorem q_3_28 : Cond.static y_Reducer_widens ∈ tblG := tb_3 28 rfl rfl
theorem q_3_54 : Cond.methodLink "InferReduce$Types" 58 y_Types_argumentOf ∈ tblG := tb_3 54 rfl rfl
theorem q_3_58 : Cond.methodLink "InferReduce$Types" 62 y_Types_firstOf ∈ tblG := tb_3 58 rfl rfl
theorem q_3_59 : Cond.methodLink "InferReduce$Types" 66 y_Types_secondOf ∈ tblG := tb_3 59 rfl rfl
theorem q_3_50 : Cond.methodLink "InferReduce$Reducer" 136 y_Types_captureBound ∈ tblG := tb_3 50 rfl rfl
theorem q_3_53 : Cond.code y_Types_captureBound b_Types_captureBound 4 (some .int) ∈ tblG := tb_3 53 rfl rfl
theorem q_3_51 : Cond.instanceMethod y_Types_captureBound ∈ tblG := tb_3 51 rfl rfl
theorem q_3_52 : Cond.selects "InferReduce$Types" y_Types_captureBound y_Types_captureBound ∈ tblG := tb_3 52 rfl rfl
theorem q_1_197 : Cond.fieldLink "InferReduce$Reducer" 18 "InferReduce$Reducer" "classes" "LInferReduce$Classes;" ∈ tblG := tb_1 197 rfl rfl
theorem q_3_60 : Cond.methodLink "InferReduce$Reducer" 84 y_Types_classOf ∈ tblG := tb_3 60 rfl rfl
theorem q_3_63 : Cond.code y_Types_classOf b_Types_classOf 2 (some .int) ∈ tblG := tb_3 63 rfl rfl
theorem q_3_61 : Cond.instanceMethod y_Types_classOf ∈ tblG := tb_3 61 rfl rfl
theorem q_3_62 : Cond.selects "InferReduce$Types" y_Types_classOf y_Types_classOf ∈ tblG := tb_3 62 rfl rfl
theorem q_3_64 : Cond.methodLink "InferReduce$Reducer" 149 y_Classes_reaches ∈ tblG := tb_3 64 rfl rfl
theorem q_3_67 : Cond.code y_Classes_reaches b_Classes_reaches 3 (some .boolean) ∈ tblG := tb_3 67 rfl rfl
theorem q_3_65 : Cond.instanceMethod y_Classes_reaches ∈ tblG := tb_3 65 rfl rfl
theorem q_3_66 : Cond.selects "InferReduce$Classes" y_Classes_reaches y_Classes_reaches ∈ tblG := tb_3 66 rfl rfl
theorem q_3_68 : Cond.methodLink "InferReduce$Reducer" 152 y_Classes_parentTowards ∈ tblG := tb_3 68 rfl rfl
theorem q_3_71 : Cond.code y_Classes_parentTowards b_Classes_parentTowards 5 (some .int) ∈ tblG := tb_3 71 rfl rfl
theorem q_3_69 : Cond.instanceMethod y_Classes_parentTowards ∈ tblG := tb_3 69 rfl rfl
theorem q_3_70 : Cond.selects "InferReduce$Classes" y_Classes_parentTowards y_Classes_parentTowards ∈ tblG := tb_3 70 rfl rfl
theorem q_1_200 : Cond.fieldLink "InferReduce$Reducer" 30 "InferReduce$Reducer" "exchange" "LInferReduce$Exchange;" ∈ tblG := tb_1 200 rfl rfl
theorem q_3_72 : Cond.methodLink "InferReduce$Reducer" 155 y_Exchange_forArguments ∈ tblG := tb_3 72 rfl rfl
theorem q_3_75 : Cond.code y_Exchange_forArguments b_Exchange_forArguments 2 none ∈ tblG := tb_3 75 rfl rfl
theorem q_3_73 : Cond.instanceMethod y_Exchange_forArguments ∈ tblG := tb_3 73 rfl rfl
theorem q_3_74 : Cond.selects "InferReduce$Exchange" y_Exchange_forArguments y_Exchange_forArguments ∈ tblG := tb_3 74 rfl rfl
theorem q_3_76 : Cond.methodLink "InferReduce$Reducer" 161 y_Exchange_put ∈ tblG := tb_3 76 rfl rfl
theorem q_3_89 : Cond.methodLink "InferReduce$Reducer" 90 y_Classes_parametersOf ∈ tblG := tb_3 89 rfl rfl
theorem q_2_141 : Cond.code y_Classes_parametersOf b_Classes_parametersOf 2 (some .int) ∈ tblG := tb_2 141 rfl rfl
theorem q_2_139 : Cond.instanceMethod y_Classes_parametersOf ∈ tblG := tb_2 139 rfl rfl
theorem q_2_140 : Cond.selects "InferReduce$Classes" y_Classes_parametersOf y_Classes_parametersOf ∈ tblG := tb_2 140 rfl rfl
theorem q_3_90 : Cond.methodLink "InferReduce$Reducer" 164 y_Types_has ∈ tblG := tb_3 90 rfl rfl
theorem q_2_187 : Cond.code y_Types_has b_Types_has 2 (some .boolean) ∈ tblG := tb_2 187 rfl rfl
theorem q_2_185 : Cond.instanceMethod y_Types_has ∈ tblG := tb_2 185 rfl rfl
theorem q_2_186 : Cond.selects "InferReduce$Types" y_Types_has y_Types_has ∈ tblG := tb_2 186 rfl rfl
theorem q_3_22 : Cond.methodLink "InferReduce$Reducer" 105 y_Types_isProper ∈ tblG := tb_3 22 rfl rfl
theorem q_3_46 : Cond.methodLink "InferReduce$Reducer" 126 y_Reducer_aboveOf ∈ tblG := tb_3 46 rfl rfl
theorem q_3_49 : Cond.code y_Reducer_aboveOf b_Reducer_aboveOf 7 (some .int) ∈ tblG := tb_3 49 rfl rfl
theorem q_3_47 : Cond.instanceMethod y_Reducer_aboveOf ∈ tblG := tb_3 47 rfl rfl
theorem q_3_48 : Cond.selects "InferReduce$Reducer" y_Reducer_aboveOf y_Reducer_aboveOf ∈ tblG := tb_3 48 rfl rfl
theorem q_1_207 : Cond.fieldLink "InferReduce$Reducer" 44 "InferReduce$Reducer" "sawUnchecked" "Z" ∈ tblG := tb_1 207 rfl rfl
theorem q_3_38 : Cond.methodLink "InferReduce$Reducer" 98 y_Reducer_within ∈ tblG := tb_3 38 rfl rfl
theorem q_3_41 : Cond.code y_Reducer_within b_Reducer_within 4 (some .int) ∈ tblG := tb_3 41 rfl rfl
theorem q_3_40 : Cond.instanceMethod y_Reducer_within ∈ tblG := tb_3 40 rfl rfl
theorem q_s_6 : Cond.selects "InferReduce$Reducer" y_Reducer_within y_Reducer_within ∈ tblG := tb_s 6 rfl rfl
theorem q_3_33 : Cond.methodLink "InferReduce$Reducer" 120 y_Reducer_boxOf ∈ tblG := tb_3 33 rfl rfl
theorem q_3_36 : Cond.code y_Reducer_boxOf b_Reducer_boxOf 2 (some .int) ∈ tblG := tb_3 36 rfl rfl
theorem q_3_35 : Cond.instanceMethod y_Reducer_boxOf ∈ tblG := tb_3 35 rfl rfl
theorem q_s_5 : Cond.selects "InferReduce$Reducer" y_Reducer_boxOf y_Reducer_boxOf ∈ tblG := tb_s 5 rfl rfl
theorem q_3_42 : Cond.methodLink "InferReduce$Reducer" 123 y_Reducer_unboxes ∈ tblG := tb_3 42 rfl rfl
theorem q_3_45 : Cond.code y_Reducer_unboxes b_Reducer_unboxes 4 (some .boolean) ∈ tblG := tb_3 45 rfl rfl
theorem q_3_44 : Cond.instanceMethod y_Reducer_unboxes ∈ tblG := tb_3 44 rfl rfl
theorem q_s_7 : Cond.selects "InferReduce$Reducer" y_Reducer_unboxes y_Reducer_unboxes ∈ tblG := tb_s 7 rfl rfl
theorem q_3_30 : Cond.methodLink "InferReduce$Reducer" 116 y_Reducer_truth ∈ tblG := tb_3 30 rfl rfl
theorem q_3_32 : Cond.code y_Reducer_truth b_Reducer_truth 1 (some .int) ∈ tblG := tb_3 32 rfl rfl
theorem q_3_31 : Cond.static y_Reducer_truth ∈ tblG := tb_3 31 rfl rfl
theorem q_1_199 : Cond.fieldLink "InferReduce$Reducer" 26 "InferReduce$Reducer" "bounds" "LInferReduce$Bounds;" ∈ tblG := tb_1 199 rfl rfl
theorem q_1_206 : Cond.fieldLink "InferReduce$Reducer" 41 "InferReduce$Reducer" "origin" "I" ∈ tblG := tb_1 206 rfl rfl
theorem q_3_99 : Cond.methodLink "InferReduce$Reducer" 145 y_Bounds_add ∈ tblG := tb_3 99 rfl rfl
theorem q_3_102 : Cond.code y_Bounds_add b_Bounds_add 6 (some .int) ∈ tblG := tb_3 102 rfl rfl
theorem q_1_5 : Cond.initialized "InferReduce$Bounds" ∈ tblG := tb_1 5 rfl rfl
theorem q_3_100 : Cond.instanceMethod y_Bounds_add ∈ tblG := tb_3 100 rfl rfl
theorem q_3_101 : Cond.selects "InferReduce$Bounds" y_Bounds_add y_Bounds_add ∈ tblG := tb_3 101 rfl rfl
theorem q_3_107 : Cond.methodLink "InferReduce$Reducer" 95 y_Types_argumentOf ∈ tblG := tb_3 107 rfl rfl
theorem q_3_95 : Cond.methodLink "InferReduce$Reducer" 129 y_Reducer_bind ∈ tblG := tb_3 95 rfl rfl
theorem q_3_98 : Cond.code y_Reducer_bind b_Reducer_bind 6 (some .int) ∈ tblG := tb_3 98 rfl rfl
theorem q_3_97 : Cond.instanceMethod y_Reducer_bind ∈ tblG := tb_3 97 rfl rfl
theorem q_s_9 : Cond.selects "InferReduce$Reducer" y_Reducer_bind y_Reducer_bind ∈ tblG := tb_s 9 rfl rfl
theorem q_3_103 : Cond.methodLink "InferReduce$Reducer" 133 y_Reducer_withinArguments ∈ tblG := tb_3 103 rfl rfl
theorem q_3_106 : Cond.code y_Reducer_withinArguments b_Reducer_withinArguments 6 (some .int) ∈ tblG := tb_3 106 rfl rfl
theorem q_3_105 : Cond.instanceMethod y_Reducer_withinArguments ∈ tblG := tb_3 105 rfl rfl
theorem q_s_10 : Cond.selects "InferReduce$Reducer" y_Reducer_withinArguments y_Reducer_withinArguments ∈ tblG := tb_s 10 rfl rfl
theorem q_3_112 : Cond.methodLink "InferReduce$Reducer" 139 y_Types_secondOf ∈ tblG := tb_3 112 rfl rfl
theorem q_1_169 : Cond.fieldLink "InferReduce$Reducer" 34 "InferReduce$Work" "size" "I" ∈ tblG := tb_1 169 rfl rfl
theorem q_3_13 : Cond.methodLink "InferReduce$Reducer" 52 y_Work_take ∈ tblG := tb_3 13 rfl rfl
theorem q_3_16 : Cond.code y_Work_take b_Work_take 1 (some .boolean) ∈ tblG := tb_3 16 rfl rfl
theorem q_3_14 : Cond.instanceMethod y_Work_take ∈ tblG := tb_3 14 rfl rfl
theorem q_3_15 : Cond.selects "InferReduce$Work" y_Work_take y_Work_take ∈ tblG := tb_3 15 rfl rfl
theorem q_1_205 : Cond.fieldLink "InferReduce$Reducer" 38 "InferReduce$Reducer" "madeInCall" "I" ∈ tblG := tb_1 205 rfl rfl
theorem q_1_203 : Cond.fieldLink "InferReduce$Reducer" 59 "InferReduce$Reducer" "made" "I" ∈ tblG := tb_1 203 rfl rfl
theorem q_1_171 : Cond.fieldLink "InferReduce$Reducer" 62 "InferReduce$Work" "sort" "I" ∈ tblG := tb_1 171 rfl rfl
theorem q_1_173 : Cond.fieldLink "InferReduce$Reducer" 65 "InferReduce$Work" "left" "I" ∈ tblG := tb_1 173 rfl rfl
theorem q_1_175 : Cond.fieldLink "InferReduce$Reducer" 68 "InferReduce$Work" "right" "I" ∈ tblG := tb_1 175 rfl rfl
theorem q_3_17 : Cond.methodLink "InferReduce$Reducer" 71 y_Reducer_lessCompatible ∈ tblG := tb_3 17 rfl rfl
theorem q_3_20 : Cond.code y_Reducer_lessCompatible b_Reducer_lessCompatible 6 (some .int) ∈ tblG := tb_3 20 rfl rfl
theorem q_3_19 : Cond.instanceMethod y_Reducer_lessCompatible ∈ tblG := tb_3 19 rfl rfl
theorem q_s_4 : Cond.selects "InferReduce$Reducer" y_Reducer_lessCompatible y_Reducer_lessCompatible ∈ tblG := tb_s 4 rfl rfl
theorem q_3_91 : Cond.methodLink "InferReduce$Reducer" 75 y_Reducer_lessSub ∈ tblG := tb_3 91 rfl rfl
theorem q_3_94 : Cond.code y_Reducer_lessSub b_Reducer_lessSub 7 (some .int) ∈ tblG := tb_3 94 rfl rfl
theorem q_3_93 : Cond.instanceMethod y_Reducer_lessSub ∈ tblG := tb_3 93 rfl rfl
theorem q_s_8 : Cond.selects "InferReduce$Reducer" y_Reducer_lessSub y_Reducer_lessSub ∈ tblG := tb_s 8 rfl rfl
theorem q_3_108 : Cond.methodLink "InferReduce$Reducer" 78 y_Reducer_lessContained ∈ tblG := tb_3 108 rfl rfl
theorem q_3_111 : Cond.code y_Reducer_lessContained b_Reducer_lessContained 7 (some .int) ∈ tblG := tb_3 111 rfl rfl
theorem q_3_110 : Cond.instanceMethod y_Reducer_lessContained ∈ tblG := tb_3 110 rfl rfl
theorem q_s_11 : Cond.selects "InferReduce$Reducer" y_Reducer_lessContained y_Reducer_lessContained ∈ tblG := tb_s 11 rfl rfl
theorem q_3_113 : Cond.methodLink "InferReduce$Reducer" 81 y_Reducer_lessEqual ∈ tblG := tb_3 113 rfl rfl
theorem q_3_116 : Cond.code y_Reducer_lessEqual b_Reducer_lessEqual 9 (some .int) ∈ tblG := tb_3 116 rfl rfl
theorem q_3_115 : Cond.instanceMethod y_Reducer_lessEqual ∈ tblG := tb_3 115 rfl rfl
theorem q_s_12 : Cond.selects "InferReduce$Reducer" y_Reducer_lessEqual y_Reducer_lessEqual ∈ tblG := tb_s 12 rfl rfl
theorem q_1_236 : Cond.fieldLink "InferReduce$Holder" 19 "InferReduce$Holder" "bounds" "LInferReduce$Bounds;" ∈ tblG := tb_1 236 rfl rfl
theorem q_3_121 : Cond.methodLink "InferReduce$Holder" 57 y_Bounds_variableOf ∈ tblG := tb_3 121 rfl rfl
theorem q_3_124 : Cond.code y_Bounds_variableOf b_Bounds_variableOf 2 (some .int) ∈ tblG := tb_3 124 rfl rfl
theorem q_3_122 : Cond.instanceMethod y_Bounds_variableOf ∈ tblG := tb_3 122 rfl rfl
theorem q_3_123 : Cond.selects "InferReduce$Bounds" y_Bounds_variableOf y_Bounds_variableOf ∈ tblG := tb_3 123 rfl rfl
theorem q_3_129 : Cond.methodLink "InferReduce$Holder" 67 y_Bounds_typeOf ∈ tblG := tb_3 129 rfl rfl
theorem q_3_132 : Cond.code y_Bounds_typeOf b_Bounds_typeOf 2 (some .int) ∈ tblG := tb_3 132 rfl rfl
theorem q_3_130 : Cond.instanceMethod y_Bounds_typeOf ∈ tblG := tb_3 130 rfl rfl
theorem q_3_131 : Cond.selects "InferReduce$Bounds" y_Bounds_typeOf y_Bounds_typeOf ∈ tblG := tb_3 131 rfl rfl
theorem q_3_133 : Cond.methodLink "InferReduce$Holder" 64 y_Bounds_sortOf ∈ tblG := tb_3 133 rfl rfl
theorem q_3_136 : Cond.code y_Bounds_sortOf b_Bounds_sortOf 2 (some .int) ∈ tblG := tb_3 136 rfl rfl
theorem q_3_134 : Cond.instanceMethod y_Bounds_sortOf ∈ tblG := tb_3 134 rfl rfl
theorem q_3_135 : Cond.selects "InferReduce$Bounds" y_Bounds_sortOf y_Bounds_sortOf ∈ tblG := tb_3 135 rfl rfl
theorem q_1_235 : Cond.fieldLink "InferReduce$Holder" 15 "InferReduce$Holder" "types" "LInferReduce$Types;" ∈ tblG := tb_1 235 rfl rfl
theorem q_3_137 : Cond.methodLink "InferReduce$Holder" 74 y_Types_isProper ∈ tblG := tb_3 137 rfl rfl
theorem q_3_138 : Cond.methodLink "InferReduce$Holder" 80 y_Types_variablesIn ∈ tblG := tb_3 138 rfl rfl
theorem q_1_237 : Cond.fieldLink "InferReduce$Holder" 23 "InferReduce$Holder" "exchange" "LInferReduce$Exchange;" ∈ tblG := tb_1 237 rfl rfl
theorem q_3_139 : Cond.methodLink "InferReduce$Holder" 83 y_Exchange_forVariables ∈ tblG := tb_3 139 rfl rfl
theorem q_3_142 : Cond.code y_Exchange_forVariables b_Exchange_forVariables 1 none ∈ tblG := tb_3 142 rfl rfl
theorem q_3_140 : Cond.instanceMethod y_Exchange_forVariables ∈ tblG := tb_3 140 rfl rfl
theorem q_3_141 : Cond.selects "InferReduce$Exchange" y_Exchange_forVariables y_Exchange_forVariables ∈ tblG := tb_3 141 rfl rfl
theorem q_3_143 : Cond.methodLink "InferReduce$Holder" 88 y_Exchange_setInstead ∈ tblG := tb_3 143 rfl rfl
theorem q_3_146 : Cond.code y_Exchange_setInstead b_Exchange_setInstead 3 none ∈ tblG := tb_3 146 rfl rfl
theorem q_3_144 : Cond.instanceMethod y_Exchange_setInstead ∈ tblG := tb_3 144 rfl rfl
theorem q_3_145 : Cond.selects "InferReduce$Exchange" y_Exchange_setInstead y_Exchange_setInstead ∈ tblG := tb_3 145 rfl rfl
theorem q_3_147 : Cond.methodLink "InferReduce$Holder" 92 y_Exchange_put ∈ tblG := tb_3 147 rfl rfl
theorem q_1_238 : Cond.fieldLink "InferReduce$Holder" 27 "InferReduce$Holder" "reducer" "LInferReduce$Reducer;" ∈ tblG := tb_1 238 rfl rfl
theorem q_1_239 : Cond.fieldLink "InferReduce$Holder" 31 "InferReduce$Holder" "variableTypes" "[I" ∈ tblG := tb_1 239 rfl rfl
theorem q_3_148 : Cond.methodLink "InferReduce$Holder" 70 y_Reducer_ask ∈ tblG := tb_3 148 rfl rfl
theorem q_3_0 : Cond.code y_Reducer_ask b_Reducer_ask 4 (some .int) ∈ tblG := tb_3 0 rfl rfl
theorem q_2_238 : Cond.instanceMethod y_Reducer_ask ∈ tblG := tb_2 238 rfl rfl
theorem q_2_239 : Cond.selects "InferReduce$Reducer" y_Reducer_ask y_Reducer_ask ∈ tblG := tb_2 239 rfl rfl
theorem q_3_125 : Cond.methodLink "InferReduce$Holder" 61 y_Holder_putsInto ∈ tblG := tb_3 125 rfl rfl
theorem q_3_128 : Cond.code y_Holder_putsInto b_Holder_putsInto 8 (some .int) ∈ tblG := tb_3 128 rfl rfl
theorem q_1_9 : Cond.initialized "InferReduce$Holder" ∈ tblG := tb_1 9 rfl rfl
theorem q_3_127 : Cond.instanceMethod y_Holder_putsInto ∈ tblG := tb_3 127 rfl rfl
theorem q_s_14 : Cond.selects "InferReduce$Holder" y_Holder_putsInto y_Holder_putsInto ∈ tblG := tb_s 14 rfl rfl
theorem q_1_234 : Cond.fieldLink "InferReduce$Holder" 9 "InferReduce$Holder" "classes" "LInferReduce$Classes;" ∈ tblG := tb_1 234 rfl rfl
theorem q_1_34 : Cond.fieldLink "InferReduce$Holder" 95 "InferReduce$Classes" "size" "I" ∈ tblG := tb_1 34 rfl rfl
theorem q_3_153 : Cond.methodLink "InferReduce$Holder" 98 y_Classes_parametersOf ∈ tblG := tb_3 153 rfl rfl
theorem q_3_154 : Cond.methodLink "InferReduce$Holder" 101 y_Reducer_aboveOf ∈ tblG := tb_3 154 rfl rfl
theorem q_3_155 : Cond.methodLink "InferReduce$Holder" 104 y_Types_kindOf ∈ tblG := tb_3 155 rfl rfl
theorem q_3_156 : Cond.methodLink "InferReduce$Holder" 107 y_Types_argumentOf ∈ tblG := tb_3 156 rfl rfl
theorem q_3_9 : Cond.methodLink "InferReduce$Holder" 35 y_Reducer_less ∈ tblG := tb_3 9 rfl rfl
theorem q_3_12 : Cond.code y_Reducer_less b_Reducer_less 3 (some .int) ∈ tblG := tb_3 12 rfl rfl
theorem q_3_10 : Cond.instanceMethod y_Reducer_less ∈ tblG := tb_3 10 rfl rfl
theorem q_3_11 : Cond.selects "InferReduce$Reducer" y_Reducer_less y_Reducer_less ∈ tblG := tb_3 11 rfl rfl
theorem q_2_0 : Cond.fieldLink "InferReduce$Holder" 41 "InferReduce$Holder" "held" "I" ∈ tblG := tb_2 0 rfl rfl
theorem q_1_110 : Cond.fieldLink "InferReduce$Holder" 45 "InferReduce$Bounds" "size" "I" ∈ tblG := tb_1 110 rfl rfl
theorem q_3_117 : Cond.methodLink "InferReduce$Holder" 50 y_Holder_comes ∈ tblG := tb_3 117 rfl rfl
theorem q_3_120 : Cond.code y_Holder_comes b_Holder_comes 7 (some .int) ∈ tblG := tb_3 120 rfl rfl
theorem q_3_119 : Cond.instanceMethod y_Holder_comes ∈ tblG := tb_3 119 rfl rfl
theorem q_s_13 : Cond.selects "InferReduce$Holder" y_Holder_comes y_Holder_comes ∈ tblG := tb_s 13 rfl rfl
theorem q_3_149 : Cond.methodLink "InferReduce$Holder" 54 y_Holder_shareArguments ∈ tblG := tb_3 149 rfl rfl
theorem q_3_152 : Cond.code y_Holder_shareArguments b_Holder_shareArguments 10 (some .int) ∈ tblG := tb_3 152 rfl rfl
theorem q_3_151 : Cond.instanceMethod y_Holder_shareArguments ∈ tblG := tb_3 151 rfl rfl
theorem q_s_15 : Cond.selects "InferReduce$Holder" y_Holder_shareArguments y_Holder_shareArguments ∈ tblG := tb_s 15 rfl rfl
theorem q_2_30 : Cond.fieldLink "InferReduce$Resolver" 18 "InferReduce$Resolver" "choices" "[I" ∈ tblG := tb_2 30 rfl rfl
theorem q_2_29 : Cond.fieldLink "InferReduce$Resolver" 15 "InferReduce$Resolver" "links" "[I" ∈ tblG := tb_2 29 rfl rfl
theorem q_3_186 : Cond.methodLink "InferReduce$Resolver" 56 y_Arrays_fill ∈ tblG := tb_3 186 rfl rfl
theorem q_1_60 : Cond.code y_Arrays_fill b_Arrays_fill 4 none ∈ tblG := tb_1 60 rfl rfl
theorem q_1_4 : Cond.initialized "java/util/Arrays" ∈ tblG := tb_1 4 rfl rfl
theorem q_1_59 : Cond.static y_Arrays_fill ∈ tblG := tb_1 59 rfl rfl
theorem q_2_25 : Cond.fieldLink "InferReduce$Resolver" 29 "InferReduce$Resolver" "bounds" "LInferReduce$Bounds;" ∈ tblG := tb_2 25 rfl rfl
theorem q_1_111 : Cond.fieldLink "InferReduce$Resolver" 62 "InferReduce$Bounds" "size" "I" ∈ tblG := tb_1 111 rfl rfl
theorem q_3_187 : Cond.methodLink "InferReduce$Resolver" 66 y_Bounds_variableOf ∈ tblG := tb_3 187 rfl rfl
theorem q_2_24 : Cond.fieldLink "InferReduce$Resolver" 25 "InferReduce$Resolver" "types" "LInferReduce$Types;" ∈ tblG := tb_2 24 rfl rfl
theorem q_3_188 : Cond.methodLink "InferReduce$Resolver" 69 y_Bounds_typeOf ∈ tblG := tb_3 188 rfl rfl
theorem q_3_189 : Cond.methodLink "InferReduce$Resolver" 72 y_Types_variablesIn ∈ tblG := tb_3 189 rfl rfl
theorem q_3_197 : Cond.constant "java/lang/Integer" 265 (1431655765 : Int32) ∈ tblG := tb_3 197 rfl rfl
theorem q_3_198 : Cond.constant "java/lang/Integer" 266 (858993459 : Int32) ∈ tblG := tb_3 198 rfl rfl
theorem q_3_199 : Cond.constant "java/lang/Integer" 267 (252645135 : Int32) ∈ tblG := tb_3 199 rfl rfl
theorem q_3_177 : Cond.methodLink "InferReduce$Resolver" 37 y_Bounds_settledAs ∈ tblG := tb_3 177 rfl rfl
theorem q_3_180 : Cond.code y_Bounds_settledAs b_Bounds_settledAs 4 (some .int) ∈ tblG := tb_3 180 rfl rfl
theorem q_3_178 : Cond.instanceMethod y_Bounds_settledAs ∈ tblG := tb_3 178 rfl rfl
theorem q_3_179 : Cond.selects "InferReduce$Bounds" y_Bounds_settledAs y_Bounds_settledAs ∈ tblG := tb_3 179 rfl rfl
theorem q_3_182 : Cond.methodLink "InferReduce$Resolver" 43 y_Resolver_link ∈ tblG := tb_3 182 rfl rfl
theorem q_3_185 : Cond.code y_Resolver_link b_Resolver_link 6 none ∈ tblG := tb_3 185 rfl rfl
theorem q_1_10 : Cond.initialized "InferReduce$Resolver" ∈ tblG := tb_1 10 rfl rfl
theorem q_3_184 : Cond.instanceMethod y_Resolver_link ∈ tblG := tb_3 184 rfl rfl
theorem q_s_17 : Cond.selects "InferReduce$Resolver" y_Resolver_link y_Resolver_link ∈ tblG := tb_s 17 rfl rfl
theorem q_3_190 : Cond.methodLink "InferReduce$Resolver" 47 y_Resolver_groupOf ∈ tblG := tb_3 190 rfl rfl
theorem q_3_193 : Cond.code y_Resolver_groupOf b_Resolver_groupOf 5 (some .int) ∈ tblG := tb_3 193 rfl rfl
theorem q_3_192 : Cond.instanceMethod y_Resolver_groupOf ∈ tblG := tb_3 192 rfl rfl
theorem q_s_18 : Cond.selects "InferReduce$Resolver" y_Resolver_groupOf y_Resolver_groupOf ∈ tblG := tb_s 18 rfl rfl
theorem q_3_194 : Cond.methodLink "InferReduce$Resolver" 51 y_Integer_bitCount ∈ tblG := tb_3 194 rfl rfl
theorem q_3_196 : Cond.code y_Integer_bitCount b_Integer_bitCount 1 (some .int) ∈ tblG := tb_3 196 rfl rfl
theorem q_1_13 : Cond.initialized "java/lang/Integer" ∈ tblG := tb_1 13 rfl rfl
theorem q_3_195 : Cond.static y_Integer_bitCount ∈ tblG := tb_3 195 rfl rfl
theorem q_2_28 : Cond.fieldLink "InferReduce$Resolver" 81 "InferReduce$Resolver" "nearSize" "I" ∈ tblG := tb_2 28 rfl rfl
theorem q_3_208 : Cond.methodLink "InferReduce$Resolver" 95 y_Bounds_sortOf ∈ tblG := tb_3 208 rfl rfl
theorem q_3_209 : Cond.methodLink "InferReduce$Resolver" 98 y_Types_isProper ∈ tblG := tb_3 209 rfl rfl
theorem q_2_27 : Cond.fieldLink "InferReduce$Resolver" 9 "InferReduce$Resolver" "near" "[I" ∈ tblG := tb_2 27 rfl rfl
theorem q_2_26 : Cond.fieldLink "InferReduce$Resolver" 33 "InferReduce$Resolver" "reducer" "LInferReduce$Reducer;" ∈ tblG := tb_2 26 rfl rfl
theorem q_3_214 : Cond.methodLink "InferReduce$Resolver" 102 y_Reducer_ask ∈ tblG := tb_3 214 rfl rfl
theorem q_3_215 : Cond.methodLink "InferReduce$Resolver" 108 y_Reducer_less ∈ tblG := tb_3 215 rfl rfl
theorem q_3_224 : Cond.methodLink "InferReduce$Resolver" 124 y_Reducer_aboveOf ∈ tblG := tb_3 224 rfl rfl
theorem q_2_23 : Cond.fieldLink "InferReduce$Resolver" 21 "InferReduce$Resolver" "classes" "LInferReduce$Classes;" ∈ tblG := tb_2 23 rfl rfl
theorem q_1_35 : Cond.fieldLink "InferReduce$Resolver" 111 "InferReduce$Classes" "size" "I" ∈ tblG := tb_1 35 rfl rfl
theorem q_3_229 : Cond.methodLink "InferReduce$Resolver" 91 y_Types_make ∈ tblG := tb_3 229 rfl rfl
theorem q_3_239 : Cond.methodLink "InferReduce$Resolver" 137 y_Types_argumentOf ∈ tblG := tb_3 239 rfl rfl
theorem q_3_234 : Cond.methodLink "InferReduce$Resolver" 128 y_Types_kindOf ∈ tblG := tb_3 234 rfl rfl
theorem q_3_235 : Cond.methodLink "InferReduce$Resolver" 131 y_Resolver_sharedArgument ∈ tblG := tb_3 235 rfl rfl
theorem q_3_238 : Cond.code y_Resolver_sharedArgument b_Resolver_sharedArgument 6 (some .int) ∈ tblG := tb_3 238 rfl rfl
theorem q_3_237 : Cond.instanceMethod y_Resolver_sharedArgument ∈ tblG := tb_3 237 rfl rfl
theorem q_s_25 : Cond.selects "InferReduce$Resolver" y_Resolver_sharedArgument y_Resolver_sharedArgument ∈ tblG := tb_s 25 rfl rfl
theorem q_4_0 : Cond.methodLink "InferReduce$Resolver" 134 y_Classes_parametersOf ∈ tblG := tb_4 0 rfl rfl
theorem q_3_220 : Cond.methodLink "InferReduce$Resolver" 114 y_Resolver_isAboveAll ∈ tblG := tb_3 220 rfl rfl
theorem q_3_223 : Cond.code y_Resolver_isAboveAll b_Resolver_isAboveAll 4 (some .int) ∈ tblG := tb_3 223 rfl rfl
theorem q_3_222 : Cond.instanceMethod y_Resolver_isAboveAll ∈ tblG := tb_3 222 rfl rfl
theorem q_s_22 : Cond.selects "InferReduce$Resolver" y_Resolver_isAboveAll y_Resolver_isAboveAll ∈ tblG := tb_s 22 rfl rfl
theorem q_3_225 : Cond.methodLink "InferReduce$Resolver" 117 y_Resolver_isAboveAnother ∈ tblG := tb_3 225 rfl rfl
theorem q_3_228 : Cond.code y_Resolver_isAboveAnother b_Resolver_isAboveAnother 7 (some .int) ∈ tblG := tb_3 228 rfl rfl
theorem q_3_227 : Cond.instanceMethod y_Resolver_isAboveAnother ∈ tblG := tb_3 227 rfl rfl
theorem q_s_23 : Cond.selects "InferReduce$Resolver" y_Resolver_isAboveAnother y_Resolver_isAboveAnother ∈ tblG := tb_s 23 rfl rfl
theorem q_3_230 : Cond.methodLink "InferReduce$Resolver" 121 y_Resolver_joinAs ∈ tblG := tb_3 230 rfl rfl
theorem q_3_233 : Cond.code y_Resolver_joinAs b_Resolver_joinAs 4 (some .int) ∈ tblG := tb_3 233 rfl rfl
theorem q_3_232 : Cond.instanceMethod y_Resolver_joinAs ∈ tblG := tb_3 232 rfl rfl
theorem q_s_24 : Cond.selects "InferReduce$Resolver" y_Resolver_joinAs y_Resolver_joinAs ∈ tblG := tb_s 24 rfl rfl
theorem q_3_204 : Cond.methodLink "InferReduce$Resolver" 77 y_Resolver_gather ∈ tblG := tb_3 204 rfl rfl
theorem q_3_207 : Cond.code y_Resolver_gather b_Resolver_gather 4 none ∈ tblG := tb_3 207 rfl rfl
theorem q_3_206 : Cond.instanceMethod y_Resolver_gather ∈ tblG := tb_3 206 rfl rfl
theorem q_s_19 : Cond.selects "InferReduce$Resolver" y_Resolver_gather y_Resolver_gather ∈ tblG := tb_s 19 rfl rfl
theorem q_3_210 : Cond.methodLink "InferReduce$Resolver" 84 y_Resolver_outermost ∈ tblG := tb_3 210 rfl rfl
theorem q_3_213 : Cond.code y_Resolver_outermost b_Resolver_outermost 5 (some .int) ∈ tblG := tb_3 213 rfl rfl
theorem q_3_212 : Cond.instanceMethod y_Resolver_outermost ∈ tblG := tb_3 212 rfl rfl
theorem q_s_20 : Cond.selects "InferReduce$Resolver" y_Resolver_outermost y_Resolver_outermost ∈ tblG := tb_s 20 rfl rfl
theorem q_3_216 : Cond.methodLink "InferReduce$Resolver" 87 y_Resolver_joinOfClasses ∈ tblG := tb_3 216 rfl rfl
theorem q_3_219 : Cond.code y_Resolver_joinOfClasses b_Resolver_joinOfClasses 5 (some .int) ∈ tblG := tb_3 219 rfl rfl
theorem q_3_218 : Cond.instanceMethod y_Resolver_joinOfClasses ∈ tblG := tb_3 218 rfl rfl
theorem q_s_21 : Cond.selects "InferReduce$Resolver" y_Resolver_joinOfClasses y_Resolver_joinOfClasses ∈ tblG := tb_s 21 rfl rfl
theorem q_2_58 : Cond.fieldLink "InferReduce$Told" 25 "InferReduce$Told" "size" "I" ∈ tblG := tb_2 58 rfl rfl
theorem q_2_232 : Cond.methodLink "InferReduce$Told" 29 y_Told_hasRoom ∈ tblG := tb_2 232 rfl rfl
theorem q_2_227 : Cond.code y_Told_hasRoom b_Told_hasRoom 1 (some .boolean) ∈ tblG := tb_2 227 rfl rfl
theorem q_1_11 : Cond.initialized "InferReduce$Told" ∈ tblG := tb_1 11 rfl rfl
theorem q_2_225 : Cond.instanceMethod y_Told_hasRoom ∈ tblG := tb_2 225 rfl rfl
theorem q_2_226 : Cond.selects "InferReduce$Told" y_Told_hasRoom y_Told_hasRoom ∈ tblG := tb_2 226 rfl rfl
theorem q_2_54 : Cond.fieldLink "InferReduce$Told" 9 "InferReduce$Told" "sort" "[I" ∈ tblG := tb_2 54 rfl rfl
theorem q_2_55 : Cond.fieldLink "InferReduce$Told" 15 "InferReduce$Told" "left" "[I" ∈ tblG := tb_2 55 rfl rfl
theorem q_2_56 : Cond.fieldLink "InferReduce$Told" 18 "InferReduce$Told" "right" "[I" ∈ tblG := tb_2 56 rfl rfl
theorem q_2_57 : Cond.fieldLink "InferReduce$Told" 21 "InferReduce$Told" "loose" "[Z" ∈ tblG := tb_2 57 rfl rfl
theorem q_3_161 : Cond.methodLink "InferReduce$Told" 33 y_Told_has ∈ tblG := tb_3 161 rfl rfl
theorem q_3_164 : Cond.code y_Told_has b_Told_has 2 (some .boolean) ∈ tblG := tb_3 164 rfl rfl
theorem q_3_162 : Cond.instanceMethod y_Told_has ∈ tblG := tb_3 162 rfl rfl
theorem q_3_163 : Cond.selects "InferReduce$Told" y_Told_has y_Told_has ∈ tblG := tb_3 163 rfl rfl
theorem q_2_72 : Cond.fieldLink "InferReduce" 10 "InferReduce" "classes" "LInferReduce$Classes;" ∈ tblG := tb_2 72 rfl rfl
theorem q_2_110 : Cond.methodLink "InferReduce" 77 y_Classes_add ∈ tblG := tb_2 110 rfl rfl
theorem q_2_113 : Cond.code y_Classes_add b_Classes_add 2 (some .int) ∈ tblG := tb_2 113 rfl rfl
theorem q_2_111 : Cond.instanceMethod y_Classes_add ∈ tblG := tb_2 111 rfl rfl
theorem q_2_112 : Cond.selects "InferReduce$Classes" y_Classes_add y_Classes_add ∈ tblG := tb_2 112 rfl rfl
theorem q_2_73 : Cond.fieldLink "InferReduce" 19 "InferReduce" "types" "LInferReduce$Types;" ∈ tblG := tb_2 73 rfl rfl
theorem q_2_126 : Cond.methodLink "InferReduce" 106 y_Types_kindOf ∈ tblG := tb_2 126 rfl rfl
theorem q_2_130 : Cond.methodLink "InferReduce" 89 y_Types_firstOf ∈ tblG := tb_2 130 rfl rfl
theorem q_2_134 : Cond.methodLink "InferReduce" 231 y_Types_isOfClassesBefore ∈ tblG := tb_2 134 rfl rfl
theorem q_2_137 : Cond.code y_Types_isOfClassesBefore b_Types_isOfClassesBefore 3 (some .boolean) ∈ tblG := tb_2 137 rfl rfl
theorem q_2_135 : Cond.instanceMethod y_Types_isOfClassesBefore ∈ tblG := tb_2 135 rfl rfl
theorem q_2_136 : Cond.selects "InferReduce$Types" y_Types_isOfClassesBefore y_Types_isOfClassesBefore ∈ tblG := tb_2 136 rfl rfl
theorem q_2_138 : Cond.methodLink "InferReduce" 100 y_Classes_parametersOf ∈ tblG := tb_2 138 rfl rfl
theorem q_2_143 : Cond.methodLink "InferReduce" 168 y_Types_secondOf ∈ tblG := tb_2 143 rfl rfl
theorem q_2_147 : Cond.methodLink "InferReduce" 171 y_Types_thirdOf ∈ tblG := tb_2 147 rfl rfl
theorem q_2_151 : Cond.methodLink "InferReduce" 234 y_Types_hasInIt ∈ tblG := tb_2 151 rfl rfl
theorem q_2_154 : Cond.code y_Types_hasInIt b_Types_hasInIt 3 (some .boolean) ∈ tblG := tb_2 154 rfl rfl
theorem q_2_152 : Cond.instanceMethod y_Types_hasInIt ∈ tblG := tb_2 152 rfl rfl
theorem q_2_153 : Cond.selects "InferReduce$Types" y_Types_hasInIt y_Types_hasInIt ∈ tblG := tb_2 153 rfl rfl
theorem q_2_155 : Cond.methodLink "InferReduce" 237 y_Types_ownersIn ∈ tblG := tb_2 155 rfl rfl
theorem q_2_118 : Cond.methodLink "InferReduce" 81 y_Classes_has ∈ tblG := tb_2 118 rfl rfl
theorem q_2_122 : Cond.methodLink "InferReduce" 85 y_I_canBeParent ∈ tblG := tb_2 122 rfl rfl
theorem q_2_125 : Cond.code y_I_canBeParent b_I_canBeParent 5 (some .boolean) ∈ tblG := tb_2 125 rfl rfl
theorem q_1_1 : Cond.initialized "InferReduce" ∈ tblG := tb_1 1 rfl rfl
theorem q_2_124 : Cond.instanceMethod y_I_canBeParent ∈ tblG := tb_2 124 rfl rfl
theorem q_s_0 : Cond.selects "InferReduce" y_I_canBeParent y_I_canBeParent ∈ tblG := tb_s 0 rfl rfl
theorem q_2_160 : Cond.methodLink "InferReduce" 92 y_Classes_addParent ∈ tblG := tb_2 160 rfl rfl
theorem q_2_163 : Cond.code y_Classes_addParent b_Classes_addParent 5 (some .int) ∈ tblG := tb_2 163 rfl rfl
theorem q_2_161 : Cond.instanceMethod y_Classes_addParent ∈ tblG := tb_2 161 rfl rfl
theorem q_2_162 : Cond.selects "InferReduce$Classes" y_Classes_addParent y_Classes_addParent ∈ tblG := tb_2 162 rfl rfl
theorem q_2_172 : Cond.methodLink "InferReduce" 96 y_Types_make ∈ tblG := tb_2 172 rfl rfl
theorem q_2_184 : Cond.methodLink "InferReduce" 109 y_Types_has ∈ tblG := tb_2 184 rfl rfl
theorem q_2_180 : Cond.methodLink "InferReduce" 103 y_I_canBeArgument ∈ tblG := tb_2 180 rfl rfl
theorem q_2_183 : Cond.code y_I_canBeArgument b_I_canBeArgument 3 (some .boolean) ∈ tblG := tb_2 183 rfl rfl
theorem q_2_182 : Cond.instanceMethod y_I_canBeArgument ∈ tblG := tb_2 182 rfl rfl
theorem q_s_2 : Cond.selects "InferReduce" y_I_canBeArgument y_I_canBeArgument ∈ tblG := tb_s 2 rfl rfl
theorem q_2_80 : Cond.fieldLink "InferReduce" 110 "InferReduce" "variables" "I" ∈ tblG := tb_2 80 rfl rfl
theorem q_2_79 : Cond.fieldLink "InferReduce" 30 "InferReduce" "variableTypes" "[I" ∈ tblG := tb_2 79 rfl rfl
theorem q_2_220 : Cond.methodLink "InferReduce" 228 y_Types_variablesIn ∈ tblG := tb_2 220 rfl rfl
theorem q_2_81 : Cond.fieldLink "InferReduce" 116 "InferReduce" "state" "I" ∈ tblG := tb_2 81 rfl rfl
theorem q_2_82 : Cond.fieldLink "InferReduce" 73 "InferReduce" "stateAt" "I" ∈ tblG := tb_2 82 rfl rfl
theorem q_2_216 : Cond.methodLink "InferReduce" 113 y_I_canBeTold ∈ tblG := tb_2 216 rfl rfl
theorem q_2_219 : Cond.code y_I_canBeTold b_I_canBeTold 3 (some .boolean) ∈ tblG := tb_2 219 rfl rfl
theorem q_2_218 : Cond.instanceMethod y_I_canBeTold ∈ tblG := tb_2 218 rfl rfl
theorem q_s_3 : Cond.selects "InferReduce" y_I_canBeTold y_I_canBeTold ∈ tblG := tb_s 3 rfl rfl
theorem q_2_78 : Cond.fieldLink "InferReduce" 69 "InferReduce" "told" "LInferReduce$Told;" ∈ tblG := tb_2 78 rfl rfl
theorem q_2_224 : Cond.methodLink "InferReduce" 119 y_Told_hasRoom ∈ tblG := tb_2 224 rfl rfl
theorem q_2_228 : Cond.methodLink "InferReduce" 123 y_Told_add ∈ tblG := tb_2 228 rfl rfl
theorem q_2_231 : Cond.code y_Told_add b_Told_add 4 (some .int) ∈ tblG := tb_2 231 rfl rfl
theorem q_2_229 : Cond.instanceMethod y_Told_add ∈ tblG := tb_2 229 rfl rfl
theorem q_2_230 : Cond.selects "InferReduce$Told" y_Told_add y_Told_add ∈ tblG := tb_2 230 rfl rfl
theorem q_2_75 : Cond.fieldLink "InferReduce" 44 "InferReduce" "reducer" "LInferReduce$Reducer;" ∈ tblG := tb_2 75 rfl rfl
theorem q_2_233 : Cond.methodLink "InferReduce" 125 y_Reducer_begin ∈ tblG := tb_2 233 rfl rfl
theorem q_2_236 : Cond.code y_Reducer_begin b_Reducer_begin 2 none ∈ tblG := tb_2 236 rfl rfl
theorem q_2_234 : Cond.instanceMethod y_Reducer_begin ∈ tblG := tb_2 234 rfl rfl
theorem q_2_235 : Cond.selects "InferReduce$Reducer" y_Reducer_begin y_Reducer_begin ∈ tblG := tb_2 235 rfl rfl
theorem q_2_237 : Cond.methodLink "InferReduce" 129 y_Reducer_ask ∈ tblG := tb_2 237 rfl rfl
theorem q_2_76 : Cond.fieldLink "InferReduce" 53 "InferReduce" "holder" "LInferReduce$Holder;" ∈ tblG := tb_2 76 rfl rfl
theorem q_3_5 : Cond.methodLink "InferReduce" 132 y_Holder_holdAll ∈ tblG := tb_3 5 rfl rfl
theorem q_3_8 : Cond.code y_Holder_holdAll b_Holder_holdAll 3 (some .int) ∈ tblG := tb_3 8 rfl rfl
theorem q_3_6 : Cond.instanceMethod y_Holder_holdAll ∈ tblG := tb_3 6 rfl rfl
theorem q_3_7 : Cond.selects "InferReduce$Holder" y_Holder_holdAll y_Holder_holdAll ∈ tblG := tb_3 7 rfl rfl
theorem q_1_208 : Cond.fieldLink "InferReduce" 136 "InferReduce$Reducer" "sawUnchecked" "Z" ∈ tblG := tb_1 208 rfl rfl
theorem q_3_165 : Cond.methodLink "InferReduce" 143 y_I_takeState ∈ tblG := tb_3 165 rfl rfl
theorem q_3_168 : Cond.code y_I_takeState b_I_takeState 3 none ∈ tblG := tb_3 168 rfl rfl
theorem q_3_167 : Cond.instanceMethod y_I_takeState ∈ tblG := tb_3 167 rfl rfl
theorem q_s_16 : Cond.selects "InferReduce" y_I_takeState y_I_takeState ∈ tblG := tb_s 16 rfl rfl
theorem q_3_157 : Cond.methodLink "InferReduce" 140 y_Told_markUnchecked ∈ tblG := tb_3 157 rfl rfl
theorem q_3_160 : Cond.code y_Told_markUnchecked b_Told_markUnchecked 2 none ∈ tblG := tb_3 160 rfl rfl
theorem q_3_158 : Cond.instanceMethod y_Told_markUnchecked ∈ tblG := tb_3 158 rfl rfl
theorem q_3_159 : Cond.selects "InferReduce$Told" y_Told_markUnchecked y_Told_markUnchecked ∈ tblG := tb_3 159 rfl rfl
theorem q_2_77 : Cond.fieldLink "InferReduce" 62 "InferReduce" "resolver" "LInferReduce$Resolver;" ∈ tblG := tb_2 77 rfl rfl
theorem q_3_173 : Cond.methodLink "InferReduce" 147 y_Resolver_nextGroup ∈ tblG := tb_3 173 rfl rfl
theorem q_3_176 : Cond.code y_Resolver_nextGroup b_Resolver_nextGroup 6 (some .int) ∈ tblG := tb_3 176 rfl rfl
theorem q_3_174 : Cond.instanceMethod y_Resolver_nextGroup ∈ tblG := tb_3 174 rfl rfl
theorem q_3_175 : Cond.selects "InferReduce$Resolver" y_Resolver_nextGroup y_Resolver_nextGroup ∈ tblG := tb_3 175 rfl rfl
theorem q_3_200 : Cond.methodLink "InferReduce" 150 y_Resolver_choose ∈ tblG := tb_3 200 rfl rfl
theorem q_3_203 : Cond.code y_Resolver_choose b_Resolver_choose 3 (some .int) ∈ tblG := tb_3 203 rfl rfl
theorem q_3_201 : Cond.instanceMethod y_Resolver_choose ∈ tblG := tb_3 201 rfl rfl
theorem q_3_202 : Cond.selects "InferReduce$Resolver" y_Resolver_choose y_Resolver_choose ∈ tblG := tb_3 202 rfl rfl
theorem q_4_1 : Cond.methodLink "InferReduce" 153 y_Resolver_choiceOf ∈ tblG := tb_4 1 rfl rfl
theorem q_4_4 : Cond.code y_Resolver_choiceOf b_Resolver_choiceOf 2 (some .int) ∈ tblG := tb_4 4 rfl rfl
theorem q_4_2 : Cond.instanceMethod y_Resolver_choiceOf ∈ tblG := tb_4 2 rfl rfl
theorem q_4_3 : Cond.selects "InferReduce$Resolver" y_Resolver_choiceOf y_Resolver_choiceOf ∈ tblG := tb_4 3 rfl rfl
theorem q_2_59 : Cond.fieldLink "InferReduce" 156 "InferReduce$Told" "size" "I" ∈ tblG := tb_2 59 rfl rfl
theorem q_2_74 : Cond.fieldLink "InferReduce" 26 "InferReduce" "bounds" "LInferReduce$Bounds;" ∈ tblG := tb_2 74 rfl rfl
theorem q_1_112 : Cond.fieldLink "InferReduce" 159 "InferReduce$Bounds" "size" "I" ∈ tblG := tb_1 112 rfl rfl
theorem q_2_1 : Cond.fieldLink "InferReduce" 160 "InferReduce$Holder" "held" "I" ∈ tblG := tb_2 1 rfl rfl
theorem q_1_204 : Cond.fieldLink "InferReduce" 163 "InferReduce$Reducer" "made" "I" ∈ tblG := tb_1 204 rfl rfl
theorem q_1_36 : Cond.fieldLink "InferReduce" 166 "InferReduce$Classes" "size" "I" ∈ tblG := tb_1 36 rfl rfl
theorem q_1_73 : Cond.fieldLink "InferReduce" 167 "InferReduce$Types" "size" "I" ∈ tblG := tb_1 73 rfl rfl
theorem q_4_17 : Cond.methodLink "InferReduce" 174 y_Types_depthOf ∈ tblG := tb_4 17 rfl rfl
theorem q_4_20 : Cond.code y_Types_depthOf b_Types_depthOf 2 (some .int) ∈ tblG := tb_4 20 rfl rfl
theorem q_4_18 : Cond.instanceMethod y_Types_depthOf ∈ tblG := tb_4 18 rfl rfl
theorem q_4_19 : Cond.selects "InferReduce$Types" y_Types_depthOf y_Types_depthOf ∈ tblG := tb_4 19 rfl rfl
theorem q_4_21 : Cond.methodLink "InferReduce" 177 y_Types_isProper ∈ tblG := tb_4 21 rfl rfl
theorem q_4_26 : Cond.methodLink "InferReduce" 180 y_Bounds_has ∈ tblG := tb_4 26 rfl rfl
theorem q_4_29 : Cond.code y_Bounds_has b_Bounds_has 2 (some .boolean) ∈ tblG := tb_4 29 rfl rfl
theorem q_4_27 : Cond.instanceMethod y_Bounds_has ∈ tblG := tb_4 27 rfl rfl
theorem q_4_28 : Cond.selects "InferReduce$Bounds" y_Bounds_has y_Bounds_has ∈ tblG := tb_4 28 rfl rfl
theorem q_4_30 : Cond.methodLink "InferReduce" 181 y_Bounds_sortOf ∈ tblG := tb_4 30 rfl rfl
theorem q_4_31 : Cond.methodLink "InferReduce" 184 y_Bounds_variableOf ∈ tblG := tb_4 31 rfl rfl
theorem q_4_32 : Cond.methodLink "InferReduce" 187 y_Bounds_typeOf ∈ tblG := tb_4 32 rfl rfl
theorem q_4_33 : Cond.methodLink "InferReduce" 190 y_Bounds_originOf ∈ tblG := tb_4 33 rfl rfl
theorem q_4_36 : Cond.code y_Bounds_originOf b_Bounds_originOf 2 (some .int) ∈ tblG := tb_4 36 rfl rfl
theorem q_4_34 : Cond.instanceMethod y_Bounds_originOf ∈ tblG := tb_4 34 rfl rfl
theorem q_4_35 : Cond.selects "InferReduce$Bounds" y_Bounds_originOf y_Bounds_originOf ∈ tblG := tb_4 35 rfl rfl
theorem q_4_41 : Cond.methodLink "InferReduce" 193 y_Bounds_settledAs ∈ tblG := tb_4 41 rfl rfl
theorem q_4_46 : Cond.methodLink "InferReduce" 197 y_Reducer_aboveOf ∈ tblG := tb_4 46 rfl rfl
theorem q_4_51 : Cond.methodLink "InferReduce" 201 y_Told_has ∈ tblG := tb_4 51 rfl rfl
theorem q_4_52 : Cond.methodLink "InferReduce" 202 y_Told_isUnchecked ∈ tblG := tb_4 52 rfl rfl
theorem q_4_55 : Cond.code y_Told_isUnchecked b_Told_isUnchecked 2 (some .boolean) ∈ tblG := tb_4 55 rfl rfl
theorem q_4_53 : Cond.instanceMethod y_Told_isUnchecked ∈ tblG := tb_4 53 rfl rfl
theorem q_4_54 : Cond.selects "InferReduce$Told" y_Told_isUnchecked y_Told_isUnchecked ∈ tblG := tb_4 54 rfl rfl
theorem q_1_201 : Cond.fieldLink "InferReduce" 205 "InferReduce$Reducer" "exchange" "LInferReduce$Exchange;" ∈ tblG := tb_1 201 rfl rfl
theorem q_4_60 : Cond.methodLink "InferReduce" 209 y_Exchange_forVariables ∈ tblG := tb_4 60 rfl rfl
theorem q_4_61 : Cond.methodLink "InferReduce" 212 y_Exchange_setInstead ∈ tblG := tb_4 61 rfl rfl
theorem q_4_62 : Cond.methodLink "InferReduce" 215 y_Told_leftOf ∈ tblG := tb_4 62 rfl rfl
theorem q_4_65 : Cond.code y_Told_leftOf b_Told_leftOf 2 (some .int) ∈ tblG := tb_4 65 rfl rfl
theorem q_4_63 : Cond.instanceMethod y_Told_leftOf ∈ tblG := tb_4 63 rfl rfl
theorem q_4_64 : Cond.selects "InferReduce$Told" y_Told_leftOf y_Told_leftOf ∈ tblG := tb_4 64 rfl rfl
theorem q_4_66 : Cond.methodLink "InferReduce" 218 y_Exchange_put ∈ tblG := tb_4 66 rfl rfl
theorem q_4_67 : Cond.methodLink "InferReduce" 221 y_Told_rightOf ∈ tblG := tb_4 67 rfl rfl
theorem q_4_70 : Cond.code y_Told_rightOf b_Told_rightOf 2 (some .int) ∈ tblG := tb_4 70 rfl rfl
theorem q_4_68 : Cond.instanceMethod y_Told_rightOf ∈ tblG := tb_4 68 rfl rfl
theorem q_4_69 : Cond.selects "InferReduce$Told" y_Told_rightOf y_Told_rightOf ∈ tblG := tb_4 69 rfl rfl
theorem q_4_71 : Cond.methodLink "InferReduce" 224 y_Told_sortOf ∈ tblG := tb_4 71 rfl rfl
theorem q_4_74 : Cond.code y_Told_sortOf b_Told_sortOf 2 (some .int) ∈ tblG := tb_4 74 rfl rfl
theorem q_4_72 : Cond.instanceMethod y_Told_sortOf ∈ tblG := tb_4 72 rfl rfl
theorem q_4_73 : Cond.selects "InferReduce$Told" y_Told_sortOf y_Told_sortOf ∈ tblG := tb_4 73 rfl rfl
theorem q_4_75 : Cond.methodLink "InferReduce" 225 y_Reducer_less ∈ tblG := tb_4 75 rfl rfl
abbrev SX : Type := (Nat → Int32) × (Nat → Nat → Int32) × (Nat → Nat → Int64)
abbrev gX_I_variables (σ : SX) : Int32 := σ.1 0
abbrev sX_I_variables (σ : SX) (v : Int32) : SX := (upd σ.1 0 v, σ.2)
abbrev gX_I_state (σ : SX) : Int32 := σ.1 1
abbrev sX_I_state (σ : SX) (v : Int32) : SX := (upd σ.1 1 v, σ.2)
abbrev gX_I_stateAt (σ : SX) : Int32 := σ.1 2
abbrev sX_I_stateAt (σ : SX) (v : Int32) : SX := (upd σ.1 2 v, σ.2)
abbrev gX_Classes_size (σ : SX) : Int32 := σ.1 3
abbrev sX_Classes_size (σ : SX) (v : Int32) : SX := (upd σ.1 3 v, σ.2)
abbrev gX_Types_size (σ : SX) : Int32 := σ.1 4
abbrev sX_Types_size (σ : SX) (v : Int32) : SX := (upd σ.1 4 v, σ.2)
abbrev gX_Bounds_size (σ : SX) : Int32 := σ.1 5
abbrev sX_Bounds_size (σ : SX) (v : Int32) : SX := (upd σ.1 5 v, σ.2)
abbrev gX_Exchange_stamp (σ : SX) : Int32 := σ.1 6
abbrev sX_Exchange_stamp (σ : SX) (v : Int32) : SX := (upd σ.1 6 v, σ.2)
abbrev gX_Exchange_variables (σ : SX) : Int32 := σ.1 7
abbrev sX_Exchange_variables (σ : SX) (v : Int32) : SX := (upd σ.1 7 v, σ.2)
abbrev gX_Exchange_owner (σ : SX) : Int32 := σ.1 8
abbrev sX_Exchange_owner (σ : SX) (v : Int32) : SX := (upd σ.1 8 v, σ.2)
abbrev gX_Reducer_made (σ : SX) : Int32 := σ.1 9
abbrev sX_Reducer_made (σ : SX) (v : Int32) : SX := (upd σ.1 9 v, σ.2)
abbrev gX_Reducer_madeInCall (σ : SX) : Int32 := σ.1 10
abbrev sX_Reducer_madeInCall (σ : SX) (v : Int32) : SX := (upd σ.1 10 v, σ.2)
abbrev gX_Reducer_origin (σ : SX) : Int32 := σ.1 11
abbrev sX_Reducer_origin (σ : SX) (v : Int32) : SX := (upd σ.1 11 v, σ.2)
abbrev gX_Reducer_sawUnchecked (σ : SX) : Int32 := σ.1 12
abbrev sX_Reducer_sawUnchecked (σ : SX) (v : Int32) : SX := (upd σ.1 12 v, σ.2)
abbrev gX_Work_size (σ : SX) : Int32 := σ.1 13
abbrev sX_Work_size (σ : SX) (v : Int32) : SX := (upd σ.1 13 v, σ.2)
abbrev gX_Work_sort (σ : SX) : Int32 := σ.1 14
abbrev sX_Work_sort (σ : SX) (v : Int32) : SX := (upd σ.1 14 v, σ.2)
abbrev gX_Work_left (σ : SX) : Int32 := σ.1 15
abbrev sX_Work_left (σ : SX) (v : Int32) : SX := (upd σ.1 15 v, σ.2)
abbrev gX_Work_right (σ : SX) : Int32 := σ.1 16
abbrev sX_Work_right (σ : SX) (v : Int32) : SX := (upd σ.1 16 v, σ.2)
abbrev gX_Work_level (σ : SX) : Int32 := σ.1 17
abbrev sX_Work_level (σ : SX) (v : Int32) : SX := (upd σ.1 17 v, σ.2)
abbrev gX_Holder_held (σ : SX) : Int32 := σ.1 18
abbrev sX_Holder_held (σ : SX) (v : Int32) : SX := (upd σ.1 18 v, σ.2)
abbrev gX_Resolver_nearSize (σ : SX) : Int32 := σ.1 19
abbrev sX_Resolver_nearSize (σ : SX) (v : Int32) : SX := (upd σ.1 19 v, σ.2)
abbrev gX_Told_size (σ : SX) : Int32 := σ.1 20
abbrev sX_Told_size (σ : SX) (v : Int32) : SX := (upd σ.1 20 v, σ.2)
abbrev aX_Classes_parameters (σ : SX) : Nat → Int32 := σ.2.1 0
abbrev tX_Classes_parameters (σ : SX) (f : Nat → Int32) : SX := (σ.1, va_up σ.2.1 0 f, σ.2.2)
abbrev aX_Classes_parentCount (σ : SX) : Nat → Int32 := σ.2.1 1
abbrev tX_Classes_parentCount (σ : SX) (f : Nat → Int32) : SX := (σ.1, va_up σ.2.1 1 f, σ.2.2)
abbrev aX_Classes_parentType (σ : SX) : Nat → Int32 := σ.2.1 2
abbrev tX_Classes_parentType (σ : SX) (f : Nat → Int32) : SX := (σ.1, va_up σ.2.1 2 f, σ.2.2)
abbrev aX_Classes_parentClass (σ : SX) : Nat → Int32 := σ.2.1 3
abbrev tX_Classes_parentClass (σ : SX) (f : Nat → Int32) : SX := (σ.1, va_up σ.2.1 3 f, σ.2.2)
abbrev aX_Types_kind (σ : SX) : Nat → Int32 := σ.2.1 4
abbrev tX_Types_kind (σ : SX) (f : Nat → Int32) : SX := (σ.1, va_up σ.2.1 4 f, σ.2.2)
abbrev aX_Types_first (σ : SX) : Nat → Int32 := σ.2.1 5
abbrev tX_Types_first (σ : SX) (f : Nat → Int32) : SX := (σ.1, va_up σ.2.1 5 f, σ.2.2)
abbrev aX_Types_second (σ : SX) : Nat → Int32 := σ.2.1 6
abbrev tX_Types_second (σ : SX) (f : Nat → Int32) : SX := (σ.1, va_up σ.2.1 6 f, σ.2.2)
abbrev aX_Types_third (σ : SX) : Nat → Int32 := σ.2.1 7
abbrev tX_Types_third (σ : SX) (f : Nat → Int32) : SX := (σ.1, va_up σ.2.1 7 f, σ.2.2)
abbrev aX_Types_depth (σ : SX) : Nat → Int32 := σ.2.1 8
abbrev tX_Types_depth (σ : SX) (f : Nat → Int32) : SX := (σ.1, va_up σ.2.1 8 f, σ.2.2)
abbrev aX_Types_kinds (σ : SX) : Nat → Int32 := σ.2.1 9
abbrev tX_Types_kinds (σ : SX) (f : Nat → Int32) : SX := (σ.1, va_up σ.2.1 9 f, σ.2.2)
abbrev aX_Types_variables (σ : SX) : Nat → Int32 := σ.2.1 10
abbrev tX_Types_variables (σ : SX) (f : Nat → Int32) : SX := (σ.1, va_up σ.2.1 10 f, σ.2.2)
abbrev aX_Types_chainFirst (σ : SX) : Nat → Int32 := σ.2.1 11
abbrev tX_Types_chainFirst (σ : SX) (f : Nat → Int32) : SX := (σ.1, va_up σ.2.1 11 f, σ.2.2)
abbrev aX_Types_chainNext (σ : SX) : Nat → Int32 := σ.2.1 12
abbrev tX_Types_chainNext (σ : SX) (f : Nat → Int32) : SX := (σ.1, va_up σ.2.1 12 f, σ.2.2)
abbrev aX_Bounds_sort (σ : SX) : Nat → Int32 := σ.2.1 13
abbrev tX_Bounds_sort (σ : SX) (f : Nat → Int32) : SX := (σ.1, va_up σ.2.1 13 f, σ.2.2)
abbrev aX_Bounds_variable (σ : SX) : Nat → Int32 := σ.2.1 14
abbrev tX_Bounds_variable (σ : SX) (f : Nat → Int32) : SX := (σ.1, va_up σ.2.1 14 f, σ.2.2)
abbrev aX_Bounds_type (σ : SX) : Nat → Int32 := σ.2.1 15
abbrev tX_Bounds_type (σ : SX) (f : Nat → Int32) : SX := (σ.1, va_up σ.2.1 15 f, σ.2.2)
abbrev aX_Bounds_origin (σ : SX) : Nat → Int32 := σ.2.1 16
abbrev tX_Bounds_origin (σ : SX) (f : Nat → Int32) : SX := (σ.1, va_up σ.2.1 16 f, σ.2.2)
abbrev aX_I_variableTypes (σ : SX) : Nat → Int32 := σ.2.1 17
abbrev tX_I_variableTypes (σ : SX) (f : Nat → Int32) : SX := (σ.1, va_up σ.2.1 17 f, σ.2.2)
abbrev aX_Exchange_instead (σ : SX) : Nat → Int32 := σ.2.1 18
abbrev tX_Exchange_instead (σ : SX) (f : Nat → Int32) : SX := (σ.1, va_up σ.2.1 18 f, σ.2.2)
abbrev aX_Exchange_done (σ : SX) : Nat → Int32 := σ.2.1 19
abbrev tX_Exchange_done (σ : SX) (f : Nat → Int32) : SX := (σ.1, va_up σ.2.1 19 f, σ.2.2)
abbrev aX_Exchange_doneAt (σ : SX) : Nat → Int32 := σ.2.1 20
abbrev tX_Exchange_doneAt (σ : SX) (f : Nat → Int32) : SX := (σ.1, va_up σ.2.1 20 f, σ.2.2)
abbrev aX_Work_sorts (σ : SX) : Nat → Int32 := σ.2.1 21
abbrev tX_Work_sorts (σ : SX) (f : Nat → Int32) : SX := (σ.1, va_up σ.2.1 21 f, σ.2.2)
abbrev aX_Work_lefts (σ : SX) : Nat → Int32 := σ.2.1 22
abbrev tX_Work_lefts (σ : SX) (f : Nat → Int32) : SX := (σ.1, va_up σ.2.1 22 f, σ.2.2)
abbrev aX_Work_rights (σ : SX) : Nat → Int32 := σ.2.1 23
abbrev tX_Work_rights (σ : SX) (f : Nat → Int32) : SX := (σ.1, va_up σ.2.1 23 f, σ.2.2)
abbrev aX_Work_levels (σ : SX) : Nat → Int32 := σ.2.1 24
abbrev tX_Work_levels (σ : SX) (f : Nat → Int32) : SX := (σ.1, va_up σ.2.1 24 f, σ.2.2)
abbrev aX_Resolver_near (σ : SX) : Nat → Int32 := σ.2.1 25
abbrev tX_Resolver_near (σ : SX) (f : Nat → Int32) : SX := (σ.1, va_up σ.2.1 25 f, σ.2.2)
abbrev aX_Resolver_links (σ : SX) : Nat → Int32 := σ.2.1 26
abbrev tX_Resolver_links (σ : SX) (f : Nat → Int32) : SX := (σ.1, va_up σ.2.1 26 f, σ.2.2)
abbrev aX_Resolver_choices (σ : SX) : Nat → Int32 := σ.2.1 27
abbrev tX_Resolver_choices (σ : SX) (f : Nat → Int32) : SX := (σ.1, va_up σ.2.1 27 f, σ.2.2)
abbrev aX_Told_sort (σ : SX) : Nat → Int32 := σ.2.1 28
abbrev tX_Told_sort (σ : SX) (f : Nat → Int32) : SX := (σ.1, va_up σ.2.1 28 f, σ.2.2)
abbrev aX_Told_left (σ : SX) : Nat → Int32 := σ.2.1 29
abbrev tX_Told_left (σ : SX) (f : Nat → Int32) : SX := (σ.1, va_up σ.2.1 29 f, σ.2.2)
abbrev aX_Told_right (σ : SX) : Nat → Int32 := σ.2.1 30
abbrev tX_Told_right (σ : SX) (f : Nat → Int32) : SX := (σ.1, va_up σ.2.1 30 f, σ.2.2)
abbrev aX_Told_loose (σ : SX) : Nat → Int32 := σ.2.1 31
abbrev tX_Told_loose (σ : SX) (f : Nat → Int32) : SX := (σ.1, va_up σ.2.1 31 f, σ.2.2)
abbrev aX_Classes_reach (σ : SX) : Nat → Int64 := σ.2.2 0
abbrev tX_Classes_reach (σ : SX) (f : Nat → Int64) : SX := (σ.1, σ.2.1, va_up σ.2.2 0 f)
abbrev aX_Types_owners (σ : SX) : Nat → Int64 := σ.2.2 1
abbrev tX_Types_owners (σ : SX) (f : Nat → Int64) : SX := (σ.1, σ.2.1, va_up σ.2.2 1 f)
abbrev aX_Types_named (σ : SX) : Nat → Int64 := σ.2.2 2
abbrev tX_Types_named (σ : SX) (f : Nat → Int64) : SX := (σ.1, σ.2.1, va_up σ.2.2 2 f)
def wX (ad : Nat → Nat) (cA : Nat → ClassId) (σ : SX) : va_W := [(ad 0, .inr (9, [.ref (ad 1), .ref (ad 7), .ref (ad 19), .ref (ad 29), .ref (ad 35), .ref (ad 36), .ref (ad 40), .ref (ad 24), .int (σ.1 0), .int (σ.1 1), .int (σ.1 2)])),
  (ad 1, .inr (1, [.ref (ad 2), .ref (ad 3), .ref (ad 4), .ref (ad 5), .ref (ad 6), .int (σ.1 3)])),
  (ad 2, .inl (cA 0, 40, .inl (σ.2.1 0))),
  (ad 3, .inl (cA 1, 40, .inl (σ.2.1 1))),
  (ad 4, .inl (cA 2, 120, .inl (σ.2.1 2))),
  (ad 5, .inl (cA 3, 120, .inl (σ.2.1 3))),
  (ad 6, .inl (cA 4, 40, .inr (.inl (σ.2.2 0)))),
  (ad 7, .inr (7, [.ref (ad 8), .ref (ad 9), .ref (ad 10), .ref (ad 11), .ref (ad 12), .ref (ad 13), .ref (ad 14), .ref (ad 15), .ref (ad 16), .ref (ad 17), .ref (ad 18), .int (σ.1 4)])),
  (ad 8, .inl (cA 5, 500, .inl (σ.2.1 4))),
  (ad 9, .inl (cA 6, 500, .inl (σ.2.1 5))),
  (ad 10, .inl (cA 7, 500, .inl (σ.2.1 6))),
  (ad 11, .inl (cA 8, 500, .inl (σ.2.1 7))),
  (ad 12, .inl (cA 9, 500, .inl (σ.2.1 8))),
  (ad 13, .inl (cA 10, 500, .inl (σ.2.1 9))),
  (ad 14, .inl (cA 11, 500, .inl (σ.2.1 10))),
  (ad 15, .inl (cA 12, 500, .inr (.inl (σ.2.2 1)))),
  (ad 16, .inl (cA 13, 500, .inr (.inl (σ.2.2 2)))),
  (ad 17, .inl (cA 14, 128, .inl (σ.2.1 11))),
  (ad 18, .inl (cA 15, 500, .inl (σ.2.1 12))),
  (ad 19, .inr (0, [.ref (ad 20), .ref (ad 21), .ref (ad 22), .ref (ad 23), .int (σ.1 5)])),
  (ad 20, .inl (cA 16, 200, .inl (σ.2.1 13))),
  (ad 21, .inl (cA 17, 200, .inl (σ.2.1 14))),
  (ad 22, .inl (cA 18, 200, .inl (σ.2.1 15))),
  (ad 23, .inl (cA 19, 200, .inl (σ.2.1 16))),
  (ad 24, .inl (cA 20, 12, .inl (σ.2.1 17))),
  (ad 25, .inr (2, [.ref (ad 7), .ref (ad 26), .ref (ad 27), .ref (ad 28), .int (σ.1 6), .int (σ.1 7), .int (σ.1 8)])),
  (ad 26, .inl (cA 21, 12, .inl (σ.2.1 18))),
  (ad 27, .inl (cA 22, 500, .inl (σ.2.1 19))),
  (ad 28, .inl (cA 23, 500, .inl (σ.2.1 20))),
  (ad 29, .inr (4, [.ref (ad 1), .ref (ad 7), .ref (ad 19), .ref (ad 25), .ref (ad 30), .int (σ.1 9), .int (σ.1 10), .int (σ.1 11), .int (σ.1 12)])),
  (ad 30, .inr (8, [.ref (ad 31), .ref (ad 32), .ref (ad 33), .ref (ad 34), .int (σ.1 13), .int (σ.1 14), .int (σ.1 15), .int (σ.1 16), .int (σ.1 17)])),
  (ad 31, .inl (cA 24, 120, .inl (σ.2.1 21))),
  (ad 32, .inl (cA 25, 120, .inl (σ.2.1 22))),
  (ad 33, .inl (cA 26, 120, .inl (σ.2.1 23))),
  (ad 34, .inl (cA 27, 120, .inl (σ.2.1 24))),
  (ad 35, .inr (3, [.ref (ad 1), .ref (ad 7), .ref (ad 19), .ref (ad 25), .ref (ad 29), .ref (ad 24), .int (σ.1 18)])),
  (ad 36, .inr (5, [.ref (ad 1), .ref (ad 7), .ref (ad 19), .ref (ad 29), .ref (ad 37), .int (σ.1 19), .ref (ad 38), .ref (ad 39)])),
  (ad 37, .inl (cA 28, 200, .inl (σ.2.1 25))),
  (ad 38, .inl (cA 29, 12, .inl (σ.2.1 26))),
  (ad 39, .inl (cA 30, 12, .inl (σ.2.1 27))),
  (ad 40, .inr (6, [.ref (ad 41), .ref (ad 42), .ref (ad 43), .ref (ad 44), .int (σ.1 20)])),
  (ad 41, .inl (cA 31, 60, .inl (σ.2.1 28))),
  (ad 42, .inl (cA 32, 60, .inl (σ.2.1 29))),
  (ad 43, .inl (cA 33, 60, .inl (σ.2.1 30))),
  (ad 44, .inl (cA 34, 60, .inl (σ.2.1 31)))]
def tysX (cA : Nat → ClassId) : List (ClassId × FieldType) := [(cA 0, .int), (cA 1, .int), (cA 2, .int), (cA 3, .int), (cA 4, .long), (cA 5, .int), (cA 6, .int), (cA 7, .int), (cA 8, .int), (cA 9, .int), (cA 10, .int), (cA 11, .int), (cA 12, .long), (cA 13, .long), (cA 14, .int), (cA 15, .int), (cA 16, .int), (cA 17, .int), (cA 18, .int), (cA 19, .int), (cA 20, .int), (cA 21, .int), (cA 22, .int), (cA 23, .int), (cA 24, .int), (cA 25, .int), (cA 26, .int), (cA 27, .int), (cA 28, .int), (cA 29, .int), (cA 30, .int), (cA 31, .int), (cA 32, .int), (cA 33, .int), (cA 34, .boolean)]
abbrev clX : List vw_C := clA
theorem wX_0 (ad : Nat → Nat) (cA : Nat → ClassId) (σ : SX) : (wX ad cA σ)[0]? = some (ad 0, .inr (9, [.ref (ad 1), .ref (ad 7), .ref (ad 19), .ref (ad 29), .ref (ad 35), .ref (ad 36), .ref (ad 40), .ref (ad 24), .int (σ.1 0), .int (σ.1 1), .int (σ.1 2)])) := rfl
theorem pX_0_8 (ad : Nat → Nat) (cA : Nat → ClassId) (σ : SX) (v : Int32) : (wX ad cA σ).set 0 (ad 0, .inr (9, ([.ref (ad 1), .ref (ad 7), .ref (ad 19), .ref (ad 29), .ref (ad 35), .ref (ad 36), .ref (ad 40), .ref (ad 24), .int (σ.1 0), .int (σ.1 1), .int (σ.1 2)] : List Value).set 8 (.int v))) = wX ad cA (sX_I_variables σ v) := rfl
theorem pX_0_9 (ad : Nat → Nat) (cA : Nat → ClassId) (σ : SX) (v : Int32) : (wX ad cA σ).set 0 (ad 0, .inr (9, ([.ref (ad 1), .ref (ad 7), .ref (ad 19), .ref (ad 29), .ref (ad 35), .ref (ad 36), .ref (ad 40), .ref (ad 24), .int (σ.1 0), .int (σ.1 1), .int (σ.1 2)] : List Value).set 9 (.int v))) = wX ad cA (sX_I_state σ v) := rfl
theorem pX_0_10 (ad : Nat → Nat) (cA : Nat → ClassId) (σ : SX) (v : Int32) : (wX ad cA σ).set 0 (ad 0, .inr (9, ([.ref (ad 1), .ref (ad 7), .ref (ad 19), .ref (ad 29), .ref (ad 35), .ref (ad 36), .ref (ad 40), .ref (ad 24), .int (σ.1 0), .int (σ.1 1), .int (σ.1 2)] : List Value).set 10 (.int v))) = wX ad cA (sX_I_stateAt σ v) := rfl
theorem wX_1 (ad : Nat → Nat) (cA : Nat → ClassId) (σ : SX) : (wX ad cA σ)[1]? = some (ad 1, .inr (1, [.ref (ad 2), .ref (ad 3), .ref (ad 4), .ref (ad 5), .ref (ad 6), .int (σ.1 3)])) := rfl
theorem pX_1_5 (ad : Nat → Nat) (cA : Nat → ClassId) (σ : SX) (v : Int32) : (wX ad cA σ).set 1 (ad 1, .inr (1, ([.ref (ad 2), .ref (ad 3), .ref (ad 4), .ref (ad 5), .ref (ad 6), .int (σ.1 3)] : List Value).set 5 (.int v))) = wX ad cA (sX_Classes_size σ v) := rfl
theorem wX_2 (ad : Nat → Nat) (cA : Nat → ClassId) (σ : SX) : (wX ad cA σ)[2]? = some (ad 2, .inl (cA 0, 40, .inl (σ.2.1 0))) := rfl
theorem uX_2 (ad : Nat → Nat) (cA : Nat → ClassId) (σ : SX) (f : Nat → Int32) : (wX ad cA σ).set 2 (ad 2, .inl (cA 0, 40, .inl f)) = wX ad cA (tX_Classes_parameters σ f) := rfl
theorem wX_3 (ad : Nat → Nat) (cA : Nat → ClassId) (σ : SX) : (wX ad cA σ)[3]? = some (ad 3, .inl (cA 1, 40, .inl (σ.2.1 1))) := rfl
theorem uX_3 (ad : Nat → Nat) (cA : Nat → ClassId) (σ : SX) (f : Nat → Int32) : (wX ad cA σ).set 3 (ad 3, .inl (cA 1, 40, .inl f)) = wX ad cA (tX_Classes_parentCount σ f) := rfl
theorem wX_4 (ad : Nat → Nat) (cA : Nat → ClassId) (σ : SX) : (wX ad cA σ)[4]? = some (ad 4, .inl (cA 2, 120, .inl (σ.2.1 2))) := rfl
theorem uX_4 (ad : Nat → Nat) (cA : Nat → ClassId) (σ : SX) (f : Nat → Int32) : (wX ad cA σ).set 4 (ad 4, .inl (cA 2, 120, .inl f)) = wX ad cA (tX_Classes_parentType σ f) := rfl
theorem wX_5 (ad : Nat → Nat) (cA : Nat → ClassId) (σ : SX) : (wX ad cA σ)[5]? = some (ad 5, .inl (cA 3, 120, .inl (σ.2.1 3))) := rfl
theorem uX_5 (ad : Nat → Nat) (cA : Nat → ClassId) (σ : SX) (f : Nat → Int32) : (wX ad cA σ).set 5 (ad 5, .inl (cA 3, 120, .inl f)) = wX ad cA (tX_Classes_parentClass σ f) := rfl
theorem wX_6 (ad : Nat → Nat) (cA : Nat → ClassId) (σ : SX) : (wX ad cA σ)[6]? = some (ad 6, .inl (cA 4, 40, .inr (.inl (σ.2.2 0)))) := rfl
theorem uX_6 (ad : Nat → Nat) (cA : Nat → ClassId) (σ : SX) (f : Nat → Int64) : (wX ad cA σ).set 6 (ad 6, .inl (cA 4, 40, .inr (.inl f))) = wX ad cA (tX_Classes_reach σ f) := rfl
theorem wX_7 (ad : Nat → Nat) (cA : Nat → ClassId) (σ : SX) : (wX ad cA σ)[7]? = some (ad 7, .inr (7, [.ref (ad 8), .ref (ad 9), .ref (ad 10), .ref (ad 11), .ref (ad 12), .ref (ad 13), .ref (ad 14), .ref (ad 15), .ref (ad 16), .ref (ad 17), .ref (ad 18), .int (σ.1 4)])) := rfl
theorem pX_7_11 (ad : Nat → Nat) (cA : Nat → ClassId) (σ : SX) (v : Int32) : (wX ad cA σ).set 7 (ad 7, .inr (7, ([.ref (ad 8), .ref (ad 9), .ref (ad 10), .ref (ad 11), .ref (ad 12), .ref (ad 13), .ref (ad 14), .ref (ad 15), .ref (ad 16), .ref (ad 17), .ref (ad 18), .int (σ.1 4)] : List Value).set 11 (.int v))) = wX ad cA (sX_Types_size σ v) := rfl
theorem wX_8 (ad : Nat → Nat) (cA : Nat → ClassId) (σ : SX) : (wX ad cA σ)[8]? = some (ad 8, .inl (cA 5, 500, .inl (σ.2.1 4))) := rfl
theorem uX_8 (ad : Nat → Nat) (cA : Nat → ClassId) (σ : SX) (f : Nat → Int32) : (wX ad cA σ).set 8 (ad 8, .inl (cA 5, 500, .inl f)) = wX ad cA (tX_Types_kind σ f) := rfl
theorem wX_9 (ad : Nat → Nat) (cA : Nat → ClassId) (σ : SX) : (wX ad cA σ)[9]? = some (ad 9, .inl (cA 6, 500, .inl (σ.2.1 5))) := rfl
theorem uX_9 (ad : Nat → Nat) (cA : Nat → ClassId) (σ : SX) (f : Nat → Int32) : (wX ad cA σ).set 9 (ad 9, .inl (cA 6, 500, .inl f)) = wX ad cA (tX_Types_first σ f) := rfl
theorem wX_10 (ad : Nat → Nat) (cA : Nat → ClassId) (σ : SX) : (wX ad cA σ)[10]? = some (ad 10, .inl (cA 7, 500, .inl (σ.2.1 6))) := rfl
theorem uX_10 (ad : Nat → Nat) (cA : Nat → ClassId) (σ : SX) (f : Nat → Int32) : (wX ad cA σ).set 10 (ad 10, .inl (cA 7, 500, .inl f)) = wX ad cA (tX_Types_second σ f) := rfl
theorem wX_11 (ad : Nat → Nat) (cA : Nat → ClassId) (σ : SX) : (wX ad cA σ)[11]? = some (ad 11, .inl (cA 8, 500, .inl (σ.2.1 7))) := rfl
theorem uX_11 (ad : Nat → Nat) (cA : Nat → ClassId) (σ : SX) (f : Nat → Int32) : (wX ad cA σ).set 11 (ad 11, .inl (cA 8, 500, .inl f)) = wX ad cA (tX_Types_third σ f) := rfl
theorem wX_12 (ad : Nat → Nat) (cA : Nat → ClassId) (σ : SX) : (wX ad cA σ)[12]? = some (ad 12, .inl (cA 9, 500, .inl (σ.2.1 8))) := rfl
theorem uX_12 (ad : Nat → Nat) (cA : Nat → ClassId) (σ : SX) (f : Nat → Int32) : (wX ad cA σ).set 12 (ad 12, .inl (cA 9, 500, .inl f)) = wX ad cA (tX_Types_depth σ f) := rfl
theorem wX_13 (ad : Nat → Nat) (cA : Nat → ClassId) (σ : SX) : (wX ad cA σ)[13]? = some (ad 13, .inl (cA 10, 500, .inl (σ.2.1 9))) := rfl
theorem uX_13 (ad : Nat → Nat) (cA : Nat → ClassId) (σ : SX) (f : Nat → Int32) : (wX ad cA σ).set 13 (ad 13, .inl (cA 10, 500, .inl f)) = wX ad cA (tX_Types_kinds σ f) := rfl
theorem wX_14 (ad : Nat → Nat) (cA : Nat → ClassId) (σ : SX) : (wX ad cA σ)[14]? = some (ad 14, .inl (cA 11, 500, .inl (σ.2.1 10))) := rfl
theorem uX_14 (ad : Nat → Nat) (cA : Nat → ClassId) (σ : SX) (f : Nat → Int32) : (wX ad cA σ).set 14 (ad 14, .inl (cA 11, 500, .inl f)) = wX ad cA (tX_Types_variables σ f) := rfl
theorem wX_15 (ad : Nat → Nat) (cA : Nat → ClassId) (σ : SX) : (wX ad cA σ)[15]? = some (ad 15, .inl (cA 12, 500, .inr (.inl (σ.2.2 1)))) := rfl
theorem uX_15 (ad : Nat → Nat) (cA : Nat → ClassId) (σ : SX) (f : Nat → Int64) : (wX ad cA σ).set 15 (ad 15, .inl (cA 12, 500, .inr (.inl f))) = wX ad cA (tX_Types_owners σ f) := rfl
theorem wX_16 (ad : Nat → Nat) (cA : Nat → ClassId) (σ : SX) : (wX ad cA σ)[16]? = some (ad 16, .inl (cA 13, 500, .inr (.inl (σ.2.2 2)))) := rfl
theorem uX_16 (ad : Nat → Nat) (cA : Nat → ClassId) (σ : SX) (f : Nat → Int64) : (wX ad cA σ).set 16 (ad 16, .inl (cA 13, 500, .inr (.inl f))) = wX ad cA (tX_Types_named σ f) := rfl
theorem wX_17 (ad : Nat → Nat) (cA : Nat → ClassId) (σ : SX) : (wX ad cA σ)[17]? = some (ad 17, .inl (cA 14, 128, .inl (σ.2.1 11))) := rfl
theorem uX_17 (ad : Nat → Nat) (cA : Nat → ClassId) (σ : SX) (f : Nat → Int32) : (wX ad cA σ).set 17 (ad 17, .inl (cA 14, 128, .inl f)) = wX ad cA (tX_Types_chainFirst σ f) := rfl
theorem wX_18 (ad : Nat → Nat) (cA : Nat → ClassId) (σ : SX) : (wX ad cA σ)[18]? = some (ad 18, .inl (cA 15, 500, .inl (σ.2.1 12))) := rfl
theorem uX_18 (ad : Nat → Nat) (cA : Nat → ClassId) (σ : SX) (f : Nat → Int32) : (wX ad cA σ).set 18 (ad 18, .inl (cA 15, 500, .inl f)) = wX ad cA (tX_Types_chainNext σ f) := rfl
theorem wX_19 (ad : Nat → Nat) (cA : Nat → ClassId) (σ : SX) : (wX ad cA σ)[19]? = some (ad 19, .inr (0, [.ref (ad 20), .ref (ad 21), .ref (ad 22), .ref (ad 23), .int (σ.1 5)])) := rfl
theorem pX_19_4 (ad : Nat → Nat) (cA : Nat → ClassId) (σ : SX) (v : Int32) : (wX ad cA σ).set 19 (ad 19, .inr (0, ([.ref (ad 20), .ref (ad 21), .ref (ad 22), .ref (ad 23), .int (σ.1 5)] : List Value).set 4 (.int v))) = wX ad cA (sX_Bounds_size σ v) := rfl
theorem wX_20 (ad : Nat → Nat) (cA : Nat → ClassId) (σ : SX) : (wX ad cA σ)[20]? = some (ad 20, .inl (cA 16, 200, .inl (σ.2.1 13))) := rfl
theorem uX_20 (ad : Nat → Nat) (cA : Nat → ClassId) (σ : SX) (f : Nat → Int32) : (wX ad cA σ).set 20 (ad 20, .inl (cA 16, 200, .inl f)) = wX ad cA (tX_Bounds_sort σ f) := rfl
theorem wX_21 (ad : Nat → Nat) (cA : Nat → ClassId) (σ : SX) : (wX ad cA σ)[21]? = some (ad 21, .inl (cA 17, 200, .inl (σ.2.1 14))) := rfl
theorem uX_21 (ad : Nat → Nat) (cA : Nat → ClassId) (σ : SX) (f : Nat → Int32) : (wX ad cA σ).set 21 (ad 21, .inl (cA 17, 200, .inl f)) = wX ad cA (tX_Bounds_variable σ f) := rfl
theorem wX_22 (ad : Nat → Nat) (cA : Nat → ClassId) (σ : SX) : (wX ad cA σ)[22]? = some (ad 22, .inl (cA 18, 200, .inl (σ.2.1 15))) := rfl
theorem uX_22 (ad : Nat → Nat) (cA : Nat → ClassId) (σ : SX) (f : Nat → Int32) : (wX ad cA σ).set 22 (ad 22, .inl (cA 18, 200, .inl f)) = wX ad cA (tX_Bounds_type σ f) := rfl
theorem wX_23 (ad : Nat → Nat) (cA : Nat → ClassId) (σ : SX) : (wX ad cA σ)[23]? = some (ad 23, .inl (cA 19, 200, .inl (σ.2.1 16))) := rfl
theorem uX_23 (ad : Nat → Nat) (cA : Nat → ClassId) (σ : SX) (f : Nat → Int32) : (wX ad cA σ).set 23 (ad 23, .inl (cA 19, 200, .inl f)) = wX ad cA (tX_Bounds_origin σ f) := rfl
theorem wX_24 (ad : Nat → Nat) (cA : Nat → ClassId) (σ : SX) : (wX ad cA σ)[24]? = some (ad 24, .inl (cA 20, 12, .inl (σ.2.1 17))) := rfl
theorem uX_24 (ad : Nat → Nat) (cA : Nat → ClassId) (σ : SX) (f : Nat → Int32) : (wX ad cA σ).set 24 (ad 24, .inl (cA 20, 12, .inl f)) = wX ad cA (tX_I_variableTypes σ f) := rfl
theorem wX_25 (ad : Nat → Nat) (cA : Nat → ClassId) (σ : SX) : (wX ad cA σ)[25]? = some (ad 25, .inr (2, [.ref (ad 7), .ref (ad 26), .ref (ad 27), .ref (ad 28), .int (σ.1 6), .int (σ.1 7), .int (σ.1 8)])) := rfl
theorem pX_25_4 (ad : Nat → Nat) (cA : Nat → ClassId) (σ : SX) (v : Int32) : (wX ad cA σ).set 25 (ad 25, .inr (2, ([.ref (ad 7), .ref (ad 26), .ref (ad 27), .ref (ad 28), .int (σ.1 6), .int (σ.1 7), .int (σ.1 8)] : List Value).set 4 (.int v))) = wX ad cA (sX_Exchange_stamp σ v) := rfl
theorem pX_25_5 (ad : Nat → Nat) (cA : Nat → ClassId) (σ : SX) (v : Int32) : (wX ad cA σ).set 25 (ad 25, .inr (2, ([.ref (ad 7), .ref (ad 26), .ref (ad 27), .ref (ad 28), .int (σ.1 6), .int (σ.1 7), .int (σ.1 8)] : List Value).set 5 (.int v))) = wX ad cA (sX_Exchange_variables σ v) := rfl
theorem pX_25_6 (ad : Nat → Nat) (cA : Nat → ClassId) (σ : SX) (v : Int32) : (wX ad cA σ).set 25 (ad 25, .inr (2, ([.ref (ad 7), .ref (ad 26), .ref (ad 27), .ref (ad 28), .int (σ.1 6), .int (σ.1 7), .int (σ.1 8)] : List Value).set 6 (.int v))) = wX ad cA (sX_Exchange_owner σ v) := rfl
theorem wX_26 (ad : Nat → Nat) (cA : Nat → ClassId) (σ : SX) : (wX ad cA σ)[26]? = some (ad 26, .inl (cA 21, 12, .inl (σ.2.1 18))) := rfl
theorem uX_26 (ad : Nat → Nat) (cA : Nat → ClassId) (σ : SX) (f : Nat → Int32) : (wX ad cA σ).set 26 (ad 26, .inl (cA 21, 12, .inl f)) = wX ad cA (tX_Exchange_instead σ f) := rfl
theorem wX_27 (ad : Nat → Nat) (cA : Nat → ClassId) (σ : SX) : (wX ad cA σ)[27]? = some (ad 27, .inl (cA 22, 500, .inl (σ.2.1 19))) := rfl
theorem uX_27 (ad : Nat → Nat) (cA : Nat → ClassId) (σ : SX) (f : Nat → Int32) : (wX ad cA σ).set 27 (ad 27, .inl (cA 22, 500, .inl f)) = wX ad cA (tX_Exchange_done σ f) := rfl
theorem wX_28 (ad : Nat → Nat) (cA : Nat → ClassId) (σ : SX) : (wX ad cA σ)[28]? = some (ad 28, .inl (cA 23, 500, .inl (σ.2.1 20))) := rfl
theorem uX_28 (ad : Nat → Nat) (cA : Nat → ClassId) (σ : SX) (f : Nat → Int32) : (wX ad cA σ).set 28 (ad 28, .inl (cA 23, 500, .inl f)) = wX ad cA (tX_Exchange_doneAt σ f) := rfl
theorem wX_29 (ad : Nat → Nat) (cA : Nat → ClassId) (σ : SX) : (wX ad cA σ)[29]? = some (ad 29, .inr (4, [.ref (ad 1), .ref (ad 7), .ref (ad 19), .ref (ad 25), .ref (ad 30), .int (σ.1 9), .int (σ.1 10), .int (σ.1 11), .int (σ.1 12)])) := rfl
theorem pX_29_5 (ad : Nat → Nat) (cA : Nat → ClassId) (σ : SX) (v : Int32) : (wX ad cA σ).set 29 (ad 29, .inr (4, ([.ref (ad 1), .ref (ad 7), .ref (ad 19), .ref (ad 25), .ref (ad 30), .int (σ.1 9), .int (σ.1 10), .int (σ.1 11), .int (σ.1 12)] : List Value).set 5 (.int v))) = wX ad cA (sX_Reducer_made σ v) := rfl
theorem pX_29_6 (ad : Nat → Nat) (cA : Nat → ClassId) (σ : SX) (v : Int32) : (wX ad cA σ).set 29 (ad 29, .inr (4, ([.ref (ad 1), .ref (ad 7), .ref (ad 19), .ref (ad 25), .ref (ad 30), .int (σ.1 9), .int (σ.1 10), .int (σ.1 11), .int (σ.1 12)] : List Value).set 6 (.int v))) = wX ad cA (sX_Reducer_madeInCall σ v) := rfl
theorem pX_29_7 (ad : Nat → Nat) (cA : Nat → ClassId) (σ : SX) (v : Int32) : (wX ad cA σ).set 29 (ad 29, .inr (4, ([.ref (ad 1), .ref (ad 7), .ref (ad 19), .ref (ad 25), .ref (ad 30), .int (σ.1 9), .int (σ.1 10), .int (σ.1 11), .int (σ.1 12)] : List Value).set 7 (.int v))) = wX ad cA (sX_Reducer_origin σ v) := rfl
theorem pX_29_8 (ad : Nat → Nat) (cA : Nat → ClassId) (σ : SX) (v : Int32) : (wX ad cA σ).set 29 (ad 29, .inr (4, ([.ref (ad 1), .ref (ad 7), .ref (ad 19), .ref (ad 25), .ref (ad 30), .int (σ.1 9), .int (σ.1 10), .int (σ.1 11), .int (σ.1 12)] : List Value).set 8 (.int v))) = wX ad cA (sX_Reducer_sawUnchecked σ v) := rfl
theorem wX_30 (ad : Nat → Nat) (cA : Nat → ClassId) (σ : SX) : (wX ad cA σ)[30]? = some (ad 30, .inr (8, [.ref (ad 31), .ref (ad 32), .ref (ad 33), .ref (ad 34), .int (σ.1 13), .int (σ.1 14), .int (σ.1 15), .int (σ.1 16), .int (σ.1 17)])) := rfl
theorem pX_30_4 (ad : Nat → Nat) (cA : Nat → ClassId) (σ : SX) (v : Int32) : (wX ad cA σ).set 30 (ad 30, .inr (8, ([.ref (ad 31), .ref (ad 32), .ref (ad 33), .ref (ad 34), .int (σ.1 13), .int (σ.1 14), .int (σ.1 15), .int (σ.1 16), .int (σ.1 17)] : List Value).set 4 (.int v))) = wX ad cA (sX_Work_size σ v) := rfl
theorem pX_30_5 (ad : Nat → Nat) (cA : Nat → ClassId) (σ : SX) (v : Int32) : (wX ad cA σ).set 30 (ad 30, .inr (8, ([.ref (ad 31), .ref (ad 32), .ref (ad 33), .ref (ad 34), .int (σ.1 13), .int (σ.1 14), .int (σ.1 15), .int (σ.1 16), .int (σ.1 17)] : List Value).set 5 (.int v))) = wX ad cA (sX_Work_sort σ v) := rfl
theorem pX_30_6 (ad : Nat → Nat) (cA : Nat → ClassId) (σ : SX) (v : Int32) : (wX ad cA σ).set 30 (ad 30, .inr (8, ([.ref (ad 31), .ref (ad 32), .ref (ad 33), .ref (ad 34), .int (σ.1 13), .int (σ.1 14), .int (σ.1 15), .int (σ.1 16), .int (σ.1 17)] : List Value).set 6 (.int v))) = wX ad cA (sX_Work_left σ v) := rfl
theorem pX_30_7 (ad : Nat → Nat) (cA : Nat → ClassId) (σ : SX) (v : Int32) : (wX ad cA σ).set 30 (ad 30, .inr (8, ([.ref (ad 31), .ref (ad 32), .ref (ad 33), .ref (ad 34), .int (σ.1 13), .int (σ.1 14), .int (σ.1 15), .int (σ.1 16), .int (σ.1 17)] : List Value).set 7 (.int v))) = wX ad cA (sX_Work_right σ v) := rfl
theorem pX_30_8 (ad : Nat → Nat) (cA : Nat → ClassId) (σ : SX) (v : Int32) : (wX ad cA σ).set 30 (ad 30, .inr (8, ([.ref (ad 31), .ref (ad 32), .ref (ad 33), .ref (ad 34), .int (σ.1 13), .int (σ.1 14), .int (σ.1 15), .int (σ.1 16), .int (σ.1 17)] : List Value).set 8 (.int v))) = wX ad cA (sX_Work_level σ v) := rfl
theorem wX_31 (ad : Nat → Nat) (cA : Nat → ClassId) (σ : SX) : (wX ad cA σ)[31]? = some (ad 31, .inl (cA 24, 120, .inl (σ.2.1 21))) := rfl
theorem uX_31 (ad : Nat → Nat) (cA : Nat → ClassId) (σ : SX) (f : Nat → Int32) : (wX ad cA σ).set 31 (ad 31, .inl (cA 24, 120, .inl f)) = wX ad cA (tX_Work_sorts σ f) := rfl
theorem wX_32 (ad : Nat → Nat) (cA : Nat → ClassId) (σ : SX) : (wX ad cA σ)[32]? = some (ad 32, .inl (cA 25, 120, .inl (σ.2.1 22))) := rfl
theorem uX_32 (ad : Nat → Nat) (cA : Nat → ClassId) (σ : SX) (f : Nat → Int32) : (wX ad cA σ).set 32 (ad 32, .inl (cA 25, 120, .inl f)) = wX ad cA (tX_Work_lefts σ f) := rfl
theorem wX_33 (ad : Nat → Nat) (cA : Nat → ClassId) (σ : SX) : (wX ad cA σ)[33]? = some (ad 33, .inl (cA 26, 120, .inl (σ.2.1 23))) := rfl
theorem uX_33 (ad : Nat → Nat) (cA : Nat → ClassId) (σ : SX) (f : Nat → Int32) : (wX ad cA σ).set 33 (ad 33, .inl (cA 26, 120, .inl f)) = wX ad cA (tX_Work_rights σ f) := rfl
theorem wX_34 (ad : Nat → Nat) (cA : Nat → ClassId) (σ : SX) : (wX ad cA σ)[34]? = some (ad 34, .inl (cA 27, 120, .inl (σ.2.1 24))) := rfl
theorem uX_34 (ad : Nat → Nat) (cA : Nat → ClassId) (σ : SX) (f : Nat → Int32) : (wX ad cA σ).set 34 (ad 34, .inl (cA 27, 120, .inl f)) = wX ad cA (tX_Work_levels σ f) := rfl
theorem wX_35 (ad : Nat → Nat) (cA : Nat → ClassId) (σ : SX) : (wX ad cA σ)[35]? = some (ad 35, .inr (3, [.ref (ad 1), .ref (ad 7), .ref (ad 19), .ref (ad 25), .ref (ad 29), .ref (ad 24), .int (σ.1 18)])) := rfl
theorem pX_35_6 (ad : Nat → Nat) (cA : Nat → ClassId) (σ : SX) (v : Int32) : (wX ad cA σ).set 35 (ad 35, .inr (3, ([.ref (ad 1), .ref (ad 7), .ref (ad 19), .ref (ad 25), .ref (ad 29), .ref (ad 24), .int (σ.1 18)] : List Value).set 6 (.int v))) = wX ad cA (sX_Holder_held σ v) := rfl
theorem wX_36 (ad : Nat → Nat) (cA : Nat → ClassId) (σ : SX) : (wX ad cA σ)[36]? = some (ad 36, .inr (5, [.ref (ad 1), .ref (ad 7), .ref (ad 19), .ref (ad 29), .ref (ad 37), .int (σ.1 19), .ref (ad 38), .ref (ad 39)])) := rfl
theorem pX_36_5 (ad : Nat → Nat) (cA : Nat → ClassId) (σ : SX) (v : Int32) : (wX ad cA σ).set 36 (ad 36, .inr (5, ([.ref (ad 1), .ref (ad 7), .ref (ad 19), .ref (ad 29), .ref (ad 37), .int (σ.1 19), .ref (ad 38), .ref (ad 39)] : List Value).set 5 (.int v))) = wX ad cA (sX_Resolver_nearSize σ v) := rfl
theorem wX_37 (ad : Nat → Nat) (cA : Nat → ClassId) (σ : SX) : (wX ad cA σ)[37]? = some (ad 37, .inl (cA 28, 200, .inl (σ.2.1 25))) := rfl
theorem uX_37 (ad : Nat → Nat) (cA : Nat → ClassId) (σ : SX) (f : Nat → Int32) : (wX ad cA σ).set 37 (ad 37, .inl (cA 28, 200, .inl f)) = wX ad cA (tX_Resolver_near σ f) := rfl
theorem wX_38 (ad : Nat → Nat) (cA : Nat → ClassId) (σ : SX) : (wX ad cA σ)[38]? = some (ad 38, .inl (cA 29, 12, .inl (σ.2.1 26))) := rfl
theorem uX_38 (ad : Nat → Nat) (cA : Nat → ClassId) (σ : SX) (f : Nat → Int32) : (wX ad cA σ).set 38 (ad 38, .inl (cA 29, 12, .inl f)) = wX ad cA (tX_Resolver_links σ f) := rfl
theorem wX_39 (ad : Nat → Nat) (cA : Nat → ClassId) (σ : SX) : (wX ad cA σ)[39]? = some (ad 39, .inl (cA 30, 12, .inl (σ.2.1 27))) := rfl
theorem uX_39 (ad : Nat → Nat) (cA : Nat → ClassId) (σ : SX) (f : Nat → Int32) : (wX ad cA σ).set 39 (ad 39, .inl (cA 30, 12, .inl f)) = wX ad cA (tX_Resolver_choices σ f) := rfl
theorem wX_40 (ad : Nat → Nat) (cA : Nat → ClassId) (σ : SX) : (wX ad cA σ)[40]? = some (ad 40, .inr (6, [.ref (ad 41), .ref (ad 42), .ref (ad 43), .ref (ad 44), .int (σ.1 20)])) := rfl
theorem pX_40_4 (ad : Nat → Nat) (cA : Nat → ClassId) (σ : SX) (v : Int32) : (wX ad cA σ).set 40 (ad 40, .inr (6, ([.ref (ad 41), .ref (ad 42), .ref (ad 43), .ref (ad 44), .int (σ.1 20)] : List Value).set 4 (.int v))) = wX ad cA (sX_Told_size σ v) := rfl
theorem wX_41 (ad : Nat → Nat) (cA : Nat → ClassId) (σ : SX) : (wX ad cA σ)[41]? = some (ad 41, .inl (cA 31, 60, .inl (σ.2.1 28))) := rfl
theorem uX_41 (ad : Nat → Nat) (cA : Nat → ClassId) (σ : SX) (f : Nat → Int32) : (wX ad cA σ).set 41 (ad 41, .inl (cA 31, 60, .inl f)) = wX ad cA (tX_Told_sort σ f) := rfl
theorem wX_42 (ad : Nat → Nat) (cA : Nat → ClassId) (σ : SX) : (wX ad cA σ)[42]? = some (ad 42, .inl (cA 32, 60, .inl (σ.2.1 29))) := rfl
theorem uX_42 (ad : Nat → Nat) (cA : Nat → ClassId) (σ : SX) (f : Nat → Int32) : (wX ad cA σ).set 42 (ad 42, .inl (cA 32, 60, .inl f)) = wX ad cA (tX_Told_left σ f) := rfl
theorem wX_43 (ad : Nat → Nat) (cA : Nat → ClassId) (σ : SX) : (wX ad cA σ)[43]? = some (ad 43, .inl (cA 33, 60, .inl (σ.2.1 30))) := rfl
theorem uX_43 (ad : Nat → Nat) (cA : Nat → ClassId) (σ : SX) (f : Nat → Int32) : (wX ad cA σ).set 43 (ad 43, .inl (cA 33, 60, .inl f)) = wX ad cA (tX_Told_right σ f) := rfl
theorem wX_44 (ad : Nat → Nat) (cA : Nat → ClassId) (σ : SX) : (wX ad cA σ)[44]? = some (ad 44, .inl (cA 34, 60, .inl (σ.2.1 31))) := rfl
theorem uX_44 (ad : Nat → Nat) (cA : Nat → ClassId) (σ : SX) (f : Nat → Int32) : (wX ad cA σ).set 44 (ad 44, .inl (cA 34, 60, .inl f)) = wX ad cA (tX_Told_loose σ f) := rfl
