/-! the world of side M: its state, its cells, the words -/
theorem q_4_94 : Cond.fieldLink "InferReduceModel" 148 "InferReduceModel" "full" "Z" ∈ tblG := tb_4 94 rfl rfl
theorem q_4_93 : Cond.fieldLink "InferReduceModel" 152 "InferReduceModel" "types" "I" ∈ tblG := tb_4 93 rfl rfl
theorem q_4_87 : Cond.fieldLink "InferReduceModel" 27 "InferReduceModel" "kind" "[I" ∈ tblG := tb_4 87 rfl rfl
theorem q_4_88 : Cond.fieldLink "InferReduceModel" 30 "InferReduceModel" "one" "[I" ∈ tblG := tb_4 88 rfl rfl
theorem q_4_89 : Cond.fieldLink "InferReduceModel" 33 "InferReduceModel" "two" "[I" ∈ tblG := tb_4 89 rfl rfl
theorem q_4_90 : Cond.fieldLink "InferReduceModel" 36 "InferReduceModel" "three" "[I" ∈ tblG := tb_4 90 rfl rfl
theorem q_4_91 : Cond.fieldLink "InferReduceModel" 39 "InferReduceModel" "deep" "[I" ∈ tblG := tb_4 91 rfl rfl
theorem q_4_92 : Cond.fieldLink "InferReduceModel" 42 "InferReduceModel" "proper" "[Z" ∈ tblG := tb_4 92 rfl rfl
theorem q_5_74 : Cond.methodLink "InferReduceModel" 155 y_M_make ∈ tblG := tb_5 74 rfl rfl
theorem q_5_77 : Cond.code y_M_make b_M_make 7 (some .int) ∈ tblG := tb_5 77 rfl rfl
theorem q_1_12 : Cond.initialized "InferReduceModel" ∈ tblG := tb_1 12 rfl rfl
theorem q_5_76 : Cond.instanceMethod y_M_make ∈ tblG := tb_5 76 rfl rfl
theorem q_s_32 : Cond.selects "InferReduceModel" y_M_make y_M_make ∈ tblG := tb_s 32 rfl rfl
theorem q_4_86 : Cond.fieldLink "InferReduceModel" 23 "InferReduceModel" "classes" "I" ∈ tblG := tb_4 86 rfl rfl
theorem q_4_82 : Cond.fieldLink "InferReduceModel" 7 "InferReduceModel" "parameters" "[I" ∈ tblG := tb_4 82 rfl rfl
theorem q_4_105 : Cond.fieldLink "InferReduceModel" 70 "InferReduceModel" "seen" "[I" ∈ tblG := tb_4 105 rfl rfl
theorem q_4_106 : Cond.fieldLink "InferReduceModel" 167 "InferReduceModel" "looks" "I" ∈ tblG := tb_4 106 rfl rfl
theorem q_4_98 : Cond.fieldLink "InferReduceModel" 170 "InferReduceModel" "todos" "I" ∈ tblG := tb_4 98 rfl rfl
theorem q_4_95 : Cond.fieldLink "InferReduceModel" 46 "InferReduceModel" "todo" "[I" ∈ tblG := tb_4 95 rfl rfl
theorem q_5_62 : Cond.methodLink "InferReduceModel" 173 y_M_isSeen ∈ tblG := tb_5 62 rfl rfl
theorem q_5_65 : Cond.code y_M_isSeen b_M_isSeen 3 (some .boolean) ∈ tblG := tb_5 65 rfl rfl
theorem q_5_64 : Cond.instanceMethod y_M_isSeen ∈ tblG := tb_5 64 rfl rfl
theorem q_s_30 : Cond.selects "InferReduceModel" y_M_isSeen y_M_isSeen ∈ tblG := tb_s 30 rfl rfl
theorem q_5_54 : Cond.methodLink "InferReduceModel" 159 y_M_isType ∈ tblG := tb_5 54 rfl rfl
theorem q_5_57 : Cond.code y_M_isType b_M_isType 2 (some .boolean) ∈ tblG := tb_5 57 rfl rfl
theorem q_5_56 : Cond.instanceMethod y_M_isType ∈ tblG := tb_5 56 rfl rfl
theorem q_s_28 : Cond.selects "InferReduceModel" y_M_isType y_M_isType ∈ tblG := tb_s 28 rfl rfl
theorem q_5_58 : Cond.methodLink "InferReduceModel" 163 y_M_isOfBefore ∈ tblG := tb_5 58 rfl rfl
theorem q_5_61 : Cond.code y_M_isOfBefore b_M_isOfBefore 6 (some .boolean) ∈ tblG := tb_5 61 rfl rfl
theorem q_5_60 : Cond.instanceMethod y_M_isOfBefore ∈ tblG := tb_5 60 rfl rfl
theorem q_s_29 : Cond.selects "InferReduceModel" y_M_isOfBefore y_M_isOfBefore ∈ tblG := tb_s 29 rfl rfl
theorem q_5_46 : Cond.methodLink "InferReduceModel" 176 y_M_isClass ∈ tblG := tb_5 46 rfl rfl
theorem q_5_49 : Cond.code y_M_isClass b_M_isClass 2 (some .boolean) ∈ tblG := tb_5 49 rfl rfl
theorem q_5_48 : Cond.instanceMethod y_M_isClass ∈ tblG := tb_5 48 rfl rfl
theorem q_s_26 : Cond.selects "InferReduceModel" y_M_isClass y_M_isClass ∈ tblG := tb_s 26 rfl rfl
theorem q_5_50 : Cond.methodLink "InferReduceModel" 179 y_M_isParent ∈ tblG := tb_5 50 rfl rfl
theorem q_5_53 : Cond.code y_M_isParent b_M_isParent 4 (some .boolean) ∈ tblG := tb_5 53 rfl rfl
theorem q_5_52 : Cond.instanceMethod y_M_isParent ∈ tblG := tb_5 52 rfl rfl
theorem q_s_27 : Cond.selects "InferReduceModel" y_M_isParent y_M_isParent ∈ tblG := tb_s 27 rfl rfl
theorem q_4_84 : Cond.fieldLink "InferReduceModel" 16 "InferReduceModel" "parentMany" "[I" ∈ tblG := tb_4 84 rfl rfl
theorem q_4_83 : Cond.fieldLink "InferReduceModel" 13 "InferReduceModel" "parents" "[I" ∈ tblG := tb_4 83 rfl rfl
theorem q_4_85 : Cond.fieldLink "InferReduceModel" 19 "InferReduceModel" "upward" "[J" ∈ tblG := tb_4 85 rfl rfl
theorem q_5_70 : Cond.methodLink "InferReduceModel" 182 y_M_plainOf ∈ tblG := tb_5 70 rfl rfl
theorem q_5_73 : Cond.code y_M_plainOf b_M_plainOf 2 (some .int) ∈ tblG := tb_5 73 rfl rfl
theorem q_5_72 : Cond.instanceMethod y_M_plainOf ∈ tblG := tb_5 72 rfl rfl
theorem q_s_31 : Cond.selects "InferReduceModel" y_M_plainOf y_M_plainOf ∈ tblG := tb_s 31 rfl rfl
theorem q_5_78 : Cond.methodLink "InferReduceModel" 186 y_M_made ∈ tblG := tb_5 78 rfl rfl
theorem q_5_81 : Cond.code y_M_made b_M_made 3 (some .int) ∈ tblG := tb_5 81 rfl rfl
theorem q_5_80 : Cond.instanceMethod y_M_made ∈ tblG := tb_5 80 rfl rfl
theorem q_s_33 : Cond.selects "InferReduceModel" y_M_made y_M_made ∈ tblG := tb_s 33 rfl rfl
theorem q_5_86 : Cond.methodLink "InferReduceModel" 189 y_M_isArgument ∈ tblG := tb_5 86 rfl rfl
theorem q_5_89 : Cond.code y_M_isArgument b_M_isArgument 2 (some .boolean) ∈ tblG := tb_5 89 rfl rfl
theorem q_5_88 : Cond.instanceMethod y_M_isArgument ∈ tblG := tb_5 88 rfl rfl
theorem q_s_34 : Cond.selects "InferReduceModel" y_M_isArgument y_M_isArgument ∈ tblG := tb_s 34 rfl rfl
theorem q_4_99 : Cond.fieldLink "InferReduceModel" 192 "InferReduceModel" "variables" "I" ∈ tblG := tb_4 99 rfl rfl
theorem q_4_103 : Cond.fieldLink "InferReduceModel" 64 "InferReduceModel" "inPlace" "[I" ∈ tblG := tb_4 103 rfl rfl
theorem q_4_100 : Cond.fieldLink "InferReduceModel" 55 "InferReduceModel" "workType" "[I" ∈ tblG := tb_4 100 rfl rfl
theorem q_4_101 : Cond.fieldLink "InferReduceModel" 58 "InferReduceModel" "workStage" "[I" ∈ tblG := tb_4 101 rfl rfl
theorem q_4_104 : Cond.fieldLink "InferReduceModel" 67 "InferReduceModel" "became" "[I" ∈ tblG := tb_4 104 rfl rfl
theorem q_5_134 : Cond.methodLink "InferReduceModel" 199 y_M_innerOf ∈ tblG := tb_5 134 rfl rfl
theorem q_5_137 : Cond.code y_M_innerOf b_M_innerOf 3 (some .int) ∈ tblG := tb_5 137 rfl rfl
theorem q_5_136 : Cond.instanceMethod y_M_innerOf ∈ tblG := tb_5 136 rfl rfl
theorem q_s_39 : Cond.selects "InferReduceModel" y_M_innerOf y_M_innerOf ∈ tblG := tb_s 39 rfl rfl
theorem q_5_130 : Cond.methodLink "InferReduceModel" 195 y_M_inPlaceOf ∈ tblG := tb_5 130 rfl rfl
theorem q_5_133 : Cond.code y_M_inPlaceOf b_M_inPlaceOf 4 (some .int) ∈ tblG := tb_5 133 rfl rfl
theorem q_5_132 : Cond.instanceMethod y_M_inPlaceOf ∈ tblG := tb_5 132 rfl rfl
theorem q_s_38 : Cond.selects "InferReduceModel" y_M_inPlaceOf y_M_inPlaceOf ∈ tblG := tb_s 38 rfl rfl
theorem q_4_102 : Cond.fieldLink "InferReduceModel" 61 "InferReduceModel" "workFirst" "[I" ∈ tblG := tb_4 102 rfl rfl
theorem q_4_107 : Cond.fieldLink "InferReduceModel" 73 "InferReduceModel" "aboveType" "[I" ∈ tblG := tb_4 107 rfl rfl
theorem q_4_110 : Cond.fieldLink "InferReduceModel" 202 "InferReduceModel" "aboves" "I" ∈ tblG := tb_4 110 rfl rfl
theorem q_4_108 : Cond.fieldLink "InferReduceModel" 76 "InferReduceModel" "aboveMore" "[I" ∈ tblG := tb_4 108 rfl rfl
theorem q_4_109 : Cond.fieldLink "InferReduceModel" 79 "InferReduceModel" "aboveFlag" "[I" ∈ tblG := tb_4 109 rfl rfl
theorem q_5_122 : Cond.methodLink "InferReduceModel" 205 y_M_push ∈ tblG := tb_5 122 rfl rfl
theorem q_5_125 : Cond.code y_M_push b_M_push 4 none ∈ tblG := tb_5 125 rfl rfl
theorem q_5_124 : Cond.instanceMethod y_M_push ∈ tblG := tb_5 124 rfl rfl
theorem q_s_36 : Cond.selects "InferReduceModel" y_M_push y_M_push ∈ tblG := tb_s 36 rfl rfl
theorem q_5_126 : Cond.methodLink "InferReduceModel" 209 y_M_replaced ∈ tblG := tb_5 126 rfl rfl
theorem q_5_129 : Cond.code y_M_replaced b_M_replaced 9 (some .int) ∈ tblG := tb_5 129 rfl rfl
theorem q_5_128 : Cond.instanceMethod y_M_replaced ∈ tblG := tb_5 128 rfl rfl
theorem q_s_37 : Cond.selects "InferReduceModel" y_M_replaced y_M_replaced ∈ tblG := tb_s 37 rfl rfl
theorem q_5_118 : Cond.methodLink "InferReduceModel" 212 y_M_aboveOf ∈ tblG := tb_5 118 rfl rfl
theorem q_5_121 : Cond.code y_M_aboveOf b_M_aboveOf 8 (some .int) ∈ tblG := tb_5 121 rfl rfl
theorem q_5_120 : Cond.instanceMethod y_M_aboveOf ∈ tblG := tb_5 120 rfl rfl
theorem q_s_35 : Cond.selects "InferReduceModel" y_M_aboveOf y_M_aboveOf ∈ tblG := tb_s 35 rfl rfl
theorem q_4_123 : Cond.fieldLink "InferReduceModel" 94 "InferReduceModel" "nextSort" "[I" ∈ tblG := tb_4 123 rfl rfl
theorem q_4_126 : Cond.fieldLink "InferReduceModel" 215 "InferReduceModel" "nexts" "I" ∈ tblG := tb_4 126 rfl rfl
theorem q_4_124 : Cond.fieldLink "InferReduceModel" 97 "InferReduceModel" "nextLeft" "[I" ∈ tblG := tb_4 124 rfl rfl
theorem q_4_125 : Cond.fieldLink "InferReduceModel" 100 "InferReduceModel" "nextRight" "[I" ∈ tblG := tb_4 125 rfl rfl
theorem q_5_173 : Cond.methodLink "InferReduceModel" 255 y_M_then ∈ tblG := tb_5 173 rfl rfl
theorem q_5_176 : Cond.code y_M_then b_M_then 4 (some .boolean) ∈ tblG := tb_5 176 rfl rfl
theorem q_5_175 : Cond.instanceMethod y_M_then ∈ tblG := tb_5 175 rfl rfl
theorem q_s_47 : Cond.selects "InferReduceModel" y_M_then y_M_then ∈ tblG := tb_s 47 rfl rfl
theorem q_4_121 : Cond.fieldLink "InferReduceModel" 258 "InferReduceModel" "isUnchecked" "Z" ∈ tblG := tb_4 121 rfl rfl
theorem q_5_169 : Cond.methodLink "InferReduceModel" 252 y_M_boxOf ∈ tblG := tb_5 169 rfl rfl
theorem q_5_172 : Cond.code y_M_boxOf b_M_boxOf 2 (some .int) ∈ tblG := tb_5 172 rfl rfl
theorem q_5_171 : Cond.instanceMethod y_M_boxOf ∈ tblG := tb_5 171 rfl rfl
theorem q_s_46 : Cond.selects "InferReduceModel" y_M_boxOf y_M_boxOf ∈ tblG := tb_s 46 rfl rfl
theorem q_5_166 : Cond.methodLink "InferReduceModel" 249 y_M_isWidened ∈ tblG := tb_5 166 rfl rfl
theorem q_5_168 : Cond.code y_M_isWidened b_M_isWidened 2 (some .boolean) ∈ tblG := tb_5 168 rfl rfl
theorem q_5_167 : Cond.static y_M_isWidened ∈ tblG := tb_5 167 rfl rfl
theorem q_4_131 : Cond.fieldLink "InferReduceModel" 267 "InferReduceModel" "bounds" "I" ∈ tblG := tb_4 131 rfl rfl
theorem q_4_127 : Cond.fieldLink "InferReduceModel" 103 "InferReduceModel" "boundSort" "[I" ∈ tblG := tb_4 127 rfl rfl
theorem q_4_128 : Cond.fieldLink "InferReduceModel" 106 "InferReduceModel" "boundOf" "[I" ∈ tblG := tb_4 128 rfl rfl
theorem q_4_129 : Cond.fieldLink "InferReduceModel" 109 "InferReduceModel" "boundType" "[I" ∈ tblG := tb_4 129 rfl rfl
theorem q_4_130 : Cond.fieldLink "InferReduceModel" 112 "InferReduceModel" "boundFrom" "[I" ∈ tblG := tb_4 130 rfl rfl
theorem q_4_122 : Cond.fieldLink "InferReduceModel" 270 "InferReduceModel" "origin" "I" ∈ tblG := tb_4 122 rfl rfl
theorem q_4_119 : Cond.fieldLink "InferReduceModel" 230 "InferReduceModel" "judging" "Z" ∈ tblG := tb_4 119 rfl rfl
theorem q_5_185 : Cond.methodLink "InferReduceModel" 276 y_M_bind ∈ tblG := tb_5 185 rfl rfl
theorem q_5_188 : Cond.code y_M_bind b_M_bind 5 none ∈ tblG := tb_5 188 rfl rfl
theorem q_5_187 : Cond.instanceMethod y_M_bind ∈ tblG := tb_5 187 rfl rfl
theorem q_s_50 : Cond.selects "InferReduceModel" y_M_bind y_M_bind ∈ tblG := tb_s 50 rfl rfl
theorem q_4_120 : Cond.fieldLink "InferReduceModel" 273 "InferReduceModel" "metVariable" "Z" ∈ tblG := tb_4 120 rfl rfl
theorem q_5_181 : Cond.methodLink "InferReduceModel" 261 y_M_isBelow ∈ tblG := tb_5 181 rfl rfl
theorem q_5_184 : Cond.code y_M_isBelow b_M_isBelow 3 (some .boolean) ∈ tblG := tb_5 184 rfl rfl
theorem q_5_183 : Cond.instanceMethod y_M_isBelow ∈ tblG := tb_5 183 rfl rfl
theorem q_s_49 : Cond.selects "InferReduceModel" y_M_isBelow y_M_isBelow ∈ tblG := tb_s 49 rfl rfl
theorem q_5_197 : Cond.methodLink "InferReduceModel" 264 y_M_isSame ∈ tblG := tb_5 197 rfl rfl
theorem q_5_200 : Cond.code y_M_isSame b_M_isSame 3 (some .boolean) ∈ tblG := tb_5 200 rfl rfl
theorem q_5_199 : Cond.instanceMethod y_M_isSame ∈ tblG := tb_5 199 rfl rfl
theorem q_s_53 : Cond.selects "InferReduceModel" y_M_isSame y_M_isSame ∈ tblG := tb_s 53 rfl rfl
theorem q_5_162 : Cond.methodLink "InferReduceModel" 237 y_M_compatible ∈ tblG := tb_5 162 rfl rfl
theorem q_5_165 : Cond.code y_M_compatible b_M_compatible 6 (some .boolean) ∈ tblG := tb_5 165 rfl rfl
theorem q_5_164 : Cond.instanceMethod y_M_compatible ∈ tblG := tb_5 164 rfl rfl
theorem q_s_45 : Cond.selects "InferReduceModel" y_M_compatible y_M_compatible ∈ tblG := tb_s 45 rfl rfl
theorem q_5_177 : Cond.methodLink "InferReduceModel" 240 y_M_sub ∈ tblG := tb_5 177 rfl rfl
theorem q_5_180 : Cond.code y_M_sub b_M_sub 5 (some .boolean) ∈ tblG := tb_5 180 rfl rfl
theorem q_5_179 : Cond.instanceMethod y_M_sub ∈ tblG := tb_5 179 rfl rfl
theorem q_s_48 : Cond.selects "InferReduceModel" y_M_sub y_M_sub ∈ tblG := tb_s 48 rfl rfl
theorem q_5_189 : Cond.methodLink "InferReduceModel" 243 y_M_contained ∈ tblG := tb_5 189 rfl rfl
theorem q_5_192 : Cond.code y_M_contained b_M_contained 5 (some .boolean) ∈ tblG := tb_5 192 rfl rfl
theorem q_5_191 : Cond.instanceMethod y_M_contained ∈ tblG := tb_5 191 rfl rfl
theorem q_s_51 : Cond.selects "InferReduceModel" y_M_contained y_M_contained ∈ tblG := tb_s 51 rfl rfl
theorem q_5_193 : Cond.methodLink "InferReduceModel" 246 y_M_equal ∈ tblG := tb_5 193 rfl rfl
theorem q_5_196 : Cond.code y_M_equal b_M_equal 5 (some .boolean) ∈ tblG := tb_5 196 rfl rfl
theorem q_5_195 : Cond.instanceMethod y_M_equal ∈ tblG := tb_5 195 rfl rfl
theorem q_s_52 : Cond.selects "InferReduceModel" y_M_equal y_M_equal ∈ tblG := tb_s 52 rfl rfl
theorem q_4_115 : Cond.fieldLink "InferReduceModel" 218 "InferReduceModel" "lesses" "I" ∈ tblG := tb_4 115 rfl rfl
theorem q_4_111 : Cond.fieldLink "InferReduceModel" 82 "InferReduceModel" "lessSort" "[I" ∈ tblG := tb_4 111 rfl rfl
theorem q_4_112 : Cond.fieldLink "InferReduceModel" 85 "InferReduceModel" "lessLeft" "[I" ∈ tblG := tb_4 112 rfl rfl
theorem q_4_113 : Cond.fieldLink "InferReduceModel" 88 "InferReduceModel" "lessRight" "[I" ∈ tblG := tb_4 113 rfl rfl
theorem q_4_114 : Cond.fieldLink "InferReduceModel" 91 "InferReduceModel" "lessDeep" "[I" ∈ tblG := tb_4 114 rfl rfl
theorem q_4_116 : Cond.fieldLink "InferReduceModel" 221 "InferReduceModel" "deepNow" "I" ∈ tblG := tb_4 116 rfl rfl
theorem q_4_117 : Cond.fieldLink "InferReduceModel" 224 "InferReduceModel" "inCall" "I" ∈ tblG := tb_4 117 rfl rfl
theorem q_4_118 : Cond.fieldLink "InferReduceModel" 227 "InferReduceModel" "madeLess" "I" ∈ tblG := tb_4 118 rfl rfl
theorem q_5_158 : Cond.methodLink "InferReduceModel" 233 y_M_step ∈ tblG := tb_5 158 rfl rfl
theorem q_5_161 : Cond.code y_M_step b_M_step 4 (some .boolean) ∈ tblG := tb_5 161 rfl rfl
theorem q_5_160 : Cond.instanceMethod y_M_step ∈ tblG := tb_5 160 rfl rfl
theorem q_s_44 : Cond.selects "InferReduceModel" y_M_step y_M_step ∈ tblG := tb_s 44 rfl rfl
theorem q_5_146 : Cond.methodLink "InferReduceModel" 295 y_M_isIn ∈ tblG := tb_5 146 rfl rfl
theorem q_5_149 : Cond.code y_M_isIn b_M_isIn 5 (some .boolean) ∈ tblG := tb_5 149 rfl rfl
theorem q_5_148 : Cond.instanceMethod y_M_isIn ∈ tblG := tb_5 148 rfl rfl
theorem q_s_41 : Cond.selects "InferReduceModel" y_M_isIn y_M_isIn ∈ tblG := tb_s 41 rfl rfl
theorem q_5_154 : Cond.methodLink "InferReduceModel" 289 y_M_less ∈ tblG := tb_5 154 rfl rfl
theorem q_5_157 : Cond.code y_M_less b_M_less 6 (some .boolean) ∈ tblG := tb_5 157 rfl rfl
theorem q_5_156 : Cond.instanceMethod y_M_less ∈ tblG := tb_5 156 rfl rfl
theorem q_s_43 : Cond.selects "InferReduceModel" y_M_less y_M_less ∈ tblG := tb_s 43 rfl rfl
theorem q_5_213 : Cond.methodLink "InferReduceModel" 292 y_M_holdArguments ∈ tblG := tb_5 213 rfl rfl
theorem q_5_216 : Cond.code y_M_holdArguments b_M_holdArguments 9 (some .boolean) ∈ tblG := tb_5 216 rfl rfl
theorem q_5_215 : Cond.instanceMethod y_M_holdArguments ∈ tblG := tb_5 215 rfl rfl
theorem q_s_57 : Cond.selects "InferReduceModel" y_M_holdArguments y_M_holdArguments ∈ tblG := tb_s 57 rfl rfl
theorem q_5_209 : Cond.methodLink "InferReduceModel" 286 y_M_holdIn ∈ tblG := tb_5 209 rfl rfl
theorem q_5_212 : Cond.code y_M_holdIn b_M_holdIn 7 (some .boolean) ∈ tblG := tb_5 212 rfl rfl
theorem q_5_211 : Cond.instanceMethod y_M_holdIn ∈ tblG := tb_5 211 rfl rfl
theorem q_s_56 : Cond.selects "InferReduceModel" y_M_holdIn y_M_holdIn ∈ tblG := tb_s 56 rfl rfl
theorem q_4_132 : Cond.fieldLink "InferReduceModel" 279 "InferReduceModel" "held" "I" ∈ tblG := tb_4 132 rfl rfl
theorem q_5_205 : Cond.methodLink "InferReduceModel" 282 y_M_holdBoth ∈ tblG := tb_5 205 rfl rfl
theorem q_5_208 : Cond.code y_M_holdBoth b_M_holdBoth 8 (some .boolean) ∈ tblG := tb_5 208 rfl rfl
theorem q_5_207 : Cond.instanceMethod y_M_holdBoth ∈ tblG := tb_5 207 rfl rfl
theorem q_s_55 : Cond.selects "InferReduceModel" y_M_holdBoth y_M_holdBoth ∈ tblG := tb_s 55 rfl rfl
theorem q_4_138 : Cond.fieldLink "InferReduceModel" 301 "InferReduceModel" "state" "I" ∈ tblG := tb_4 138 rfl rfl
theorem q_4_139 : Cond.fieldLink "InferReduceModel" 127 "InferReduceModel" "stateAt" "I" ∈ tblG := tb_4 139 rfl rfl
theorem q_5_142 : Cond.methodLink "InferReduceModel" 298 y_M_isThere ∈ tblG := tb_5 142 rfl rfl
theorem q_5_145 : Cond.code y_M_isThere b_M_isThere 4 (some .boolean) ∈ tblG := tb_5 145 rfl rfl
theorem q_5_144 : Cond.instanceMethod y_M_isThere ∈ tblG := tb_5 144 rfl rfl
theorem q_s_40 : Cond.selects "InferReduceModel" y_M_isThere y_M_isThere ∈ tblG := tb_s 40 rfl rfl
theorem q_4_137 : Cond.fieldLink "InferReduceModel" 304 "InferReduceModel" "told" "I" ∈ tblG := tb_4 137 rfl rfl
theorem q_4_133 : Cond.fieldLink "InferReduceModel" 115 "InferReduceModel" "toldSort" "[I" ∈ tblG := tb_4 133 rfl rfl
theorem q_4_134 : Cond.fieldLink "InferReduceModel" 118 "InferReduceModel" "toldLeft" "[I" ∈ tblG := tb_4 134 rfl rfl
theorem q_4_135 : Cond.fieldLink "InferReduceModel" 121 "InferReduceModel" "toldRight" "[I" ∈ tblG := tb_4 135 rfl rfl
theorem q_5_150 : Cond.methodLink "InferReduceModel" 307 y_M_begin ∈ tblG := tb_5 150 rfl rfl
theorem q_5_153 : Cond.code y_M_begin b_M_begin 2 none ∈ tblG := tb_5 153 rfl rfl
theorem q_5_152 : Cond.instanceMethod y_M_begin ∈ tblG := tb_5 152 rfl rfl
theorem q_s_42 : Cond.selects "InferReduceModel" y_M_begin y_M_begin ∈ tblG := tb_s 42 rfl rfl
theorem q_4_136 : Cond.fieldLink "InferReduceModel" 124 "InferReduceModel" "toldUnchecked" "[Z" ∈ tblG := tb_4 136 rfl rfl
theorem q_5_217 : Cond.methodLink "InferReduceModel" 315 y_M_settle ∈ tblG := tb_5 217 rfl rfl
theorem q_5_220 : Cond.code y_M_settle b_M_settle 3 none ∈ tblG := tb_5 220 rfl rfl
theorem q_5_219 : Cond.instanceMethod y_M_settle ∈ tblG := tb_5 219 rfl rfl
theorem q_s_58 : Cond.selects "InferReduceModel" y_M_settle y_M_settle ∈ tblG := tb_s 58 rfl rfl
theorem q_5_201 : Cond.methodLink "InferReduceModel" 311 y_M_hold ∈ tblG := tb_5 201 rfl rfl
theorem q_5_204 : Cond.code y_M_hold b_M_hold 3 (some .boolean) ∈ tblG := tb_5 204 rfl rfl
theorem q_5_203 : Cond.instanceMethod y_M_hold ∈ tblG := tb_5 203 rfl rfl
theorem q_s_54 : Cond.selects "InferReduceModel" y_M_hold y_M_hold ∈ tblG := tb_s 54 rfl rfl
theorem q_4_141 : Cond.fieldLink "InferReduceModel" 133 "InferReduceModel" "with" "[Z" ∈ tblG := tb_4 141 rfl rfl
theorem q_4_140 : Cond.fieldLink "InferReduceModel" 130 "InferReduceModel" "settled" "[Z" ∈ tblG := tb_4 140 rfl rfl
theorem q_5_237 : Cond.methodLink "InferReduceModel" 319 y_M_isLinked ∈ tblG := tb_5 237 rfl rfl
theorem q_6_0 : Cond.code y_M_isLinked b_M_isLinked 4 (some .boolean) ∈ tblG := tb_6 0 rfl rfl
theorem q_5_239 : Cond.instanceMethod y_M_isLinked ∈ tblG := tb_5 239 rfl rfl
theorem q_s_61 : Cond.selects "InferReduceModel" y_M_isLinked y_M_isLinked ∈ tblG := tb_s 61 rfl rfl
theorem q_4_144 : Cond.fieldLink "InferReduceModel" 334 "InferReduceModel" "someMany" "I" ∈ tblG := tb_4 144 rfl rfl
theorem q_4_143 : Cond.fieldLink "InferReduceModel" 139 "InferReduceModel" "some" "[I" ∈ tblG := tb_4 143 rfl rfl
theorem q_4_145 : Cond.fieldLink "InferReduceModel" 142 "InferReduceModel" "common" "[Z" ∈ tblG := tb_4 145 rfl rfl
theorem q_6_21 : Cond.methodLink "InferReduceModel" 349 y_M_joined ∈ tblG := tb_6 21 rfl rfl
theorem q_6_24 : Cond.code y_M_joined b_M_joined 8 (some .int) ∈ tblG := tb_6 24 rfl rfl
theorem q_6_23 : Cond.instanceMethod y_M_joined ∈ tblG := tb_6 23 rfl rfl
theorem q_s_67 : Cond.selects "InferReduceModel" y_M_joined y_M_joined ∈ tblG := tb_s 67 rfl rfl
theorem q_6_17 : Cond.methodLink "InferReduceModel" 345 y_M_extreme ∈ tblG := tb_6 17 rfl rfl
theorem q_6_20 : Cond.code y_M_extreme b_M_extreme 5 (some .int) ∈ tblG := tb_6 20 rfl rfl
theorem q_6_19 : Cond.instanceMethod y_M_extreme ∈ tblG := tb_6 19 rfl rfl
theorem q_s_66 : Cond.selects "InferReduceModel" y_M_extreme y_M_extreme ∈ tblG := tb_s 66 rfl rfl
theorem q_6_9 : Cond.methodLink "InferReduceModel" 337 y_M_collect ∈ tblG := tb_6 9 rfl rfl
theorem q_6_12 : Cond.code y_M_collect b_M_collect 4 none ∈ tblG := tb_6 12 rfl rfl
theorem q_6_11 : Cond.instanceMethod y_M_collect ∈ tblG := tb_6 11 rfl rfl
theorem q_s_64 : Cond.selects "InferReduceModel" y_M_collect y_M_collect ∈ tblG := tb_s 64 rfl rfl
theorem q_6_13 : Cond.methodLink "InferReduceModel" 341 y_M_join ∈ tblG := tb_6 13 rfl rfl
theorem q_6_16 : Cond.code y_M_join b_M_join 6 (some .int) ∈ tblG := tb_6 16 rfl rfl
theorem q_6_15 : Cond.instanceMethod y_M_join ∈ tblG := tb_6 15 rfl rfl
theorem q_s_65 : Cond.selects "InferReduceModel" y_M_join y_M_join ∈ tblG := tb_s 65 rfl rfl
theorem q_4_142 : Cond.fieldLink "InferReduceModel" 136 "InferReduceModel" "chosen" "[I" ∈ tblG := tb_4 142 rfl rfl
theorem q_6_5 : Cond.methodLink "InferReduceModel" 331 y_M_choose ∈ tblG := tb_6 5 rfl rfl
theorem q_6_8 : Cond.code y_M_choose b_M_choose 2 (some .int) ∈ tblG := tb_6 8 rfl rfl
theorem q_6_7 : Cond.instanceMethod y_M_choose ∈ tblG := tb_6 7 rfl rfl
theorem q_s_63 : Cond.selects "InferReduceModel" y_M_choose y_M_choose ∈ tblG := tb_s 63 rfl rfl
theorem q_5_229 : Cond.methodLink "InferReduceModel" 322 y_M_instanceOf ∈ tblG := tb_5 229 rfl rfl
theorem q_5_232 : Cond.code y_M_instanceOf b_M_instanceOf 3 (some .int) ∈ tblG := tb_5 232 rfl rfl
theorem q_5_231 : Cond.instanceMethod y_M_instanceOf ∈ tblG := tb_5 231 rfl rfl
theorem q_s_59 : Cond.selects "InferReduceModel" y_M_instanceOf y_M_instanceOf ∈ tblG := tb_s 59 rfl rfl
theorem q_5_233 : Cond.methodLink "InferReduceModel" 325 y_M_depends ∈ tblG := tb_5 233 rfl rfl
theorem q_5_236 : Cond.code y_M_depends b_M_depends 6 (some .int) ∈ tblG := tb_5 236 rfl rfl
theorem q_5_235 : Cond.instanceMethod y_M_depends ∈ tblG := tb_5 235 rfl rfl
theorem q_s_60 : Cond.selects "InferReduceModel" y_M_depends y_M_depends ∈ tblG := tb_s 60 rfl rfl
theorem q_6_1 : Cond.methodLink "InferReduceModel" 328 y_M_chooseAll ∈ tblG := tb_6 1 rfl rfl
theorem q_6_4 : Cond.code y_M_chooseAll b_M_chooseAll 3 (some .boolean) ∈ tblG := tb_6 4 rfl rfl
theorem q_6_3 : Cond.instanceMethod y_M_chooseAll ∈ tblG := tb_6 3 rfl rfl
theorem q_s_62 : Cond.selects "InferReduceModel" y_M_chooseAll y_M_chooseAll ∈ tblG := tb_s 62 rfl rfl
abbrev SM : Type := (Nat → Int32) × (Nat → Nat → Int32) × (Nat → Nat → Int64)
abbrev gM_M_classes (σ : SM) : Int32 := σ.1 0
abbrev sM_M_classes (σ : SM) (v : Int32) : SM := (upd σ.1 0 v, σ.2)
abbrev gM_M_types (σ : SM) : Int32 := σ.1 1
abbrev sM_M_types (σ : SM) (v : Int32) : SM := (upd σ.1 1 v, σ.2)
abbrev gM_M_full (σ : SM) : Int32 := σ.1 2
abbrev sM_M_full (σ : SM) (v : Int32) : SM := (upd σ.1 2 v, σ.2)
abbrev gM_M_todos (σ : SM) : Int32 := σ.1 3
abbrev sM_M_todos (σ : SM) (v : Int32) : SM := (upd σ.1 3 v, σ.2)
abbrev gM_M_variables (σ : SM) : Int32 := σ.1 4
abbrev sM_M_variables (σ : SM) (v : Int32) : SM := (upd σ.1 4 v, σ.2)
abbrev gM_M_looks (σ : SM) : Int32 := σ.1 5
abbrev sM_M_looks (σ : SM) (v : Int32) : SM := (upd σ.1 5 v, σ.2)
abbrev gM_M_aboves (σ : SM) : Int32 := σ.1 6
abbrev sM_M_aboves (σ : SM) (v : Int32) : SM := (upd σ.1 6 v, σ.2)
abbrev gM_M_lesses (σ : SM) : Int32 := σ.1 7
abbrev sM_M_lesses (σ : SM) (v : Int32) : SM := (upd σ.1 7 v, σ.2)
abbrev gM_M_deepNow (σ : SM) : Int32 := σ.1 8
abbrev sM_M_deepNow (σ : SM) (v : Int32) : SM := (upd σ.1 8 v, σ.2)
abbrev gM_M_inCall (σ : SM) : Int32 := σ.1 9
abbrev sM_M_inCall (σ : SM) (v : Int32) : SM := (upd σ.1 9 v, σ.2)
abbrev gM_M_madeLess (σ : SM) : Int32 := σ.1 10
abbrev sM_M_madeLess (σ : SM) (v : Int32) : SM := (upd σ.1 10 v, σ.2)
abbrev gM_M_judging (σ : SM) : Int32 := σ.1 11
abbrev sM_M_judging (σ : SM) (v : Int32) : SM := (upd σ.1 11 v, σ.2)
abbrev gM_M_metVariable (σ : SM) : Int32 := σ.1 12
abbrev sM_M_metVariable (σ : SM) (v : Int32) : SM := (upd σ.1 12 v, σ.2)
abbrev gM_M_isUnchecked (σ : SM) : Int32 := σ.1 13
abbrev sM_M_isUnchecked (σ : SM) (v : Int32) : SM := (upd σ.1 13 v, σ.2)
abbrev gM_M_origin (σ : SM) : Int32 := σ.1 14
abbrev sM_M_origin (σ : SM) (v : Int32) : SM := (upd σ.1 14 v, σ.2)
abbrev gM_M_nexts (σ : SM) : Int32 := σ.1 15
abbrev sM_M_nexts (σ : SM) (v : Int32) : SM := (upd σ.1 15 v, σ.2)
abbrev gM_M_bounds (σ : SM) : Int32 := σ.1 16
abbrev sM_M_bounds (σ : SM) (v : Int32) : SM := (upd σ.1 16 v, σ.2)
abbrev gM_M_held (σ : SM) : Int32 := σ.1 17
abbrev sM_M_held (σ : SM) (v : Int32) : SM := (upd σ.1 17 v, σ.2)
abbrev gM_M_told (σ : SM) : Int32 := σ.1 18
abbrev sM_M_told (σ : SM) (v : Int32) : SM := (upd σ.1 18 v, σ.2)
abbrev gM_M_state (σ : SM) : Int32 := σ.1 19
abbrev sM_M_state (σ : SM) (v : Int32) : SM := (upd σ.1 19 v, σ.2)
abbrev gM_M_stateAt (σ : SM) : Int32 := σ.1 20
abbrev sM_M_stateAt (σ : SM) (v : Int32) : SM := (upd σ.1 20 v, σ.2)
abbrev gM_M_someMany (σ : SM) : Int32 := σ.1 21
abbrev sM_M_someMany (σ : SM) (v : Int32) : SM := (upd σ.1 21 v, σ.2)
abbrev aM_M_parameters (σ : SM) : Nat → Int32 := σ.2.1 0
abbrev tM_M_parameters (σ : SM) (f : Nat → Int32) : SM := (σ.1, va_up σ.2.1 0 f, σ.2.2)
abbrev aM_M_parents (σ : SM) : Nat → Int32 := σ.2.1 1
abbrev tM_M_parents (σ : SM) (f : Nat → Int32) : SM := (σ.1, va_up σ.2.1 1 f, σ.2.2)
abbrev aM_M_parentMany (σ : SM) : Nat → Int32 := σ.2.1 2
abbrev tM_M_parentMany (σ : SM) (f : Nat → Int32) : SM := (σ.1, va_up σ.2.1 2 f, σ.2.2)
abbrev aM_M_kind (σ : SM) : Nat → Int32 := σ.2.1 3
abbrev tM_M_kind (σ : SM) (f : Nat → Int32) : SM := (σ.1, va_up σ.2.1 3 f, σ.2.2)
abbrev aM_M_one (σ : SM) : Nat → Int32 := σ.2.1 4
abbrev tM_M_one (σ : SM) (f : Nat → Int32) : SM := (σ.1, va_up σ.2.1 4 f, σ.2.2)
abbrev aM_M_two (σ : SM) : Nat → Int32 := σ.2.1 5
abbrev tM_M_two (σ : SM) (f : Nat → Int32) : SM := (σ.1, va_up σ.2.1 5 f, σ.2.2)
abbrev aM_M_three (σ : SM) : Nat → Int32 := σ.2.1 6
abbrev tM_M_three (σ : SM) (f : Nat → Int32) : SM := (σ.1, va_up σ.2.1 6 f, σ.2.2)
abbrev aM_M_deep (σ : SM) : Nat → Int32 := σ.2.1 7
abbrev tM_M_deep (σ : SM) (f : Nat → Int32) : SM := (σ.1, va_up σ.2.1 7 f, σ.2.2)
abbrev aM_M_proper (σ : SM) : Nat → Int32 := σ.2.1 8
abbrev tM_M_proper (σ : SM) (f : Nat → Int32) : SM := (σ.1, va_up σ.2.1 8 f, σ.2.2)
abbrev aM_M_todo (σ : SM) : Nat → Int32 := σ.2.1 9
abbrev tM_M_todo (σ : SM) (f : Nat → Int32) : SM := (σ.1, va_up σ.2.1 9 f, σ.2.2)
abbrev aM_M_todoMore (σ : SM) : Nat → Int32 := σ.2.1 10
abbrev tM_M_todoMore (σ : SM) (f : Nat → Int32) : SM := (σ.1, va_up σ.2.1 10 f, σ.2.2)
abbrev aM_M_todoFlag (σ : SM) : Nat → Int32 := σ.2.1 11
abbrev tM_M_todoFlag (σ : SM) (f : Nat → Int32) : SM := (σ.1, va_up σ.2.1 11 f, σ.2.2)
abbrev aM_M_workType (σ : SM) : Nat → Int32 := σ.2.1 12
abbrev tM_M_workType (σ : SM) (f : Nat → Int32) : SM := (σ.1, va_up σ.2.1 12 f, σ.2.2)
abbrev aM_M_workStage (σ : SM) : Nat → Int32 := σ.2.1 13
abbrev tM_M_workStage (σ : SM) (f : Nat → Int32) : SM := (σ.1, va_up σ.2.1 13 f, σ.2.2)
abbrev aM_M_workFirst (σ : SM) : Nat → Int32 := σ.2.1 14
abbrev tM_M_workFirst (σ : SM) (f : Nat → Int32) : SM := (σ.1, va_up σ.2.1 14 f, σ.2.2)
abbrev aM_M_inPlace (σ : SM) : Nat → Int32 := σ.2.1 15
abbrev tM_M_inPlace (σ : SM) (f : Nat → Int32) : SM := (σ.1, va_up σ.2.1 15 f, σ.2.2)
abbrev aM_M_became (σ : SM) : Nat → Int32 := σ.2.1 16
abbrev tM_M_became (σ : SM) (f : Nat → Int32) : SM := (σ.1, va_up σ.2.1 16 f, σ.2.2)
abbrev aM_M_seen (σ : SM) : Nat → Int32 := σ.2.1 17
abbrev tM_M_seen (σ : SM) (f : Nat → Int32) : SM := (σ.1, va_up σ.2.1 17 f, σ.2.2)
abbrev aM_M_aboveType (σ : SM) : Nat → Int32 := σ.2.1 18
abbrev tM_M_aboveType (σ : SM) (f : Nat → Int32) : SM := (σ.1, va_up σ.2.1 18 f, σ.2.2)
abbrev aM_M_aboveMore (σ : SM) : Nat → Int32 := σ.2.1 19
abbrev tM_M_aboveMore (σ : SM) (f : Nat → Int32) : SM := (σ.1, va_up σ.2.1 19 f, σ.2.2)
abbrev aM_M_aboveFlag (σ : SM) : Nat → Int32 := σ.2.1 20
abbrev tM_M_aboveFlag (σ : SM) (f : Nat → Int32) : SM := (σ.1, va_up σ.2.1 20 f, σ.2.2)
abbrev aM_M_lessSort (σ : SM) : Nat → Int32 := σ.2.1 21
abbrev tM_M_lessSort (σ : SM) (f : Nat → Int32) : SM := (σ.1, va_up σ.2.1 21 f, σ.2.2)
abbrev aM_M_lessLeft (σ : SM) : Nat → Int32 := σ.2.1 22
abbrev tM_M_lessLeft (σ : SM) (f : Nat → Int32) : SM := (σ.1, va_up σ.2.1 22 f, σ.2.2)
abbrev aM_M_lessRight (σ : SM) : Nat → Int32 := σ.2.1 23
abbrev tM_M_lessRight (σ : SM) (f : Nat → Int32) : SM := (σ.1, va_up σ.2.1 23 f, σ.2.2)
abbrev aM_M_lessDeep (σ : SM) : Nat → Int32 := σ.2.1 24
abbrev tM_M_lessDeep (σ : SM) (f : Nat → Int32) : SM := (σ.1, va_up σ.2.1 24 f, σ.2.2)
abbrev aM_M_nextSort (σ : SM) : Nat → Int32 := σ.2.1 25
abbrev tM_M_nextSort (σ : SM) (f : Nat → Int32) : SM := (σ.1, va_up σ.2.1 25 f, σ.2.2)
abbrev aM_M_nextLeft (σ : SM) : Nat → Int32 := σ.2.1 26
abbrev tM_M_nextLeft (σ : SM) (f : Nat → Int32) : SM := (σ.1, va_up σ.2.1 26 f, σ.2.2)
abbrev aM_M_nextRight (σ : SM) : Nat → Int32 := σ.2.1 27
abbrev tM_M_nextRight (σ : SM) (f : Nat → Int32) : SM := (σ.1, va_up σ.2.1 27 f, σ.2.2)
abbrev aM_M_boundSort (σ : SM) : Nat → Int32 := σ.2.1 28
abbrev tM_M_boundSort (σ : SM) (f : Nat → Int32) : SM := (σ.1, va_up σ.2.1 28 f, σ.2.2)
abbrev aM_M_boundOf (σ : SM) : Nat → Int32 := σ.2.1 29
abbrev tM_M_boundOf (σ : SM) (f : Nat → Int32) : SM := (σ.1, va_up σ.2.1 29 f, σ.2.2)
abbrev aM_M_boundType (σ : SM) : Nat → Int32 := σ.2.1 30
abbrev tM_M_boundType (σ : SM) (f : Nat → Int32) : SM := (σ.1, va_up σ.2.1 30 f, σ.2.2)
abbrev aM_M_boundFrom (σ : SM) : Nat → Int32 := σ.2.1 31
abbrev tM_M_boundFrom (σ : SM) (f : Nat → Int32) : SM := (σ.1, va_up σ.2.1 31 f, σ.2.2)
abbrev aM_M_toldSort (σ : SM) : Nat → Int32 := σ.2.1 32
abbrev tM_M_toldSort (σ : SM) (f : Nat → Int32) : SM := (σ.1, va_up σ.2.1 32 f, σ.2.2)
abbrev aM_M_toldLeft (σ : SM) : Nat → Int32 := σ.2.1 33
abbrev tM_M_toldLeft (σ : SM) (f : Nat → Int32) : SM := (σ.1, va_up σ.2.1 33 f, σ.2.2)
abbrev aM_M_toldRight (σ : SM) : Nat → Int32 := σ.2.1 34
abbrev tM_M_toldRight (σ : SM) (f : Nat → Int32) : SM := (σ.1, va_up σ.2.1 34 f, σ.2.2)
abbrev aM_M_toldUnchecked (σ : SM) : Nat → Int32 := σ.2.1 35
abbrev tM_M_toldUnchecked (σ : SM) (f : Nat → Int32) : SM := (σ.1, va_up σ.2.1 35 f, σ.2.2)
abbrev aM_M_settled (σ : SM) : Nat → Int32 := σ.2.1 36
abbrev tM_M_settled (σ : SM) (f : Nat → Int32) : SM := (σ.1, va_up σ.2.1 36 f, σ.2.2)
abbrev aM_M_with (σ : SM) : Nat → Int32 := σ.2.1 37
abbrev tM_M_with (σ : SM) (f : Nat → Int32) : SM := (σ.1, va_up σ.2.1 37 f, σ.2.2)
abbrev aM_M_chosen (σ : SM) : Nat → Int32 := σ.2.1 38
abbrev tM_M_chosen (σ : SM) (f : Nat → Int32) : SM := (σ.1, va_up σ.2.1 38 f, σ.2.2)
abbrev aM_M_some (σ : SM) : Nat → Int32 := σ.2.1 39
abbrev tM_M_some (σ : SM) (f : Nat → Int32) : SM := (σ.1, va_up σ.2.1 39 f, σ.2.2)
abbrev aM_M_common (σ : SM) : Nat → Int32 := σ.2.1 40
abbrev tM_M_common (σ : SM) (f : Nat → Int32) : SM := (σ.1, va_up σ.2.1 40 f, σ.2.2)
abbrev aM_M_outdone (σ : SM) : Nat → Int32 := σ.2.1 41
abbrev tM_M_outdone (σ : SM) (f : Nat → Int32) : SM := (σ.1, va_up σ.2.1 41 f, σ.2.2)
abbrev aM_M_upward (σ : SM) : Nat → Int64 := σ.2.2 0
abbrev tM_M_upward (σ : SM) (f : Nat → Int64) : SM := (σ.1, σ.2.1, va_up σ.2.2 0 f)
def wM (ad : Nat → Nat) (cA : Nat → ClassId) (σ : SM) : va_W := [(ad 0, .inr (10, [.ref (ad 1), .ref (ad 2), .ref (ad 3), .ref (ad 4), .int (σ.1 0), .ref (ad 5), .ref (ad 6), .ref (ad 7), .ref (ad 8), .ref (ad 9), .ref (ad 10), .int (σ.1 1), .int (σ.1 2), .ref (ad 11), .ref (ad 12), .ref (ad 13), .int (σ.1 3), .int (σ.1 4), .ref (ad 14), .ref (ad 15), .ref (ad 16), .ref (ad 17), .ref (ad 18), .ref (ad 19), .int (σ.1 5), .ref (ad 20), .ref (ad 21), .ref (ad 22), .int (σ.1 6), .ref (ad 23), .ref (ad 24), .ref (ad 25), .ref (ad 26), .int (σ.1 7), .int (σ.1 8), .int (σ.1 9), .int (σ.1 10), .int (σ.1 11), .int (σ.1 12), .int (σ.1 13), .int (σ.1 14), .ref (ad 27), .ref (ad 28), .ref (ad 29), .int (σ.1 15), .ref (ad 30), .ref (ad 31), .ref (ad 32), .ref (ad 33), .int (σ.1 16), .int (σ.1 17), .ref (ad 34), .ref (ad 35), .ref (ad 36), .ref (ad 37), .int (σ.1 18), .int (σ.1 19), .int (σ.1 20), .ref (ad 38), .ref (ad 39), .ref (ad 40), .ref (ad 41), .int (σ.1 21), .ref (ad 42), .ref (ad 43)])),
  (ad 1, .inl (cA 0, 40, .inl (σ.2.1 0))),
  (ad 2, .inl (cA 1, 120, .inl (σ.2.1 1))),
  (ad 3, .inl (cA 2, 40, .inl (σ.2.1 2))),
  (ad 4, .inl (cA 3, 40, .inr (.inl (σ.2.2 0)))),
  (ad 5, .inl (cA 4, 500, .inl (σ.2.1 3))),
  (ad 6, .inl (cA 5, 500, .inl (σ.2.1 4))),
  (ad 7, .inl (cA 6, 500, .inl (σ.2.1 5))),
  (ad 8, .inl (cA 7, 500, .inl (σ.2.1 6))),
  (ad 9, .inl (cA 8, 500, .inl (σ.2.1 7))),
  (ad 10, .inl (cA 9, 500, .inl (σ.2.1 8))),
  (ad 11, .inl (cA 10, 2000, .inl (σ.2.1 9))),
  (ad 12, .inl (cA 11, 2000, .inl (σ.2.1 10))),
  (ad 13, .inl (cA 12, 2000, .inl (σ.2.1 11))),
  (ad 14, .inl (cA 13, 64, .inl (σ.2.1 12))),
  (ad 15, .inl (cA 14, 64, .inl (σ.2.1 13))),
  (ad 16, .inl (cA 15, 64, .inl (σ.2.1 14))),
  (ad 17, .inl (cA 16, 12, .inl (σ.2.1 15))),
  (ad 18, .inl (cA 17, 500, .inl (σ.2.1 16))),
  (ad 19, .inl (cA 18, 500, .inl (σ.2.1 17))),
  (ad 20, .inl (cA 19, 2000, .inl (σ.2.1 18))),
  (ad 21, .inl (cA 20, 2000, .inl (σ.2.1 19))),
  (ad 22, .inl (cA 21, 2000, .inl (σ.2.1 20))),
  (ad 23, .inl (cA 22, 200, .inl (σ.2.1 21))),
  (ad 24, .inl (cA 23, 200, .inl (σ.2.1 22))),
  (ad 25, .inl (cA 24, 200, .inl (σ.2.1 23))),
  (ad 26, .inl (cA 25, 200, .inl (σ.2.1 24))),
  (ad 27, .inl (cA 26, 2, .inl (σ.2.1 25))),
  (ad 28, .inl (cA 27, 2, .inl (σ.2.1 26))),
  (ad 29, .inl (cA 28, 2, .inl (σ.2.1 27))),
  (ad 30, .inl (cA 29, 200, .inl (σ.2.1 28))),
  (ad 31, .inl (cA 30, 200, .inl (σ.2.1 29))),
  (ad 32, .inl (cA 31, 200, .inl (σ.2.1 30))),
  (ad 33, .inl (cA 32, 200, .inl (σ.2.1 31))),
  (ad 34, .inl (cA 33, 60, .inl (σ.2.1 32))),
  (ad 35, .inl (cA 34, 60, .inl (σ.2.1 33))),
  (ad 36, .inl (cA 35, 60, .inl (σ.2.1 34))),
  (ad 37, .inl (cA 36, 60, .inl (σ.2.1 35))),
  (ad 38, .inl (cA 37, 12, .inl (σ.2.1 36))),
  (ad 39, .inl (cA 38, 12, .inl (σ.2.1 37))),
  (ad 40, .inl (cA 39, 12, .inl (σ.2.1 38))),
  (ad 41, .inl (cA 40, 200, .inl (σ.2.1 39))),
  (ad 42, .inl (cA 41, 40, .inl (σ.2.1 40))),
  (ad 43, .inl (cA 42, 40, .inl (σ.2.1 41)))]
def tysM (cA : Nat → ClassId) : List (ClassId × FieldType) := [(cA 0, .int), (cA 1, .int), (cA 2, .int), (cA 3, .long), (cA 4, .int), (cA 5, .int), (cA 6, .int), (cA 7, .int), (cA 8, .int), (cA 9, .boolean), (cA 10, .int), (cA 11, .int), (cA 12, .int), (cA 13, .int), (cA 14, .int), (cA 15, .int), (cA 16, .int), (cA 17, .int), (cA 18, .int), (cA 19, .int), (cA 20, .int), (cA 21, .int), (cA 22, .int), (cA 23, .int), (cA 24, .int), (cA 25, .int), (cA 26, .int), (cA 27, .int), (cA 28, .int), (cA 29, .int), (cA 30, .int), (cA 31, .int), (cA 32, .int), (cA 33, .int), (cA 34, .int), (cA 35, .int), (cA 36, .boolean), (cA 37, .boolean), (cA 38, .boolean), (cA 39, .int), (cA 40, .int), (cA 41, .boolean), (cA 42, .boolean)]
abbrev clM : List vw_C := clA
theorem wM_0 (ad : Nat → Nat) (cA : Nat → ClassId) (σ : SM) : (wM ad cA σ)[0]? = some (ad 0, .inr (10, [.ref (ad 1), .ref (ad 2), .ref (ad 3), .ref (ad 4), .int (σ.1 0), .ref (ad 5), .ref (ad 6), .ref (ad 7), .ref (ad 8), .ref (ad 9), .ref (ad 10), .int (σ.1 1), .int (σ.1 2), .ref (ad 11), .ref (ad 12), .ref (ad 13), .int (σ.1 3), .int (σ.1 4), .ref (ad 14), .ref (ad 15), .ref (ad 16), .ref (ad 17), .ref (ad 18), .ref (ad 19), .int (σ.1 5), .ref (ad 20), .ref (ad 21), .ref (ad 22), .int (σ.1 6), .ref (ad 23), .ref (ad 24), .ref (ad 25), .ref (ad 26), .int (σ.1 7), .int (σ.1 8), .int (σ.1 9), .int (σ.1 10), .int (σ.1 11), .int (σ.1 12), .int (σ.1 13), .int (σ.1 14), .ref (ad 27), .ref (ad 28), .ref (ad 29), .int (σ.1 15), .ref (ad 30), .ref (ad 31), .ref (ad 32), .ref (ad 33), .int (σ.1 16), .int (σ.1 17), .ref (ad 34), .ref (ad 35), .ref (ad 36), .ref (ad 37), .int (σ.1 18), .int (σ.1 19), .int (σ.1 20), .ref (ad 38), .ref (ad 39), .ref (ad 40), .ref (ad 41), .int (σ.1 21), .ref (ad 42), .ref (ad 43)])) := rfl
theorem pM_0_4 (ad : Nat → Nat) (cA : Nat → ClassId) (σ : SM) (v : Int32) : (wM ad cA σ).set 0 (ad 0, .inr (10, ([.ref (ad 1), .ref (ad 2), .ref (ad 3), .ref (ad 4), .int (σ.1 0), .ref (ad 5), .ref (ad 6), .ref (ad 7), .ref (ad 8), .ref (ad 9), .ref (ad 10), .int (σ.1 1), .int (σ.1 2), .ref (ad 11), .ref (ad 12), .ref (ad 13), .int (σ.1 3), .int (σ.1 4), .ref (ad 14), .ref (ad 15), .ref (ad 16), .ref (ad 17), .ref (ad 18), .ref (ad 19), .int (σ.1 5), .ref (ad 20), .ref (ad 21), .ref (ad 22), .int (σ.1 6), .ref (ad 23), .ref (ad 24), .ref (ad 25), .ref (ad 26), .int (σ.1 7), .int (σ.1 8), .int (σ.1 9), .int (σ.1 10), .int (σ.1 11), .int (σ.1 12), .int (σ.1 13), .int (σ.1 14), .ref (ad 27), .ref (ad 28), .ref (ad 29), .int (σ.1 15), .ref (ad 30), .ref (ad 31), .ref (ad 32), .ref (ad 33), .int (σ.1 16), .int (σ.1 17), .ref (ad 34), .ref (ad 35), .ref (ad 36), .ref (ad 37), .int (σ.1 18), .int (σ.1 19), .int (σ.1 20), .ref (ad 38), .ref (ad 39), .ref (ad 40), .ref (ad 41), .int (σ.1 21), .ref (ad 42), .ref (ad 43)] : List Value).set 4 (.int v))) = wM ad cA (sM_M_classes σ v) := rfl
theorem pM_0_11 (ad : Nat → Nat) (cA : Nat → ClassId) (σ : SM) (v : Int32) : (wM ad cA σ).set 0 (ad 0, .inr (10, ([.ref (ad 1), .ref (ad 2), .ref (ad 3), .ref (ad 4), .int (σ.1 0), .ref (ad 5), .ref (ad 6), .ref (ad 7), .ref (ad 8), .ref (ad 9), .ref (ad 10), .int (σ.1 1), .int (σ.1 2), .ref (ad 11), .ref (ad 12), .ref (ad 13), .int (σ.1 3), .int (σ.1 4), .ref (ad 14), .ref (ad 15), .ref (ad 16), .ref (ad 17), .ref (ad 18), .ref (ad 19), .int (σ.1 5), .ref (ad 20), .ref (ad 21), .ref (ad 22), .int (σ.1 6), .ref (ad 23), .ref (ad 24), .ref (ad 25), .ref (ad 26), .int (σ.1 7), .int (σ.1 8), .int (σ.1 9), .int (σ.1 10), .int (σ.1 11), .int (σ.1 12), .int (σ.1 13), .int (σ.1 14), .ref (ad 27), .ref (ad 28), .ref (ad 29), .int (σ.1 15), .ref (ad 30), .ref (ad 31), .ref (ad 32), .ref (ad 33), .int (σ.1 16), .int (σ.1 17), .ref (ad 34), .ref (ad 35), .ref (ad 36), .ref (ad 37), .int (σ.1 18), .int (σ.1 19), .int (σ.1 20), .ref (ad 38), .ref (ad 39), .ref (ad 40), .ref (ad 41), .int (σ.1 21), .ref (ad 42), .ref (ad 43)] : List Value).set 11 (.int v))) = wM ad cA (sM_M_types σ v) := rfl
theorem pM_0_12 (ad : Nat → Nat) (cA : Nat → ClassId) (σ : SM) (v : Int32) : (wM ad cA σ).set 0 (ad 0, .inr (10, ([.ref (ad 1), .ref (ad 2), .ref (ad 3), .ref (ad 4), .int (σ.1 0), .ref (ad 5), .ref (ad 6), .ref (ad 7), .ref (ad 8), .ref (ad 9), .ref (ad 10), .int (σ.1 1), .int (σ.1 2), .ref (ad 11), .ref (ad 12), .ref (ad 13), .int (σ.1 3), .int (σ.1 4), .ref (ad 14), .ref (ad 15), .ref (ad 16), .ref (ad 17), .ref (ad 18), .ref (ad 19), .int (σ.1 5), .ref (ad 20), .ref (ad 21), .ref (ad 22), .int (σ.1 6), .ref (ad 23), .ref (ad 24), .ref (ad 25), .ref (ad 26), .int (σ.1 7), .int (σ.1 8), .int (σ.1 9), .int (σ.1 10), .int (σ.1 11), .int (σ.1 12), .int (σ.1 13), .int (σ.1 14), .ref (ad 27), .ref (ad 28), .ref (ad 29), .int (σ.1 15), .ref (ad 30), .ref (ad 31), .ref (ad 32), .ref (ad 33), .int (σ.1 16), .int (σ.1 17), .ref (ad 34), .ref (ad 35), .ref (ad 36), .ref (ad 37), .int (σ.1 18), .int (σ.1 19), .int (σ.1 20), .ref (ad 38), .ref (ad 39), .ref (ad 40), .ref (ad 41), .int (σ.1 21), .ref (ad 42), .ref (ad 43)] : List Value).set 12 (.int v))) = wM ad cA (sM_M_full σ v) := rfl
theorem pM_0_16 (ad : Nat → Nat) (cA : Nat → ClassId) (σ : SM) (v : Int32) : (wM ad cA σ).set 0 (ad 0, .inr (10, ([.ref (ad 1), .ref (ad 2), .ref (ad 3), .ref (ad 4), .int (σ.1 0), .ref (ad 5), .ref (ad 6), .ref (ad 7), .ref (ad 8), .ref (ad 9), .ref (ad 10), .int (σ.1 1), .int (σ.1 2), .ref (ad 11), .ref (ad 12), .ref (ad 13), .int (σ.1 3), .int (σ.1 4), .ref (ad 14), .ref (ad 15), .ref (ad 16), .ref (ad 17), .ref (ad 18), .ref (ad 19), .int (σ.1 5), .ref (ad 20), .ref (ad 21), .ref (ad 22), .int (σ.1 6), .ref (ad 23), .ref (ad 24), .ref (ad 25), .ref (ad 26), .int (σ.1 7), .int (σ.1 8), .int (σ.1 9), .int (σ.1 10), .int (σ.1 11), .int (σ.1 12), .int (σ.1 13), .int (σ.1 14), .ref (ad 27), .ref (ad 28), .ref (ad 29), .int (σ.1 15), .ref (ad 30), .ref (ad 31), .ref (ad 32), .ref (ad 33), .int (σ.1 16), .int (σ.1 17), .ref (ad 34), .ref (ad 35), .ref (ad 36), .ref (ad 37), .int (σ.1 18), .int (σ.1 19), .int (σ.1 20), .ref (ad 38), .ref (ad 39), .ref (ad 40), .ref (ad 41), .int (σ.1 21), .ref (ad 42), .ref (ad 43)] : List Value).set 16 (.int v))) = wM ad cA (sM_M_todos σ v) := rfl
theorem pM_0_17 (ad : Nat → Nat) (cA : Nat → ClassId) (σ : SM) (v : Int32) : (wM ad cA σ).set 0 (ad 0, .inr (10, ([.ref (ad 1), .ref (ad 2), .ref (ad 3), .ref (ad 4), .int (σ.1 0), .ref (ad 5), .ref (ad 6), .ref (ad 7), .ref (ad 8), .ref (ad 9), .ref (ad 10), .int (σ.1 1), .int (σ.1 2), .ref (ad 11), .ref (ad 12), .ref (ad 13), .int (σ.1 3), .int (σ.1 4), .ref (ad 14), .ref (ad 15), .ref (ad 16), .ref (ad 17), .ref (ad 18), .ref (ad 19), .int (σ.1 5), .ref (ad 20), .ref (ad 21), .ref (ad 22), .int (σ.1 6), .ref (ad 23), .ref (ad 24), .ref (ad 25), .ref (ad 26), .int (σ.1 7), .int (σ.1 8), .int (σ.1 9), .int (σ.1 10), .int (σ.1 11), .int (σ.1 12), .int (σ.1 13), .int (σ.1 14), .ref (ad 27), .ref (ad 28), .ref (ad 29), .int (σ.1 15), .ref (ad 30), .ref (ad 31), .ref (ad 32), .ref (ad 33), .int (σ.1 16), .int (σ.1 17), .ref (ad 34), .ref (ad 35), .ref (ad 36), .ref (ad 37), .int (σ.1 18), .int (σ.1 19), .int (σ.1 20), .ref (ad 38), .ref (ad 39), .ref (ad 40), .ref (ad 41), .int (σ.1 21), .ref (ad 42), .ref (ad 43)] : List Value).set 17 (.int v))) = wM ad cA (sM_M_variables σ v) := rfl
theorem pM_0_24 (ad : Nat → Nat) (cA : Nat → ClassId) (σ : SM) (v : Int32) : (wM ad cA σ).set 0 (ad 0, .inr (10, ([.ref (ad 1), .ref (ad 2), .ref (ad 3), .ref (ad 4), .int (σ.1 0), .ref (ad 5), .ref (ad 6), .ref (ad 7), .ref (ad 8), .ref (ad 9), .ref (ad 10), .int (σ.1 1), .int (σ.1 2), .ref (ad 11), .ref (ad 12), .ref (ad 13), .int (σ.1 3), .int (σ.1 4), .ref (ad 14), .ref (ad 15), .ref (ad 16), .ref (ad 17), .ref (ad 18), .ref (ad 19), .int (σ.1 5), .ref (ad 20), .ref (ad 21), .ref (ad 22), .int (σ.1 6), .ref (ad 23), .ref (ad 24), .ref (ad 25), .ref (ad 26), .int (σ.1 7), .int (σ.1 8), .int (σ.1 9), .int (σ.1 10), .int (σ.1 11), .int (σ.1 12), .int (σ.1 13), .int (σ.1 14), .ref (ad 27), .ref (ad 28), .ref (ad 29), .int (σ.1 15), .ref (ad 30), .ref (ad 31), .ref (ad 32), .ref (ad 33), .int (σ.1 16), .int (σ.1 17), .ref (ad 34), .ref (ad 35), .ref (ad 36), .ref (ad 37), .int (σ.1 18), .int (σ.1 19), .int (σ.1 20), .ref (ad 38), .ref (ad 39), .ref (ad 40), .ref (ad 41), .int (σ.1 21), .ref (ad 42), .ref (ad 43)] : List Value).set 24 (.int v))) = wM ad cA (sM_M_looks σ v) := rfl
theorem pM_0_28 (ad : Nat → Nat) (cA : Nat → ClassId) (σ : SM) (v : Int32) : (wM ad cA σ).set 0 (ad 0, .inr (10, ([.ref (ad 1), .ref (ad 2), .ref (ad 3), .ref (ad 4), .int (σ.1 0), .ref (ad 5), .ref (ad 6), .ref (ad 7), .ref (ad 8), .ref (ad 9), .ref (ad 10), .int (σ.1 1), .int (σ.1 2), .ref (ad 11), .ref (ad 12), .ref (ad 13), .int (σ.1 3), .int (σ.1 4), .ref (ad 14), .ref (ad 15), .ref (ad 16), .ref (ad 17), .ref (ad 18), .ref (ad 19), .int (σ.1 5), .ref (ad 20), .ref (ad 21), .ref (ad 22), .int (σ.1 6), .ref (ad 23), .ref (ad 24), .ref (ad 25), .ref (ad 26), .int (σ.1 7), .int (σ.1 8), .int (σ.1 9), .int (σ.1 10), .int (σ.1 11), .int (σ.1 12), .int (σ.1 13), .int (σ.1 14), .ref (ad 27), .ref (ad 28), .ref (ad 29), .int (σ.1 15), .ref (ad 30), .ref (ad 31), .ref (ad 32), .ref (ad 33), .int (σ.1 16), .int (σ.1 17), .ref (ad 34), .ref (ad 35), .ref (ad 36), .ref (ad 37), .int (σ.1 18), .int (σ.1 19), .int (σ.1 20), .ref (ad 38), .ref (ad 39), .ref (ad 40), .ref (ad 41), .int (σ.1 21), .ref (ad 42), .ref (ad 43)] : List Value).set 28 (.int v))) = wM ad cA (sM_M_aboves σ v) := rfl
theorem pM_0_33 (ad : Nat → Nat) (cA : Nat → ClassId) (σ : SM) (v : Int32) : (wM ad cA σ).set 0 (ad 0, .inr (10, ([.ref (ad 1), .ref (ad 2), .ref (ad 3), .ref (ad 4), .int (σ.1 0), .ref (ad 5), .ref (ad 6), .ref (ad 7), .ref (ad 8), .ref (ad 9), .ref (ad 10), .int (σ.1 1), .int (σ.1 2), .ref (ad 11), .ref (ad 12), .ref (ad 13), .int (σ.1 3), .int (σ.1 4), .ref (ad 14), .ref (ad 15), .ref (ad 16), .ref (ad 17), .ref (ad 18), .ref (ad 19), .int (σ.1 5), .ref (ad 20), .ref (ad 21), .ref (ad 22), .int (σ.1 6), .ref (ad 23), .ref (ad 24), .ref (ad 25), .ref (ad 26), .int (σ.1 7), .int (σ.1 8), .int (σ.1 9), .int (σ.1 10), .int (σ.1 11), .int (σ.1 12), .int (σ.1 13), .int (σ.1 14), .ref (ad 27), .ref (ad 28), .ref (ad 29), .int (σ.1 15), .ref (ad 30), .ref (ad 31), .ref (ad 32), .ref (ad 33), .int (σ.1 16), .int (σ.1 17), .ref (ad 34), .ref (ad 35), .ref (ad 36), .ref (ad 37), .int (σ.1 18), .int (σ.1 19), .int (σ.1 20), .ref (ad 38), .ref (ad 39), .ref (ad 40), .ref (ad 41), .int (σ.1 21), .ref (ad 42), .ref (ad 43)] : List Value).set 33 (.int v))) = wM ad cA (sM_M_lesses σ v) := rfl
theorem pM_0_34 (ad : Nat → Nat) (cA : Nat → ClassId) (σ : SM) (v : Int32) : (wM ad cA σ).set 0 (ad 0, .inr (10, ([.ref (ad 1), .ref (ad 2), .ref (ad 3), .ref (ad 4), .int (σ.1 0), .ref (ad 5), .ref (ad 6), .ref (ad 7), .ref (ad 8), .ref (ad 9), .ref (ad 10), .int (σ.1 1), .int (σ.1 2), .ref (ad 11), .ref (ad 12), .ref (ad 13), .int (σ.1 3), .int (σ.1 4), .ref (ad 14), .ref (ad 15), .ref (ad 16), .ref (ad 17), .ref (ad 18), .ref (ad 19), .int (σ.1 5), .ref (ad 20), .ref (ad 21), .ref (ad 22), .int (σ.1 6), .ref (ad 23), .ref (ad 24), .ref (ad 25), .ref (ad 26), .int (σ.1 7), .int (σ.1 8), .int (σ.1 9), .int (σ.1 10), .int (σ.1 11), .int (σ.1 12), .int (σ.1 13), .int (σ.1 14), .ref (ad 27), .ref (ad 28), .ref (ad 29), .int (σ.1 15), .ref (ad 30), .ref (ad 31), .ref (ad 32), .ref (ad 33), .int (σ.1 16), .int (σ.1 17), .ref (ad 34), .ref (ad 35), .ref (ad 36), .ref (ad 37), .int (σ.1 18), .int (σ.1 19), .int (σ.1 20), .ref (ad 38), .ref (ad 39), .ref (ad 40), .ref (ad 41), .int (σ.1 21), .ref (ad 42), .ref (ad 43)] : List Value).set 34 (.int v))) = wM ad cA (sM_M_deepNow σ v) := rfl
theorem pM_0_35 (ad : Nat → Nat) (cA : Nat → ClassId) (σ : SM) (v : Int32) : (wM ad cA σ).set 0 (ad 0, .inr (10, ([.ref (ad 1), .ref (ad 2), .ref (ad 3), .ref (ad 4), .int (σ.1 0), .ref (ad 5), .ref (ad 6), .ref (ad 7), .ref (ad 8), .ref (ad 9), .ref (ad 10), .int (σ.1 1), .int (σ.1 2), .ref (ad 11), .ref (ad 12), .ref (ad 13), .int (σ.1 3), .int (σ.1 4), .ref (ad 14), .ref (ad 15), .ref (ad 16), .ref (ad 17), .ref (ad 18), .ref (ad 19), .int (σ.1 5), .ref (ad 20), .ref (ad 21), .ref (ad 22), .int (σ.1 6), .ref (ad 23), .ref (ad 24), .ref (ad 25), .ref (ad 26), .int (σ.1 7), .int (σ.1 8), .int (σ.1 9), .int (σ.1 10), .int (σ.1 11), .int (σ.1 12), .int (σ.1 13), .int (σ.1 14), .ref (ad 27), .ref (ad 28), .ref (ad 29), .int (σ.1 15), .ref (ad 30), .ref (ad 31), .ref (ad 32), .ref (ad 33), .int (σ.1 16), .int (σ.1 17), .ref (ad 34), .ref (ad 35), .ref (ad 36), .ref (ad 37), .int (σ.1 18), .int (σ.1 19), .int (σ.1 20), .ref (ad 38), .ref (ad 39), .ref (ad 40), .ref (ad 41), .int (σ.1 21), .ref (ad 42), .ref (ad 43)] : List Value).set 35 (.int v))) = wM ad cA (sM_M_inCall σ v) := rfl
theorem pM_0_36 (ad : Nat → Nat) (cA : Nat → ClassId) (σ : SM) (v : Int32) : (wM ad cA σ).set 0 (ad 0, .inr (10, ([.ref (ad 1), .ref (ad 2), .ref (ad 3), .ref (ad 4), .int (σ.1 0), .ref (ad 5), .ref (ad 6), .ref (ad 7), .ref (ad 8), .ref (ad 9), .ref (ad 10), .int (σ.1 1), .int (σ.1 2), .ref (ad 11), .ref (ad 12), .ref (ad 13), .int (σ.1 3), .int (σ.1 4), .ref (ad 14), .ref (ad 15), .ref (ad 16), .ref (ad 17), .ref (ad 18), .ref (ad 19), .int (σ.1 5), .ref (ad 20), .ref (ad 21), .ref (ad 22), .int (σ.1 6), .ref (ad 23), .ref (ad 24), .ref (ad 25), .ref (ad 26), .int (σ.1 7), .int (σ.1 8), .int (σ.1 9), .int (σ.1 10), .int (σ.1 11), .int (σ.1 12), .int (σ.1 13), .int (σ.1 14), .ref (ad 27), .ref (ad 28), .ref (ad 29), .int (σ.1 15), .ref (ad 30), .ref (ad 31), .ref (ad 32), .ref (ad 33), .int (σ.1 16), .int (σ.1 17), .ref (ad 34), .ref (ad 35), .ref (ad 36), .ref (ad 37), .int (σ.1 18), .int (σ.1 19), .int (σ.1 20), .ref (ad 38), .ref (ad 39), .ref (ad 40), .ref (ad 41), .int (σ.1 21), .ref (ad 42), .ref (ad 43)] : List Value).set 36 (.int v))) = wM ad cA (sM_M_madeLess σ v) := rfl
theorem pM_0_37 (ad : Nat → Nat) (cA : Nat → ClassId) (σ : SM) (v : Int32) : (wM ad cA σ).set 0 (ad 0, .inr (10, ([.ref (ad 1), .ref (ad 2), .ref (ad 3), .ref (ad 4), .int (σ.1 0), .ref (ad 5), .ref (ad 6), .ref (ad 7), .ref (ad 8), .ref (ad 9), .ref (ad 10), .int (σ.1 1), .int (σ.1 2), .ref (ad 11), .ref (ad 12), .ref (ad 13), .int (σ.1 3), .int (σ.1 4), .ref (ad 14), .ref (ad 15), .ref (ad 16), .ref (ad 17), .ref (ad 18), .ref (ad 19), .int (σ.1 5), .ref (ad 20), .ref (ad 21), .ref (ad 22), .int (σ.1 6), .ref (ad 23), .ref (ad 24), .ref (ad 25), .ref (ad 26), .int (σ.1 7), .int (σ.1 8), .int (σ.1 9), .int (σ.1 10), .int (σ.1 11), .int (σ.1 12), .int (σ.1 13), .int (σ.1 14), .ref (ad 27), .ref (ad 28), .ref (ad 29), .int (σ.1 15), .ref (ad 30), .ref (ad 31), .ref (ad 32), .ref (ad 33), .int (σ.1 16), .int (σ.1 17), .ref (ad 34), .ref (ad 35), .ref (ad 36), .ref (ad 37), .int (σ.1 18), .int (σ.1 19), .int (σ.1 20), .ref (ad 38), .ref (ad 39), .ref (ad 40), .ref (ad 41), .int (σ.1 21), .ref (ad 42), .ref (ad 43)] : List Value).set 37 (.int v))) = wM ad cA (sM_M_judging σ v) := rfl
theorem pM_0_38 (ad : Nat → Nat) (cA : Nat → ClassId) (σ : SM) (v : Int32) : (wM ad cA σ).set 0 (ad 0, .inr (10, ([.ref (ad 1), .ref (ad 2), .ref (ad 3), .ref (ad 4), .int (σ.1 0), .ref (ad 5), .ref (ad 6), .ref (ad 7), .ref (ad 8), .ref (ad 9), .ref (ad 10), .int (σ.1 1), .int (σ.1 2), .ref (ad 11), .ref (ad 12), .ref (ad 13), .int (σ.1 3), .int (σ.1 4), .ref (ad 14), .ref (ad 15), .ref (ad 16), .ref (ad 17), .ref (ad 18), .ref (ad 19), .int (σ.1 5), .ref (ad 20), .ref (ad 21), .ref (ad 22), .int (σ.1 6), .ref (ad 23), .ref (ad 24), .ref (ad 25), .ref (ad 26), .int (σ.1 7), .int (σ.1 8), .int (σ.1 9), .int (σ.1 10), .int (σ.1 11), .int (σ.1 12), .int (σ.1 13), .int (σ.1 14), .ref (ad 27), .ref (ad 28), .ref (ad 29), .int (σ.1 15), .ref (ad 30), .ref (ad 31), .ref (ad 32), .ref (ad 33), .int (σ.1 16), .int (σ.1 17), .ref (ad 34), .ref (ad 35), .ref (ad 36), .ref (ad 37), .int (σ.1 18), .int (σ.1 19), .int (σ.1 20), .ref (ad 38), .ref (ad 39), .ref (ad 40), .ref (ad 41), .int (σ.1 21), .ref (ad 42), .ref (ad 43)] : List Value).set 38 (.int v))) = wM ad cA (sM_M_metVariable σ v) := rfl
theorem pM_0_39 (ad : Nat → Nat) (cA : Nat → ClassId) (σ : SM) (v : Int32) : (wM ad cA σ).set 0 (ad 0, .inr (10, ([.ref (ad 1), .ref (ad 2), .ref (ad 3), .ref (ad 4), .int (σ.1 0), .ref (ad 5), .ref (ad 6), .ref (ad 7), .ref (ad 8), .ref (ad 9), .ref (ad 10), .int (σ.1 1), .int (σ.1 2), .ref (ad 11), .ref (ad 12), .ref (ad 13), .int (σ.1 3), .int (σ.1 4), .ref (ad 14), .ref (ad 15), .ref (ad 16), .ref (ad 17), .ref (ad 18), .ref (ad 19), .int (σ.1 5), .ref (ad 20), .ref (ad 21), .ref (ad 22), .int (σ.1 6), .ref (ad 23), .ref (ad 24), .ref (ad 25), .ref (ad 26), .int (σ.1 7), .int (σ.1 8), .int (σ.1 9), .int (σ.1 10), .int (σ.1 11), .int (σ.1 12), .int (σ.1 13), .int (σ.1 14), .ref (ad 27), .ref (ad 28), .ref (ad 29), .int (σ.1 15), .ref (ad 30), .ref (ad 31), .ref (ad 32), .ref (ad 33), .int (σ.1 16), .int (σ.1 17), .ref (ad 34), .ref (ad 35), .ref (ad 36), .ref (ad 37), .int (σ.1 18), .int (σ.1 19), .int (σ.1 20), .ref (ad 38), .ref (ad 39), .ref (ad 40), .ref (ad 41), .int (σ.1 21), .ref (ad 42), .ref (ad 43)] : List Value).set 39 (.int v))) = wM ad cA (sM_M_isUnchecked σ v) := rfl
theorem pM_0_40 (ad : Nat → Nat) (cA : Nat → ClassId) (σ : SM) (v : Int32) : (wM ad cA σ).set 0 (ad 0, .inr (10, ([.ref (ad 1), .ref (ad 2), .ref (ad 3), .ref (ad 4), .int (σ.1 0), .ref (ad 5), .ref (ad 6), .ref (ad 7), .ref (ad 8), .ref (ad 9), .ref (ad 10), .int (σ.1 1), .int (σ.1 2), .ref (ad 11), .ref (ad 12), .ref (ad 13), .int (σ.1 3), .int (σ.1 4), .ref (ad 14), .ref (ad 15), .ref (ad 16), .ref (ad 17), .ref (ad 18), .ref (ad 19), .int (σ.1 5), .ref (ad 20), .ref (ad 21), .ref (ad 22), .int (σ.1 6), .ref (ad 23), .ref (ad 24), .ref (ad 25), .ref (ad 26), .int (σ.1 7), .int (σ.1 8), .int (σ.1 9), .int (σ.1 10), .int (σ.1 11), .int (σ.1 12), .int (σ.1 13), .int (σ.1 14), .ref (ad 27), .ref (ad 28), .ref (ad 29), .int (σ.1 15), .ref (ad 30), .ref (ad 31), .ref (ad 32), .ref (ad 33), .int (σ.1 16), .int (σ.1 17), .ref (ad 34), .ref (ad 35), .ref (ad 36), .ref (ad 37), .int (σ.1 18), .int (σ.1 19), .int (σ.1 20), .ref (ad 38), .ref (ad 39), .ref (ad 40), .ref (ad 41), .int (σ.1 21), .ref (ad 42), .ref (ad 43)] : List Value).set 40 (.int v))) = wM ad cA (sM_M_origin σ v) := rfl
theorem pM_0_44 (ad : Nat → Nat) (cA : Nat → ClassId) (σ : SM) (v : Int32) : (wM ad cA σ).set 0 (ad 0, .inr (10, ([.ref (ad 1), .ref (ad 2), .ref (ad 3), .ref (ad 4), .int (σ.1 0), .ref (ad 5), .ref (ad 6), .ref (ad 7), .ref (ad 8), .ref (ad 9), .ref (ad 10), .int (σ.1 1), .int (σ.1 2), .ref (ad 11), .ref (ad 12), .ref (ad 13), .int (σ.1 3), .int (σ.1 4), .ref (ad 14), .ref (ad 15), .ref (ad 16), .ref (ad 17), .ref (ad 18), .ref (ad 19), .int (σ.1 5), .ref (ad 20), .ref (ad 21), .ref (ad 22), .int (σ.1 6), .ref (ad 23), .ref (ad 24), .ref (ad 25), .ref (ad 26), .int (σ.1 7), .int (σ.1 8), .int (σ.1 9), .int (σ.1 10), .int (σ.1 11), .int (σ.1 12), .int (σ.1 13), .int (σ.1 14), .ref (ad 27), .ref (ad 28), .ref (ad 29), .int (σ.1 15), .ref (ad 30), .ref (ad 31), .ref (ad 32), .ref (ad 33), .int (σ.1 16), .int (σ.1 17), .ref (ad 34), .ref (ad 35), .ref (ad 36), .ref (ad 37), .int (σ.1 18), .int (σ.1 19), .int (σ.1 20), .ref (ad 38), .ref (ad 39), .ref (ad 40), .ref (ad 41), .int (σ.1 21), .ref (ad 42), .ref (ad 43)] : List Value).set 44 (.int v))) = wM ad cA (sM_M_nexts σ v) := rfl
theorem pM_0_49 (ad : Nat → Nat) (cA : Nat → ClassId) (σ : SM) (v : Int32) : (wM ad cA σ).set 0 (ad 0, .inr (10, ([.ref (ad 1), .ref (ad 2), .ref (ad 3), .ref (ad 4), .int (σ.1 0), .ref (ad 5), .ref (ad 6), .ref (ad 7), .ref (ad 8), .ref (ad 9), .ref (ad 10), .int (σ.1 1), .int (σ.1 2), .ref (ad 11), .ref (ad 12), .ref (ad 13), .int (σ.1 3), .int (σ.1 4), .ref (ad 14), .ref (ad 15), .ref (ad 16), .ref (ad 17), .ref (ad 18), .ref (ad 19), .int (σ.1 5), .ref (ad 20), .ref (ad 21), .ref (ad 22), .int (σ.1 6), .ref (ad 23), .ref (ad 24), .ref (ad 25), .ref (ad 26), .int (σ.1 7), .int (σ.1 8), .int (σ.1 9), .int (σ.1 10), .int (σ.1 11), .int (σ.1 12), .int (σ.1 13), .int (σ.1 14), .ref (ad 27), .ref (ad 28), .ref (ad 29), .int (σ.1 15), .ref (ad 30), .ref (ad 31), .ref (ad 32), .ref (ad 33), .int (σ.1 16), .int (σ.1 17), .ref (ad 34), .ref (ad 35), .ref (ad 36), .ref (ad 37), .int (σ.1 18), .int (σ.1 19), .int (σ.1 20), .ref (ad 38), .ref (ad 39), .ref (ad 40), .ref (ad 41), .int (σ.1 21), .ref (ad 42), .ref (ad 43)] : List Value).set 49 (.int v))) = wM ad cA (sM_M_bounds σ v) := rfl
theorem pM_0_50 (ad : Nat → Nat) (cA : Nat → ClassId) (σ : SM) (v : Int32) : (wM ad cA σ).set 0 (ad 0, .inr (10, ([.ref (ad 1), .ref (ad 2), .ref (ad 3), .ref (ad 4), .int (σ.1 0), .ref (ad 5), .ref (ad 6), .ref (ad 7), .ref (ad 8), .ref (ad 9), .ref (ad 10), .int (σ.1 1), .int (σ.1 2), .ref (ad 11), .ref (ad 12), .ref (ad 13), .int (σ.1 3), .int (σ.1 4), .ref (ad 14), .ref (ad 15), .ref (ad 16), .ref (ad 17), .ref (ad 18), .ref (ad 19), .int (σ.1 5), .ref (ad 20), .ref (ad 21), .ref (ad 22), .int (σ.1 6), .ref (ad 23), .ref (ad 24), .ref (ad 25), .ref (ad 26), .int (σ.1 7), .int (σ.1 8), .int (σ.1 9), .int (σ.1 10), .int (σ.1 11), .int (σ.1 12), .int (σ.1 13), .int (σ.1 14), .ref (ad 27), .ref (ad 28), .ref (ad 29), .int (σ.1 15), .ref (ad 30), .ref (ad 31), .ref (ad 32), .ref (ad 33), .int (σ.1 16), .int (σ.1 17), .ref (ad 34), .ref (ad 35), .ref (ad 36), .ref (ad 37), .int (σ.1 18), .int (σ.1 19), .int (σ.1 20), .ref (ad 38), .ref (ad 39), .ref (ad 40), .ref (ad 41), .int (σ.1 21), .ref (ad 42), .ref (ad 43)] : List Value).set 50 (.int v))) = wM ad cA (sM_M_held σ v) := rfl
theorem pM_0_55 (ad : Nat → Nat) (cA : Nat → ClassId) (σ : SM) (v : Int32) : (wM ad cA σ).set 0 (ad 0, .inr (10, ([.ref (ad 1), .ref (ad 2), .ref (ad 3), .ref (ad 4), .int (σ.1 0), .ref (ad 5), .ref (ad 6), .ref (ad 7), .ref (ad 8), .ref (ad 9), .ref (ad 10), .int (σ.1 1), .int (σ.1 2), .ref (ad 11), .ref (ad 12), .ref (ad 13), .int (σ.1 3), .int (σ.1 4), .ref (ad 14), .ref (ad 15), .ref (ad 16), .ref (ad 17), .ref (ad 18), .ref (ad 19), .int (σ.1 5), .ref (ad 20), .ref (ad 21), .ref (ad 22), .int (σ.1 6), .ref (ad 23), .ref (ad 24), .ref (ad 25), .ref (ad 26), .int (σ.1 7), .int (σ.1 8), .int (σ.1 9), .int (σ.1 10), .int (σ.1 11), .int (σ.1 12), .int (σ.1 13), .int (σ.1 14), .ref (ad 27), .ref (ad 28), .ref (ad 29), .int (σ.1 15), .ref (ad 30), .ref (ad 31), .ref (ad 32), .ref (ad 33), .int (σ.1 16), .int (σ.1 17), .ref (ad 34), .ref (ad 35), .ref (ad 36), .ref (ad 37), .int (σ.1 18), .int (σ.1 19), .int (σ.1 20), .ref (ad 38), .ref (ad 39), .ref (ad 40), .ref (ad 41), .int (σ.1 21), .ref (ad 42), .ref (ad 43)] : List Value).set 55 (.int v))) = wM ad cA (sM_M_told σ v) := rfl
theorem pM_0_56 (ad : Nat → Nat) (cA : Nat → ClassId) (σ : SM) (v : Int32) : (wM ad cA σ).set 0 (ad 0, .inr (10, ([.ref (ad 1), .ref (ad 2), .ref (ad 3), .ref (ad 4), .int (σ.1 0), .ref (ad 5), .ref (ad 6), .ref (ad 7), .ref (ad 8), .ref (ad 9), .ref (ad 10), .int (σ.1 1), .int (σ.1 2), .ref (ad 11), .ref (ad 12), .ref (ad 13), .int (σ.1 3), .int (σ.1 4), .ref (ad 14), .ref (ad 15), .ref (ad 16), .ref (ad 17), .ref (ad 18), .ref (ad 19), .int (σ.1 5), .ref (ad 20), .ref (ad 21), .ref (ad 22), .int (σ.1 6), .ref (ad 23), .ref (ad 24), .ref (ad 25), .ref (ad 26), .int (σ.1 7), .int (σ.1 8), .int (σ.1 9), .int (σ.1 10), .int (σ.1 11), .int (σ.1 12), .int (σ.1 13), .int (σ.1 14), .ref (ad 27), .ref (ad 28), .ref (ad 29), .int (σ.1 15), .ref (ad 30), .ref (ad 31), .ref (ad 32), .ref (ad 33), .int (σ.1 16), .int (σ.1 17), .ref (ad 34), .ref (ad 35), .ref (ad 36), .ref (ad 37), .int (σ.1 18), .int (σ.1 19), .int (σ.1 20), .ref (ad 38), .ref (ad 39), .ref (ad 40), .ref (ad 41), .int (σ.1 21), .ref (ad 42), .ref (ad 43)] : List Value).set 56 (.int v))) = wM ad cA (sM_M_state σ v) := rfl
theorem pM_0_57 (ad : Nat → Nat) (cA : Nat → ClassId) (σ : SM) (v : Int32) : (wM ad cA σ).set 0 (ad 0, .inr (10, ([.ref (ad 1), .ref (ad 2), .ref (ad 3), .ref (ad 4), .int (σ.1 0), .ref (ad 5), .ref (ad 6), .ref (ad 7), .ref (ad 8), .ref (ad 9), .ref (ad 10), .int (σ.1 1), .int (σ.1 2), .ref (ad 11), .ref (ad 12), .ref (ad 13), .int (σ.1 3), .int (σ.1 4), .ref (ad 14), .ref (ad 15), .ref (ad 16), .ref (ad 17), .ref (ad 18), .ref (ad 19), .int (σ.1 5), .ref (ad 20), .ref (ad 21), .ref (ad 22), .int (σ.1 6), .ref (ad 23), .ref (ad 24), .ref (ad 25), .ref (ad 26), .int (σ.1 7), .int (σ.1 8), .int (σ.1 9), .int (σ.1 10), .int (σ.1 11), .int (σ.1 12), .int (σ.1 13), .int (σ.1 14), .ref (ad 27), .ref (ad 28), .ref (ad 29), .int (σ.1 15), .ref (ad 30), .ref (ad 31), .ref (ad 32), .ref (ad 33), .int (σ.1 16), .int (σ.1 17), .ref (ad 34), .ref (ad 35), .ref (ad 36), .ref (ad 37), .int (σ.1 18), .int (σ.1 19), .int (σ.1 20), .ref (ad 38), .ref (ad 39), .ref (ad 40), .ref (ad 41), .int (σ.1 21), .ref (ad 42), .ref (ad 43)] : List Value).set 57 (.int v))) = wM ad cA (sM_M_stateAt σ v) := rfl
theorem pM_0_62 (ad : Nat → Nat) (cA : Nat → ClassId) (σ : SM) (v : Int32) : (wM ad cA σ).set 0 (ad 0, .inr (10, ([.ref (ad 1), .ref (ad 2), .ref (ad 3), .ref (ad 4), .int (σ.1 0), .ref (ad 5), .ref (ad 6), .ref (ad 7), .ref (ad 8), .ref (ad 9), .ref (ad 10), .int (σ.1 1), .int (σ.1 2), .ref (ad 11), .ref (ad 12), .ref (ad 13), .int (σ.1 3), .int (σ.1 4), .ref (ad 14), .ref (ad 15), .ref (ad 16), .ref (ad 17), .ref (ad 18), .ref (ad 19), .int (σ.1 5), .ref (ad 20), .ref (ad 21), .ref (ad 22), .int (σ.1 6), .ref (ad 23), .ref (ad 24), .ref (ad 25), .ref (ad 26), .int (σ.1 7), .int (σ.1 8), .int (σ.1 9), .int (σ.1 10), .int (σ.1 11), .int (σ.1 12), .int (σ.1 13), .int (σ.1 14), .ref (ad 27), .ref (ad 28), .ref (ad 29), .int (σ.1 15), .ref (ad 30), .ref (ad 31), .ref (ad 32), .ref (ad 33), .int (σ.1 16), .int (σ.1 17), .ref (ad 34), .ref (ad 35), .ref (ad 36), .ref (ad 37), .int (σ.1 18), .int (σ.1 19), .int (σ.1 20), .ref (ad 38), .ref (ad 39), .ref (ad 40), .ref (ad 41), .int (σ.1 21), .ref (ad 42), .ref (ad 43)] : List Value).set 62 (.int v))) = wM ad cA (sM_M_someMany σ v) := rfl
theorem wM_1 (ad : Nat → Nat) (cA : Nat → ClassId) (σ : SM) : (wM ad cA σ)[1]? = some (ad 1, .inl (cA 0, 40, .inl (σ.2.1 0))) := rfl
theorem uM_1 (ad : Nat → Nat) (cA : Nat → ClassId) (σ : SM) (f : Nat → Int32) : (wM ad cA σ).set 1 (ad 1, .inl (cA 0, 40, .inl f)) = wM ad cA (tM_M_parameters σ f) := rfl
theorem wM_2 (ad : Nat → Nat) (cA : Nat → ClassId) (σ : SM) : (wM ad cA σ)[2]? = some (ad 2, .inl (cA 1, 120, .inl (σ.2.1 1))) := rfl
theorem uM_2 (ad : Nat → Nat) (cA : Nat → ClassId) (σ : SM) (f : Nat → Int32) : (wM ad cA σ).set 2 (ad 2, .inl (cA 1, 120, .inl f)) = wM ad cA (tM_M_parents σ f) := rfl
theorem wM_3 (ad : Nat → Nat) (cA : Nat → ClassId) (σ : SM) : (wM ad cA σ)[3]? = some (ad 3, .inl (cA 2, 40, .inl (σ.2.1 2))) := rfl
theorem uM_3 (ad : Nat → Nat) (cA : Nat → ClassId) (σ : SM) (f : Nat → Int32) : (wM ad cA σ).set 3 (ad 3, .inl (cA 2, 40, .inl f)) = wM ad cA (tM_M_parentMany σ f) := rfl
theorem wM_4 (ad : Nat → Nat) (cA : Nat → ClassId) (σ : SM) : (wM ad cA σ)[4]? = some (ad 4, .inl (cA 3, 40, .inr (.inl (σ.2.2 0)))) := rfl
theorem uM_4 (ad : Nat → Nat) (cA : Nat → ClassId) (σ : SM) (f : Nat → Int64) : (wM ad cA σ).set 4 (ad 4, .inl (cA 3, 40, .inr (.inl f))) = wM ad cA (tM_M_upward σ f) := rfl
theorem wM_5 (ad : Nat → Nat) (cA : Nat → ClassId) (σ : SM) : (wM ad cA σ)[5]? = some (ad 5, .inl (cA 4, 500, .inl (σ.2.1 3))) := rfl
theorem uM_5 (ad : Nat → Nat) (cA : Nat → ClassId) (σ : SM) (f : Nat → Int32) : (wM ad cA σ).set 5 (ad 5, .inl (cA 4, 500, .inl f)) = wM ad cA (tM_M_kind σ f) := rfl
theorem wM_6 (ad : Nat → Nat) (cA : Nat → ClassId) (σ : SM) : (wM ad cA σ)[6]? = some (ad 6, .inl (cA 5, 500, .inl (σ.2.1 4))) := rfl
theorem uM_6 (ad : Nat → Nat) (cA : Nat → ClassId) (σ : SM) (f : Nat → Int32) : (wM ad cA σ).set 6 (ad 6, .inl (cA 5, 500, .inl f)) = wM ad cA (tM_M_one σ f) := rfl
theorem wM_7 (ad : Nat → Nat) (cA : Nat → ClassId) (σ : SM) : (wM ad cA σ)[7]? = some (ad 7, .inl (cA 6, 500, .inl (σ.2.1 5))) := rfl
theorem uM_7 (ad : Nat → Nat) (cA : Nat → ClassId) (σ : SM) (f : Nat → Int32) : (wM ad cA σ).set 7 (ad 7, .inl (cA 6, 500, .inl f)) = wM ad cA (tM_M_two σ f) := rfl
theorem wM_8 (ad : Nat → Nat) (cA : Nat → ClassId) (σ : SM) : (wM ad cA σ)[8]? = some (ad 8, .inl (cA 7, 500, .inl (σ.2.1 6))) := rfl
theorem uM_8 (ad : Nat → Nat) (cA : Nat → ClassId) (σ : SM) (f : Nat → Int32) : (wM ad cA σ).set 8 (ad 8, .inl (cA 7, 500, .inl f)) = wM ad cA (tM_M_three σ f) := rfl
theorem wM_9 (ad : Nat → Nat) (cA : Nat → ClassId) (σ : SM) : (wM ad cA σ)[9]? = some (ad 9, .inl (cA 8, 500, .inl (σ.2.1 7))) := rfl
theorem uM_9 (ad : Nat → Nat) (cA : Nat → ClassId) (σ : SM) (f : Nat → Int32) : (wM ad cA σ).set 9 (ad 9, .inl (cA 8, 500, .inl f)) = wM ad cA (tM_M_deep σ f) := rfl
theorem wM_10 (ad : Nat → Nat) (cA : Nat → ClassId) (σ : SM) : (wM ad cA σ)[10]? = some (ad 10, .inl (cA 9, 500, .inl (σ.2.1 8))) := rfl
theorem uM_10 (ad : Nat → Nat) (cA : Nat → ClassId) (σ : SM) (f : Nat → Int32) : (wM ad cA σ).set 10 (ad 10, .inl (cA 9, 500, .inl f)) = wM ad cA (tM_M_proper σ f) := rfl
theorem wM_11 (ad : Nat → Nat) (cA : Nat → ClassId) (σ : SM) : (wM ad cA σ)[11]? = some (ad 11, .inl (cA 10, 2000, .inl (σ.2.1 9))) := rfl
theorem uM_11 (ad : Nat → Nat) (cA : Nat → ClassId) (σ : SM) (f : Nat → Int32) : (wM ad cA σ).set 11 (ad 11, .inl (cA 10, 2000, .inl f)) = wM ad cA (tM_M_todo σ f) := rfl
theorem wM_12 (ad : Nat → Nat) (cA : Nat → ClassId) (σ : SM) : (wM ad cA σ)[12]? = some (ad 12, .inl (cA 11, 2000, .inl (σ.2.1 10))) := rfl
theorem uM_12 (ad : Nat → Nat) (cA : Nat → ClassId) (σ : SM) (f : Nat → Int32) : (wM ad cA σ).set 12 (ad 12, .inl (cA 11, 2000, .inl f)) = wM ad cA (tM_M_todoMore σ f) := rfl
theorem wM_13 (ad : Nat → Nat) (cA : Nat → ClassId) (σ : SM) : (wM ad cA σ)[13]? = some (ad 13, .inl (cA 12, 2000, .inl (σ.2.1 11))) := rfl
theorem uM_13 (ad : Nat → Nat) (cA : Nat → ClassId) (σ : SM) (f : Nat → Int32) : (wM ad cA σ).set 13 (ad 13, .inl (cA 12, 2000, .inl f)) = wM ad cA (tM_M_todoFlag σ f) := rfl
theorem wM_14 (ad : Nat → Nat) (cA : Nat → ClassId) (σ : SM) : (wM ad cA σ)[14]? = some (ad 14, .inl (cA 13, 64, .inl (σ.2.1 12))) := rfl
theorem uM_14 (ad : Nat → Nat) (cA : Nat → ClassId) (σ : SM) (f : Nat → Int32) : (wM ad cA σ).set 14 (ad 14, .inl (cA 13, 64, .inl f)) = wM ad cA (tM_M_workType σ f) := rfl
theorem wM_15 (ad : Nat → Nat) (cA : Nat → ClassId) (σ : SM) : (wM ad cA σ)[15]? = some (ad 15, .inl (cA 14, 64, .inl (σ.2.1 13))) := rfl
theorem uM_15 (ad : Nat → Nat) (cA : Nat → ClassId) (σ : SM) (f : Nat → Int32) : (wM ad cA σ).set 15 (ad 15, .inl (cA 14, 64, .inl f)) = wM ad cA (tM_M_workStage σ f) := rfl
theorem wM_16 (ad : Nat → Nat) (cA : Nat → ClassId) (σ : SM) : (wM ad cA σ)[16]? = some (ad 16, .inl (cA 15, 64, .inl (σ.2.1 14))) := rfl
theorem uM_16 (ad : Nat → Nat) (cA : Nat → ClassId) (σ : SM) (f : Nat → Int32) : (wM ad cA σ).set 16 (ad 16, .inl (cA 15, 64, .inl f)) = wM ad cA (tM_M_workFirst σ f) := rfl
theorem wM_17 (ad : Nat → Nat) (cA : Nat → ClassId) (σ : SM) : (wM ad cA σ)[17]? = some (ad 17, .inl (cA 16, 12, .inl (σ.2.1 15))) := rfl
theorem uM_17 (ad : Nat → Nat) (cA : Nat → ClassId) (σ : SM) (f : Nat → Int32) : (wM ad cA σ).set 17 (ad 17, .inl (cA 16, 12, .inl f)) = wM ad cA (tM_M_inPlace σ f) := rfl
theorem wM_18 (ad : Nat → Nat) (cA : Nat → ClassId) (σ : SM) : (wM ad cA σ)[18]? = some (ad 18, .inl (cA 17, 500, .inl (σ.2.1 16))) := rfl
theorem uM_18 (ad : Nat → Nat) (cA : Nat → ClassId) (σ : SM) (f : Nat → Int32) : (wM ad cA σ).set 18 (ad 18, .inl (cA 17, 500, .inl f)) = wM ad cA (tM_M_became σ f) := rfl
theorem wM_19 (ad : Nat → Nat) (cA : Nat → ClassId) (σ : SM) : (wM ad cA σ)[19]? = some (ad 19, .inl (cA 18, 500, .inl (σ.2.1 17))) := rfl
theorem uM_19 (ad : Nat → Nat) (cA : Nat → ClassId) (σ : SM) (f : Nat → Int32) : (wM ad cA σ).set 19 (ad 19, .inl (cA 18, 500, .inl f)) = wM ad cA (tM_M_seen σ f) := rfl
theorem wM_20 (ad : Nat → Nat) (cA : Nat → ClassId) (σ : SM) : (wM ad cA σ)[20]? = some (ad 20, .inl (cA 19, 2000, .inl (σ.2.1 18))) := rfl
theorem uM_20 (ad : Nat → Nat) (cA : Nat → ClassId) (σ : SM) (f : Nat → Int32) : (wM ad cA σ).set 20 (ad 20, .inl (cA 19, 2000, .inl f)) = wM ad cA (tM_M_aboveType σ f) := rfl
theorem wM_21 (ad : Nat → Nat) (cA : Nat → ClassId) (σ : SM) : (wM ad cA σ)[21]? = some (ad 21, .inl (cA 20, 2000, .inl (σ.2.1 19))) := rfl
theorem uM_21 (ad : Nat → Nat) (cA : Nat → ClassId) (σ : SM) (f : Nat → Int32) : (wM ad cA σ).set 21 (ad 21, .inl (cA 20, 2000, .inl f)) = wM ad cA (tM_M_aboveMore σ f) := rfl
theorem wM_22 (ad : Nat → Nat) (cA : Nat → ClassId) (σ : SM) : (wM ad cA σ)[22]? = some (ad 22, .inl (cA 21, 2000, .inl (σ.2.1 20))) := rfl
theorem uM_22 (ad : Nat → Nat) (cA : Nat → ClassId) (σ : SM) (f : Nat → Int32) : (wM ad cA σ).set 22 (ad 22, .inl (cA 21, 2000, .inl f)) = wM ad cA (tM_M_aboveFlag σ f) := rfl
theorem wM_23 (ad : Nat → Nat) (cA : Nat → ClassId) (σ : SM) : (wM ad cA σ)[23]? = some (ad 23, .inl (cA 22, 200, .inl (σ.2.1 21))) := rfl
theorem uM_23 (ad : Nat → Nat) (cA : Nat → ClassId) (σ : SM) (f : Nat → Int32) : (wM ad cA σ).set 23 (ad 23, .inl (cA 22, 200, .inl f)) = wM ad cA (tM_M_lessSort σ f) := rfl
theorem wM_24 (ad : Nat → Nat) (cA : Nat → ClassId) (σ : SM) : (wM ad cA σ)[24]? = some (ad 24, .inl (cA 23, 200, .inl (σ.2.1 22))) := rfl
theorem uM_24 (ad : Nat → Nat) (cA : Nat → ClassId) (σ : SM) (f : Nat → Int32) : (wM ad cA σ).set 24 (ad 24, .inl (cA 23, 200, .inl f)) = wM ad cA (tM_M_lessLeft σ f) := rfl
theorem wM_25 (ad : Nat → Nat) (cA : Nat → ClassId) (σ : SM) : (wM ad cA σ)[25]? = some (ad 25, .inl (cA 24, 200, .inl (σ.2.1 23))) := rfl
theorem uM_25 (ad : Nat → Nat) (cA : Nat → ClassId) (σ : SM) (f : Nat → Int32) : (wM ad cA σ).set 25 (ad 25, .inl (cA 24, 200, .inl f)) = wM ad cA (tM_M_lessRight σ f) := rfl
theorem wM_26 (ad : Nat → Nat) (cA : Nat → ClassId) (σ : SM) : (wM ad cA σ)[26]? = some (ad 26, .inl (cA 25, 200, .inl (σ.2.1 24))) := rfl
theorem uM_26 (ad : Nat → Nat) (cA : Nat → ClassId) (σ : SM) (f : Nat → Int32) : (wM ad cA σ).set 26 (ad 26, .inl (cA 25, 200, .inl f)) = wM ad cA (tM_M_lessDeep σ f) := rfl
theorem wM_27 (ad : Nat → Nat) (cA : Nat → ClassId) (σ : SM) : (wM ad cA σ)[27]? = some (ad 27, .inl (cA 26, 2, .inl (σ.2.1 25))) := rfl
theorem uM_27 (ad : Nat → Nat) (cA : Nat → ClassId) (σ : SM) (f : Nat → Int32) : (wM ad cA σ).set 27 (ad 27, .inl (cA 26, 2, .inl f)) = wM ad cA (tM_M_nextSort σ f) := rfl
theorem wM_28 (ad : Nat → Nat) (cA : Nat → ClassId) (σ : SM) : (wM ad cA σ)[28]? = some (ad 28, .inl (cA 27, 2, .inl (σ.2.1 26))) := rfl
theorem uM_28 (ad : Nat → Nat) (cA : Nat → ClassId) (σ : SM) (f : Nat → Int32) : (wM ad cA σ).set 28 (ad 28, .inl (cA 27, 2, .inl f)) = wM ad cA (tM_M_nextLeft σ f) := rfl
theorem wM_29 (ad : Nat → Nat) (cA : Nat → ClassId) (σ : SM) : (wM ad cA σ)[29]? = some (ad 29, .inl (cA 28, 2, .inl (σ.2.1 27))) := rfl
theorem uM_29 (ad : Nat → Nat) (cA : Nat → ClassId) (σ : SM) (f : Nat → Int32) : (wM ad cA σ).set 29 (ad 29, .inl (cA 28, 2, .inl f)) = wM ad cA (tM_M_nextRight σ f) := rfl
theorem wM_30 (ad : Nat → Nat) (cA : Nat → ClassId) (σ : SM) : (wM ad cA σ)[30]? = some (ad 30, .inl (cA 29, 200, .inl (σ.2.1 28))) := rfl
theorem uM_30 (ad : Nat → Nat) (cA : Nat → ClassId) (σ : SM) (f : Nat → Int32) : (wM ad cA σ).set 30 (ad 30, .inl (cA 29, 200, .inl f)) = wM ad cA (tM_M_boundSort σ f) := rfl
theorem wM_31 (ad : Nat → Nat) (cA : Nat → ClassId) (σ : SM) : (wM ad cA σ)[31]? = some (ad 31, .inl (cA 30, 200, .inl (σ.2.1 29))) := rfl
theorem uM_31 (ad : Nat → Nat) (cA : Nat → ClassId) (σ : SM) (f : Nat → Int32) : (wM ad cA σ).set 31 (ad 31, .inl (cA 30, 200, .inl f)) = wM ad cA (tM_M_boundOf σ f) := rfl
theorem wM_32 (ad : Nat → Nat) (cA : Nat → ClassId) (σ : SM) : (wM ad cA σ)[32]? = some (ad 32, .inl (cA 31, 200, .inl (σ.2.1 30))) := rfl
theorem uM_32 (ad : Nat → Nat) (cA : Nat → ClassId) (σ : SM) (f : Nat → Int32) : (wM ad cA σ).set 32 (ad 32, .inl (cA 31, 200, .inl f)) = wM ad cA (tM_M_boundType σ f) := rfl
theorem wM_33 (ad : Nat → Nat) (cA : Nat → ClassId) (σ : SM) : (wM ad cA σ)[33]? = some (ad 33, .inl (cA 32, 200, .inl (σ.2.1 31))) := rfl
theorem uM_33 (ad : Nat → Nat) (cA : Nat → ClassId) (σ : SM) (f : Nat → Int32) : (wM ad cA σ).set 33 (ad 33, .inl (cA 32, 200, .inl f)) = wM ad cA (tM_M_boundFrom σ f) := rfl
theorem wM_34 (ad : Nat → Nat) (cA : Nat → ClassId) (σ : SM) : (wM ad cA σ)[34]? = some (ad 34, .inl (cA 33, 60, .inl (σ.2.1 32))) := rfl
theorem uM_34 (ad : Nat → Nat) (cA : Nat → ClassId) (σ : SM) (f : Nat → Int32) : (wM ad cA σ).set 34 (ad 34, .inl (cA 33, 60, .inl f)) = wM ad cA (tM_M_toldSort σ f) := rfl
theorem wM_35 (ad : Nat → Nat) (cA : Nat → ClassId) (σ : SM) : (wM ad cA σ)[35]? = some (ad 35, .inl (cA 34, 60, .inl (σ.2.1 33))) := rfl
theorem uM_35 (ad : Nat → Nat) (cA : Nat → ClassId) (σ : SM) (f : Nat → Int32) : (wM ad cA σ).set 35 (ad 35, .inl (cA 34, 60, .inl f)) = wM ad cA (tM_M_toldLeft σ f) := rfl
theorem wM_36 (ad : Nat → Nat) (cA : Nat → ClassId) (σ : SM) : (wM ad cA σ)[36]? = some (ad 36, .inl (cA 35, 60, .inl (σ.2.1 34))) := rfl
theorem uM_36 (ad : Nat → Nat) (cA : Nat → ClassId) (σ : SM) (f : Nat → Int32) : (wM ad cA σ).set 36 (ad 36, .inl (cA 35, 60, .inl f)) = wM ad cA (tM_M_toldRight σ f) := rfl
theorem wM_37 (ad : Nat → Nat) (cA : Nat → ClassId) (σ : SM) : (wM ad cA σ)[37]? = some (ad 37, .inl (cA 36, 60, .inl (σ.2.1 35))) := rfl
theorem uM_37 (ad : Nat → Nat) (cA : Nat → ClassId) (σ : SM) (f : Nat → Int32) : (wM ad cA σ).set 37 (ad 37, .inl (cA 36, 60, .inl f)) = wM ad cA (tM_M_toldUnchecked σ f) := rfl
theorem wM_38 (ad : Nat → Nat) (cA : Nat → ClassId) (σ : SM) : (wM ad cA σ)[38]? = some (ad 38, .inl (cA 37, 12, .inl (σ.2.1 36))) := rfl
theorem uM_38 (ad : Nat → Nat) (cA : Nat → ClassId) (σ : SM) (f : Nat → Int32) : (wM ad cA σ).set 38 (ad 38, .inl (cA 37, 12, .inl f)) = wM ad cA (tM_M_settled σ f) := rfl
theorem wM_39 (ad : Nat → Nat) (cA : Nat → ClassId) (σ : SM) : (wM ad cA σ)[39]? = some (ad 39, .inl (cA 38, 12, .inl (σ.2.1 37))) := rfl
theorem uM_39 (ad : Nat → Nat) (cA : Nat → ClassId) (σ : SM) (f : Nat → Int32) : (wM ad cA σ).set 39 (ad 39, .inl (cA 38, 12, .inl f)) = wM ad cA (tM_M_with σ f) := rfl
theorem wM_40 (ad : Nat → Nat) (cA : Nat → ClassId) (σ : SM) : (wM ad cA σ)[40]? = some (ad 40, .inl (cA 39, 12, .inl (σ.2.1 38))) := rfl
theorem uM_40 (ad : Nat → Nat) (cA : Nat → ClassId) (σ : SM) (f : Nat → Int32) : (wM ad cA σ).set 40 (ad 40, .inl (cA 39, 12, .inl f)) = wM ad cA (tM_M_chosen σ f) := rfl
theorem wM_41 (ad : Nat → Nat) (cA : Nat → ClassId) (σ : SM) : (wM ad cA σ)[41]? = some (ad 41, .inl (cA 40, 200, .inl (σ.2.1 39))) := rfl
theorem uM_41 (ad : Nat → Nat) (cA : Nat → ClassId) (σ : SM) (f : Nat → Int32) : (wM ad cA σ).set 41 (ad 41, .inl (cA 40, 200, .inl f)) = wM ad cA (tM_M_some σ f) := rfl
theorem wM_42 (ad : Nat → Nat) (cA : Nat → ClassId) (σ : SM) : (wM ad cA σ)[42]? = some (ad 42, .inl (cA 41, 40, .inl (σ.2.1 40))) := rfl
theorem uM_42 (ad : Nat → Nat) (cA : Nat → ClassId) (σ : SM) (f : Nat → Int32) : (wM ad cA σ).set 42 (ad 42, .inl (cA 41, 40, .inl f)) = wM ad cA (tM_M_common σ f) := rfl
theorem wM_43 (ad : Nat → Nat) (cA : Nat → ClassId) (σ : SM) : (wM ad cA σ)[43]? = some (ad 43, .inl (cA 42, 40, .inl (σ.2.1 41))) := rfl
theorem uM_43 (ad : Nat → Nat) (cA : Nat → ClassId) (σ : SM) (f : Nat → Int32) : (wM ad cA σ).set 43 (ad 43, .inl (cA 42, 40, .inl f)) = wM ad cA (tM_M_outdone σ f) := rfl
