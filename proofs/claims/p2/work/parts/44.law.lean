theorem q_2_106 : Cond.methodLink "InferReduceLaw" 13 y_I_declare ∈ tblG := tb_2 106 rfl rfl
theorem q_2_107 : Cond.instanceMethod y_I_declare ∈ tblG := tb_2 107 rfl rfl
theorem q_2_108 : Cond.selects "InferReduce" y_I_declare y_I_declare ∈ tblG := tb_2 108 rfl rfl
theorem q_2_109 : Cond.code y_I_declare b_I_declare 2 (some .int) ∈ tblG := tb_2 109 rfl rfl
theorem q_5_38 : Cond.methodLink "InferReduceLaw" 17 y_M_declare ∈ tblG := tb_5 38 rfl rfl
theorem q_5_39 : Cond.instanceMethod y_M_declare ∈ tblG := tb_5 39 rfl rfl
theorem q_5_40 : Cond.selects "InferReduceModel" y_M_declare y_M_declare ∈ tblG := tb_5 40 rfl rfl
theorem q_5_41 : Cond.code y_M_declare b_M_declare 2 (some .int) ∈ tblG := tb_5 41 rfl rfl
theorem q_2_114 : Cond.methodLink "InferReduceLaw" 18 y_I_parent ∈ tblG := tb_2 114 rfl rfl
theorem q_2_115 : Cond.instanceMethod y_I_parent ∈ tblG := tb_2 115 rfl rfl
theorem q_2_116 : Cond.selects "InferReduce" y_I_parent y_I_parent ∈ tblG := tb_2 116 rfl rfl
theorem q_2_117 : Cond.code y_I_parent b_I_parent 3 (some .int) ∈ tblG := tb_2 117 rfl rfl
theorem q_5_42 : Cond.methodLink "InferReduceLaw" 22 y_M_parent ∈ tblG := tb_5 42 rfl rfl
theorem q_5_43 : Cond.instanceMethod y_M_parent ∈ tblG := tb_5 43 rfl rfl
theorem q_5_44 : Cond.selects "InferReduceModel" y_M_parent y_M_parent ∈ tblG := tb_5 44 rfl rfl
theorem q_5_45 : Cond.code y_M_parent b_M_parent 6 (some .int) ∈ tblG := tb_5 45 rfl rfl
theorem q_2_168 : Cond.methodLink "InferReduceLaw" 23 y_I_plain ∈ tblG := tb_2 168 rfl rfl
theorem q_2_169 : Cond.instanceMethod y_I_plain ∈ tblG := tb_2 169 rfl rfl
theorem q_2_170 : Cond.selects "InferReduce" y_I_plain y_I_plain ∈ tblG := tb_2 170 rfl rfl
theorem q_2_171 : Cond.code y_I_plain b_I_plain 2 (some .int) ∈ tblG := tb_2 171 rfl rfl
theorem q_5_66 : Cond.methodLink "InferReduceLaw" 26 y_M_plain ∈ tblG := tb_5 66 rfl rfl
theorem q_5_67 : Cond.instanceMethod y_M_plain ∈ tblG := tb_5 67 rfl rfl
theorem q_5_68 : Cond.selects "InferReduceModel" y_M_plain y_M_plain ∈ tblG := tb_5 68 rfl rfl
theorem q_5_69 : Cond.code y_M_plain b_M_plain 2 (some .int) ∈ tblG := tb_5 69 rfl rfl
theorem q_2_176 : Cond.methodLink "InferReduceLaw" 27 y_I_of ∈ tblG := tb_2 176 rfl rfl
theorem q_2_177 : Cond.instanceMethod y_I_of ∈ tblG := tb_2 177 rfl rfl
theorem q_2_178 : Cond.selects "InferReduce" y_I_of y_I_of ∈ tblG := tb_2 178 rfl rfl
theorem q_2_179 : Cond.code y_I_of b_I_of 5 (some .int) ∈ tblG := tb_2 179 rfl rfl
theorem q_5_82 : Cond.methodLink "InferReduceLaw" 31 y_M_of ∈ tblG := tb_5 82 rfl rfl
theorem q_5_83 : Cond.instanceMethod y_M_of ∈ tblG := tb_5 83 rfl rfl
theorem q_5_84 : Cond.selects "InferReduceModel" y_M_of y_M_of ∈ tblG := tb_5 84 rfl rfl
theorem q_5_85 : Cond.code y_M_of b_M_of 4 (some .int) ∈ tblG := tb_5 85 rfl rfl
theorem q_2_188 : Cond.methodLink "InferReduceLaw" 32 y_I_wild ∈ tblG := tb_2 188 rfl rfl
theorem q_2_189 : Cond.instanceMethod y_I_wild ∈ tblG := tb_2 189 rfl rfl
theorem q_2_190 : Cond.selects "InferReduce" y_I_wild y_I_wild ∈ tblG := tb_2 190 rfl rfl
theorem q_2_191 : Cond.code y_I_wild b_I_wild 3 (some .int) ∈ tblG := tb_2 191 rfl rfl
theorem q_5_90 : Cond.methodLink "InferReduceLaw" 35 y_M_wild ∈ tblG := tb_5 90 rfl rfl
theorem q_5_91 : Cond.instanceMethod y_M_wild ∈ tblG := tb_5 91 rfl rfl
theorem q_5_92 : Cond.selects "InferReduceModel" y_M_wild y_M_wild ∈ tblG := tb_5 92 rfl rfl
theorem q_5_93 : Cond.code y_M_wild b_M_wild 3 (some .int) ∈ tblG := tb_5 93 rfl rfl
theorem q_2_192 : Cond.methodLink "InferReduceLaw" 36 y_I_parameter ∈ tblG := tb_2 192 rfl rfl
theorem q_2_193 : Cond.instanceMethod y_I_parameter ∈ tblG := tb_2 193 rfl rfl
theorem q_2_194 : Cond.selects "InferReduce" y_I_parameter y_I_parameter ∈ tblG := tb_2 194 rfl rfl
theorem q_2_195 : Cond.code y_I_parameter b_I_parameter 3 (some .int) ∈ tblG := tb_2 195 rfl rfl
theorem q_5_94 : Cond.methodLink "InferReduceLaw" 39 y_M_parameter ∈ tblG := tb_5 94 rfl rfl
theorem q_5_95 : Cond.instanceMethod y_M_parameter ∈ tblG := tb_5 95 rfl rfl
theorem q_5_96 : Cond.selects "InferReduceModel" y_M_parameter y_M_parameter ∈ tblG := tb_5 96 rfl rfl
theorem q_5_97 : Cond.code y_M_parameter b_M_parameter 3 (some .int) ∈ tblG := tb_5 97 rfl rfl
theorem q_2_196 : Cond.methodLink "InferReduceLaw" 40 y_I_array ∈ tblG := tb_2 196 rfl rfl
theorem q_2_197 : Cond.instanceMethod y_I_array ∈ tblG := tb_2 197 rfl rfl
theorem q_2_198 : Cond.selects "InferReduce" y_I_array y_I_array ∈ tblG := tb_2 198 rfl rfl
theorem q_2_199 : Cond.code y_I_array b_I_array 3 (some .int) ∈ tblG := tb_2 199 rfl rfl
theorem q_5_98 : Cond.methodLink "InferReduceLaw" 43 y_M_array ∈ tblG := tb_5 98 rfl rfl
theorem q_5_99 : Cond.instanceMethod y_M_array ∈ tblG := tb_5 99 rfl rfl
theorem q_5_100 : Cond.selects "InferReduceModel" y_M_array y_M_array ∈ tblG := tb_5 100 rfl rfl
theorem q_5_101 : Cond.code y_M_array b_M_array 2 (some .int) ∈ tblG := tb_5 101 rfl rfl
theorem q_2_200 : Cond.methodLink "InferReduceLaw" 44 y_I_primitive ∈ tblG := tb_2 200 rfl rfl
theorem q_2_201 : Cond.instanceMethod y_I_primitive ∈ tblG := tb_2 201 rfl rfl
theorem q_2_202 : Cond.selects "InferReduce" y_I_primitive y_I_primitive ∈ tblG := tb_2 202 rfl rfl
theorem q_2_203 : Cond.code y_I_primitive b_I_primitive 2 (some .int) ∈ tblG := tb_2 203 rfl rfl
theorem q_5_102 : Cond.methodLink "InferReduceLaw" 47 y_M_primitive ∈ tblG := tb_5 102 rfl rfl
theorem q_5_103 : Cond.instanceMethod y_M_primitive ∈ tblG := tb_5 103 rfl rfl
theorem q_5_104 : Cond.selects "InferReduceModel" y_M_primitive y_M_primitive ∈ tblG := tb_5 104 rfl rfl
theorem q_5_105 : Cond.code y_M_primitive b_M_primitive 2 (some .int) ∈ tblG := tb_5 105 rfl rfl
theorem q_2_204 : Cond.methodLink "InferReduceLaw" 48 y_I_nothing ∈ tblG := tb_2 204 rfl rfl
theorem q_2_205 : Cond.instanceMethod y_I_nothing ∈ tblG := tb_2 205 rfl rfl
theorem q_2_206 : Cond.selects "InferReduce" y_I_nothing y_I_nothing ∈ tblG := tb_2 206 rfl rfl
theorem q_2_207 : Cond.code y_I_nothing b_I_nothing 1 (some .int) ∈ tblG := tb_2 207 rfl rfl
theorem q_5_106 : Cond.methodLink "InferReduceLaw" 52 y_M_nothing ∈ tblG := tb_5 106 rfl rfl
theorem q_5_107 : Cond.instanceMethod y_M_nothing ∈ tblG := tb_5 107 rfl rfl
theorem q_5_108 : Cond.selects "InferReduceModel" y_M_nothing y_M_nothing ∈ tblG := tb_5 108 rfl rfl
theorem q_5_109 : Cond.code y_M_nothing b_M_nothing 1 (some .int) ∈ tblG := tb_5 109 rfl rfl
theorem q_2_208 : Cond.methodLink "InferReduceLaw" 53 y_I_variable ∈ tblG := tb_2 208 rfl rfl
theorem q_2_209 : Cond.instanceMethod y_I_variable ∈ tblG := tb_2 209 rfl rfl
theorem q_2_210 : Cond.selects "InferReduce" y_I_variable y_I_variable ∈ tblG := tb_2 210 rfl rfl
theorem q_2_211 : Cond.code y_I_variable b_I_variable 2 (some .int) ∈ tblG := tb_2 211 rfl rfl
theorem q_5_110 : Cond.methodLink "InferReduceLaw" 56 y_M_variable ∈ tblG := tb_5 110 rfl rfl
theorem q_5_111 : Cond.instanceMethod y_M_variable ∈ tblG := tb_5 111 rfl rfl
theorem q_5_112 : Cond.selects "InferReduceModel" y_M_variable y_M_variable ∈ tblG := tb_5 112 rfl rfl
theorem q_5_113 : Cond.code y_M_variable b_M_variable 2 (some .int) ∈ tblG := tb_5 113 rfl rfl
theorem q_2_212 : Cond.methodLink "InferReduceLaw" 57 y_I_formula ∈ tblG := tb_2 212 rfl rfl
theorem q_2_213 : Cond.instanceMethod y_I_formula ∈ tblG := tb_2 213 rfl rfl
theorem q_2_214 : Cond.selects "InferReduce" y_I_formula y_I_formula ∈ tblG := tb_2 214 rfl rfl
theorem q_2_215 : Cond.code y_I_formula b_I_formula 6 (some .int) ∈ tblG := tb_2 215 rfl rfl
theorem q_5_138 : Cond.methodLink "InferReduceLaw" 60 y_M_formula ∈ tblG := tb_5 138 rfl rfl
theorem q_5_139 : Cond.instanceMethod y_M_formula ∈ tblG := tb_5 139 rfl rfl
theorem q_5_140 : Cond.selects "InferReduceModel" y_M_formula y_M_formula ∈ tblG := tb_5 140 rfl rfl
theorem q_5_141 : Cond.code y_M_formula b_M_formula 6 (some .int) ∈ tblG := tb_5 141 rfl rfl
theorem q_3_169 : Cond.methodLink "InferReduceLaw" 61 y_I_resolve ∈ tblG := tb_3 169 rfl rfl
theorem q_3_170 : Cond.instanceMethod y_I_resolve ∈ tblG := tb_3 170 rfl rfl
theorem q_3_171 : Cond.selects "InferReduce" y_I_resolve y_I_resolve ∈ tblG := tb_3 171 rfl rfl
theorem q_3_172 : Cond.code y_I_resolve b_I_resolve 5 (some .int) ∈ tblG := tb_3 172 rfl rfl
theorem q_5_225 : Cond.methodLink "InferReduceLaw" 64 y_M_resolve ∈ tblG := tb_5 225 rfl rfl
theorem q_5_226 : Cond.instanceMethod y_M_resolve ∈ tblG := tb_5 226 rfl rfl
theorem q_5_227 : Cond.selects "InferReduceModel" y_M_resolve y_M_resolve ∈ tblG := tb_5 227 rfl rfl
theorem q_5_228 : Cond.code y_M_resolve b_M_resolve 6 (some .int) ∈ tblG := tb_5 228 rfl rfl
theorem q_4_5 : Cond.methodLink "InferReduceLaw" 65 y_I_clear ∈ tblG := tb_4 5 rfl rfl
theorem q_4_6 : Cond.instanceMethod y_I_clear ∈ tblG := tb_4 6 rfl rfl
theorem q_4_7 : Cond.selects "InferReduce" y_I_clear y_I_clear ∈ tblG := tb_4 7 rfl rfl
theorem q_4_8 : Cond.code y_I_clear b_I_clear 2 (some .int) ∈ tblG := tb_4 8 rfl rfl
theorem q_5_221 : Cond.methodLink "InferReduceLaw" 68 y_M_clear ∈ tblG := tb_5 221 rfl rfl
theorem q_5_222 : Cond.instanceMethod y_M_clear ∈ tblG := tb_5 222 rfl rfl
theorem q_5_223 : Cond.selects "InferReduceModel" y_M_clear y_M_clear ∈ tblG := tb_5 223 rfl rfl
theorem q_5_224 : Cond.code y_M_clear b_M_clear 2 (some .int) ∈ tblG := tb_5 224 rfl rfl
theorem q_4_9 : Cond.methodLink "InferReduceLaw" 69 y_I_count ∈ tblG := tb_4 9 rfl rfl
theorem q_4_10 : Cond.instanceMethod y_I_count ∈ tblG := tb_4 10 rfl rfl
theorem q_4_11 : Cond.selects "InferReduce" y_I_count y_I_count ∈ tblG := tb_4 11 rfl rfl
theorem q_4_12 : Cond.code y_I_count b_I_count 2 (some .int) ∈ tblG := tb_4 12 rfl rfl
theorem q_6_25 : Cond.methodLink "InferReduceLaw" 72 y_M_count ∈ tblG := tb_6 25 rfl rfl
theorem q_6_26 : Cond.instanceMethod y_M_count ∈ tblG := tb_6 26 rfl rfl
theorem q_6_27 : Cond.selects "InferReduceModel" y_M_count y_M_count ∈ tblG := tb_6 27 rfl rfl
theorem q_6_28 : Cond.code y_M_count b_M_count 2 (some .int) ∈ tblG := tb_6 28 rfl rfl
theorem q_4_13 : Cond.methodLink "InferReduceLaw" 73 y_I_type ∈ tblG := tb_4 13 rfl rfl
theorem q_4_14 : Cond.instanceMethod y_I_type ∈ tblG := tb_4 14 rfl rfl
theorem q_4_15 : Cond.selects "InferReduce" y_I_type y_I_type ∈ tblG := tb_4 15 rfl rfl
theorem q_4_16 : Cond.code y_I_type b_I_type 3 (some .int) ∈ tblG := tb_4 16 rfl rfl
theorem q_6_29 : Cond.methodLink "InferReduceLaw" 76 y_M_type ∈ tblG := tb_6 29 rfl rfl
theorem q_6_30 : Cond.instanceMethod y_M_type ∈ tblG := tb_6 30 rfl rfl
theorem q_6_31 : Cond.selects "InferReduceModel" y_M_type y_M_type ∈ tblG := tb_6 31 rfl rfl
theorem q_6_32 : Cond.code y_M_type b_M_type 3 (some .int) ∈ tblG := tb_6 32 rfl rfl
theorem q_4_22 : Cond.methodLink "InferReduceLaw" 77 y_I_bound ∈ tblG := tb_4 22 rfl rfl
theorem q_4_23 : Cond.instanceMethod y_I_bound ∈ tblG := tb_4 23 rfl rfl
theorem q_4_24 : Cond.selects "InferReduce" y_I_bound y_I_bound ∈ tblG := tb_4 24 rfl rfl
theorem q_4_25 : Cond.code y_I_bound b_I_bound 3 (some .int) ∈ tblG := tb_4 25 rfl rfl
theorem q_6_33 : Cond.methodLink "InferReduceLaw" 80 y_M_bound ∈ tblG := tb_6 33 rfl rfl
theorem q_6_34 : Cond.instanceMethod y_M_bound ∈ tblG := tb_6 34 rfl rfl
theorem q_6_35 : Cond.selects "InferReduceModel" y_M_bound y_M_bound ∈ tblG := tb_6 35 rfl rfl
theorem q_6_36 : Cond.code y_M_bound b_M_bound 3 (some .int) ∈ tblG := tb_6 36 rfl rfl
theorem q_4_37 : Cond.methodLink "InferReduceLaw" 81 y_I_instance ∈ tblG := tb_4 37 rfl rfl
theorem q_4_38 : Cond.instanceMethod y_I_instance ∈ tblG := tb_4 38 rfl rfl
theorem q_4_39 : Cond.selects "InferReduce" y_I_instance y_I_instance ∈ tblG := tb_4 39 rfl rfl
theorem q_4_40 : Cond.code y_I_instance b_I_instance 2 (some .int) ∈ tblG := tb_4 40 rfl rfl
theorem q_6_37 : Cond.methodLink "InferReduceLaw" 84 y_M_instance ∈ tblG := tb_6 37 rfl rfl
theorem q_6_38 : Cond.instanceMethod y_M_instance ∈ tblG := tb_6 38 rfl rfl
theorem q_6_39 : Cond.selects "InferReduceModel" y_M_instance y_M_instance ∈ tblG := tb_6 39 rfl rfl
theorem q_6_40 : Cond.code y_M_instance b_M_instance 2 (some .int) ∈ tblG := tb_6 40 rfl rfl
theorem q_4_42 : Cond.methodLink "InferReduceLaw" 85 y_I_above ∈ tblG := tb_4 42 rfl rfl
theorem q_4_43 : Cond.instanceMethod y_I_above ∈ tblG := tb_4 43 rfl rfl
theorem q_4_44 : Cond.selects "InferReduce" y_I_above y_I_above ∈ tblG := tb_4 44 rfl rfl
theorem q_4_45 : Cond.code y_I_above b_I_above 3 (some .int) ∈ tblG := tb_4 45 rfl rfl
theorem q_5_114 : Cond.methodLink "InferReduceLaw" 88 y_M_above ∈ tblG := tb_5 114 rfl rfl
theorem q_5_115 : Cond.instanceMethod y_M_above ∈ tblG := tb_5 115 rfl rfl
theorem q_5_116 : Cond.selects "InferReduceModel" y_M_above y_M_above ∈ tblG := tb_5 116 rfl rfl
theorem q_5_117 : Cond.code y_M_above b_M_above 3 (some .int) ∈ tblG := tb_5 117 rfl rfl
theorem q_4_47 : Cond.methodLink "InferReduceLaw" 89 y_I_unchecked ∈ tblG := tb_4 47 rfl rfl
theorem q_4_48 : Cond.instanceMethod y_I_unchecked ∈ tblG := tb_4 48 rfl rfl
theorem q_4_49 : Cond.selects "InferReduce" y_I_unchecked y_I_unchecked ∈ tblG := tb_4 49 rfl rfl
theorem q_4_50 : Cond.code y_I_unchecked b_I_unchecked 2 (some .int) ∈ tblG := tb_4 50 rfl rfl
theorem q_6_41 : Cond.methodLink "InferReduceLaw" 92 y_M_unchecked ∈ tblG := tb_6 41 rfl rfl
theorem q_6_42 : Cond.instanceMethod y_M_unchecked ∈ tblG := tb_6 42 rfl rfl
theorem q_6_43 : Cond.selects "InferReduceModel" y_M_unchecked y_M_unchecked ∈ tblG := tb_6 43 rfl rfl
theorem q_6_44 : Cond.code y_M_unchecked b_M_unchecked 2 (some .int) ∈ tblG := tb_6 44 rfl rfl
theorem q_4_56 : Cond.methodLink "InferReduceLaw" 93 y_I_judge ∈ tblG := tb_4 56 rfl rfl
theorem q_4_57 : Cond.instanceMethod y_I_judge ∈ tblG := tb_4 57 rfl rfl
theorem q_4_58 : Cond.selects "InferReduce" y_I_judge y_I_judge ∈ tblG := tb_4 58 rfl rfl
theorem q_4_59 : Cond.code y_I_judge b_I_judge 7 (some .int) ∈ tblG := tb_4 59 rfl rfl
theorem q_6_45 : Cond.methodLink "InferReduceLaw" 96 y_M_judge ∈ tblG := tb_6 45 rfl rfl
theorem q_6_46 : Cond.instanceMethod y_M_judge ∈ tblG := tb_6 46 rfl rfl
theorem q_6_47 : Cond.selects "InferReduceModel" y_M_judge y_M_judge ∈ tblG := tb_6 47 rfl rfl
theorem q_6_48 : Cond.code y_M_judge b_M_judge 6 (some .int) ∈ tblG := tb_6 48 rfl rfl
abbrev b_L_law : ByteArray := code
theorem d_L_law_0 : decode b_L_law 0 = .ok (.new 7, 3) := by decide +kernel
theorem d_L_law_3 : decode b_L_law 3 = .ok (.dup, 1) := by decide +kernel
theorem d_L_law_4 : decode b_L_law 4 = .ok (.invokespecial 9, 3) := by decide +kernel
theorem d_L_law_7 : decode b_L_law 7 = .ok (.astore_n 1, 1) := by decide +kernel
theorem d_L_law_8 : decode b_L_law 8 = .ok (.new 10, 3) := by decide +kernel
theorem d_L_law_11 : decode b_L_law 11 = .ok (.dup, 1) := by decide +kernel
theorem d_L_law_12 : decode b_L_law 12 = .ok (.invokespecial 12, 3) := by decide +kernel
theorem d_L_law_15 : decode b_L_law 15 = .ok (.astore_n 2, 1) := by decide +kernel
theorem d_L_law_16 : decode b_L_law 16 = .ok (.iconst 0, 1) := by decide +kernel
theorem d_L_law_17 : decode b_L_law 17 = .ok (.istore_n 3, 1) := by decide +kernel
theorem d_L_law_18 : decode b_L_law 18 = .ok (.iload_n 3, 1) := by decide +kernel
theorem d_L_law_19 : decode b_L_law 19 = .ok (.aload_n 0, 1) := by decide +kernel
theorem d_L_law_20 : decode b_L_law 20 = .ok (.arraylength, 1) := by decide +kernel
theorem d_L_law_21 : decode b_L_law 21 = .ok (.iconst 4, 1) := by decide +kernel
theorem d_L_law_22 : decode b_L_law 22 = .ok (.isub, 1) := by decide +kernel
theorem d_L_law_23 : decode b_L_law 23 = .ok (.if_icmp .gt 631, 3) := by decide +kernel
theorem d_L_law_26 : decode b_L_law 26 = .ok (.aload_n 0, 1) := by decide +kernel
theorem d_L_law_27 : decode b_L_law 27 = .ok (.iload_n 3, 1) := by decide +kernel
theorem d_L_law_28 : decode b_L_law 28 = .ok (.iaload, 1) := by decide +kernel
theorem d_L_law_29 : decode b_L_law 29 = .ok (.bipush 31, 2) := by decide +kernel
theorem d_L_law_31 : decode b_L_law 31 = .ok (.iand, 1) := by decide +kernel
theorem d_L_law_32 : decode b_L_law 32 = .ok (.tableswitch 616 0 19 #[96, 119, 152, 175, 218, 251, 284, 307, 330, 343, 356, 399, 412, 425, 448, 481, 514, 537, 570, 593], 96) := by decide +kernel
theorem d_L_law_128 : decode b_L_law 128 = .ok (.aload_n 1, 1) := by decide +kernel
theorem d_L_law_129 : decode b_L_law 129 = .ok (.aload_n 0, 1) := by decide +kernel
theorem d_L_law_130 : decode b_L_law 130 = .ok (.iload_n 3, 1) := by decide +kernel
theorem d_L_law_131 : decode b_L_law 131 = .ok (.iconst 1, 1) := by decide +kernel
theorem d_L_law_132 : decode b_L_law 132 = .ok (.iadd, 1) := by decide +kernel
theorem d_L_law_133 : decode b_L_law 133 = .ok (.iaload, 1) := by decide +kernel
theorem d_L_law_134 : decode b_L_law 134 = .ok (.invokevirtual 13, 3) := by decide +kernel
theorem d_L_law_137 : decode b_L_law 137 = .ok (.aload_n 2, 1) := by decide +kernel
theorem d_L_law_138 : decode b_L_law 138 = .ok (.aload_n 0, 1) := by decide +kernel
theorem d_L_law_139 : decode b_L_law 139 = .ok (.iload_n 3, 1) := by decide +kernel
theorem d_L_law_140 : decode b_L_law 140 = .ok (.iconst 1, 1) := by decide +kernel
theorem d_L_law_141 : decode b_L_law 141 = .ok (.iadd, 1) := by decide +kernel
theorem d_L_law_142 : decode b_L_law 142 = .ok (.iaload, 1) := by decide +kernel
theorem d_L_law_143 : decode b_L_law 143 = .ok (.invokevirtual 17, 3) := by decide +kernel
theorem d_L_law_146 : decode b_L_law 146 = .ok (.if_icmp .eq 502, 3) := by decide +kernel
theorem d_L_law_149 : decode b_L_law 149 = .ok (.iconst 0, 1) := by decide +kernel
theorem d_L_law_150 : decode b_L_law 150 = .ok (.ireturn, 1) := by decide +kernel
theorem d_L_law_151 : decode b_L_law 151 = .ok (.aload_n 1, 1) := by decide +kernel
theorem d_L_law_152 : decode b_L_law 152 = .ok (.aload_n 0, 1) := by decide +kernel
theorem d_L_law_153 : decode b_L_law 153 = .ok (.iload_n 3, 1) := by decide +kernel
theorem d_L_law_154 : decode b_L_law 154 = .ok (.iconst 1, 1) := by decide +kernel
theorem d_L_law_155 : decode b_L_law 155 = .ok (.iadd, 1) := by decide +kernel
theorem d_L_law_156 : decode b_L_law 156 = .ok (.iaload, 1) := by decide +kernel
theorem d_L_law_157 : decode b_L_law 157 = .ok (.aload_n 0, 1) := by decide +kernel
theorem d_L_law_158 : decode b_L_law 158 = .ok (.iload_n 3, 1) := by decide +kernel
theorem d_L_law_159 : decode b_L_law 159 = .ok (.iconst 2, 1) := by decide +kernel
theorem d_L_law_160 : decode b_L_law 160 = .ok (.iadd, 1) := by decide +kernel
theorem d_L_law_161 : decode b_L_law 161 = .ok (.iaload, 1) := by decide +kernel
theorem d_L_law_162 : decode b_L_law 162 = .ok (.invokevirtual 18, 3) := by decide +kernel
theorem d_L_law_165 : decode b_L_law 165 = .ok (.pop, 1) := by decide +kernel
theorem d_L_law_166 : decode b_L_law 166 = .ok (.aload_n 2, 1) := by decide +kernel
theorem d_L_law_167 : decode b_L_law 167 = .ok (.aload_n 0, 1) := by decide +kernel
theorem d_L_law_168 : decode b_L_law 168 = .ok (.iload_n 3, 1) := by decide +kernel
theorem d_L_law_169 : decode b_L_law 169 = .ok (.iconst 1, 1) := by decide +kernel
theorem d_L_law_170 : decode b_L_law 170 = .ok (.iadd, 1) := by decide +kernel
theorem d_L_law_171 : decode b_L_law 171 = .ok (.iaload, 1) := by decide +kernel
theorem d_L_law_172 : decode b_L_law 172 = .ok (.aload_n 0, 1) := by decide +kernel
theorem d_L_law_173 : decode b_L_law 173 = .ok (.iload_n 3, 1) := by decide +kernel
theorem d_L_law_174 : decode b_L_law 174 = .ok (.iconst 2, 1) := by decide +kernel
theorem d_L_law_175 : decode b_L_law 175 = .ok (.iadd, 1) := by decide +kernel
theorem d_L_law_176 : decode b_L_law 176 = .ok (.iaload, 1) := by decide +kernel
theorem d_L_law_177 : decode b_L_law 177 = .ok (.invokevirtual 22, 3) := by decide +kernel
theorem d_L_law_180 : decode b_L_law 180 = .ok (.pop, 1) := by decide +kernel
theorem d_L_law_181 : decode b_L_law 181 = .ok (.goto 467, 3) := by decide +kernel
theorem d_L_law_184 : decode b_L_law 184 = .ok (.aload_n 1, 1) := by decide +kernel
theorem d_L_law_185 : decode b_L_law 185 = .ok (.aload_n 0, 1) := by decide +kernel
theorem d_L_law_186 : decode b_L_law 186 = .ok (.iload_n 3, 1) := by decide +kernel
theorem d_L_law_187 : decode b_L_law 187 = .ok (.iconst 1, 1) := by decide +kernel
theorem d_L_law_188 : decode b_L_law 188 = .ok (.iadd, 1) := by decide +kernel
theorem d_L_law_189 : decode b_L_law 189 = .ok (.iaload, 1) := by decide +kernel
theorem d_L_law_190 : decode b_L_law 190 = .ok (.invokevirtual 23, 3) := by decide +kernel
theorem d_L_law_193 : decode b_L_law 193 = .ok (.pop, 1) := by decide +kernel
theorem d_L_law_194 : decode b_L_law 194 = .ok (.aload_n 2, 1) := by decide +kernel
theorem d_L_law_195 : decode b_L_law 195 = .ok (.aload_n 0, 1) := by decide +kernel
theorem d_L_law_196 : decode b_L_law 196 = .ok (.iload_n 3, 1) := by decide +kernel
theorem d_L_law_197 : decode b_L_law 197 = .ok (.iconst 1, 1) := by decide +kernel
theorem d_L_law_198 : decode b_L_law 198 = .ok (.iadd, 1) := by decide +kernel
theorem d_L_law_199 : decode b_L_law 199 = .ok (.iaload, 1) := by decide +kernel
theorem d_L_law_200 : decode b_L_law 200 = .ok (.invokevirtual 26, 3) := by decide +kernel
theorem d_L_law_203 : decode b_L_law 203 = .ok (.pop, 1) := by decide +kernel
theorem d_L_law_204 : decode b_L_law 204 = .ok (.goto 444, 3) := by decide +kernel
theorem d_L_law_207 : decode b_L_law 207 = .ok (.aload_n 1, 1) := by decide +kernel
theorem d_L_law_208 : decode b_L_law 208 = .ok (.aload_n 0, 1) := by decide +kernel
theorem d_L_law_209 : decode b_L_law 209 = .ok (.iload_n 3, 1) := by decide +kernel
theorem d_L_law_210 : decode b_L_law 210 = .ok (.iconst 1, 1) := by decide +kernel
theorem d_L_law_211 : decode b_L_law 211 = .ok (.iadd, 1) := by decide +kernel
theorem d_L_law_212 : decode b_L_law 212 = .ok (.iaload, 1) := by decide +kernel
theorem d_L_law_213 : decode b_L_law 213 = .ok (.aload_n 0, 1) := by decide +kernel
theorem d_L_law_214 : decode b_L_law 214 = .ok (.iload_n 3, 1) := by decide +kernel
theorem d_L_law_215 : decode b_L_law 215 = .ok (.iconst 2, 1) := by decide +kernel
theorem d_L_law_216 : decode b_L_law 216 = .ok (.iadd, 1) := by decide +kernel
theorem d_L_law_217 : decode b_L_law 217 = .ok (.iaload, 1) := by decide +kernel
theorem d_L_law_218 : decode b_L_law 218 = .ok (.aload_n 0, 1) := by decide +kernel
theorem d_L_law_219 : decode b_L_law 219 = .ok (.iload_n 3, 1) := by decide +kernel
theorem d_L_law_220 : decode b_L_law 220 = .ok (.iconst 3, 1) := by decide +kernel
theorem d_L_law_221 : decode b_L_law 221 = .ok (.iadd, 1) := by decide +kernel
theorem d_L_law_222 : decode b_L_law 222 = .ok (.iaload, 1) := by decide +kernel
theorem d_L_law_223 : decode b_L_law 223 = .ok (.invokevirtual 27, 3) := by decide +kernel
theorem d_L_law_226 : decode b_L_law 226 = .ok (.pop, 1) := by decide +kernel
theorem d_L_law_227 : decode b_L_law 227 = .ok (.aload_n 2, 1) := by decide +kernel
theorem d_L_law_228 : decode b_L_law 228 = .ok (.aload_n 0, 1) := by decide +kernel
theorem d_L_law_229 : decode b_L_law 229 = .ok (.iload_n 3, 1) := by decide +kernel
theorem d_L_law_230 : decode b_L_law 230 = .ok (.iconst 1, 1) := by decide +kernel
theorem d_L_law_231 : decode b_L_law 231 = .ok (.iadd, 1) := by decide +kernel
theorem d_L_law_232 : decode b_L_law 232 = .ok (.iaload, 1) := by decide +kernel
theorem d_L_law_233 : decode b_L_law 233 = .ok (.aload_n 0, 1) := by decide +kernel
theorem d_L_law_234 : decode b_L_law 234 = .ok (.iload_n 3, 1) := by decide +kernel
theorem d_L_law_235 : decode b_L_law 235 = .ok (.iconst 2, 1) := by decide +kernel
theorem d_L_law_236 : decode b_L_law 236 = .ok (.iadd, 1) := by decide +kernel
theorem d_L_law_237 : decode b_L_law 237 = .ok (.iaload, 1) := by decide +kernel
theorem d_L_law_238 : decode b_L_law 238 = .ok (.aload_n 0, 1) := by decide +kernel
theorem d_L_law_239 : decode b_L_law 239 = .ok (.iload_n 3, 1) := by decide +kernel
theorem d_L_law_240 : decode b_L_law 240 = .ok (.iconst 3, 1) := by decide +kernel
theorem d_L_law_241 : decode b_L_law 241 = .ok (.iadd, 1) := by decide +kernel
theorem d_L_law_242 : decode b_L_law 242 = .ok (.iaload, 1) := by decide +kernel
theorem d_L_law_243 : decode b_L_law 243 = .ok (.invokevirtual 31, 3) := by decide +kernel
theorem d_L_law_246 : decode b_L_law 246 = .ok (.pop, 1) := by decide +kernel
theorem d_L_law_247 : decode b_L_law 247 = .ok (.goto 401, 3) := by decide +kernel
theorem d_L_law_250 : decode b_L_law 250 = .ok (.aload_n 1, 1) := by decide +kernel
theorem d_L_law_251 : decode b_L_law 251 = .ok (.aload_n 0, 1) := by decide +kernel
theorem d_L_law_252 : decode b_L_law 252 = .ok (.iload_n 3, 1) := by decide +kernel
theorem d_L_law_253 : decode b_L_law 253 = .ok (.iconst 1, 1) := by decide +kernel
theorem d_L_law_254 : decode b_L_law 254 = .ok (.iadd, 1) := by decide +kernel
theorem d_L_law_255 : decode b_L_law 255 = .ok (.iaload, 1) := by decide +kernel
theorem d_L_law_256 : decode b_L_law 256 = .ok (.aload_n 0, 1) := by decide +kernel
theorem d_L_law_257 : decode b_L_law 257 = .ok (.iload_n 3, 1) := by decide +kernel
theorem d_L_law_258 : decode b_L_law 258 = .ok (.iconst 2, 1) := by decide +kernel
theorem d_L_law_259 : decode b_L_law 259 = .ok (.iadd, 1) := by decide +kernel
theorem d_L_law_260 : decode b_L_law 260 = .ok (.iaload, 1) := by decide +kernel
theorem d_L_law_261 : decode b_L_law 261 = .ok (.invokevirtual 32, 3) := by decide +kernel
theorem d_L_law_264 : decode b_L_law 264 = .ok (.pop, 1) := by decide +kernel
theorem d_L_law_265 : decode b_L_law 265 = .ok (.aload_n 2, 1) := by decide +kernel
theorem d_L_law_266 : decode b_L_law 266 = .ok (.aload_n 0, 1) := by decide +kernel
theorem d_L_law_267 : decode b_L_law 267 = .ok (.iload_n 3, 1) := by decide +kernel
theorem d_L_law_268 : decode b_L_law 268 = .ok (.iconst 1, 1) := by decide +kernel
theorem d_L_law_269 : decode b_L_law 269 = .ok (.iadd, 1) := by decide +kernel
theorem d_L_law_270 : decode b_L_law 270 = .ok (.iaload, 1) := by decide +kernel
theorem d_L_law_271 : decode b_L_law 271 = .ok (.aload_n 0, 1) := by decide +kernel
theorem d_L_law_272 : decode b_L_law 272 = .ok (.iload_n 3, 1) := by decide +kernel
theorem d_L_law_273 : decode b_L_law 273 = .ok (.iconst 2, 1) := by decide +kernel
theorem d_L_law_274 : decode b_L_law 274 = .ok (.iadd, 1) := by decide +kernel
theorem d_L_law_275 : decode b_L_law 275 = .ok (.iaload, 1) := by decide +kernel
theorem d_L_law_276 : decode b_L_law 276 = .ok (.invokevirtual 35, 3) := by decide +kernel
theorem d_L_law_279 : decode b_L_law 279 = .ok (.pop, 1) := by decide +kernel
theorem d_L_law_280 : decode b_L_law 280 = .ok (.goto 368, 3) := by decide +kernel
theorem d_L_law_283 : decode b_L_law 283 = .ok (.aload_n 1, 1) := by decide +kernel
theorem d_L_law_284 : decode b_L_law 284 = .ok (.aload_n 0, 1) := by decide +kernel
theorem d_L_law_285 : decode b_L_law 285 = .ok (.iload_n 3, 1) := by decide +kernel
theorem d_L_law_286 : decode b_L_law 286 = .ok (.iconst 1, 1) := by decide +kernel
theorem d_L_law_287 : decode b_L_law 287 = .ok (.iadd, 1) := by decide +kernel
theorem d_L_law_288 : decode b_L_law 288 = .ok (.iaload, 1) := by decide +kernel
theorem d_L_law_289 : decode b_L_law 289 = .ok (.aload_n 0, 1) := by decide +kernel
theorem d_L_law_290 : decode b_L_law 290 = .ok (.iload_n 3, 1) := by decide +kernel
theorem d_L_law_291 : decode b_L_law 291 = .ok (.iconst 2, 1) := by decide +kernel
theorem d_L_law_292 : decode b_L_law 292 = .ok (.iadd, 1) := by decide +kernel
theorem d_L_law_293 : decode b_L_law 293 = .ok (.iaload, 1) := by decide +kernel
theorem d_L_law_294 : decode b_L_law 294 = .ok (.invokevirtual 36, 3) := by decide +kernel
theorem d_L_law_297 : decode b_L_law 297 = .ok (.pop, 1) := by decide +kernel
theorem d_L_law_298 : decode b_L_law 298 = .ok (.aload_n 2, 1) := by decide +kernel
theorem d_L_law_299 : decode b_L_law 299 = .ok (.aload_n 0, 1) := by decide +kernel
theorem d_L_law_300 : decode b_L_law 300 = .ok (.iload_n 3, 1) := by decide +kernel
theorem d_L_law_301 : decode b_L_law 301 = .ok (.iconst 1, 1) := by decide +kernel
theorem d_L_law_302 : decode b_L_law 302 = .ok (.iadd, 1) := by decide +kernel
theorem d_L_law_303 : decode b_L_law 303 = .ok (.iaload, 1) := by decide +kernel
theorem d_L_law_304 : decode b_L_law 304 = .ok (.aload_n 0, 1) := by decide +kernel
theorem d_L_law_305 : decode b_L_law 305 = .ok (.iload_n 3, 1) := by decide +kernel
theorem d_L_law_306 : decode b_L_law 306 = .ok (.iconst 2, 1) := by decide +kernel
theorem d_L_law_307 : decode b_L_law 307 = .ok (.iadd, 1) := by decide +kernel
theorem d_L_law_308 : decode b_L_law 308 = .ok (.iaload, 1) := by decide +kernel
theorem d_L_law_309 : decode b_L_law 309 = .ok (.invokevirtual 39, 3) := by decide +kernel
theorem d_L_law_312 : decode b_L_law 312 = .ok (.pop, 1) := by decide +kernel
theorem d_L_law_313 : decode b_L_law 313 = .ok (.goto 335, 3) := by decide +kernel
theorem d_L_law_316 : decode b_L_law 316 = .ok (.aload_n 1, 1) := by decide +kernel
theorem d_L_law_317 : decode b_L_law 317 = .ok (.aload_n 0, 1) := by decide +kernel
theorem d_L_law_318 : decode b_L_law 318 = .ok (.iload_n 3, 1) := by decide +kernel
theorem d_L_law_319 : decode b_L_law 319 = .ok (.iconst 1, 1) := by decide +kernel
theorem d_L_law_320 : decode b_L_law 320 = .ok (.iadd, 1) := by decide +kernel
theorem d_L_law_321 : decode b_L_law 321 = .ok (.iaload, 1) := by decide +kernel
theorem d_L_law_322 : decode b_L_law 322 = .ok (.invokevirtual 40, 3) := by decide +kernel
theorem d_L_law_325 : decode b_L_law 325 = .ok (.pop, 1) := by decide +kernel
theorem d_L_law_326 : decode b_L_law 326 = .ok (.aload_n 2, 1) := by decide +kernel
theorem d_L_law_327 : decode b_L_law 327 = .ok (.aload_n 0, 1) := by decide +kernel
theorem d_L_law_328 : decode b_L_law 328 = .ok (.iload_n 3, 1) := by decide +kernel
theorem d_L_law_329 : decode b_L_law 329 = .ok (.iconst 1, 1) := by decide +kernel
theorem d_L_law_330 : decode b_L_law 330 = .ok (.iadd, 1) := by decide +kernel
theorem d_L_law_331 : decode b_L_law 331 = .ok (.iaload, 1) := by decide +kernel
theorem d_L_law_332 : decode b_L_law 332 = .ok (.invokevirtual 43, 3) := by decide +kernel
theorem d_L_law_335 : decode b_L_law 335 = .ok (.pop, 1) := by decide +kernel
theorem d_L_law_336 : decode b_L_law 336 = .ok (.goto 312, 3) := by decide +kernel
theorem d_L_law_339 : decode b_L_law 339 = .ok (.aload_n 1, 1) := by decide +kernel
theorem d_L_law_340 : decode b_L_law 340 = .ok (.aload_n 0, 1) := by decide +kernel
theorem d_L_law_341 : decode b_L_law 341 = .ok (.iload_n 3, 1) := by decide +kernel
theorem d_L_law_342 : decode b_L_law 342 = .ok (.iconst 1, 1) := by decide +kernel
theorem d_L_law_343 : decode b_L_law 343 = .ok (.iadd, 1) := by decide +kernel
theorem d_L_law_344 : decode b_L_law 344 = .ok (.iaload, 1) := by decide +kernel
theorem d_L_law_345 : decode b_L_law 345 = .ok (.invokevirtual 44, 3) := by decide +kernel
theorem d_L_law_348 : decode b_L_law 348 = .ok (.pop, 1) := by decide +kernel
theorem d_L_law_349 : decode b_L_law 349 = .ok (.aload_n 2, 1) := by decide +kernel
theorem d_L_law_350 : decode b_L_law 350 = .ok (.aload_n 0, 1) := by decide +kernel
theorem d_L_law_351 : decode b_L_law 351 = .ok (.iload_n 3, 1) := by decide +kernel
theorem d_L_law_352 : decode b_L_law 352 = .ok (.iconst 1, 1) := by decide +kernel
theorem d_L_law_353 : decode b_L_law 353 = .ok (.iadd, 1) := by decide +kernel
theorem d_L_law_354 : decode b_L_law 354 = .ok (.iaload, 1) := by decide +kernel
theorem d_L_law_355 : decode b_L_law 355 = .ok (.invokevirtual 47, 3) := by decide +kernel
theorem d_L_law_358 : decode b_L_law 358 = .ok (.pop, 1) := by decide +kernel
theorem d_L_law_359 : decode b_L_law 359 = .ok (.goto 289, 3) := by decide +kernel
theorem d_L_law_362 : decode b_L_law 362 = .ok (.aload_n 1, 1) := by decide +kernel
theorem d_L_law_363 : decode b_L_law 363 = .ok (.invokevirtual 48, 3) := by decide +kernel
theorem d_L_law_366 : decode b_L_law 366 = .ok (.pop, 1) := by decide +kernel
theorem d_L_law_367 : decode b_L_law 367 = .ok (.aload_n 2, 1) := by decide +kernel
theorem d_L_law_368 : decode b_L_law 368 = .ok (.invokevirtual 52, 3) := by decide +kernel
theorem d_L_law_371 : decode b_L_law 371 = .ok (.pop, 1) := by decide +kernel
theorem d_L_law_372 : decode b_L_law 372 = .ok (.goto 276, 3) := by decide +kernel
theorem d_L_law_375 : decode b_L_law 375 = .ok (.aload_n 1, 1) := by decide +kernel
theorem d_L_law_376 : decode b_L_law 376 = .ok (.invokevirtual 53, 3) := by decide +kernel
theorem d_L_law_379 : decode b_L_law 379 = .ok (.pop, 1) := by decide +kernel
theorem d_L_law_380 : decode b_L_law 380 = .ok (.aload_n 2, 1) := by decide +kernel
theorem d_L_law_381 : decode b_L_law 381 = .ok (.invokevirtual 56, 3) := by decide +kernel
theorem d_L_law_384 : decode b_L_law 384 = .ok (.pop, 1) := by decide +kernel
theorem d_L_law_385 : decode b_L_law 385 = .ok (.goto 263, 3) := by decide +kernel
theorem d_L_law_388 : decode b_L_law 388 = .ok (.aload_n 1, 1) := by decide +kernel
theorem d_L_law_389 : decode b_L_law 389 = .ok (.aload_n 0, 1) := by decide +kernel
theorem d_L_law_390 : decode b_L_law 390 = .ok (.iload_n 3, 1) := by decide +kernel
theorem d_L_law_391 : decode b_L_law 391 = .ok (.iconst 1, 1) := by decide +kernel
theorem d_L_law_392 : decode b_L_law 392 = .ok (.iadd, 1) := by decide +kernel
theorem d_L_law_393 : decode b_L_law 393 = .ok (.iaload, 1) := by decide +kernel
theorem d_L_law_394 : decode b_L_law 394 = .ok (.aload_n 0, 1) := by decide +kernel
theorem d_L_law_395 : decode b_L_law 395 = .ok (.iload_n 3, 1) := by decide +kernel
theorem d_L_law_396 : decode b_L_law 396 = .ok (.iconst 2, 1) := by decide +kernel
theorem d_L_law_397 : decode b_L_law 397 = .ok (.iadd, 1) := by decide +kernel
theorem d_L_law_398 : decode b_L_law 398 = .ok (.iaload, 1) := by decide +kernel
theorem d_L_law_399 : decode b_L_law 399 = .ok (.aload_n 0, 1) := by decide +kernel
theorem d_L_law_400 : decode b_L_law 400 = .ok (.iload_n 3, 1) := by decide +kernel
theorem d_L_law_401 : decode b_L_law 401 = .ok (.iconst 3, 1) := by decide +kernel
theorem d_L_law_402 : decode b_L_law 402 = .ok (.iadd, 1) := by decide +kernel
theorem d_L_law_403 : decode b_L_law 403 = .ok (.iaload, 1) := by decide +kernel
theorem d_L_law_404 : decode b_L_law 404 = .ok (.invokevirtual 57, 3) := by decide +kernel
theorem d_L_law_407 : decode b_L_law 407 = .ok (.pop, 1) := by decide +kernel
theorem d_L_law_408 : decode b_L_law 408 = .ok (.aload_n 2, 1) := by decide +kernel
theorem d_L_law_409 : decode b_L_law 409 = .ok (.aload_n 0, 1) := by decide +kernel
theorem d_L_law_410 : decode b_L_law 410 = .ok (.iload_n 3, 1) := by decide +kernel
theorem d_L_law_411 : decode b_L_law 411 = .ok (.iconst 1, 1) := by decide +kernel
theorem d_L_law_412 : decode b_L_law 412 = .ok (.iadd, 1) := by decide +kernel
theorem d_L_law_413 : decode b_L_law 413 = .ok (.iaload, 1) := by decide +kernel
theorem d_L_law_414 : decode b_L_law 414 = .ok (.aload_n 0, 1) := by decide +kernel
theorem d_L_law_415 : decode b_L_law 415 = .ok (.iload_n 3, 1) := by decide +kernel
theorem d_L_law_416 : decode b_L_law 416 = .ok (.iconst 2, 1) := by decide +kernel
theorem d_L_law_417 : decode b_L_law 417 = .ok (.iadd, 1) := by decide +kernel
theorem d_L_law_418 : decode b_L_law 418 = .ok (.iaload, 1) := by decide +kernel
theorem d_L_law_419 : decode b_L_law 419 = .ok (.aload_n 0, 1) := by decide +kernel
theorem d_L_law_420 : decode b_L_law 420 = .ok (.iload_n 3, 1) := by decide +kernel
theorem d_L_law_421 : decode b_L_law 421 = .ok (.iconst 3, 1) := by decide +kernel
theorem d_L_law_422 : decode b_L_law 422 = .ok (.iadd, 1) := by decide +kernel
theorem d_L_law_423 : decode b_L_law 423 = .ok (.iaload, 1) := by decide +kernel
theorem d_L_law_424 : decode b_L_law 424 = .ok (.invokevirtual 60, 3) := by decide +kernel
theorem d_L_law_427 : decode b_L_law 427 = .ok (.pop, 1) := by decide +kernel
theorem d_L_law_428 : decode b_L_law 428 = .ok (.goto 220, 3) := by decide +kernel
theorem d_L_law_431 : decode b_L_law 431 = .ok (.aload_n 1, 1) := by decide +kernel
theorem d_L_law_432 : decode b_L_law 432 = .ok (.invokevirtual 61, 3) := by decide +kernel
theorem d_L_law_435 : decode b_L_law 435 = .ok (.pop, 1) := by decide +kernel
theorem d_L_law_436 : decode b_L_law 436 = .ok (.aload_n 2, 1) := by decide +kernel
theorem d_L_law_437 : decode b_L_law 437 = .ok (.invokevirtual 64, 3) := by decide +kernel
theorem d_L_law_440 : decode b_L_law 440 = .ok (.pop, 1) := by decide +kernel
theorem d_L_law_441 : decode b_L_law 441 = .ok (.goto 207, 3) := by decide +kernel
theorem d_L_law_444 : decode b_L_law 444 = .ok (.aload_n 1, 1) := by decide +kernel
theorem d_L_law_445 : decode b_L_law 445 = .ok (.invokevirtual 65, 3) := by decide +kernel
theorem d_L_law_448 : decode b_L_law 448 = .ok (.pop, 1) := by decide +kernel
theorem d_L_law_449 : decode b_L_law 449 = .ok (.aload_n 2, 1) := by decide +kernel
theorem d_L_law_450 : decode b_L_law 450 = .ok (.invokevirtual 68, 3) := by decide +kernel
theorem d_L_law_453 : decode b_L_law 453 = .ok (.pop, 1) := by decide +kernel
theorem d_L_law_454 : decode b_L_law 454 = .ok (.goto 194, 3) := by decide +kernel
theorem d_L_law_457 : decode b_L_law 457 = .ok (.aload_n 1, 1) := by decide +kernel
theorem d_L_law_458 : decode b_L_law 458 = .ok (.aload_n 0, 1) := by decide +kernel
theorem d_L_law_459 : decode b_L_law 459 = .ok (.iload_n 3, 1) := by decide +kernel
theorem d_L_law_460 : decode b_L_law 460 = .ok (.iconst 1, 1) := by decide +kernel
theorem d_L_law_461 : decode b_L_law 461 = .ok (.iadd, 1) := by decide +kernel
theorem d_L_law_462 : decode b_L_law 462 = .ok (.iaload, 1) := by decide +kernel
theorem d_L_law_463 : decode b_L_law 463 = .ok (.invokevirtual 69, 3) := by decide +kernel
theorem d_L_law_466 : decode b_L_law 466 = .ok (.pop, 1) := by decide +kernel
theorem d_L_law_467 : decode b_L_law 467 = .ok (.aload_n 2, 1) := by decide +kernel
theorem d_L_law_468 : decode b_L_law 468 = .ok (.aload_n 0, 1) := by decide +kernel
theorem d_L_law_469 : decode b_L_law 469 = .ok (.iload_n 3, 1) := by decide +kernel
theorem d_L_law_470 : decode b_L_law 470 = .ok (.iconst 1, 1) := by decide +kernel
theorem d_L_law_471 : decode b_L_law 471 = .ok (.iadd, 1) := by decide +kernel
theorem d_L_law_472 : decode b_L_law 472 = .ok (.iaload, 1) := by decide +kernel
theorem d_L_law_473 : decode b_L_law 473 = .ok (.invokevirtual 72, 3) := by decide +kernel
theorem d_L_law_476 : decode b_L_law 476 = .ok (.pop, 1) := by decide +kernel
theorem d_L_law_477 : decode b_L_law 477 = .ok (.goto 171, 3) := by decide +kernel
theorem d_L_law_480 : decode b_L_law 480 = .ok (.aload_n 1, 1) := by decide +kernel
theorem d_L_law_481 : decode b_L_law 481 = .ok (.aload_n 0, 1) := by decide +kernel
theorem d_L_law_482 : decode b_L_law 482 = .ok (.iload_n 3, 1) := by decide +kernel
theorem d_L_law_483 : decode b_L_law 483 = .ok (.iconst 1, 1) := by decide +kernel
theorem d_L_law_484 : decode b_L_law 484 = .ok (.iadd, 1) := by decide +kernel
theorem d_L_law_485 : decode b_L_law 485 = .ok (.iaload, 1) := by decide +kernel
theorem d_L_law_486 : decode b_L_law 486 = .ok (.aload_n 0, 1) := by decide +kernel
theorem d_L_law_487 : decode b_L_law 487 = .ok (.iload_n 3, 1) := by decide +kernel
theorem d_L_law_488 : decode b_L_law 488 = .ok (.iconst 2, 1) := by decide +kernel
theorem d_L_law_489 : decode b_L_law 489 = .ok (.iadd, 1) := by decide +kernel
theorem d_L_law_490 : decode b_L_law 490 = .ok (.iaload, 1) := by decide +kernel
theorem d_L_law_491 : decode b_L_law 491 = .ok (.invokevirtual 73, 3) := by decide +kernel
theorem d_L_law_494 : decode b_L_law 494 = .ok (.pop, 1) := by decide +kernel
theorem d_L_law_495 : decode b_L_law 495 = .ok (.aload_n 2, 1) := by decide +kernel
theorem d_L_law_496 : decode b_L_law 496 = .ok (.aload_n 0, 1) := by decide +kernel
theorem d_L_law_497 : decode b_L_law 497 = .ok (.iload_n 3, 1) := by decide +kernel
theorem d_L_law_498 : decode b_L_law 498 = .ok (.iconst 1, 1) := by decide +kernel
theorem d_L_law_499 : decode b_L_law 499 = .ok (.iadd, 1) := by decide +kernel
theorem d_L_law_500 : decode b_L_law 500 = .ok (.iaload, 1) := by decide +kernel
theorem d_L_law_501 : decode b_L_law 501 = .ok (.aload_n 0, 1) := by decide +kernel
theorem d_L_law_502 : decode b_L_law 502 = .ok (.iload_n 3, 1) := by decide +kernel
theorem d_L_law_503 : decode b_L_law 503 = .ok (.iconst 2, 1) := by decide +kernel
theorem d_L_law_504 : decode b_L_law 504 = .ok (.iadd, 1) := by decide +kernel
theorem d_L_law_505 : decode b_L_law 505 = .ok (.iaload, 1) := by decide +kernel
theorem d_L_law_506 : decode b_L_law 506 = .ok (.invokevirtual 76, 3) := by decide +kernel
theorem d_L_law_509 : decode b_L_law 509 = .ok (.pop, 1) := by decide +kernel
theorem d_L_law_510 : decode b_L_law 510 = .ok (.goto 138, 3) := by decide +kernel
theorem d_L_law_513 : decode b_L_law 513 = .ok (.aload_n 1, 1) := by decide +kernel
theorem d_L_law_514 : decode b_L_law 514 = .ok (.aload_n 0, 1) := by decide +kernel
theorem d_L_law_515 : decode b_L_law 515 = .ok (.iload_n 3, 1) := by decide +kernel
theorem d_L_law_516 : decode b_L_law 516 = .ok (.iconst 1, 1) := by decide +kernel
theorem d_L_law_517 : decode b_L_law 517 = .ok (.iadd, 1) := by decide +kernel
theorem d_L_law_518 : decode b_L_law 518 = .ok (.iaload, 1) := by decide +kernel
theorem d_L_law_519 : decode b_L_law 519 = .ok (.aload_n 0, 1) := by decide +kernel
theorem d_L_law_520 : decode b_L_law 520 = .ok (.iload_n 3, 1) := by decide +kernel
theorem d_L_law_521 : decode b_L_law 521 = .ok (.iconst 2, 1) := by decide +kernel
theorem d_L_law_522 : decode b_L_law 522 = .ok (.iadd, 1) := by decide +kernel
theorem d_L_law_523 : decode b_L_law 523 = .ok (.iaload, 1) := by decide +kernel
theorem d_L_law_524 : decode b_L_law 524 = .ok (.invokevirtual 77, 3) := by decide +kernel
theorem d_L_law_527 : decode b_L_law 527 = .ok (.pop, 1) := by decide +kernel
theorem d_L_law_528 : decode b_L_law 528 = .ok (.aload_n 2, 1) := by decide +kernel
theorem d_L_law_529 : decode b_L_law 529 = .ok (.aload_n 0, 1) := by decide +kernel
theorem d_L_law_530 : decode b_L_law 530 = .ok (.iload_n 3, 1) := by decide +kernel
theorem d_L_law_531 : decode b_L_law 531 = .ok (.iconst 1, 1) := by decide +kernel
theorem d_L_law_532 : decode b_L_law 532 = .ok (.iadd, 1) := by decide +kernel
theorem d_L_law_533 : decode b_L_law 533 = .ok (.iaload, 1) := by decide +kernel
theorem d_L_law_534 : decode b_L_law 534 = .ok (.aload_n 0, 1) := by decide +kernel
theorem d_L_law_535 : decode b_L_law 535 = .ok (.iload_n 3, 1) := by decide +kernel
theorem d_L_law_536 : decode b_L_law 536 = .ok (.iconst 2, 1) := by decide +kernel
theorem d_L_law_537 : decode b_L_law 537 = .ok (.iadd, 1) := by decide +kernel
theorem d_L_law_538 : decode b_L_law 538 = .ok (.iaload, 1) := by decide +kernel
theorem d_L_law_539 : decode b_L_law 539 = .ok (.invokevirtual 80, 3) := by decide +kernel
theorem d_L_law_542 : decode b_L_law 542 = .ok (.pop, 1) := by decide +kernel
theorem d_L_law_543 : decode b_L_law 543 = .ok (.goto 105, 3) := by decide +kernel
theorem d_L_law_546 : decode b_L_law 546 = .ok (.aload_n 1, 1) := by decide +kernel
theorem d_L_law_547 : decode b_L_law 547 = .ok (.aload_n 0, 1) := by decide +kernel
theorem d_L_law_548 : decode b_L_law 548 = .ok (.iload_n 3, 1) := by decide +kernel
theorem d_L_law_549 : decode b_L_law 549 = .ok (.iconst 1, 1) := by decide +kernel
theorem d_L_law_550 : decode b_L_law 550 = .ok (.iadd, 1) := by decide +kernel
theorem d_L_law_551 : decode b_L_law 551 = .ok (.iaload, 1) := by decide +kernel
theorem d_L_law_552 : decode b_L_law 552 = .ok (.invokevirtual 81, 3) := by decide +kernel
theorem d_L_law_555 : decode b_L_law 555 = .ok (.pop, 1) := by decide +kernel
theorem d_L_law_556 : decode b_L_law 556 = .ok (.aload_n 2, 1) := by decide +kernel
theorem d_L_law_557 : decode b_L_law 557 = .ok (.aload_n 0, 1) := by decide +kernel
theorem d_L_law_558 : decode b_L_law 558 = .ok (.iload_n 3, 1) := by decide +kernel
theorem d_L_law_559 : decode b_L_law 559 = .ok (.iconst 1, 1) := by decide +kernel
theorem d_L_law_560 : decode b_L_law 560 = .ok (.iadd, 1) := by decide +kernel
theorem d_L_law_561 : decode b_L_law 561 = .ok (.iaload, 1) := by decide +kernel
theorem d_L_law_562 : decode b_L_law 562 = .ok (.invokevirtual 84, 3) := by decide +kernel
theorem d_L_law_565 : decode b_L_law 565 = .ok (.pop, 1) := by decide +kernel
theorem d_L_law_566 : decode b_L_law 566 = .ok (.goto 82, 3) := by decide +kernel
theorem d_L_law_569 : decode b_L_law 569 = .ok (.aload_n 1, 1) := by decide +kernel
theorem d_L_law_570 : decode b_L_law 570 = .ok (.aload_n 0, 1) := by decide +kernel
theorem d_L_law_571 : decode b_L_law 571 = .ok (.iload_n 3, 1) := by decide +kernel
theorem d_L_law_572 : decode b_L_law 572 = .ok (.iconst 1, 1) := by decide +kernel
theorem d_L_law_573 : decode b_L_law 573 = .ok (.iadd, 1) := by decide +kernel
theorem d_L_law_574 : decode b_L_law 574 = .ok (.iaload, 1) := by decide +kernel
theorem d_L_law_575 : decode b_L_law 575 = .ok (.aload_n 0, 1) := by decide +kernel
theorem d_L_law_576 : decode b_L_law 576 = .ok (.iload_n 3, 1) := by decide +kernel
theorem d_L_law_577 : decode b_L_law 577 = .ok (.iconst 2, 1) := by decide +kernel
theorem d_L_law_578 : decode b_L_law 578 = .ok (.iadd, 1) := by decide +kernel
theorem d_L_law_579 : decode b_L_law 579 = .ok (.iaload, 1) := by decide +kernel
theorem d_L_law_580 : decode b_L_law 580 = .ok (.invokevirtual 85, 3) := by decide +kernel
theorem d_L_law_583 : decode b_L_law 583 = .ok (.pop, 1) := by decide +kernel
theorem d_L_law_584 : decode b_L_law 584 = .ok (.aload_n 2, 1) := by decide +kernel
theorem d_L_law_585 : decode b_L_law 585 = .ok (.aload_n 0, 1) := by decide +kernel
theorem d_L_law_586 : decode b_L_law 586 = .ok (.iload_n 3, 1) := by decide +kernel
theorem d_L_law_587 : decode b_L_law 587 = .ok (.iconst 1, 1) := by decide +kernel
theorem d_L_law_588 : decode b_L_law 588 = .ok (.iadd, 1) := by decide +kernel
theorem d_L_law_589 : decode b_L_law 589 = .ok (.iaload, 1) := by decide +kernel
theorem d_L_law_590 : decode b_L_law 590 = .ok (.aload_n 0, 1) := by decide +kernel
theorem d_L_law_591 : decode b_L_law 591 = .ok (.iload_n 3, 1) := by decide +kernel
theorem d_L_law_592 : decode b_L_law 592 = .ok (.iconst 2, 1) := by decide +kernel
theorem d_L_law_593 : decode b_L_law 593 = .ok (.iadd, 1) := by decide +kernel
theorem d_L_law_594 : decode b_L_law 594 = .ok (.iaload, 1) := by decide +kernel
theorem d_L_law_595 : decode b_L_law 595 = .ok (.invokevirtual 88, 3) := by decide +kernel
theorem d_L_law_598 : decode b_L_law 598 = .ok (.pop, 1) := by decide +kernel
theorem d_L_law_599 : decode b_L_law 599 = .ok (.goto 49, 3) := by decide +kernel
theorem d_L_law_602 : decode b_L_law 602 = .ok (.aload_n 1, 1) := by decide +kernel
theorem d_L_law_603 : decode b_L_law 603 = .ok (.aload_n 0, 1) := by decide +kernel
theorem d_L_law_604 : decode b_L_law 604 = .ok (.iload_n 3, 1) := by decide +kernel
theorem d_L_law_605 : decode b_L_law 605 = .ok (.iconst 1, 1) := by decide +kernel
theorem d_L_law_606 : decode b_L_law 606 = .ok (.iadd, 1) := by decide +kernel
theorem d_L_law_607 : decode b_L_law 607 = .ok (.iaload, 1) := by decide +kernel
theorem d_L_law_608 : decode b_L_law 608 = .ok (.invokevirtual 89, 3) := by decide +kernel
theorem d_L_law_611 : decode b_L_law 611 = .ok (.pop, 1) := by decide +kernel
theorem d_L_law_612 : decode b_L_law 612 = .ok (.aload_n 2, 1) := by decide +kernel
theorem d_L_law_613 : decode b_L_law 613 = .ok (.aload_n 0, 1) := by decide +kernel
theorem d_L_law_614 : decode b_L_law 614 = .ok (.iload_n 3, 1) := by decide +kernel
theorem d_L_law_615 : decode b_L_law 615 = .ok (.iconst 1, 1) := by decide +kernel
theorem d_L_law_616 : decode b_L_law 616 = .ok (.iadd, 1) := by decide +kernel
theorem d_L_law_617 : decode b_L_law 617 = .ok (.iaload, 1) := by decide +kernel
theorem d_L_law_618 : decode b_L_law 618 = .ok (.invokevirtual 92, 3) := by decide +kernel
theorem d_L_law_621 : decode b_L_law 621 = .ok (.pop, 1) := by decide +kernel
theorem d_L_law_622 : decode b_L_law 622 = .ok (.goto 26, 3) := by decide +kernel
theorem d_L_law_625 : decode b_L_law 625 = .ok (.aload_n 1, 1) := by decide +kernel
theorem d_L_law_626 : decode b_L_law 626 = .ok (.aload_n 0, 1) := by decide +kernel
theorem d_L_law_627 : decode b_L_law 627 = .ok (.iload_n 3, 1) := by decide +kernel
theorem d_L_law_628 : decode b_L_law 628 = .ok (.iconst 1, 1) := by decide +kernel
theorem d_L_law_629 : decode b_L_law 629 = .ok (.iadd, 1) := by decide +kernel
theorem d_L_law_630 : decode b_L_law 630 = .ok (.iaload, 1) := by decide +kernel
theorem d_L_law_631 : decode b_L_law 631 = .ok (.invokevirtual 93, 3) := by decide +kernel
theorem d_L_law_634 : decode b_L_law 634 = .ok (.pop, 1) := by decide +kernel
theorem d_L_law_635 : decode b_L_law 635 = .ok (.aload_n 2, 1) := by decide +kernel
theorem d_L_law_636 : decode b_L_law 636 = .ok (.aload_n 0, 1) := by decide +kernel
theorem d_L_law_637 : decode b_L_law 637 = .ok (.iload_n 3, 1) := by decide +kernel
theorem d_L_law_638 : decode b_L_law 638 = .ok (.iconst 1, 1) := by decide +kernel
theorem d_L_law_639 : decode b_L_law 639 = .ok (.iadd, 1) := by decide +kernel
theorem d_L_law_640 : decode b_L_law 640 = .ok (.iaload, 1) := by decide +kernel
theorem d_L_law_641 : decode b_L_law 641 = .ok (.invokevirtual 96, 3) := by decide +kernel
theorem d_L_law_644 : decode b_L_law 644 = .ok (.pop, 1) := by decide +kernel
theorem d_L_law_645 : decode b_L_law 645 = .ok (.goto 3, 3) := by decide +kernel
theorem d_L_law_648 : decode b_L_law 648 = .ok (.iinc 3 4, 3) := by decide +kernel
theorem d_L_law_651 : decode b_L_law 651 = .ok (.goto (-633), 3) := by decide +kernel
theorem d_L_law_654 : decode b_L_law 654 = .ok (.iconst 1, 1) := by decide +kernel
theorem d_L_law_655 : decode b_L_law 655 = .ok (.ireturn, 1) := by decide +kernel
abbrev SL : Type := SX × SM
abbrev wL (ad : Nat → Nat) (cA : Nat → ClassId) (bd : Nat → Nat) (cB : Nat → ClassId) : SL → va_W := fun q => wX ad cA q.1 ++ wM bd cB q.2
def L_L_law_b648 (N : Nat) (xs : Nat → Int32) (L : Nat) (k18 : Int32 → SL → Option (Unit × SL)) (v3 : Int32) (σ : SL) : Option (Unit × SL) := (nm (v3 + 4) (fun (y6 : Int32) => (k18 y6 σ)))
set_option maxRecDepth 100000 in
set_option maxHeartbeats 4000000 in
theorem J_L_L_law_b648 (K : jx_E) (D : va_G) (ad : Nat → Nat) (cA : Nat → ClassId) (bd : Nat → Nat) (cB : Nat → ClassId) (b : Nat) (N : Nat) (xs : Nat → Int32) (L : Nat) (h : jx_ok K D clA (tysX cA ++ tysM cB) (fun q => (js K).heap.size ≤ q) 4 b_L_law "InferReduceLaw" lw_tbl room_1 ret) (hX : va_X b L xs (js K) (js K).heap) (hbl : b < (js K).heap.size) (hbA : ¬ (fun q => (js K).heap.size ≤ q) b) (ha : ja K = #[Value.ref b]) (k18 : Int32 → SL → Option (Unit × SL)) (hk18 : ∀ (v3 : Int32) (σ : SL), J K D clA (fun q => (js K).heap.size ≤ q) 4 (wL ad cA bd cB) (fun (_ : Unit) (_ : SL) => lw_Z (jb K) #[Value.ref b] (js K)) 89 27006 18 [(0, .ref b), (1, .ref (ad 0)), (2, .ref (bd 0)), (3, .int v3)] [] σ (k18 v3 σ)) : ∀ (v3 : Int32) (σ : SL), J K D clA (fun q => (js K).heap.size ≤ q) 4 (wL ad cA bd cB) (fun (_ : Unit) (_ : SL) => lw_Z (jb K) #[Value.ref b] (js K)) 89 27006 648 [(0, .ref b), (1, .ref (ad 0)), (2, .ref (bd 0)), (3, .int v3)] [] σ (L_L_law_b648 N xs L k18 v3 σ) := by
  intro v3 σ
  rw [L_L_law_b648]
  refine J_iinc (q := 3) (c := 4) (lv' := fun y6 => [(3, .int y6), (0, .ref b), (1, .ref (ad 0)), (2, .ref (bd 0))]) h d_L_law_648 rfl (by decide) (by decide) (fun _ => rfl) (fun y6 => ?_)
  refine J_goto (tgt := 18) h d_L_law_651 (by decide) ?_
  refine J_sub [1, 2, 3, 0] rfl ?_
  exact hk18 y6 σ
def L_L_law_L18 (N : Nat) (xs : Nat → Int32) (L : Nat) : Nat → Int32 → SL → Option (Unit × SL)
  | 0, _, _ => none
  | n + 1, v3, σ => (if ((Int32.ofNat L) - 4) < v3 then (some ((), σ)) else (if ck v3 L = true then (nm (((xs v3.toNatClampNeg) &&& 31)) (fun (y1 : Int32) => (if y1 = 0 then (if ck (v3 + 1) L = true then (bd (X_I_declare (xs (v3 + 1).toNatClampNeg) σ.1) (fun (r2 : Int32) (σ3 : SX) => (if ck (v3 + 1) L = true then (bd (M_M_declare (xs (v3 + 1).toNatClampNeg) σ.2) (fun (r4 : Int32) (σ5 : SM) => (if r2 = r4 then (L_L_law_b648 N xs L (L_L_law_L18 N xs L  n) v3 (σ3, σ5)) else none))) else none))) else none) else (if y1 = 1 then (if ck (v3 + 1) L = true then (if ck (v3 + 2) L = true then (bd (X_I_parent N (xs (v3 + 1).toNatClampNeg) (xs (v3 + 2).toNatClampNeg) σ.1) (fun (r7 : Int32) (σ8 : SX) => (if ck (v3 + 1) L = true then (if ck (v3 + 2) L = true then (bd (M_M_parent N (xs (v3 + 1).toNatClampNeg) (xs (v3 + 2).toNatClampNeg) σ.2) (fun (r9 : Int32) (σ10 : SM) => (L_L_law_b648 N xs L (L_L_law_L18 N xs L  n) v3 (σ8, σ10)))) else none) else none))) else none) else none) else (if y1 = 2 then (if ck (v3 + 1) L = true then (bd (X_I_plain N (xs (v3 + 1).toNatClampNeg) σ.1) (fun (r11 : Int32) (σ12 : SX) => (if ck (v3 + 1) L = true then (bd (M_M_plain N (xs (v3 + 1).toNatClampNeg) σ.2) (fun (r13 : Int32) (σ14 : SM) => (L_L_law_b648 N xs L (L_L_law_L18 N xs L  n) v3 (σ12, σ14)))) else none))) else none) else (if y1 = 3 then (if ck (v3 + 1) L = true then (if ck (v3 + 2) L = true then (if ck (v3 + 3) L = true then (bd (X_I_of N (xs (v3 + 1).toNatClampNeg) (xs (v3 + 2).toNatClampNeg) (xs (v3 + 3).toNatClampNeg) σ.1) (fun (r15 : Int32) (σ16 : SX) => (if ck (v3 + 1) L = true then (if ck (v3 + 2) L = true then (if ck (v3 + 3) L = true then (bd (M_M_of N (xs (v3 + 1).toNatClampNeg) (xs (v3 + 2).toNatClampNeg) (xs (v3 + 3).toNatClampNeg) σ.2) (fun (r17 : Int32) (σ18 : SM) => (L_L_law_b648 N xs L (L_L_law_L18 N xs L  n) v3 (σ16, σ18)))) else none) else none) else none))) else none) else none) else none) else (if y1 = 4 then (if ck (v3 + 1) L = true then (if ck (v3 + 2) L = true then (bd (X_I_wild N (xs (v3 + 1).toNatClampNeg) (xs (v3 + 2).toNatClampNeg) σ.1) (fun (r19 : Int32) (σ20 : SX) => (if ck (v3 + 1) L = true then (if ck (v3 + 2) L = true then (bd (M_M_wild N (xs (v3 + 1).toNatClampNeg) (xs (v3 + 2).toNatClampNeg) σ.2) (fun (r21 : Int32) (σ22 : SM) => (L_L_law_b648 N xs L (L_L_law_L18 N xs L  n) v3 (σ20, σ22)))) else none) else none))) else none) else none) else (if y1 = 5 then (if ck (v3 + 1) L = true then (if ck (v3 + 2) L = true then (bd (X_I_parameter N (xs (v3 + 1).toNatClampNeg) (xs (v3 + 2).toNatClampNeg) σ.1) (fun (r23 : Int32) (σ24 : SX) => (if ck (v3 + 1) L = true then (if ck (v3 + 2) L = true then (bd (M_M_parameter N (xs (v3 + 1).toNatClampNeg) (xs (v3 + 2).toNatClampNeg) σ.2) (fun (r25 : Int32) (σ26 : SM) => (L_L_law_b648 N xs L (L_L_law_L18 N xs L  n) v3 (σ24, σ26)))) else none) else none))) else none) else none) else (if y1 = 6 then (if ck (v3 + 1) L = true then (bd (X_I_array N (xs (v3 + 1).toNatClampNeg) σ.1) (fun (r27 : Int32) (σ28 : SX) => (if ck (v3 + 1) L = true then (bd (M_M_array N (xs (v3 + 1).toNatClampNeg) σ.2) (fun (r29 : Int32) (σ30 : SM) => (L_L_law_b648 N xs L (L_L_law_L18 N xs L  n) v3 (σ28, σ30)))) else none))) else none) else (if y1 = 7 then (if ck (v3 + 1) L = true then (bd (X_I_primitive N (xs (v3 + 1).toNatClampNeg) σ.1) (fun (r31 : Int32) (σ32 : SX) => (if ck (v3 + 1) L = true then (bd (M_M_primitive N (xs (v3 + 1).toNatClampNeg) σ.2) (fun (r33 : Int32) (σ34 : SM) => (L_L_law_b648 N xs L (L_L_law_L18 N xs L  n) v3 (σ32, σ34)))) else none))) else none) else (if y1 = 8 then (bd (X_I_nothing N σ.1) (fun (r35 : Int32) (σ36 : SX) => (bd (M_M_nothing N σ.2) (fun (r37 : Int32) (σ38 : SM) => (L_L_law_b648 N xs L (L_L_law_L18 N xs L  n) v3 (σ36, σ38)))))) else (if y1 = 9 then (bd (X_I_variable N σ.1) (fun (r39 : Int32) (σ40 : SX) => (bd (M_M_variable N σ.2) (fun (r41 : Int32) (σ42 : SM) => (L_L_law_b648 N xs L (L_L_law_L18 N xs L  n) v3 (σ40, σ42)))))) else (if y1 = 10 then (if ck (v3 + 1) L = true then (if ck (v3 + 2) L = true then (if ck (v3 + 3) L = true then (bd (X_I_formula N (xs (v3 + 1).toNatClampNeg) (xs (v3 + 2).toNatClampNeg) (xs (v3 + 3).toNatClampNeg) σ.1) (fun (r43 : Int32) (σ44 : SX) => (if ck (v3 + 1) L = true then (if ck (v3 + 2) L = true then (if ck (v3 + 3) L = true then (bd (M_M_formula N (xs (v3 + 1).toNatClampNeg) (xs (v3 + 2).toNatClampNeg) (xs (v3 + 3).toNatClampNeg) σ.2) (fun (r45 : Int32) (σ46 : SM) => (L_L_law_b648 N xs L (L_L_law_L18 N xs L  n) v3 (σ44, σ46)))) else none) else none) else none))) else none) else none) else none) else (if y1 = 11 then (bd (X_I_resolve N σ.1) (fun (r47 : Int32) (σ48 : SX) => (bd (M_M_resolve N σ.2) (fun (r49 : Int32) (σ50 : SM) => (L_L_law_b648 N xs L (L_L_law_L18 N xs L  n) v3 (σ48, σ50)))))) else (if y1 = 12 then (bd (X_I_clear σ.1) (fun (r51 : Int32) (σ52 : SX) => (bd (M_M_clear σ.2) (fun (r53 : Int32) (σ54 : SM) => (L_L_law_b648 N xs L (L_L_law_L18 N xs L  n) v3 (σ52, σ54)))))) else (if y1 = 13 then (if ck (v3 + 1) L = true then (bd (X_I_count (xs (v3 + 1).toNatClampNeg) σ.1) (fun (r55 : Int32) (σ56 : SX) => (if ck (v3 + 1) L = true then (bd (M_M_count (xs (v3 + 1).toNatClampNeg) σ.2) (fun (r57 : Int32) (σ58 : SM) => (L_L_law_b648 N xs L (L_L_law_L18 N xs L  n) v3 (σ56, σ58)))) else none))) else none) else (if y1 = 14 then (if ck (v3 + 1) L = true then (if ck (v3 + 2) L = true then (bd (X_I_type (xs (v3 + 1).toNatClampNeg) (xs (v3 + 2).toNatClampNeg) σ.1) (fun (r59 : Int32) (σ60 : SX) => (if ck (v3 + 1) L = true then (if ck (v3 + 2) L = true then (bd (M_M_type (xs (v3 + 1).toNatClampNeg) (xs (v3 + 2).toNatClampNeg) σ.2) (fun (r61 : Int32) (σ62 : SM) => (L_L_law_b648 N xs L (L_L_law_L18 N xs L  n) v3 (σ60, σ62)))) else none) else none))) else none) else none) else (if y1 = 15 then (if ck (v3 + 1) L = true then (if ck (v3 + 2) L = true then (bd (X_I_bound (xs (v3 + 1).toNatClampNeg) (xs (v3 + 2).toNatClampNeg) σ.1) (fun (r63 : Int32) (σ64 : SX) => (if ck (v3 + 1) L = true then (if ck (v3 + 2) L = true then (bd (M_M_bound (xs (v3 + 1).toNatClampNeg) (xs (v3 + 2).toNatClampNeg) σ.2) (fun (r65 : Int32) (σ66 : SM) => (L_L_law_b648 N xs L (L_L_law_L18 N xs L  n) v3 (σ64, σ66)))) else none) else none))) else none) else none) else (if y1 = 16 then (if ck (v3 + 1) L = true then (bd (X_I_instance N (xs (v3 + 1).toNatClampNeg) σ.1) (fun (r67 : Int32) (σ68 : SX) => (if ck (v3 + 1) L = true then (bd (M_M_instance N (xs (v3 + 1).toNatClampNeg) σ.2) (fun (r69 : Int32) (σ70 : SM) => (L_L_law_b648 N xs L (L_L_law_L18 N xs L  n) v3 (σ68, σ70)))) else none))) else none) else (if y1 = 17 then (if ck (v3 + 1) L = true then (if ck (v3 + 2) L = true then (bd (X_I_above N (xs (v3 + 1).toNatClampNeg) (xs (v3 + 2).toNatClampNeg) σ.1) (fun (r71 : Int32) (σ72 : SX) => (if ck (v3 + 1) L = true then (if ck (v3 + 2) L = true then (bd (M_M_above N (xs (v3 + 1).toNatClampNeg) (xs (v3 + 2).toNatClampNeg) σ.2) (fun (r73 : Int32) (σ74 : SM) => (L_L_law_b648 N xs L (L_L_law_L18 N xs L  n) v3 (σ72, σ74)))) else none) else none))) else none) else none) else (if y1 = 18 then (if ck (v3 + 1) L = true then (bd (X_I_unchecked (xs (v3 + 1).toNatClampNeg) σ.1) (fun (r75 : Int32) (σ76 : SX) => (if ck (v3 + 1) L = true then (bd (M_M_unchecked (xs (v3 + 1).toNatClampNeg) σ.2) (fun (r77 : Int32) (σ78 : SM) => (L_L_law_b648 N xs L (L_L_law_L18 N xs L  n) v3 (σ76, σ78)))) else none))) else none) else (if y1 = 19 then (if ck (v3 + 1) L = true then (bd (X_I_judge N (xs (v3 + 1).toNatClampNeg) σ.1) (fun (r79 : Int32) (σ80 : SX) => (if ck (v3 + 1) L = true then (bd (M_M_judge N (xs (v3 + 1).toNatClampNeg) σ.2) (fun (r81 : Int32) (σ82 : SM) => (L_L_law_b648 N xs L (L_L_law_L18 N xs L  n) v3 (σ80, σ82)))) else none))) else none) else (L_L_law_b648 N xs L (L_L_law_L18 N xs L  n) v3 σ))))))))))))))))))))))) else none))
set_option maxRecDepth 100000 in
set_option maxHeartbeats 4000000 in
theorem J_L_L_law_L18 (K : jx_E) (D : va_G) (ad : Nat → Nat) (cA : Nat → ClassId) (bd : Nat → Nat) (cB : Nat → ClassId) (b : Nat) (N : Nat) (xs : Nat → Int32) (L : Nat) (h : jx_ok K D clA (tysX cA ++ tysM cB) (fun q => (js K).heap.size ≤ q) 4 b_L_law "InferReduceLaw" lw_tbl room_1 ret) (hX : va_X b L xs (js K) (js K).heap) (hbl : b < (js K).heap.size) (hbA : ¬ (fun q => (js K).heap.size ≤ q) b) (ha : ja K = #[Value.ref b]) : ∀ (n : Nat) (v3 : Int32) (σ : SL), J K D clA (fun q => (js K).heap.size ≤ q) 4 (wL ad cA bd cB) (fun (_ : Unit) (_ : SL) => lw_Z (jb K) #[Value.ref b] (js K)) 89 27006 18 [(0, .ref b), (1, .ref (ad 0)), (2, .ref (bd 0)), (3, .int v3)] [] σ (L_L_law_L18 N xs L n v3 σ) := by
  intro n
  induction n with
  | zero => intro v3 σ; exact J_none
  | succ n ih =>
    intro v3 σ
    rw [L_L_law_L18]
    refine J_iload_n (q := 3) h d_L_law_18 rfl rfl ?_
    refine J_aload_n (q := 0) h d_L_law_19 rfl rfl ?_
    refine J_slen h hX hbl hbA d_L_law_20 ?_
    refine J_iconst (v := 4) h d_L_law_21 (by decide) ?_
    refine J_isub h d_L_law_22 ?_
    refine J_icmp_gt (tgt := 654) h d_L_law_23 (by decide) ?_ ?_
    · refine J_iconst (v := 1) h d_L_law_654 (by decide) ?_
      exact J_one h ha (Nat.le_of_ble_eq_true rfl) (Nat.le_of_ble_eq_true rfl) d_L_law_655
    · refine J_aload_n (q := 0) h d_L_law_26 rfl rfl ?_
      refine J_iload_n (q := 3) h d_L_law_27 rfl rfl ?_
      refine J_sld h hX hbl hbA d_L_law_28 ?_
      refine J_bipush (v := 31) h d_L_law_29 (by decide) ?_
      refine J_iand h d_L_law_31 ?_
      refine J_nmi (fun y1 => ?_)
      refine J_if (fun c0 => ?_) (fun c0 => ?_)
      · refine J_tblIn (v := 0) (off := 96) (tgt := 128) h c0 d_L_law_32 (by decide) (by decide) (by decide) (by decide) ?_
        refine J_aload_n (q := 1) h d_L_law_128 rfl rfl ?_
        refine J_aload_n (q := 0) h d_L_law_129 rfl rfl ?_
        refine J_iload_n (q := 3) h d_L_law_130 rfl rfl ?_
        refine J_iconst (v := 1) h d_L_law_131 (by decide) ?_
        refine J_iadd h d_L_law_132 ?_
        refine J_sld h hX hbl hbA d_L_law_133 ?_
        refine J_callP (tyx := tysX cA) (tym := tysM cB) (wx := wX ad cA) (wm := wM bd cB) (As := [.int (xs (v3 + 1).toNatClampNeg)]) (st := []) (rmc := rX_I_declare) (q0 := 0) h (fun _ _ hf => cX_I_declare (jl K) D ad cA (xs (v3 + 1).toNatClampNeg) σ.1 _ _ hf) (gl_V q_2_106 q_2_107 q_2_108 q_1_1 q_2_109) rfl ⟨rfl, rfl⟩ dd_I_declare ⟨Nat.le_of_ble_eq_true rfl, Nat.le_of_ble_eq_true rfl⟩ rfl rfl (wX_0 ad cA σ.1) rfl rfl (Nat.le_of_ble_eq_true rfl) ⟨Nat.le_of_ble_eq_true rfl, Nat.le_of_ble_eq_true rfl⟩ d_L_law_134 (fun r2 σ3 => ?_)
        refine J_aload_n (q := 2) h d_L_law_137 rfl rfl ?_
        refine J_aload_n (q := 0) h d_L_law_138 rfl rfl ?_
        refine J_iload_n (q := 3) h d_L_law_139 rfl rfl ?_
        refine J_iconst (v := 1) h d_L_law_140 (by decide) ?_
        refine J_iadd h d_L_law_141 ?_
        refine J_sld h hX hbl hbA d_L_law_142 ?_
        refine J_callQ (tyx := tysX cA) (tym := tysM cB) (wx := wX ad cA) (wm := wM bd cB) (As := [.int (xs (v3 + 1).toNatClampNeg)]) (st := [.int r2]) (rmc := rM_M_declare) (q0 := 0) h (fun _ _ hf => cM_M_declare (jl K) D bd cB (xs (v3 + 1).toNatClampNeg) σ.2 _ _ hf) (gl_V q_5_38 q_5_39 q_5_40 q_1_12 q_5_41) rfl ⟨rfl, rfl⟩ dd_M_declare ⟨Nat.le_of_ble_eq_true rfl, Nat.le_of_ble_eq_true rfl⟩ rfl rfl (wM_0 bd cB σ.2) rfl rfl (Nat.le_of_ble_eq_true rfl) ⟨Nat.le_of_ble_eq_true rfl, Nat.le_of_ble_eq_true rfl⟩ d_L_law_143 (fun r4 σ5 => ?_)
        refine J_icmp_eq (tgt := 648) h d_L_law_146 (by decide) ?_ ?_
        · exact J_L_L_law_b648 K D ad cA bd cB b N xs L h hX hbl hbA ha (L_L_law_L18 N xs L  n) ih v3 (σ3, σ5)
        · refine J_iconst (v := 0) h d_L_law_149 (by decide) ?_
          exact J_none
      refine J_if (fun c1 => ?_) (fun c1 => ?_)
      · refine J_tblIn (v := 1) (off := 119) (tgt := 151) h c1 d_L_law_32 (by decide) (by decide) (by decide) (by decide) ?_
        refine J_aload_n (q := 1) h d_L_law_151 rfl rfl ?_
        refine J_aload_n (q := 0) h d_L_law_152 rfl rfl ?_
        refine J_iload_n (q := 3) h d_L_law_153 rfl rfl ?_
        refine J_iconst (v := 1) h d_L_law_154 (by decide) ?_
        refine J_iadd h d_L_law_155 ?_
        refine J_sld h hX hbl hbA d_L_law_156 ?_
        refine J_aload_n (q := 0) h d_L_law_157 rfl rfl ?_
        refine J_iload_n (q := 3) h d_L_law_158 rfl rfl ?_
        refine J_iconst (v := 2) h d_L_law_159 (by decide) ?_
        refine J_iadd h d_L_law_160 ?_
        refine J_sld h hX hbl hbA d_L_law_161 ?_
        refine J_callP (tyx := tysX cA) (tym := tysM cB) (wx := wX ad cA) (wm := wM bd cB) (As := [.int (xs (v3 + 1).toNatClampNeg), .int (xs (v3 + 2).toNatClampNeg)]) (st := []) (rmc := rX_I_parent) (q0 := 0) h (fun _ _ hf => cX_I_parent (jl K) D ad cA N (xs (v3 + 1).toNatClampNeg) (xs (v3 + 2).toNatClampNeg) σ.1 _ _ hf) (gl_V q_2_114 q_2_115 q_2_116 q_1_1 q_2_117) rfl ⟨rfl, rfl⟩ dd_I_parent ⟨Nat.le_of_ble_eq_true rfl, Nat.le_of_ble_eq_true rfl⟩ rfl rfl (wX_0 ad cA σ.1) rfl rfl (Nat.le_of_ble_eq_true rfl) ⟨Nat.le_of_ble_eq_true rfl, Nat.le_of_ble_eq_true rfl⟩ d_L_law_162 (fun r7 σ8 => ?_)
        refine J_pop h d_L_law_165 rfl ?_
        refine J_aload_n (q := 2) h d_L_law_166 rfl rfl ?_
        refine J_aload_n (q := 0) h d_L_law_167 rfl rfl ?_
        refine J_iload_n (q := 3) h d_L_law_168 rfl rfl ?_
        refine J_iconst (v := 1) h d_L_law_169 (by decide) ?_
        refine J_iadd h d_L_law_170 ?_
        refine J_sld h hX hbl hbA d_L_law_171 ?_
        refine J_aload_n (q := 0) h d_L_law_172 rfl rfl ?_
        refine J_iload_n (q := 3) h d_L_law_173 rfl rfl ?_
        refine J_iconst (v := 2) h d_L_law_174 (by decide) ?_
        refine J_iadd h d_L_law_175 ?_
        refine J_sld h hX hbl hbA d_L_law_176 ?_
        refine J_callQ (tyx := tysX cA) (tym := tysM cB) (wx := wX ad cA) (wm := wM bd cB) (As := [.int (xs (v3 + 1).toNatClampNeg), .int (xs (v3 + 2).toNatClampNeg)]) (st := []) (rmc := rM_M_parent) (q0 := 0) h (fun _ _ hf => cM_M_parent (jl K) D bd cB N (xs (v3 + 1).toNatClampNeg) (xs (v3 + 2).toNatClampNeg) σ.2 _ _ hf) (gl_V q_5_42 q_5_43 q_5_44 q_1_12 q_5_45) rfl ⟨rfl, rfl⟩ dd_M_parent ⟨Nat.le_of_ble_eq_true rfl, Nat.le_of_ble_eq_true rfl⟩ rfl rfl (wM_0 bd cB σ.2) rfl rfl (Nat.le_of_ble_eq_true rfl) ⟨Nat.le_of_ble_eq_true rfl, Nat.le_of_ble_eq_true rfl⟩ d_L_law_177 (fun r9 σ10 => ?_)
        refine J_pop h d_L_law_180 rfl ?_
        refine J_goto (tgt := 648) h d_L_law_181 (by decide) ?_
        exact J_L_L_law_b648 K D ad cA bd cB b N xs L h hX hbl hbA ha (L_L_law_L18 N xs L  n) ih v3 (σ8, σ10)
      refine J_if (fun c2 => ?_) (fun c2 => ?_)
      · refine J_tblIn (v := 2) (off := 152) (tgt := 184) h c2 d_L_law_32 (by decide) (by decide) (by decide) (by decide) ?_
        refine J_aload_n (q := 1) h d_L_law_184 rfl rfl ?_
        refine J_aload_n (q := 0) h d_L_law_185 rfl rfl ?_
        refine J_iload_n (q := 3) h d_L_law_186 rfl rfl ?_
        refine J_iconst (v := 1) h d_L_law_187 (by decide) ?_
        refine J_iadd h d_L_law_188 ?_
        refine J_sld h hX hbl hbA d_L_law_189 ?_
        refine J_callP (tyx := tysX cA) (tym := tysM cB) (wx := wX ad cA) (wm := wM bd cB) (As := [.int (xs (v3 + 1).toNatClampNeg)]) (st := []) (rmc := rX_I_plain) (q0 := 0) h (fun _ _ hf => cX_I_plain (jl K) D ad cA N (xs (v3 + 1).toNatClampNeg) σ.1 _ _ hf) (gl_V q_2_168 q_2_169 q_2_170 q_1_1 q_2_171) rfl ⟨rfl, rfl⟩ dd_I_plain ⟨Nat.le_of_ble_eq_true rfl, Nat.le_of_ble_eq_true rfl⟩ rfl rfl (wX_0 ad cA σ.1) rfl rfl (Nat.le_of_ble_eq_true rfl) ⟨Nat.le_of_ble_eq_true rfl, Nat.le_of_ble_eq_true rfl⟩ d_L_law_190 (fun r11 σ12 => ?_)
        refine J_pop h d_L_law_193 rfl ?_
        refine J_aload_n (q := 2) h d_L_law_194 rfl rfl ?_
        refine J_aload_n (q := 0) h d_L_law_195 rfl rfl ?_
        refine J_iload_n (q := 3) h d_L_law_196 rfl rfl ?_
        refine J_iconst (v := 1) h d_L_law_197 (by decide) ?_
        refine J_iadd h d_L_law_198 ?_
        refine J_sld h hX hbl hbA d_L_law_199 ?_
        refine J_callQ (tyx := tysX cA) (tym := tysM cB) (wx := wX ad cA) (wm := wM bd cB) (As := [.int (xs (v3 + 1).toNatClampNeg)]) (st := []) (rmc := rM_M_plain) (q0 := 0) h (fun _ _ hf => cM_M_plain (jl K) D bd cB N (xs (v3 + 1).toNatClampNeg) σ.2 _ _ hf) (gl_V q_5_66 q_5_67 q_5_68 q_1_12 q_5_69) rfl ⟨rfl, rfl⟩ dd_M_plain ⟨Nat.le_of_ble_eq_true rfl, Nat.le_of_ble_eq_true rfl⟩ rfl rfl (wM_0 bd cB σ.2) rfl rfl (Nat.le_of_ble_eq_true rfl) ⟨Nat.le_of_ble_eq_true rfl, Nat.le_of_ble_eq_true rfl⟩ d_L_law_200 (fun r13 σ14 => ?_)
        refine J_pop h d_L_law_203 rfl ?_
        refine J_goto (tgt := 648) h d_L_law_204 (by decide) ?_
        exact J_L_L_law_b648 K D ad cA bd cB b N xs L h hX hbl hbA ha (L_L_law_L18 N xs L  n) ih v3 (σ12, σ14)
      refine J_if (fun c3 => ?_) (fun c3 => ?_)
      · refine J_tblIn (v := 3) (off := 175) (tgt := 207) h c3 d_L_law_32 (by decide) (by decide) (by decide) (by decide) ?_
        refine J_aload_n (q := 1) h d_L_law_207 rfl rfl ?_
        refine J_aload_n (q := 0) h d_L_law_208 rfl rfl ?_
        refine J_iload_n (q := 3) h d_L_law_209 rfl rfl ?_
        refine J_iconst (v := 1) h d_L_law_210 (by decide) ?_
        refine J_iadd h d_L_law_211 ?_
        refine J_sld h hX hbl hbA d_L_law_212 ?_
        refine J_aload_n (q := 0) h d_L_law_213 rfl rfl ?_
        refine J_iload_n (q := 3) h d_L_law_214 rfl rfl ?_
        refine J_iconst (v := 2) h d_L_law_215 (by decide) ?_
        refine J_iadd h d_L_law_216 ?_
        refine J_sld h hX hbl hbA d_L_law_217 ?_
        refine J_aload_n (q := 0) h d_L_law_218 rfl rfl ?_
        refine J_iload_n (q := 3) h d_L_law_219 rfl rfl ?_
        refine J_iconst (v := 3) h d_L_law_220 (by decide) ?_
        refine J_iadd h d_L_law_221 ?_
        refine J_sld h hX hbl hbA d_L_law_222 ?_
        refine J_callP (tyx := tysX cA) (tym := tysM cB) (wx := wX ad cA) (wm := wM bd cB) (As := [.int (xs (v3 + 1).toNatClampNeg), .int (xs (v3 + 2).toNatClampNeg), .int (xs (v3 + 3).toNatClampNeg)]) (st := []) (rmc := rX_I_of) (q0 := 0) h (fun _ _ hf => cX_I_of (jl K) D ad cA N (xs (v3 + 1).toNatClampNeg) (xs (v3 + 2).toNatClampNeg) (xs (v3 + 3).toNatClampNeg) σ.1 _ _ hf) (gl_V q_2_176 q_2_177 q_2_178 q_1_1 q_2_179) rfl ⟨rfl, rfl⟩ dd_I_of ⟨Nat.le_of_ble_eq_true rfl, Nat.le_of_ble_eq_true rfl⟩ rfl rfl (wX_0 ad cA σ.1) rfl rfl (Nat.le_of_ble_eq_true rfl) ⟨Nat.le_of_ble_eq_true rfl, Nat.le_of_ble_eq_true rfl⟩ d_L_law_223 (fun r15 σ16 => ?_)
        refine J_pop h d_L_law_226 rfl ?_
        refine J_aload_n (q := 2) h d_L_law_227 rfl rfl ?_
        refine J_aload_n (q := 0) h d_L_law_228 rfl rfl ?_
        refine J_iload_n (q := 3) h d_L_law_229 rfl rfl ?_
        refine J_iconst (v := 1) h d_L_law_230 (by decide) ?_
        refine J_iadd h d_L_law_231 ?_
        refine J_sld h hX hbl hbA d_L_law_232 ?_
        refine J_aload_n (q := 0) h d_L_law_233 rfl rfl ?_
        refine J_iload_n (q := 3) h d_L_law_234 rfl rfl ?_
        refine J_iconst (v := 2) h d_L_law_235 (by decide) ?_
        refine J_iadd h d_L_law_236 ?_
        refine J_sld h hX hbl hbA d_L_law_237 ?_
        refine J_aload_n (q := 0) h d_L_law_238 rfl rfl ?_
        refine J_iload_n (q := 3) h d_L_law_239 rfl rfl ?_
        refine J_iconst (v := 3) h d_L_law_240 (by decide) ?_
        refine J_iadd h d_L_law_241 ?_
        refine J_sld h hX hbl hbA d_L_law_242 ?_
        refine J_callQ (tyx := tysX cA) (tym := tysM cB) (wx := wX ad cA) (wm := wM bd cB) (As := [.int (xs (v3 + 1).toNatClampNeg), .int (xs (v3 + 2).toNatClampNeg), .int (xs (v3 + 3).toNatClampNeg)]) (st := []) (rmc := rM_M_of) (q0 := 0) h (fun _ _ hf => cM_M_of (jl K) D bd cB N (xs (v3 + 1).toNatClampNeg) (xs (v3 + 2).toNatClampNeg) (xs (v3 + 3).toNatClampNeg) σ.2 _ _ hf) (gl_V q_5_82 q_5_83 q_5_84 q_1_12 q_5_85) rfl ⟨rfl, rfl⟩ dd_M_of ⟨Nat.le_of_ble_eq_true rfl, Nat.le_of_ble_eq_true rfl⟩ rfl rfl (wM_0 bd cB σ.2) rfl rfl (Nat.le_of_ble_eq_true rfl) ⟨Nat.le_of_ble_eq_true rfl, Nat.le_of_ble_eq_true rfl⟩ d_L_law_243 (fun r17 σ18 => ?_)
        refine J_pop h d_L_law_246 rfl ?_
        refine J_goto (tgt := 648) h d_L_law_247 (by decide) ?_
        exact J_L_L_law_b648 K D ad cA bd cB b N xs L h hX hbl hbA ha (L_L_law_L18 N xs L  n) ih v3 (σ16, σ18)
      refine J_if (fun c4 => ?_) (fun c4 => ?_)
      · refine J_tblIn (v := 4) (off := 218) (tgt := 250) h c4 d_L_law_32 (by decide) (by decide) (by decide) (by decide) ?_
        refine J_aload_n (q := 1) h d_L_law_250 rfl rfl ?_
        refine J_aload_n (q := 0) h d_L_law_251 rfl rfl ?_
        refine J_iload_n (q := 3) h d_L_law_252 rfl rfl ?_
        refine J_iconst (v := 1) h d_L_law_253 (by decide) ?_
        refine J_iadd h d_L_law_254 ?_
        refine J_sld h hX hbl hbA d_L_law_255 ?_
        refine J_aload_n (q := 0) h d_L_law_256 rfl rfl ?_
        refine J_iload_n (q := 3) h d_L_law_257 rfl rfl ?_
        refine J_iconst (v := 2) h d_L_law_258 (by decide) ?_
        refine J_iadd h d_L_law_259 ?_
        refine J_sld h hX hbl hbA d_L_law_260 ?_
        refine J_callP (tyx := tysX cA) (tym := tysM cB) (wx := wX ad cA) (wm := wM bd cB) (As := [.int (xs (v3 + 1).toNatClampNeg), .int (xs (v3 + 2).toNatClampNeg)]) (st := []) (rmc := rX_I_wild) (q0 := 0) h (fun _ _ hf => cX_I_wild (jl K) D ad cA N (xs (v3 + 1).toNatClampNeg) (xs (v3 + 2).toNatClampNeg) σ.1 _ _ hf) (gl_V q_2_188 q_2_189 q_2_190 q_1_1 q_2_191) rfl ⟨rfl, rfl⟩ dd_I_wild ⟨Nat.le_of_ble_eq_true rfl, Nat.le_of_ble_eq_true rfl⟩ rfl rfl (wX_0 ad cA σ.1) rfl rfl (Nat.le_of_ble_eq_true rfl) ⟨Nat.le_of_ble_eq_true rfl, Nat.le_of_ble_eq_true rfl⟩ d_L_law_261 (fun r19 σ20 => ?_)
        refine J_pop h d_L_law_264 rfl ?_
        refine J_aload_n (q := 2) h d_L_law_265 rfl rfl ?_
        refine J_aload_n (q := 0) h d_L_law_266 rfl rfl ?_
        refine J_iload_n (q := 3) h d_L_law_267 rfl rfl ?_
        refine J_iconst (v := 1) h d_L_law_268 (by decide) ?_
        refine J_iadd h d_L_law_269 ?_
        refine J_sld h hX hbl hbA d_L_law_270 ?_
        refine J_aload_n (q := 0) h d_L_law_271 rfl rfl ?_
        refine J_iload_n (q := 3) h d_L_law_272 rfl rfl ?_
        refine J_iconst (v := 2) h d_L_law_273 (by decide) ?_
        refine J_iadd h d_L_law_274 ?_
        refine J_sld h hX hbl hbA d_L_law_275 ?_
        refine J_callQ (tyx := tysX cA) (tym := tysM cB) (wx := wX ad cA) (wm := wM bd cB) (As := [.int (xs (v3 + 1).toNatClampNeg), .int (xs (v3 + 2).toNatClampNeg)]) (st := []) (rmc := rM_M_wild) (q0 := 0) h (fun _ _ hf => cM_M_wild (jl K) D bd cB N (xs (v3 + 1).toNatClampNeg) (xs (v3 + 2).toNatClampNeg) σ.2 _ _ hf) (gl_V q_5_90 q_5_91 q_5_92 q_1_12 q_5_93) rfl ⟨rfl, rfl⟩ dd_M_wild ⟨Nat.le_of_ble_eq_true rfl, Nat.le_of_ble_eq_true rfl⟩ rfl rfl (wM_0 bd cB σ.2) rfl rfl (Nat.le_of_ble_eq_true rfl) ⟨Nat.le_of_ble_eq_true rfl, Nat.le_of_ble_eq_true rfl⟩ d_L_law_276 (fun r21 σ22 => ?_)
        refine J_pop h d_L_law_279 rfl ?_
        refine J_goto (tgt := 648) h d_L_law_280 (by decide) ?_
        exact J_L_L_law_b648 K D ad cA bd cB b N xs L h hX hbl hbA ha (L_L_law_L18 N xs L  n) ih v3 (σ20, σ22)
      refine J_if (fun c5 => ?_) (fun c5 => ?_)
      · refine J_tblIn (v := 5) (off := 251) (tgt := 283) h c5 d_L_law_32 (by decide) (by decide) (by decide) (by decide) ?_
        refine J_aload_n (q := 1) h d_L_law_283 rfl rfl ?_
        refine J_aload_n (q := 0) h d_L_law_284 rfl rfl ?_
        refine J_iload_n (q := 3) h d_L_law_285 rfl rfl ?_
        refine J_iconst (v := 1) h d_L_law_286 (by decide) ?_
        refine J_iadd h d_L_law_287 ?_
        refine J_sld h hX hbl hbA d_L_law_288 ?_
        refine J_aload_n (q := 0) h d_L_law_289 rfl rfl ?_
        refine J_iload_n (q := 3) h d_L_law_290 rfl rfl ?_
        refine J_iconst (v := 2) h d_L_law_291 (by decide) ?_
        refine J_iadd h d_L_law_292 ?_
        refine J_sld h hX hbl hbA d_L_law_293 ?_
        refine J_callP (tyx := tysX cA) (tym := tysM cB) (wx := wX ad cA) (wm := wM bd cB) (As := [.int (xs (v3 + 1).toNatClampNeg), .int (xs (v3 + 2).toNatClampNeg)]) (st := []) (rmc := rX_I_parameter) (q0 := 0) h (fun _ _ hf => cX_I_parameter (jl K) D ad cA N (xs (v3 + 1).toNatClampNeg) (xs (v3 + 2).toNatClampNeg) σ.1 _ _ hf) (gl_V q_2_192 q_2_193 q_2_194 q_1_1 q_2_195) rfl ⟨rfl, rfl⟩ dd_I_parameter ⟨Nat.le_of_ble_eq_true rfl, Nat.le_of_ble_eq_true rfl⟩ rfl rfl (wX_0 ad cA σ.1) rfl rfl (Nat.le_of_ble_eq_true rfl) ⟨Nat.le_of_ble_eq_true rfl, Nat.le_of_ble_eq_true rfl⟩ d_L_law_294 (fun r23 σ24 => ?_)
        refine J_pop h d_L_law_297 rfl ?_
        refine J_aload_n (q := 2) h d_L_law_298 rfl rfl ?_
        refine J_aload_n (q := 0) h d_L_law_299 rfl rfl ?_
        refine J_iload_n (q := 3) h d_L_law_300 rfl rfl ?_
        refine J_iconst (v := 1) h d_L_law_301 (by decide) ?_
        refine J_iadd h d_L_law_302 ?_
        refine J_sld h hX hbl hbA d_L_law_303 ?_
        refine J_aload_n (q := 0) h d_L_law_304 rfl rfl ?_
        refine J_iload_n (q := 3) h d_L_law_305 rfl rfl ?_
        refine J_iconst (v := 2) h d_L_law_306 (by decide) ?_
        refine J_iadd h d_L_law_307 ?_
        refine J_sld h hX hbl hbA d_L_law_308 ?_
        refine J_callQ (tyx := tysX cA) (tym := tysM cB) (wx := wX ad cA) (wm := wM bd cB) (As := [.int (xs (v3 + 1).toNatClampNeg), .int (xs (v3 + 2).toNatClampNeg)]) (st := []) (rmc := rM_M_parameter) (q0 := 0) h (fun _ _ hf => cM_M_parameter (jl K) D bd cB N (xs (v3 + 1).toNatClampNeg) (xs (v3 + 2).toNatClampNeg) σ.2 _ _ hf) (gl_V q_5_94 q_5_95 q_5_96 q_1_12 q_5_97) rfl ⟨rfl, rfl⟩ dd_M_parameter ⟨Nat.le_of_ble_eq_true rfl, Nat.le_of_ble_eq_true rfl⟩ rfl rfl (wM_0 bd cB σ.2) rfl rfl (Nat.le_of_ble_eq_true rfl) ⟨Nat.le_of_ble_eq_true rfl, Nat.le_of_ble_eq_true rfl⟩ d_L_law_309 (fun r25 σ26 => ?_)
        refine J_pop h d_L_law_312 rfl ?_
        refine J_goto (tgt := 648) h d_L_law_313 (by decide) ?_
        exact J_L_L_law_b648 K D ad cA bd cB b N xs L h hX hbl hbA ha (L_L_law_L18 N xs L  n) ih v3 (σ24, σ26)
      refine J_if (fun c6 => ?_) (fun c6 => ?_)
      · refine J_tblIn (v := 6) (off := 284) (tgt := 316) h c6 d_L_law_32 (by decide) (by decide) (by decide) (by decide) ?_
        refine J_aload_n (q := 1) h d_L_law_316 rfl rfl ?_
        refine J_aload_n (q := 0) h d_L_law_317 rfl rfl ?_
        refine J_iload_n (q := 3) h d_L_law_318 rfl rfl ?_
        refine J_iconst (v := 1) h d_L_law_319 (by decide) ?_
        refine J_iadd h d_L_law_320 ?_
        refine J_sld h hX hbl hbA d_L_law_321 ?_
        refine J_callP (tyx := tysX cA) (tym := tysM cB) (wx := wX ad cA) (wm := wM bd cB) (As := [.int (xs (v3 + 1).toNatClampNeg)]) (st := []) (rmc := rX_I_array) (q0 := 0) h (fun _ _ hf => cX_I_array (jl K) D ad cA N (xs (v3 + 1).toNatClampNeg) σ.1 _ _ hf) (gl_V q_2_196 q_2_197 q_2_198 q_1_1 q_2_199) rfl ⟨rfl, rfl⟩ dd_I_array ⟨Nat.le_of_ble_eq_true rfl, Nat.le_of_ble_eq_true rfl⟩ rfl rfl (wX_0 ad cA σ.1) rfl rfl (Nat.le_of_ble_eq_true rfl) ⟨Nat.le_of_ble_eq_true rfl, Nat.le_of_ble_eq_true rfl⟩ d_L_law_322 (fun r27 σ28 => ?_)
        refine J_pop h d_L_law_325 rfl ?_
        refine J_aload_n (q := 2) h d_L_law_326 rfl rfl ?_
        refine J_aload_n (q := 0) h d_L_law_327 rfl rfl ?_
        refine J_iload_n (q := 3) h d_L_law_328 rfl rfl ?_
        refine J_iconst (v := 1) h d_L_law_329 (by decide) ?_
        refine J_iadd h d_L_law_330 ?_
        refine J_sld h hX hbl hbA d_L_law_331 ?_
        refine J_callQ (tyx := tysX cA) (tym := tysM cB) (wx := wX ad cA) (wm := wM bd cB) (As := [.int (xs (v3 + 1).toNatClampNeg)]) (st := []) (rmc := rM_M_array) (q0 := 0) h (fun _ _ hf => cM_M_array (jl K) D bd cB N (xs (v3 + 1).toNatClampNeg) σ.2 _ _ hf) (gl_V q_5_98 q_5_99 q_5_100 q_1_12 q_5_101) rfl ⟨rfl, rfl⟩ dd_M_array ⟨Nat.le_of_ble_eq_true rfl, Nat.le_of_ble_eq_true rfl⟩ rfl rfl (wM_0 bd cB σ.2) rfl rfl (Nat.le_of_ble_eq_true rfl) ⟨Nat.le_of_ble_eq_true rfl, Nat.le_of_ble_eq_true rfl⟩ d_L_law_332 (fun r29 σ30 => ?_)
        refine J_pop h d_L_law_335 rfl ?_
        refine J_goto (tgt := 648) h d_L_law_336 (by decide) ?_
        exact J_L_L_law_b648 K D ad cA bd cB b N xs L h hX hbl hbA ha (L_L_law_L18 N xs L  n) ih v3 (σ28, σ30)
      refine J_if (fun c7 => ?_) (fun c7 => ?_)
      · refine J_tblIn (v := 7) (off := 307) (tgt := 339) h c7 d_L_law_32 (by decide) (by decide) (by decide) (by decide) ?_
        refine J_aload_n (q := 1) h d_L_law_339 rfl rfl ?_
        refine J_aload_n (q := 0) h d_L_law_340 rfl rfl ?_
        refine J_iload_n (q := 3) h d_L_law_341 rfl rfl ?_
        refine J_iconst (v := 1) h d_L_law_342 (by decide) ?_
        refine J_iadd h d_L_law_343 ?_
        refine J_sld h hX hbl hbA d_L_law_344 ?_
        refine J_callP (tyx := tysX cA) (tym := tysM cB) (wx := wX ad cA) (wm := wM bd cB) (As := [.int (xs (v3 + 1).toNatClampNeg)]) (st := []) (rmc := rX_I_primitive) (q0 := 0) h (fun _ _ hf => cX_I_primitive (jl K) D ad cA N (xs (v3 + 1).toNatClampNeg) σ.1 _ _ hf) (gl_V q_2_200 q_2_201 q_2_202 q_1_1 q_2_203) rfl ⟨rfl, rfl⟩ dd_I_primitive ⟨Nat.le_of_ble_eq_true rfl, Nat.le_of_ble_eq_true rfl⟩ rfl rfl (wX_0 ad cA σ.1) rfl rfl (Nat.le_of_ble_eq_true rfl) ⟨Nat.le_of_ble_eq_true rfl, Nat.le_of_ble_eq_true rfl⟩ d_L_law_345 (fun r31 σ32 => ?_)
        refine J_pop h d_L_law_348 rfl ?_
        refine J_aload_n (q := 2) h d_L_law_349 rfl rfl ?_
        refine J_aload_n (q := 0) h d_L_law_350 rfl rfl ?_
        refine J_iload_n (q := 3) h d_L_law_351 rfl rfl ?_
        refine J_iconst (v := 1) h d_L_law_352 (by decide) ?_
        refine J_iadd h d_L_law_353 ?_
        refine J_sld h hX hbl hbA d_L_law_354 ?_
        refine J_callQ (tyx := tysX cA) (tym := tysM cB) (wx := wX ad cA) (wm := wM bd cB) (As := [.int (xs (v3 + 1).toNatClampNeg)]) (st := []) (rmc := rM_M_primitive) (q0 := 0) h (fun _ _ hf => cM_M_primitive (jl K) D bd cB N (xs (v3 + 1).toNatClampNeg) σ.2 _ _ hf) (gl_V q_5_102 q_5_103 q_5_104 q_1_12 q_5_105) rfl ⟨rfl, rfl⟩ dd_M_primitive ⟨Nat.le_of_ble_eq_true rfl, Nat.le_of_ble_eq_true rfl⟩ rfl rfl (wM_0 bd cB σ.2) rfl rfl (Nat.le_of_ble_eq_true rfl) ⟨Nat.le_of_ble_eq_true rfl, Nat.le_of_ble_eq_true rfl⟩ d_L_law_355 (fun r33 σ34 => ?_)
        refine J_pop h d_L_law_358 rfl ?_
        refine J_goto (tgt := 648) h d_L_law_359 (by decide) ?_
        exact J_L_L_law_b648 K D ad cA bd cB b N xs L h hX hbl hbA ha (L_L_law_L18 N xs L  n) ih v3 (σ32, σ34)
      refine J_if (fun c8 => ?_) (fun c8 => ?_)
      · refine J_tblIn (v := 8) (off := 330) (tgt := 362) h c8 d_L_law_32 (by decide) (by decide) (by decide) (by decide) ?_
        refine J_aload_n (q := 1) h d_L_law_362 rfl rfl ?_
        refine J_callP (tyx := tysX cA) (tym := tysM cB) (wx := wX ad cA) (wm := wM bd cB) (As := []) (st := []) (rmc := rX_I_nothing) (q0 := 0) h (fun _ _ hf => cX_I_nothing (jl K) D ad cA N σ.1 _ _ hf) (gl_V q_2_204 q_2_205 q_2_206 q_1_1 q_2_207) rfl ⟨rfl, rfl⟩ dd_I_nothing ⟨Nat.le_of_ble_eq_true rfl, Nat.le_of_ble_eq_true rfl⟩ rfl rfl (wX_0 ad cA σ.1) rfl rfl (Nat.le_of_ble_eq_true rfl) ⟨Nat.le_of_ble_eq_true rfl, Nat.le_of_ble_eq_true rfl⟩ d_L_law_363 (fun r35 σ36 => ?_)
        refine J_pop h d_L_law_366 rfl ?_
        refine J_aload_n (q := 2) h d_L_law_367 rfl rfl ?_
        refine J_callQ (tyx := tysX cA) (tym := tysM cB) (wx := wX ad cA) (wm := wM bd cB) (As := []) (st := []) (rmc := rM_M_nothing) (q0 := 0) h (fun _ _ hf => cM_M_nothing (jl K) D bd cB N σ.2 _ _ hf) (gl_V q_5_106 q_5_107 q_5_108 q_1_12 q_5_109) rfl ⟨rfl, rfl⟩ dd_M_nothing ⟨Nat.le_of_ble_eq_true rfl, Nat.le_of_ble_eq_true rfl⟩ rfl rfl (wM_0 bd cB σ.2) rfl rfl (Nat.le_of_ble_eq_true rfl) ⟨Nat.le_of_ble_eq_true rfl, Nat.le_of_ble_eq_true rfl⟩ d_L_law_368 (fun r37 σ38 => ?_)
        refine J_pop h d_L_law_371 rfl ?_
        refine J_goto (tgt := 648) h d_L_law_372 (by decide) ?_
        exact J_L_L_law_b648 K D ad cA bd cB b N xs L h hX hbl hbA ha (L_L_law_L18 N xs L  n) ih v3 (σ36, σ38)
      refine J_if (fun c9 => ?_) (fun c9 => ?_)
      · refine J_tblIn (v := 9) (off := 343) (tgt := 375) h c9 d_L_law_32 (by decide) (by decide) (by decide) (by decide) ?_
        refine J_aload_n (q := 1) h d_L_law_375 rfl rfl ?_
        refine J_callP (tyx := tysX cA) (tym := tysM cB) (wx := wX ad cA) (wm := wM bd cB) (As := []) (st := []) (rmc := rX_I_variable) (q0 := 0) h (fun _ _ hf => cX_I_variable (jl K) D ad cA N σ.1 _ _ hf) (gl_V q_2_208 q_2_209 q_2_210 q_1_1 q_2_211) rfl ⟨rfl, rfl⟩ dd_I_variable ⟨Nat.le_of_ble_eq_true rfl, Nat.le_of_ble_eq_true rfl⟩ rfl rfl (wX_0 ad cA σ.1) rfl rfl (Nat.le_of_ble_eq_true rfl) ⟨Nat.le_of_ble_eq_true rfl, Nat.le_of_ble_eq_true rfl⟩ d_L_law_376 (fun r39 σ40 => ?_)
        refine J_pop h d_L_law_379 rfl ?_
        refine J_aload_n (q := 2) h d_L_law_380 rfl rfl ?_
        refine J_callQ (tyx := tysX cA) (tym := tysM cB) (wx := wX ad cA) (wm := wM bd cB) (As := []) (st := []) (rmc := rM_M_variable) (q0 := 0) h (fun _ _ hf => cM_M_variable (jl K) D bd cB N σ.2 _ _ hf) (gl_V q_5_110 q_5_111 q_5_112 q_1_12 q_5_113) rfl ⟨rfl, rfl⟩ dd_M_variable ⟨Nat.le_of_ble_eq_true rfl, Nat.le_of_ble_eq_true rfl⟩ rfl rfl (wM_0 bd cB σ.2) rfl rfl (Nat.le_of_ble_eq_true rfl) ⟨Nat.le_of_ble_eq_true rfl, Nat.le_of_ble_eq_true rfl⟩ d_L_law_381 (fun r41 σ42 => ?_)
        refine J_pop h d_L_law_384 rfl ?_
        refine J_goto (tgt := 648) h d_L_law_385 (by decide) ?_
        exact J_L_L_law_b648 K D ad cA bd cB b N xs L h hX hbl hbA ha (L_L_law_L18 N xs L  n) ih v3 (σ40, σ42)
      refine J_if (fun c10 => ?_) (fun c10 => ?_)
      · refine J_tblIn (v := 10) (off := 356) (tgt := 388) h c10 d_L_law_32 (by decide) (by decide) (by decide) (by decide) ?_
        refine J_aload_n (q := 1) h d_L_law_388 rfl rfl ?_
        refine J_aload_n (q := 0) h d_L_law_389 rfl rfl ?_
        refine J_iload_n (q := 3) h d_L_law_390 rfl rfl ?_
        refine J_iconst (v := 1) h d_L_law_391 (by decide) ?_
        refine J_iadd h d_L_law_392 ?_
        refine J_sld h hX hbl hbA d_L_law_393 ?_
        refine J_aload_n (q := 0) h d_L_law_394 rfl rfl ?_
        refine J_iload_n (q := 3) h d_L_law_395 rfl rfl ?_
        refine J_iconst (v := 2) h d_L_law_396 (by decide) ?_
        refine J_iadd h d_L_law_397 ?_
        refine J_sld h hX hbl hbA d_L_law_398 ?_
        refine J_aload_n (q := 0) h d_L_law_399 rfl rfl ?_
        refine J_iload_n (q := 3) h d_L_law_400 rfl rfl ?_
        refine J_iconst (v := 3) h d_L_law_401 (by decide) ?_
        refine J_iadd h d_L_law_402 ?_
        refine J_sld h hX hbl hbA d_L_law_403 ?_
        refine J_callP (tyx := tysX cA) (tym := tysM cB) (wx := wX ad cA) (wm := wM bd cB) (As := [.int (xs (v3 + 1).toNatClampNeg), .int (xs (v3 + 2).toNatClampNeg), .int (xs (v3 + 3).toNatClampNeg)]) (st := []) (rmc := rX_I_formula) (q0 := 0) h (fun _ _ hf => cX_I_formula (jl K) D ad cA N (xs (v3 + 1).toNatClampNeg) (xs (v3 + 2).toNatClampNeg) (xs (v3 + 3).toNatClampNeg) σ.1 _ _ hf) (gl_V q_2_212 q_2_213 q_2_214 q_1_1 q_2_215) rfl ⟨rfl, rfl⟩ dd_I_formula ⟨Nat.le_of_ble_eq_true rfl, Nat.le_of_ble_eq_true rfl⟩ rfl rfl (wX_0 ad cA σ.1) rfl rfl (Nat.le_of_ble_eq_true rfl) ⟨Nat.le_of_ble_eq_true rfl, Nat.le_of_ble_eq_true rfl⟩ d_L_law_404 (fun r43 σ44 => ?_)
        refine J_pop h d_L_law_407 rfl ?_
        refine J_aload_n (q := 2) h d_L_law_408 rfl rfl ?_
        refine J_aload_n (q := 0) h d_L_law_409 rfl rfl ?_
        refine J_iload_n (q := 3) h d_L_law_410 rfl rfl ?_
        refine J_iconst (v := 1) h d_L_law_411 (by decide) ?_
        refine J_iadd h d_L_law_412 ?_
        refine J_sld h hX hbl hbA d_L_law_413 ?_
        refine J_aload_n (q := 0) h d_L_law_414 rfl rfl ?_
        refine J_iload_n (q := 3) h d_L_law_415 rfl rfl ?_
        refine J_iconst (v := 2) h d_L_law_416 (by decide) ?_
        refine J_iadd h d_L_law_417 ?_
        refine J_sld h hX hbl hbA d_L_law_418 ?_
        refine J_aload_n (q := 0) h d_L_law_419 rfl rfl ?_
        refine J_iload_n (q := 3) h d_L_law_420 rfl rfl ?_
        refine J_iconst (v := 3) h d_L_law_421 (by decide) ?_
        refine J_iadd h d_L_law_422 ?_
        refine J_sld h hX hbl hbA d_L_law_423 ?_
        refine J_callQ (tyx := tysX cA) (tym := tysM cB) (wx := wX ad cA) (wm := wM bd cB) (As := [.int (xs (v3 + 1).toNatClampNeg), .int (xs (v3 + 2).toNatClampNeg), .int (xs (v3 + 3).toNatClampNeg)]) (st := []) (rmc := rM_M_formula) (q0 := 0) h (fun _ _ hf => cM_M_formula (jl K) D bd cB N (xs (v3 + 1).toNatClampNeg) (xs (v3 + 2).toNatClampNeg) (xs (v3 + 3).toNatClampNeg) σ.2 _ _ hf) (gl_V q_5_138 q_5_139 q_5_140 q_1_12 q_5_141) rfl ⟨rfl, rfl⟩ dd_M_formula ⟨Nat.le_of_ble_eq_true rfl, Nat.le_of_ble_eq_true rfl⟩ rfl rfl (wM_0 bd cB σ.2) rfl rfl (Nat.le_of_ble_eq_true rfl) ⟨Nat.le_of_ble_eq_true rfl, Nat.le_of_ble_eq_true rfl⟩ d_L_law_424 (fun r45 σ46 => ?_)
        refine J_pop h d_L_law_427 rfl ?_
        refine J_goto (tgt := 648) h d_L_law_428 (by decide) ?_
        exact J_L_L_law_b648 K D ad cA bd cB b N xs L h hX hbl hbA ha (L_L_law_L18 N xs L  n) ih v3 (σ44, σ46)
      refine J_if (fun c11 => ?_) (fun c11 => ?_)
      · refine J_tblIn (v := 11) (off := 399) (tgt := 431) h c11 d_L_law_32 (by decide) (by decide) (by decide) (by decide) ?_
        refine J_aload_n (q := 1) h d_L_law_431 rfl rfl ?_
        refine J_callP (tyx := tysX cA) (tym := tysM cB) (wx := wX ad cA) (wm := wM bd cB) (As := []) (st := []) (rmc := rX_I_resolve) (q0 := 0) h (fun _ _ hf => cX_I_resolve (jl K) D ad cA N σ.1 _ _ hf) (gl_V q_3_169 q_3_170 q_3_171 q_1_1 q_3_172) rfl ⟨rfl, rfl⟩ dd_I_resolve ⟨Nat.le_of_ble_eq_true rfl, Nat.le_of_ble_eq_true rfl⟩ rfl rfl (wX_0 ad cA σ.1) rfl rfl (Nat.le_of_ble_eq_true rfl) ⟨Nat.le_of_ble_eq_true rfl, Nat.le_of_ble_eq_true rfl⟩ d_L_law_432 (fun r47 σ48 => ?_)
        refine J_pop h d_L_law_435 rfl ?_
        refine J_aload_n (q := 2) h d_L_law_436 rfl rfl ?_
        refine J_callQ (tyx := tysX cA) (tym := tysM cB) (wx := wX ad cA) (wm := wM bd cB) (As := []) (st := []) (rmc := rM_M_resolve) (q0 := 0) h (fun _ _ hf => cM_M_resolve (jl K) D bd cB N σ.2 _ _ hf) (gl_V q_5_225 q_5_226 q_5_227 q_1_12 q_5_228) rfl ⟨rfl, rfl⟩ dd_M_resolve ⟨Nat.le_of_ble_eq_true rfl, Nat.le_of_ble_eq_true rfl⟩ rfl rfl (wM_0 bd cB σ.2) rfl rfl (Nat.le_of_ble_eq_true rfl) ⟨Nat.le_of_ble_eq_true rfl, Nat.le_of_ble_eq_true rfl⟩ d_L_law_437 (fun r49 σ50 => ?_)
        refine J_pop h d_L_law_440 rfl ?_
        refine J_goto (tgt := 648) h d_L_law_441 (by decide) ?_
        exact J_L_L_law_b648 K D ad cA bd cB b N xs L h hX hbl hbA ha (L_L_law_L18 N xs L  n) ih v3 (σ48, σ50)
      refine J_if (fun c12 => ?_) (fun c12 => ?_)
      · refine J_tblIn (v := 12) (off := 412) (tgt := 444) h c12 d_L_law_32 (by decide) (by decide) (by decide) (by decide) ?_
        refine J_aload_n (q := 1) h d_L_law_444 rfl rfl ?_
        refine J_callP (tyx := tysX cA) (tym := tysM cB) (wx := wX ad cA) (wm := wM bd cB) (As := []) (st := []) (rmc := rX_I_clear) (q0 := 0) h (fun _ _ hf => cX_I_clear (jl K) D ad cA σ.1 _ _ hf) (gl_V q_4_5 q_4_6 q_4_7 q_1_1 q_4_8) rfl ⟨rfl, rfl⟩ dd_I_clear ⟨Nat.le_of_ble_eq_true rfl, Nat.le_of_ble_eq_true rfl⟩ rfl rfl (wX_0 ad cA σ.1) rfl rfl (Nat.le_of_ble_eq_true rfl) ⟨Nat.le_of_ble_eq_true rfl, Nat.le_of_ble_eq_true rfl⟩ d_L_law_445 (fun r51 σ52 => ?_)
        refine J_pop h d_L_law_448 rfl ?_
        refine J_aload_n (q := 2) h d_L_law_449 rfl rfl ?_
        refine J_callQ (tyx := tysX cA) (tym := tysM cB) (wx := wX ad cA) (wm := wM bd cB) (As := []) (st := []) (rmc := rM_M_clear) (q0 := 0) h (fun _ _ hf => cM_M_clear (jl K) D bd cB σ.2 _ _ hf) (gl_V q_5_221 q_5_222 q_5_223 q_1_12 q_5_224) rfl ⟨rfl, rfl⟩ dd_M_clear ⟨Nat.le_of_ble_eq_true rfl, Nat.le_of_ble_eq_true rfl⟩ rfl rfl (wM_0 bd cB σ.2) rfl rfl (Nat.le_of_ble_eq_true rfl) ⟨Nat.le_of_ble_eq_true rfl, Nat.le_of_ble_eq_true rfl⟩ d_L_law_450 (fun r53 σ54 => ?_)
        refine J_pop h d_L_law_453 rfl ?_
        refine J_goto (tgt := 648) h d_L_law_454 (by decide) ?_
        exact J_L_L_law_b648 K D ad cA bd cB b N xs L h hX hbl hbA ha (L_L_law_L18 N xs L  n) ih v3 (σ52, σ54)
      refine J_if (fun c13 => ?_) (fun c13 => ?_)
      · refine J_tblIn (v := 13) (off := 425) (tgt := 457) h c13 d_L_law_32 (by decide) (by decide) (by decide) (by decide) ?_
        refine J_aload_n (q := 1) h d_L_law_457 rfl rfl ?_
        refine J_aload_n (q := 0) h d_L_law_458 rfl rfl ?_
        refine J_iload_n (q := 3) h d_L_law_459 rfl rfl ?_
        refine J_iconst (v := 1) h d_L_law_460 (by decide) ?_
        refine J_iadd h d_L_law_461 ?_
        refine J_sld h hX hbl hbA d_L_law_462 ?_
        refine J_callP (tyx := tysX cA) (tym := tysM cB) (wx := wX ad cA) (wm := wM bd cB) (As := [.int (xs (v3 + 1).toNatClampNeg)]) (st := []) (rmc := rX_I_count) (q0 := 0) h (fun _ _ hf => cX_I_count (jl K) D ad cA (xs (v3 + 1).toNatClampNeg) σ.1 _ _ hf) (gl_V q_4_9 q_4_10 q_4_11 q_1_1 q_4_12) rfl ⟨rfl, rfl⟩ dd_I_count ⟨Nat.le_of_ble_eq_true rfl, Nat.le_of_ble_eq_true rfl⟩ rfl rfl (wX_0 ad cA σ.1) rfl rfl (Nat.le_of_ble_eq_true rfl) ⟨Nat.le_of_ble_eq_true rfl, Nat.le_of_ble_eq_true rfl⟩ d_L_law_463 (fun r55 σ56 => ?_)
        refine J_pop h d_L_law_466 rfl ?_
        refine J_aload_n (q := 2) h d_L_law_467 rfl rfl ?_
        refine J_aload_n (q := 0) h d_L_law_468 rfl rfl ?_
        refine J_iload_n (q := 3) h d_L_law_469 rfl rfl ?_
        refine J_iconst (v := 1) h d_L_law_470 (by decide) ?_
        refine J_iadd h d_L_law_471 ?_
        refine J_sld h hX hbl hbA d_L_law_472 ?_
        refine J_callQ (tyx := tysX cA) (tym := tysM cB) (wx := wX ad cA) (wm := wM bd cB) (As := [.int (xs (v3 + 1).toNatClampNeg)]) (st := []) (rmc := rM_M_count) (q0 := 0) h (fun _ _ hf => cM_M_count (jl K) D bd cB (xs (v3 + 1).toNatClampNeg) σ.2 _ _ hf) (gl_V q_6_25 q_6_26 q_6_27 q_1_12 q_6_28) rfl ⟨rfl, rfl⟩ dd_M_count ⟨Nat.le_of_ble_eq_true rfl, Nat.le_of_ble_eq_true rfl⟩ rfl rfl (wM_0 bd cB σ.2) rfl rfl (Nat.le_of_ble_eq_true rfl) ⟨Nat.le_of_ble_eq_true rfl, Nat.le_of_ble_eq_true rfl⟩ d_L_law_473 (fun r57 σ58 => ?_)
        refine J_pop h d_L_law_476 rfl ?_
        refine J_goto (tgt := 648) h d_L_law_477 (by decide) ?_
        exact J_L_L_law_b648 K D ad cA bd cB b N xs L h hX hbl hbA ha (L_L_law_L18 N xs L  n) ih v3 (σ56, σ58)
      refine J_if (fun c14 => ?_) (fun c14 => ?_)
      · refine J_tblIn (v := 14) (off := 448) (tgt := 480) h c14 d_L_law_32 (by decide) (by decide) (by decide) (by decide) ?_
        refine J_aload_n (q := 1) h d_L_law_480 rfl rfl ?_
        refine J_aload_n (q := 0) h d_L_law_481 rfl rfl ?_
        refine J_iload_n (q := 3) h d_L_law_482 rfl rfl ?_
        refine J_iconst (v := 1) h d_L_law_483 (by decide) ?_
        refine J_iadd h d_L_law_484 ?_
        refine J_sld h hX hbl hbA d_L_law_485 ?_
        refine J_aload_n (q := 0) h d_L_law_486 rfl rfl ?_
        refine J_iload_n (q := 3) h d_L_law_487 rfl rfl ?_
        refine J_iconst (v := 2) h d_L_law_488 (by decide) ?_
        refine J_iadd h d_L_law_489 ?_
        refine J_sld h hX hbl hbA d_L_law_490 ?_
        refine J_callP (tyx := tysX cA) (tym := tysM cB) (wx := wX ad cA) (wm := wM bd cB) (As := [.int (xs (v3 + 1).toNatClampNeg), .int (xs (v3 + 2).toNatClampNeg)]) (st := []) (rmc := rX_I_type) (q0 := 0) h (fun _ _ hf => cX_I_type (jl K) D ad cA (xs (v3 + 1).toNatClampNeg) (xs (v3 + 2).toNatClampNeg) σ.1 _ _ hf) (gl_V q_4_13 q_4_14 q_4_15 q_1_1 q_4_16) rfl ⟨rfl, rfl⟩ dd_I_type ⟨Nat.le_of_ble_eq_true rfl, Nat.le_of_ble_eq_true rfl⟩ rfl rfl (wX_0 ad cA σ.1) rfl rfl (Nat.le_of_ble_eq_true rfl) ⟨Nat.le_of_ble_eq_true rfl, Nat.le_of_ble_eq_true rfl⟩ d_L_law_491 (fun r59 σ60 => ?_)
        refine J_pop h d_L_law_494 rfl ?_
        refine J_aload_n (q := 2) h d_L_law_495 rfl rfl ?_
        refine J_aload_n (q := 0) h d_L_law_496 rfl rfl ?_
        refine J_iload_n (q := 3) h d_L_law_497 rfl rfl ?_
        refine J_iconst (v := 1) h d_L_law_498 (by decide) ?_
        refine J_iadd h d_L_law_499 ?_
        refine J_sld h hX hbl hbA d_L_law_500 ?_
        refine J_aload_n (q := 0) h d_L_law_501 rfl rfl ?_
        refine J_iload_n (q := 3) h d_L_law_502 rfl rfl ?_
        refine J_iconst (v := 2) h d_L_law_503 (by decide) ?_
        refine J_iadd h d_L_law_504 ?_
        refine J_sld h hX hbl hbA d_L_law_505 ?_
        refine J_callQ (tyx := tysX cA) (tym := tysM cB) (wx := wX ad cA) (wm := wM bd cB) (As := [.int (xs (v3 + 1).toNatClampNeg), .int (xs (v3 + 2).toNatClampNeg)]) (st := []) (rmc := rM_M_type) (q0 := 0) h (fun _ _ hf => cM_M_type (jl K) D bd cB (xs (v3 + 1).toNatClampNeg) (xs (v3 + 2).toNatClampNeg) σ.2 _ _ hf) (gl_V q_6_29 q_6_30 q_6_31 q_1_12 q_6_32) rfl ⟨rfl, rfl⟩ dd_M_type ⟨Nat.le_of_ble_eq_true rfl, Nat.le_of_ble_eq_true rfl⟩ rfl rfl (wM_0 bd cB σ.2) rfl rfl (Nat.le_of_ble_eq_true rfl) ⟨Nat.le_of_ble_eq_true rfl, Nat.le_of_ble_eq_true rfl⟩ d_L_law_506 (fun r61 σ62 => ?_)
        refine J_pop h d_L_law_509 rfl ?_
        refine J_goto (tgt := 648) h d_L_law_510 (by decide) ?_
        exact J_L_L_law_b648 K D ad cA bd cB b N xs L h hX hbl hbA ha (L_L_law_L18 N xs L  n) ih v3 (σ60, σ62)
      refine J_if (fun c15 => ?_) (fun c15 => ?_)
      · refine J_tblIn (v := 15) (off := 481) (tgt := 513) h c15 d_L_law_32 (by decide) (by decide) (by decide) (by decide) ?_
        refine J_aload_n (q := 1) h d_L_law_513 rfl rfl ?_
        refine J_aload_n (q := 0) h d_L_law_514 rfl rfl ?_
        refine J_iload_n (q := 3) h d_L_law_515 rfl rfl ?_
        refine J_iconst (v := 1) h d_L_law_516 (by decide) ?_
        refine J_iadd h d_L_law_517 ?_
        refine J_sld h hX hbl hbA d_L_law_518 ?_
        refine J_aload_n (q := 0) h d_L_law_519 rfl rfl ?_
        refine J_iload_n (q := 3) h d_L_law_520 rfl rfl ?_
        refine J_iconst (v := 2) h d_L_law_521 (by decide) ?_
        refine J_iadd h d_L_law_522 ?_
        refine J_sld h hX hbl hbA d_L_law_523 ?_
        refine J_callP (tyx := tysX cA) (tym := tysM cB) (wx := wX ad cA) (wm := wM bd cB) (As := [.int (xs (v3 + 1).toNatClampNeg), .int (xs (v3 + 2).toNatClampNeg)]) (st := []) (rmc := rX_I_bound) (q0 := 0) h (fun _ _ hf => cX_I_bound (jl K) D ad cA (xs (v3 + 1).toNatClampNeg) (xs (v3 + 2).toNatClampNeg) σ.1 _ _ hf) (gl_V q_4_22 q_4_23 q_4_24 q_1_1 q_4_25) rfl ⟨rfl, rfl⟩ dd_I_bound ⟨Nat.le_of_ble_eq_true rfl, Nat.le_of_ble_eq_true rfl⟩ rfl rfl (wX_0 ad cA σ.1) rfl rfl (Nat.le_of_ble_eq_true rfl) ⟨Nat.le_of_ble_eq_true rfl, Nat.le_of_ble_eq_true rfl⟩ d_L_law_524 (fun r63 σ64 => ?_)
        refine J_pop h d_L_law_527 rfl ?_
        refine J_aload_n (q := 2) h d_L_law_528 rfl rfl ?_
        refine J_aload_n (q := 0) h d_L_law_529 rfl rfl ?_
        refine J_iload_n (q := 3) h d_L_law_530 rfl rfl ?_
        refine J_iconst (v := 1) h d_L_law_531 (by decide) ?_
        refine J_iadd h d_L_law_532 ?_
        refine J_sld h hX hbl hbA d_L_law_533 ?_
        refine J_aload_n (q := 0) h d_L_law_534 rfl rfl ?_
        refine J_iload_n (q := 3) h d_L_law_535 rfl rfl ?_
        refine J_iconst (v := 2) h d_L_law_536 (by decide) ?_
        refine J_iadd h d_L_law_537 ?_
        refine J_sld h hX hbl hbA d_L_law_538 ?_
        refine J_callQ (tyx := tysX cA) (tym := tysM cB) (wx := wX ad cA) (wm := wM bd cB) (As := [.int (xs (v3 + 1).toNatClampNeg), .int (xs (v3 + 2).toNatClampNeg)]) (st := []) (rmc := rM_M_bound) (q0 := 0) h (fun _ _ hf => cM_M_bound (jl K) D bd cB (xs (v3 + 1).toNatClampNeg) (xs (v3 + 2).toNatClampNeg) σ.2 _ _ hf) (gl_V q_6_33 q_6_34 q_6_35 q_1_12 q_6_36) rfl ⟨rfl, rfl⟩ dd_M_bound ⟨Nat.le_of_ble_eq_true rfl, Nat.le_of_ble_eq_true rfl⟩ rfl rfl (wM_0 bd cB σ.2) rfl rfl (Nat.le_of_ble_eq_true rfl) ⟨Nat.le_of_ble_eq_true rfl, Nat.le_of_ble_eq_true rfl⟩ d_L_law_539 (fun r65 σ66 => ?_)
        refine J_pop h d_L_law_542 rfl ?_
        refine J_goto (tgt := 648) h d_L_law_543 (by decide) ?_
        exact J_L_L_law_b648 K D ad cA bd cB b N xs L h hX hbl hbA ha (L_L_law_L18 N xs L  n) ih v3 (σ64, σ66)
      refine J_if (fun c16 => ?_) (fun c16 => ?_)
      · refine J_tblIn (v := 16) (off := 514) (tgt := 546) h c16 d_L_law_32 (by decide) (by decide) (by decide) (by decide) ?_
        refine J_aload_n (q := 1) h d_L_law_546 rfl rfl ?_
        refine J_aload_n (q := 0) h d_L_law_547 rfl rfl ?_
        refine J_iload_n (q := 3) h d_L_law_548 rfl rfl ?_
        refine J_iconst (v := 1) h d_L_law_549 (by decide) ?_
        refine J_iadd h d_L_law_550 ?_
        refine J_sld h hX hbl hbA d_L_law_551 ?_
        refine J_callP (tyx := tysX cA) (tym := tysM cB) (wx := wX ad cA) (wm := wM bd cB) (As := [.int (xs (v3 + 1).toNatClampNeg)]) (st := []) (rmc := rX_I_instance) (q0 := 0) h (fun _ _ hf => cX_I_instance (jl K) D ad cA N (xs (v3 + 1).toNatClampNeg) σ.1 _ _ hf) (gl_V q_4_37 q_4_38 q_4_39 q_1_1 q_4_40) rfl ⟨rfl, rfl⟩ dd_I_instance ⟨Nat.le_of_ble_eq_true rfl, Nat.le_of_ble_eq_true rfl⟩ rfl rfl (wX_0 ad cA σ.1) rfl rfl (Nat.le_of_ble_eq_true rfl) ⟨Nat.le_of_ble_eq_true rfl, Nat.le_of_ble_eq_true rfl⟩ d_L_law_552 (fun r67 σ68 => ?_)
        refine J_pop h d_L_law_555 rfl ?_
        refine J_aload_n (q := 2) h d_L_law_556 rfl rfl ?_
        refine J_aload_n (q := 0) h d_L_law_557 rfl rfl ?_
        refine J_iload_n (q := 3) h d_L_law_558 rfl rfl ?_
        refine J_iconst (v := 1) h d_L_law_559 (by decide) ?_
        refine J_iadd h d_L_law_560 ?_
        refine J_sld h hX hbl hbA d_L_law_561 ?_
        refine J_callQ (tyx := tysX cA) (tym := tysM cB) (wx := wX ad cA) (wm := wM bd cB) (As := [.int (xs (v3 + 1).toNatClampNeg)]) (st := []) (rmc := rM_M_instance) (q0 := 0) h (fun _ _ hf => cM_M_instance (jl K) D bd cB N (xs (v3 + 1).toNatClampNeg) σ.2 _ _ hf) (gl_V q_6_37 q_6_38 q_6_39 q_1_12 q_6_40) rfl ⟨rfl, rfl⟩ dd_M_instance ⟨Nat.le_of_ble_eq_true rfl, Nat.le_of_ble_eq_true rfl⟩ rfl rfl (wM_0 bd cB σ.2) rfl rfl (Nat.le_of_ble_eq_true rfl) ⟨Nat.le_of_ble_eq_true rfl, Nat.le_of_ble_eq_true rfl⟩ d_L_law_562 (fun r69 σ70 => ?_)
        refine J_pop h d_L_law_565 rfl ?_
        refine J_goto (tgt := 648) h d_L_law_566 (by decide) ?_
        exact J_L_L_law_b648 K D ad cA bd cB b N xs L h hX hbl hbA ha (L_L_law_L18 N xs L  n) ih v3 (σ68, σ70)
      refine J_if (fun c17 => ?_) (fun c17 => ?_)
      · refine J_tblIn (v := 17) (off := 537) (tgt := 569) h c17 d_L_law_32 (by decide) (by decide) (by decide) (by decide) ?_
        refine J_aload_n (q := 1) h d_L_law_569 rfl rfl ?_
        refine J_aload_n (q := 0) h d_L_law_570 rfl rfl ?_
        refine J_iload_n (q := 3) h d_L_law_571 rfl rfl ?_
        refine J_iconst (v := 1) h d_L_law_572 (by decide) ?_
        refine J_iadd h d_L_law_573 ?_
        refine J_sld h hX hbl hbA d_L_law_574 ?_
        refine J_aload_n (q := 0) h d_L_law_575 rfl rfl ?_
        refine J_iload_n (q := 3) h d_L_law_576 rfl rfl ?_
        refine J_iconst (v := 2) h d_L_law_577 (by decide) ?_
        refine J_iadd h d_L_law_578 ?_
        refine J_sld h hX hbl hbA d_L_law_579 ?_
        refine J_callP (tyx := tysX cA) (tym := tysM cB) (wx := wX ad cA) (wm := wM bd cB) (As := [.int (xs (v3 + 1).toNatClampNeg), .int (xs (v3 + 2).toNatClampNeg)]) (st := []) (rmc := rX_I_above) (q0 := 0) h (fun _ _ hf => cX_I_above (jl K) D ad cA N (xs (v3 + 1).toNatClampNeg) (xs (v3 + 2).toNatClampNeg) σ.1 _ _ hf) (gl_V q_4_42 q_4_43 q_4_44 q_1_1 q_4_45) rfl ⟨rfl, rfl⟩ dd_I_above ⟨Nat.le_of_ble_eq_true rfl, Nat.le_of_ble_eq_true rfl⟩ rfl rfl (wX_0 ad cA σ.1) rfl rfl (Nat.le_of_ble_eq_true rfl) ⟨Nat.le_of_ble_eq_true rfl, Nat.le_of_ble_eq_true rfl⟩ d_L_law_580 (fun r71 σ72 => ?_)
        refine J_pop h d_L_law_583 rfl ?_
        refine J_aload_n (q := 2) h d_L_law_584 rfl rfl ?_
        refine J_aload_n (q := 0) h d_L_law_585 rfl rfl ?_
        refine J_iload_n (q := 3) h d_L_law_586 rfl rfl ?_
        refine J_iconst (v := 1) h d_L_law_587 (by decide) ?_
        refine J_iadd h d_L_law_588 ?_
        refine J_sld h hX hbl hbA d_L_law_589 ?_
        refine J_aload_n (q := 0) h d_L_law_590 rfl rfl ?_
        refine J_iload_n (q := 3) h d_L_law_591 rfl rfl ?_
        refine J_iconst (v := 2) h d_L_law_592 (by decide) ?_
        refine J_iadd h d_L_law_593 ?_
        refine J_sld h hX hbl hbA d_L_law_594 ?_
        refine J_callQ (tyx := tysX cA) (tym := tysM cB) (wx := wX ad cA) (wm := wM bd cB) (As := [.int (xs (v3 + 1).toNatClampNeg), .int (xs (v3 + 2).toNatClampNeg)]) (st := []) (rmc := rM_M_above) (q0 := 0) h (fun _ _ hf => cM_M_above (jl K) D bd cB N (xs (v3 + 1).toNatClampNeg) (xs (v3 + 2).toNatClampNeg) σ.2 _ _ hf) (gl_V q_5_114 q_5_115 q_5_116 q_1_12 q_5_117) rfl ⟨rfl, rfl⟩ dd_M_above ⟨Nat.le_of_ble_eq_true rfl, Nat.le_of_ble_eq_true rfl⟩ rfl rfl (wM_0 bd cB σ.2) rfl rfl (Nat.le_of_ble_eq_true rfl) ⟨Nat.le_of_ble_eq_true rfl, Nat.le_of_ble_eq_true rfl⟩ d_L_law_595 (fun r73 σ74 => ?_)
        refine J_pop h d_L_law_598 rfl ?_
        refine J_goto (tgt := 648) h d_L_law_599 (by decide) ?_
        exact J_L_L_law_b648 K D ad cA bd cB b N xs L h hX hbl hbA ha (L_L_law_L18 N xs L  n) ih v3 (σ72, σ74)
      refine J_if (fun c18 => ?_) (fun c18 => ?_)
      · refine J_tblIn (v := 18) (off := 570) (tgt := 602) h c18 d_L_law_32 (by decide) (by decide) (by decide) (by decide) ?_
        refine J_aload_n (q := 1) h d_L_law_602 rfl rfl ?_
        refine J_aload_n (q := 0) h d_L_law_603 rfl rfl ?_
        refine J_iload_n (q := 3) h d_L_law_604 rfl rfl ?_
        refine J_iconst (v := 1) h d_L_law_605 (by decide) ?_
        refine J_iadd h d_L_law_606 ?_
        refine J_sld h hX hbl hbA d_L_law_607 ?_
        refine J_callP (tyx := tysX cA) (tym := tysM cB) (wx := wX ad cA) (wm := wM bd cB) (As := [.int (xs (v3 + 1).toNatClampNeg)]) (st := []) (rmc := rX_I_unchecked) (q0 := 0) h (fun _ _ hf => cX_I_unchecked (jl K) D ad cA (xs (v3 + 1).toNatClampNeg) σ.1 _ _ hf) (gl_V q_4_47 q_4_48 q_4_49 q_1_1 q_4_50) rfl ⟨rfl, rfl⟩ dd_I_unchecked ⟨Nat.le_of_ble_eq_true rfl, Nat.le_of_ble_eq_true rfl⟩ rfl rfl (wX_0 ad cA σ.1) rfl rfl (Nat.le_of_ble_eq_true rfl) ⟨Nat.le_of_ble_eq_true rfl, Nat.le_of_ble_eq_true rfl⟩ d_L_law_608 (fun r75 σ76 => ?_)
        refine J_pop h d_L_law_611 rfl ?_
        refine J_aload_n (q := 2) h d_L_law_612 rfl rfl ?_
        refine J_aload_n (q := 0) h d_L_law_613 rfl rfl ?_
        refine J_iload_n (q := 3) h d_L_law_614 rfl rfl ?_
        refine J_iconst (v := 1) h d_L_law_615 (by decide) ?_
        refine J_iadd h d_L_law_616 ?_
        refine J_sld h hX hbl hbA d_L_law_617 ?_
        refine J_callQ (tyx := tysX cA) (tym := tysM cB) (wx := wX ad cA) (wm := wM bd cB) (As := [.int (xs (v3 + 1).toNatClampNeg)]) (st := []) (rmc := rM_M_unchecked) (q0 := 0) h (fun _ _ hf => cM_M_unchecked (jl K) D bd cB (xs (v3 + 1).toNatClampNeg) σ.2 _ _ hf) (gl_V q_6_41 q_6_42 q_6_43 q_1_12 q_6_44) rfl ⟨rfl, rfl⟩ dd_M_unchecked ⟨Nat.le_of_ble_eq_true rfl, Nat.le_of_ble_eq_true rfl⟩ rfl rfl (wM_0 bd cB σ.2) rfl rfl (Nat.le_of_ble_eq_true rfl) ⟨Nat.le_of_ble_eq_true rfl, Nat.le_of_ble_eq_true rfl⟩ d_L_law_618 (fun r77 σ78 => ?_)
        refine J_pop h d_L_law_621 rfl ?_
        refine J_goto (tgt := 648) h d_L_law_622 (by decide) ?_
        exact J_L_L_law_b648 K D ad cA bd cB b N xs L h hX hbl hbA ha (L_L_law_L18 N xs L  n) ih v3 (σ76, σ78)
      refine J_if (fun c19 => ?_) (fun c19 => ?_)
      · refine J_tblIn (v := 19) (off := 593) (tgt := 625) h c19 d_L_law_32 (by decide) (by decide) (by decide) (by decide) ?_
        refine J_aload_n (q := 1) h d_L_law_625 rfl rfl ?_
        refine J_aload_n (q := 0) h d_L_law_626 rfl rfl ?_
        refine J_iload_n (q := 3) h d_L_law_627 rfl rfl ?_
        refine J_iconst (v := 1) h d_L_law_628 (by decide) ?_
        refine J_iadd h d_L_law_629 ?_
        refine J_sld h hX hbl hbA d_L_law_630 ?_
        refine J_callP (tyx := tysX cA) (tym := tysM cB) (wx := wX ad cA) (wm := wM bd cB) (As := [.int (xs (v3 + 1).toNatClampNeg)]) (st := []) (rmc := rX_I_judge) (q0 := 0) h (fun _ _ hf => cX_I_judge (jl K) D ad cA N (xs (v3 + 1).toNatClampNeg) σ.1 _ _ hf) (gl_V q_4_56 q_4_57 q_4_58 q_1_1 q_4_59) rfl ⟨rfl, rfl⟩ dd_I_judge ⟨Nat.le_of_ble_eq_true rfl, Nat.le_of_ble_eq_true rfl⟩ rfl rfl (wX_0 ad cA σ.1) rfl rfl (Nat.le_of_ble_eq_true rfl) ⟨Nat.le_of_ble_eq_true rfl, Nat.le_of_ble_eq_true rfl⟩ d_L_law_631 (fun r79 σ80 => ?_)
        refine J_pop h d_L_law_634 rfl ?_
        refine J_aload_n (q := 2) h d_L_law_635 rfl rfl ?_
        refine J_aload_n (q := 0) h d_L_law_636 rfl rfl ?_
        refine J_iload_n (q := 3) h d_L_law_637 rfl rfl ?_
        refine J_iconst (v := 1) h d_L_law_638 (by decide) ?_
        refine J_iadd h d_L_law_639 ?_
        refine J_sld h hX hbl hbA d_L_law_640 ?_
        refine J_callQ (tyx := tysX cA) (tym := tysM cB) (wx := wX ad cA) (wm := wM bd cB) (As := [.int (xs (v3 + 1).toNatClampNeg)]) (st := []) (rmc := rM_M_judge) (q0 := 0) h (fun _ _ hf => cM_M_judge (jl K) D bd cB N (xs (v3 + 1).toNatClampNeg) σ.2 _ _ hf) (gl_V q_6_45 q_6_46 q_6_47 q_1_12 q_6_48) rfl ⟨rfl, rfl⟩ dd_M_judge ⟨Nat.le_of_ble_eq_true rfl, Nat.le_of_ble_eq_true rfl⟩ rfl rfl (wM_0 bd cB σ.2) rfl rfl (Nat.le_of_ble_eq_true rfl) ⟨Nat.le_of_ble_eq_true rfl, Nat.le_of_ble_eq_true rfl⟩ d_L_law_641 (fun r81 σ82 => ?_)
        refine J_pop h d_L_law_644 rfl ?_
        refine J_goto (tgt := 648) h d_L_law_645 (by decide) ?_
        exact J_L_L_law_b648 K D ad cA bd cB b N xs L h hX hbl hbA ha (L_L_law_L18 N xs L  n) ih v3 (σ80, σ82)
      refine J_tblOut (tgt := 648) h (by have t0 := lv_neT (a := 0) c0 (by decide); have t1 := lv_neT (a := 1) c1 (by decide); have t2 := lv_neT (a := 2) c2 (by decide); have t3 := lv_neT (a := 3) c3 (by decide); have t4 := lv_neT (a := 4) c4 (by decide); have t5 := lv_neT (a := 5) c5 (by decide); have t6 := lv_neT (a := 6) c6 (by decide); have t7 := lv_neT (a := 7) c7 (by decide); have t8 := lv_neT (a := 8) c8 (by decide); have t9 := lv_neT (a := 9) c9 (by decide); have t10 := lv_neT (a := 10) c10 (by decide); have t11 := lv_neT (a := 11) c11 (by decide); have t12 := lv_neT (a := 12) c12 (by decide); have t13 := lv_neT (a := 13) c13 (by decide); have t14 := lv_neT (a := 14) c14 (by decide); have t15 := lv_neT (a := 15) c15 (by decide); have t16 := lv_neT (a := 16) c16 (by decide); have t17 := lv_neT (a := 17) c17 (by decide); have t18 := lv_neT (a := 18) c18 (by decide); have t19 := lv_neT (a := 19) c19 (by decide); omega) d_L_law_32 (by decide) ?_
      exact J_L_L_law_b648 K D ad cA bd cB b N xs L h hX hbl hbA ha (L_L_law_L18 N xs L  n) ih v3 σ
