theorem d_I_formula_0 : decode b_I_formula 0 = .ok (.iload_n 1, 1) := by decide +kernel
theorem d_I_formula_1 : decode b_I_formula 1 = .ok (.ifCond .lt 8, 3) := by decide +kernel
theorem d_I_formula_4 : decode b_I_formula 4 = .ok (.iload_n 1, 1) := by decide +kernel
theorem d_I_formula_5 : decode b_I_formula 5 = .ok (.iconst 3, 1) := by decide +kernel
theorem d_I_formula_6 : decode b_I_formula 6 = .ok (.if_icmp .le 6, 3) := by decide +kernel
theorem d_I_formula_9 : decode b_I_formula 9 = .ok (.bipush (-2), 2) := by decide +kernel
theorem d_I_formula_11 : decode b_I_formula 11 = .ok (.ireturn, 1) := by decide +kernel
theorem d_I_formula_12 : decode b_I_formula 12 = .ok (.aload_n 0, 1) := by decide +kernel
theorem d_I_formula_13 : decode b_I_formula 13 = .ok (.iload_n 1, 1) := by decide +kernel
theorem d_I_formula_14 : decode b_I_formula 14 = .ok (.iload_n 2, 1) := by decide +kernel
theorem d_I_formula_15 : decode b_I_formula 15 = .ok (.invokevirtual 113, 3) := by decide +kernel
theorem d_I_formula_18 : decode b_I_formula 18 = .ok (.ifCond .eq 12, 3) := by decide +kernel
theorem d_I_formula_21 : decode b_I_formula 21 = .ok (.aload_n 0, 1) := by decide +kernel
theorem d_I_formula_22 : decode b_I_formula 22 = .ok (.iload_n 1, 1) := by decide +kernel
theorem d_I_formula_23 : decode b_I_formula 23 = .ok (.iload_n 3, 1) := by decide +kernel
theorem d_I_formula_24 : decode b_I_formula 24 = .ok (.invokevirtual 113, 3) := by decide +kernel
theorem d_I_formula_27 : decode b_I_formula 27 = .ok (.ifCond .ne 6, 3) := by decide +kernel
theorem d_I_formula_30 : decode b_I_formula 30 = .ok (.bipush (-2), 2) := by decide +kernel
theorem d_I_formula_32 : decode b_I_formula 32 = .ok (.ireturn, 1) := by decide +kernel
theorem d_I_formula_33 : decode b_I_formula 33 = .ok (.aload_n 0, 1) := by decide +kernel
theorem d_I_formula_34 : decode b_I_formula 34 = .ok (.getfield 116, 3) := by decide +kernel
theorem d_I_formula_37 : decode b_I_formula 37 = .ok (.ifCond .ne 13, 3) := by decide +kernel
theorem d_I_formula_40 : decode b_I_formula 40 = .ok (.aload_n 0, 1) := by decide +kernel
theorem d_I_formula_41 : decode b_I_formula 41 = .ok (.getfield 69, 3) := by decide +kernel
theorem d_I_formula_44 : decode b_I_formula 44 = .ok (.invokevirtual 119, 3) := by decide +kernel
theorem d_I_formula_47 : decode b_I_formula 47 = .ok (.ifCond .ne 5, 3) := by decide +kernel
theorem d_I_formula_50 : decode b_I_formula 50 = .ok (.iconst (-1), 1) := by decide +kernel
theorem d_I_formula_51 : decode b_I_formula 51 = .ok (.ireturn, 1) := by decide +kernel
theorem d_I_formula_52 : decode b_I_formula 52 = .ok (.aload_n 0, 1) := by decide +kernel
theorem d_I_formula_53 : decode b_I_formula 53 = .ok (.getfield 69, 3) := by decide +kernel
theorem d_I_formula_56 : decode b_I_formula 56 = .ok (.iload_n 1, 1) := by decide +kernel
theorem d_I_formula_57 : decode b_I_formula 57 = .ok (.iload_n 2, 1) := by decide +kernel
theorem d_I_formula_58 : decode b_I_formula 58 = .ok (.iload_n 3, 1) := by decide +kernel
theorem d_I_formula_59 : decode b_I_formula 59 = .ok (.invokevirtual 123, 3) := by decide +kernel
theorem d_I_formula_62 : decode b_I_formula 62 = .ok (.istore 4, 2) := by decide +kernel
theorem d_I_formula_64 : decode b_I_formula 64 = .ok (.aload_n 0, 1) := by decide +kernel
theorem d_I_formula_65 : decode b_I_formula 65 = .ok (.getfield 44, 3) := by decide +kernel
theorem d_I_formula_68 : decode b_I_formula 68 = .ok (.iload 4, 2) := by decide +kernel
theorem d_I_formula_70 : decode b_I_formula 70 = .ok (.invokevirtual 125, 3) := by decide +kernel
theorem d_I_formula_73 : decode b_I_formula 73 = .ok (.aload_n 0, 1) := by decide +kernel
theorem d_I_formula_74 : decode b_I_formula 74 = .ok (.getfield 44, 3) := by decide +kernel
theorem d_I_formula_77 : decode b_I_formula 77 = .ok (.iload_n 1, 1) := by decide +kernel
theorem d_I_formula_78 : decode b_I_formula 78 = .ok (.iload_n 2, 1) := by decide +kernel
theorem d_I_formula_79 : decode b_I_formula 79 = .ok (.iload_n 3, 1) := by decide +kernel
theorem d_I_formula_80 : decode b_I_formula 80 = .ok (.invokevirtual 129, 3) := by decide +kernel
theorem d_I_formula_83 : decode b_I_formula 83 = .ok (.istore 5, 2) := by decide +kernel
theorem d_I_formula_85 : decode b_I_formula 85 = .ok (.iload 5, 2) := by decide +kernel
theorem d_I_formula_87 : decode b_I_formula 87 = .ok (.iconst 1, 1) := by decide +kernel
theorem d_I_formula_88 : decode b_I_formula 88 = .ok (.if_icmp .ne 12, 3) := by decide +kernel
theorem d_I_formula_91 : decode b_I_formula 91 = .ok (.aload_n 0, 1) := by decide +kernel
theorem d_I_formula_92 : decode b_I_formula 92 = .ok (.getfield 53, 3) := by decide +kernel
theorem d_I_formula_95 : decode b_I_formula 95 = .ok (.invokevirtual 132, 3) := by decide +kernel
theorem d_I_formula_98 : decode b_I_formula 98 = .ok (.istore 5, 2) := by decide +kernel
theorem d_I_formula_100 : decode b_I_formula 100 = .ok (.aload_n 0, 1) := by decide +kernel
theorem d_I_formula_101 : decode b_I_formula 101 = .ok (.getfield 44, 3) := by decide +kernel
theorem d_I_formula_104 : decode b_I_formula 104 = .ok (.getfield 136, 3) := by decide +kernel
theorem d_I_formula_107 : decode b_I_formula 107 = .ok (.ifCond .eq 12, 3) := by decide +kernel
theorem d_I_formula_110 : decode b_I_formula 110 = .ok (.aload_n 0, 1) := by decide +kernel
theorem d_I_formula_111 : decode b_I_formula 111 = .ok (.getfield 69, 3) := by decide +kernel
theorem d_I_formula_114 : decode b_I_formula 114 = .ok (.iload 4, 2) := by decide +kernel
theorem d_I_formula_116 : decode b_I_formula 116 = .ok (.invokevirtual 140, 3) := by decide +kernel
theorem d_I_formula_119 : decode b_I_formula 119 = .ok (.aload_n 0, 1) := by decide +kernel
theorem d_I_formula_120 : decode b_I_formula 120 = .ok (.iload 5, 2) := by decide +kernel
theorem d_I_formula_122 : decode b_I_formula 122 = .ok (.iload 4, 2) := by decide +kernel
theorem d_I_formula_124 : decode b_I_formula 124 = .ok (.invokevirtual 143, 3) := by decide +kernel
theorem d_I_formula_127 : decode b_I_formula 127 = .ok (.iload 4, 2) := by decide +kernel
theorem d_I_formula_129 : decode b_I_formula 129 = .ok (.ireturn, 1) := by decide +kernel
theorem d_I_resolve_0 : decode b_I_resolve 0 = .ok (.aload_n 0, 1) := by decide +kernel
theorem d_I_resolve_1 : decode b_I_resolve 1 = .ok (.getfield 116, 3) := by decide +kernel
theorem d_I_resolve_4 : decode b_I_resolve 4 = .ok (.ifCond .eq 5, 3) := by decide +kernel
theorem d_I_resolve_7 : decode b_I_resolve 7 = .ok (.iconst (-1), 1) := by decide +kernel
theorem d_I_resolve_8 : decode b_I_resolve 8 = .ok (.ireturn, 1) := by decide +kernel
theorem d_I_resolve_9 : decode b_I_resolve 9 = .ok (.aload_n 0, 1) := by decide +kernel
theorem d_I_resolve_10 : decode b_I_resolve 10 = .ok (.getfield 44, 3) := by decide +kernel
theorem d_I_resolve_13 : decode b_I_resolve 13 = .ok (.iconst (-1), 1) := by decide +kernel
theorem d_I_resolve_14 : decode b_I_resolve 14 = .ok (.invokevirtual 125, 3) := by decide +kernel
theorem d_I_resolve_17 : decode b_I_resolve 17 = .ok (.iconst 0, 1) := by decide +kernel
theorem d_I_resolve_18 : decode b_I_resolve 18 = .ok (.istore_n 1, 1) := by decide +kernel
theorem d_I_resolve_19 : decode b_I_resolve 19 = .ok (.iload_n 1, 1) := by decide +kernel
theorem d_I_resolve_20 : decode b_I_resolve 20 = .ok (.bipush 12, 2) := by decide +kernel
theorem d_I_resolve_22 : decode b_I_resolve 22 = .ok (.if_icmp .gt 167, 3) := by decide +kernel
theorem d_I_resolve_25 : decode b_I_resolve 25 = .ok (.aload_n 0, 1) := by decide +kernel
theorem d_I_resolve_26 : decode b_I_resolve 26 = .ok (.getfield 116, 3) := by decide +kernel
theorem d_I_resolve_29 : decode b_I_resolve 29 = .ok (.ifCond .ne 160, 3) := by decide +kernel
theorem d_I_resolve_32 : decode b_I_resolve 32 = .ok (.aload_n 0, 1) := by decide +kernel
theorem d_I_resolve_33 : decode b_I_resolve 33 = .ok (.getfield 62, 3) := by decide +kernel
theorem d_I_resolve_36 : decode b_I_resolve 36 = .ok (.aload_n 0, 1) := by decide +kernel
theorem d_I_resolve_37 : decode b_I_resolve 37 = .ok (.getfield 110, 3) := by decide +kernel
theorem d_I_resolve_40 : decode b_I_resolve 40 = .ok (.invokevirtual 147, 3) := by decide +kernel
theorem d_I_resolve_43 : decode b_I_resolve 43 = .ok (.istore_n 2, 1) := by decide +kernel
theorem d_I_resolve_44 : decode b_I_resolve 44 = .ok (.iload_n 2, 1) := by decide +kernel
theorem d_I_resolve_45 : decode b_I_resolve 45 = .ok (.ifCond .ne 8, 3) := by decide +kernel
theorem d_I_resolve_48 : decode b_I_resolve 48 = .ok (.aload_n 0, 1) := by decide +kernel
theorem d_I_resolve_49 : decode b_I_resolve 49 = .ok (.getfield 110, 3) := by decide +kernel
theorem d_I_resolve_52 : decode b_I_resolve 52 = .ok (.ireturn, 1) := by decide +kernel
theorem d_I_resolve_53 : decode b_I_resolve 53 = .ok (.iconst 1, 1) := by decide +kernel
theorem d_I_resolve_54 : decode b_I_resolve 54 = .ok (.istore_n 3, 1) := by decide +kernel
theorem d_I_resolve_55 : decode b_I_resolve 55 = .ok (.iconst 0, 1) := by decide +kernel
theorem d_I_resolve_56 : decode b_I_resolve 56 = .ok (.istore 4, 2) := by decide +kernel
theorem d_I_resolve_58 : decode b_I_resolve 58 = .ok (.iload 4, 2) := by decide +kernel
theorem d_I_resolve_60 : decode b_I_resolve 60 = .ok (.aload_n 0, 1) := by decide +kernel
theorem d_I_resolve_61 : decode b_I_resolve 61 = .ok (.getfield 110, 3) := by decide +kernel
theorem d_I_resolve_64 : decode b_I_resolve 64 = .ok (.if_icmp .ge 33, 3) := by decide +kernel
theorem d_I_resolve_67 : decode b_I_resolve 67 = .ok (.iload_n 3, 1) := by decide +kernel
theorem d_I_resolve_68 : decode b_I_resolve 68 = .ok (.iconst 1, 1) := by decide +kernel
theorem d_I_resolve_69 : decode b_I_resolve 69 = .ok (.if_icmp .ne 28, 3) := by decide +kernel
theorem d_I_resolve_72 : decode b_I_resolve 72 = .ok (.iload_n 2, 1) := by decide +kernel
theorem d_I_resolve_73 : decode b_I_resolve 73 = .ok (.iload 4, 2) := by decide +kernel
theorem d_I_resolve_75 : decode b_I_resolve 75 = .ok (.ishr, 1) := by decide +kernel
theorem d_I_resolve_76 : decode b_I_resolve 76 = .ok (.iconst 1, 1) := by decide +kernel
theorem d_I_resolve_77 : decode b_I_resolve 77 = .ok (.iand, 1) := by decide +kernel
theorem d_I_resolve_78 : decode b_I_resolve 78 = .ok (.ifCond .eq 13, 3) := by decide +kernel
theorem d_I_resolve_81 : decode b_I_resolve 81 = .ok (.aload_n 0, 1) := by decide +kernel
theorem d_I_resolve_82 : decode b_I_resolve 82 = .ok (.getfield 62, 3) := by decide +kernel
theorem d_I_resolve_85 : decode b_I_resolve 85 = .ok (.iload 4, 2) := by decide +kernel
theorem d_I_resolve_87 : decode b_I_resolve 87 = .ok (.invokevirtual 150, 3) := by decide +kernel
theorem d_I_resolve_90 : decode b_I_resolve 90 = .ok (.istore_n 3, 1) := by decide +kernel
theorem d_I_resolve_91 : decode b_I_resolve 91 = .ok (.iinc 4 1, 3) := by decide +kernel
theorem d_I_resolve_94 : decode b_I_resolve 94 = .ok (.goto (-36), 3) := by decide +kernel
theorem d_I_resolve_97 : decode b_I_resolve 97 = .ok (.iconst 0, 1) := by decide +kernel
theorem d_I_resolve_98 : decode b_I_resolve 98 = .ok (.istore 4, 2) := by decide +kernel
theorem d_I_resolve_100 : decode b_I_resolve 100 = .ok (.iload 4, 2) := by decide +kernel
theorem d_I_resolve_102 : decode b_I_resolve 102 = .ok (.aload_n 0, 1) := by decide +kernel
theorem d_I_resolve_103 : decode b_I_resolve 103 = .ok (.getfield 110, 3) := by decide +kernel
theorem d_I_resolve_106 : decode b_I_resolve 106 = .ok (.if_icmp .ge 71, 3) := by decide +kernel
theorem d_I_resolve_109 : decode b_I_resolve 109 = .ok (.iload 4, 2) := by decide +kernel
theorem d_I_resolve_111 : decode b_I_resolve 111 = .ok (.bipush 12, 2) := by decide +kernel
theorem d_I_resolve_113 : decode b_I_resolve 113 = .ok (.if_icmp .ge 64, 3) := by decide +kernel
theorem d_I_resolve_116 : decode b_I_resolve 116 = .ok (.iload_n 3, 1) := by decide +kernel
theorem d_I_resolve_117 : decode b_I_resolve 117 = .ok (.iconst 1, 1) := by decide +kernel
theorem d_I_resolve_118 : decode b_I_resolve 118 = .ok (.if_icmp .ne 59, 3) := by decide +kernel
theorem d_I_resolve_121 : decode b_I_resolve 121 = .ok (.iload_n 2, 1) := by decide +kernel
theorem d_I_resolve_122 : decode b_I_resolve 122 = .ok (.iload 4, 2) := by decide +kernel
theorem d_I_resolve_124 : decode b_I_resolve 124 = .ok (.ishr, 1) := by decide +kernel
theorem d_I_resolve_125 : decode b_I_resolve 125 = .ok (.iconst 1, 1) := by decide +kernel
theorem d_I_resolve_126 : decode b_I_resolve 126 = .ok (.iand, 1) := by decide +kernel
theorem d_I_resolve_127 : decode b_I_resolve 127 = .ok (.ifCond .ne 6, 3) := by decide +kernel
theorem d_I_resolve_130 : decode b_I_resolve 130 = .ok (.goto 41, 3) := by decide +kernel
theorem d_I_resolve_133 : decode b_I_resolve 133 = .ok (.aload_n 0, 1) := by decide +kernel
theorem d_I_resolve_134 : decode b_I_resolve 134 = .ok (.getfield 44, 3) := by decide +kernel
theorem d_I_resolve_137 : decode b_I_resolve 137 = .ok (.iconst 3, 1) := by decide +kernel
theorem d_I_resolve_138 : decode b_I_resolve 138 = .ok (.aload_n 0, 1) := by decide +kernel
theorem d_I_resolve_139 : decode b_I_resolve 139 = .ok (.getfield 30, 3) := by decide +kernel
theorem d_I_resolve_142 : decode b_I_resolve 142 = .ok (.iload 4, 2) := by decide +kernel
theorem d_I_resolve_144 : decode b_I_resolve 144 = .ok (.iaload, 1) := by decide +kernel
theorem d_I_resolve_145 : decode b_I_resolve 145 = .ok (.aload_n 0, 1) := by decide +kernel
theorem d_I_resolve_146 : decode b_I_resolve 146 = .ok (.getfield 62, 3) := by decide +kernel
theorem d_I_resolve_149 : decode b_I_resolve 149 = .ok (.iload 4, 2) := by decide +kernel
theorem d_I_resolve_151 : decode b_I_resolve 151 = .ok (.invokevirtual 153, 3) := by decide +kernel
theorem d_I_resolve_154 : decode b_I_resolve 154 = .ok (.invokevirtual 129, 3) := by decide +kernel
theorem d_I_resolve_157 : decode b_I_resolve 157 = .ok (.istore_n 3, 1) := by decide +kernel
theorem d_I_resolve_158 : decode b_I_resolve 158 = .ok (.iload_n 3, 1) := by decide +kernel
theorem d_I_resolve_159 : decode b_I_resolve 159 = .ok (.iconst 1, 1) := by decide +kernel
theorem d_I_resolve_160 : decode b_I_resolve 160 = .ok (.if_icmp .ne 11, 3) := by decide +kernel
theorem d_I_resolve_163 : decode b_I_resolve 163 = .ok (.aload_n 0, 1) := by decide +kernel
theorem d_I_resolve_164 : decode b_I_resolve 164 = .ok (.getfield 53, 3) := by decide +kernel
theorem d_I_resolve_167 : decode b_I_resolve 167 = .ok (.invokevirtual 132, 3) := by decide +kernel
theorem d_I_resolve_170 : decode b_I_resolve 170 = .ok (.istore_n 3, 1) := by decide +kernel
theorem d_I_resolve_171 : decode b_I_resolve 171 = .ok (.iinc 4 1, 3) := by decide +kernel
theorem d_I_resolve_174 : decode b_I_resolve 174 = .ok (.goto (-74), 3) := by decide +kernel
theorem d_I_resolve_177 : decode b_I_resolve 177 = .ok (.aload_n 0, 1) := by decide +kernel
theorem d_I_resolve_178 : decode b_I_resolve 178 = .ok (.iload_n 3, 1) := by decide +kernel
theorem d_I_resolve_179 : decode b_I_resolve 179 = .ok (.iconst (-1), 1) := by decide +kernel
theorem d_I_resolve_180 : decode b_I_resolve 180 = .ok (.invokevirtual 143, 3) := by decide +kernel
theorem d_I_resolve_183 : decode b_I_resolve 183 = .ok (.iinc 1 1, 3) := by decide +kernel
theorem d_I_resolve_186 : decode b_I_resolve 186 = .ok (.goto (-167), 3) := by decide +kernel
theorem d_I_resolve_189 : decode b_I_resolve 189 = .ok (.iconst (-1), 1) := by decide +kernel
theorem d_I_resolve_190 : decode b_I_resolve 190 = .ok (.ireturn, 1) := by decide +kernel
theorem d_I_clear_0 : decode b_I_clear 0 = .ok (.aload_n 0, 1) := by decide +kernel
theorem d_I_clear_1 : decode b_I_clear 1 = .ok (.getfield 69, 3) := by decide +kernel
theorem d_I_clear_4 : decode b_I_clear 4 = .ok (.getfield 156, 3) := by decide +kernel
theorem d_I_clear_7 : decode b_I_clear 7 = .ok (.istore_n 1, 1) := by decide +kernel
theorem d_I_clear_8 : decode b_I_clear 8 = .ok (.aload_n 0, 1) := by decide +kernel
theorem d_I_clear_9 : decode b_I_clear 9 = .ok (.iconst 0, 1) := by decide +kernel
theorem d_I_clear_10 : decode b_I_clear 10 = .ok (.putfield 110, 3) := by decide +kernel
theorem d_I_clear_13 : decode b_I_clear 13 = .ok (.aload_n 0, 1) := by decide +kernel
theorem d_I_clear_14 : decode b_I_clear 14 = .ok (.getfield 69, 3) := by decide +kernel
theorem d_I_clear_17 : decode b_I_clear 17 = .ok (.iconst 0, 1) := by decide +kernel
theorem d_I_clear_18 : decode b_I_clear 18 = .ok (.putfield 156, 3) := by decide +kernel
theorem d_I_clear_21 : decode b_I_clear 21 = .ok (.aload_n 0, 1) := by decide +kernel
theorem d_I_clear_22 : decode b_I_clear 22 = .ok (.getfield 26, 3) := by decide +kernel
theorem d_I_clear_25 : decode b_I_clear 25 = .ok (.iconst 0, 1) := by decide +kernel
theorem d_I_clear_26 : decode b_I_clear 26 = .ok (.putfield 159, 3) := by decide +kernel
theorem d_I_clear_29 : decode b_I_clear 29 = .ok (.aload_n 0, 1) := by decide +kernel
theorem d_I_clear_30 : decode b_I_clear 30 = .ok (.getfield 53, 3) := by decide +kernel
theorem d_I_clear_33 : decode b_I_clear 33 = .ok (.iconst 0, 1) := by decide +kernel
theorem d_I_clear_34 : decode b_I_clear 34 = .ok (.putfield 160, 3) := by decide +kernel
theorem d_I_clear_37 : decode b_I_clear 37 = .ok (.aload_n 0, 1) := by decide +kernel
theorem d_I_clear_38 : decode b_I_clear 38 = .ok (.getfield 44, 3) := by decide +kernel
theorem d_I_clear_41 : decode b_I_clear 41 = .ok (.iconst 0, 1) := by decide +kernel
theorem d_I_clear_42 : decode b_I_clear 42 = .ok (.putfield 163, 3) := by decide +kernel
theorem d_I_clear_45 : decode b_I_clear 45 = .ok (.aload_n 0, 1) := by decide +kernel
theorem d_I_clear_46 : decode b_I_clear 46 = .ok (.iconst 0, 1) := by decide +kernel
theorem d_I_clear_47 : decode b_I_clear 47 = .ok (.putfield 116, 3) := by decide +kernel
theorem d_I_clear_50 : decode b_I_clear 50 = .ok (.aload_n 0, 1) := by decide +kernel
theorem d_I_clear_51 : decode b_I_clear 51 = .ok (.iconst (-1), 1) := by decide +kernel
theorem d_I_clear_52 : decode b_I_clear 52 = .ok (.putfield 73, 3) := by decide +kernel
theorem d_I_clear_55 : decode b_I_clear 55 = .ok (.iload_n 1, 1) := by decide +kernel
theorem d_I_clear_56 : decode b_I_clear 56 = .ok (.ireturn, 1) := by decide +kernel
theorem d_I_count_0 : decode b_I_count 0 = .ok (.iload_n 1, 1) := by decide +kernel
theorem d_I_count_1 : decode b_I_count 1 = .ok (.tableswitch 102 0 7 #[47, 55, 63, 68, 76, 84, 89, 97], 47) := by decide +kernel
theorem d_I_count_48 : decode b_I_count 48 = .ok (.aload_n 0, 1) := by decide +kernel
theorem d_I_count_49 : decode b_I_count 49 = .ok (.getfield 10, 3) := by decide +kernel
theorem d_I_count_52 : decode b_I_count 52 = .ok (.getfield 166, 3) := by decide +kernel
theorem d_I_count_55 : decode b_I_count 55 = .ok (.ireturn, 1) := by decide +kernel
theorem d_I_count_56 : decode b_I_count 56 = .ok (.aload_n 0, 1) := by decide +kernel
theorem d_I_count_57 : decode b_I_count 57 = .ok (.getfield 19, 3) := by decide +kernel
theorem d_I_count_60 : decode b_I_count 60 = .ok (.getfield 167, 3) := by decide +kernel
theorem d_I_count_63 : decode b_I_count 63 = .ok (.ireturn, 1) := by decide +kernel
theorem d_I_count_64 : decode b_I_count 64 = .ok (.aload_n 0, 1) := by decide +kernel
theorem d_I_count_65 : decode b_I_count 65 = .ok (.getfield 110, 3) := by decide +kernel
theorem d_I_count_68 : decode b_I_count 68 = .ok (.ireturn, 1) := by decide +kernel
theorem d_I_count_69 : decode b_I_count 69 = .ok (.aload_n 0, 1) := by decide +kernel
theorem d_I_count_70 : decode b_I_count 70 = .ok (.getfield 69, 3) := by decide +kernel
theorem d_I_count_73 : decode b_I_count 73 = .ok (.getfield 156, 3) := by decide +kernel
theorem d_I_count_76 : decode b_I_count 76 = .ok (.ireturn, 1) := by decide +kernel
theorem d_I_count_77 : decode b_I_count 77 = .ok (.aload_n 0, 1) := by decide +kernel
theorem d_I_count_78 : decode b_I_count 78 = .ok (.getfield 26, 3) := by decide +kernel
theorem d_I_count_81 : decode b_I_count 81 = .ok (.getfield 159, 3) := by decide +kernel
theorem d_I_count_84 : decode b_I_count 84 = .ok (.ireturn, 1) := by decide +kernel
theorem d_I_count_85 : decode b_I_count 85 = .ok (.aload_n 0, 1) := by decide +kernel
theorem d_I_count_86 : decode b_I_count 86 = .ok (.getfield 116, 3) := by decide +kernel
theorem d_I_count_89 : decode b_I_count 89 = .ok (.ireturn, 1) := by decide +kernel
theorem d_I_count_90 : decode b_I_count 90 = .ok (.aload_n 0, 1) := by decide +kernel
theorem d_I_count_91 : decode b_I_count 91 = .ok (.getfield 44, 3) := by decide +kernel
theorem d_I_count_94 : decode b_I_count 94 = .ok (.getfield 163, 3) := by decide +kernel
theorem d_I_count_97 : decode b_I_count 97 = .ok (.ireturn, 1) := by decide +kernel
theorem d_I_count_98 : decode b_I_count 98 = .ok (.aload_n 0, 1) := by decide +kernel
theorem d_I_count_99 : decode b_I_count 99 = .ok (.getfield 73, 3) := by decide +kernel
theorem d_I_count_102 : decode b_I_count 102 = .ok (.ireturn, 1) := by decide +kernel
theorem d_I_count_103 : decode b_I_count 103 = .ok (.bipush (-2), 2) := by decide +kernel
theorem d_I_count_105 : decode b_I_count 105 = .ok (.ireturn, 1) := by decide +kernel
theorem d_I_type_0 : decode b_I_type 0 = .ok (.aload_n 0, 1) := by decide +kernel
theorem d_I_type_1 : decode b_I_type 1 = .ok (.getfield 19, 3) := by decide +kernel
theorem d_I_type_4 : decode b_I_type 4 = .ok (.iload_n 1, 1) := by decide +kernel
theorem d_I_type_5 : decode b_I_type 5 = .ok (.invokevirtual 109, 3) := by decide +kernel
theorem d_I_type_8 : decode b_I_type 8 = .ok (.ifCond .ne 6, 3) := by decide +kernel
theorem d_I_type_11 : decode b_I_type 11 = .ok (.bipush (-2), 2) := by decide +kernel
theorem d_I_type_13 : decode b_I_type 13 = .ok (.ireturn, 1) := by decide +kernel
theorem d_I_type_14 : decode b_I_type 14 = .ok (.iload_n 2, 1) := by decide +kernel
theorem d_I_type_15 : decode b_I_type 15 = .ok (.tableswitch 99 0 5 #[37, 46, 55, 64, 73, 82], 37) := by decide +kernel
theorem d_I_type_52 : decode b_I_type 52 = .ok (.aload_n 0, 1) := by decide +kernel
theorem d_I_type_53 : decode b_I_type 53 = .ok (.getfield 19, 3) := by decide +kernel
theorem d_I_type_56 : decode b_I_type 56 = .ok (.iload_n 1, 1) := by decide +kernel
theorem d_I_type_57 : decode b_I_type 57 = .ok (.invokevirtual 106, 3) := by decide +kernel
theorem d_I_type_60 : decode b_I_type 60 = .ok (.ireturn, 1) := by decide +kernel
theorem d_I_type_61 : decode b_I_type 61 = .ok (.aload_n 0, 1) := by decide +kernel
theorem d_I_type_62 : decode b_I_type 62 = .ok (.getfield 19, 3) := by decide +kernel
theorem d_I_type_65 : decode b_I_type 65 = .ok (.iload_n 1, 1) := by decide +kernel
theorem d_I_type_66 : decode b_I_type 66 = .ok (.invokevirtual 89, 3) := by decide +kernel
theorem d_I_type_69 : decode b_I_type 69 = .ok (.ireturn, 1) := by decide +kernel
theorem d_I_type_70 : decode b_I_type 70 = .ok (.aload_n 0, 1) := by decide +kernel
theorem d_I_type_71 : decode b_I_type 71 = .ok (.getfield 19, 3) := by decide +kernel
theorem d_I_type_74 : decode b_I_type 74 = .ok (.iload_n 1, 1) := by decide +kernel
theorem d_I_type_75 : decode b_I_type 75 = .ok (.invokevirtual 168, 3) := by decide +kernel
theorem d_I_type_78 : decode b_I_type 78 = .ok (.ireturn, 1) := by decide +kernel
theorem d_I_type_79 : decode b_I_type 79 = .ok (.aload_n 0, 1) := by decide +kernel
theorem d_I_type_80 : decode b_I_type 80 = .ok (.getfield 19, 3) := by decide +kernel
theorem d_I_type_83 : decode b_I_type 83 = .ok (.iload_n 1, 1) := by decide +kernel
theorem d_I_type_84 : decode b_I_type 84 = .ok (.invokevirtual 171, 3) := by decide +kernel
theorem d_I_type_87 : decode b_I_type 87 = .ok (.ireturn, 1) := by decide +kernel
theorem d_I_type_88 : decode b_I_type 88 = .ok (.aload_n 0, 1) := by decide +kernel
theorem d_I_type_89 : decode b_I_type 89 = .ok (.getfield 19, 3) := by decide +kernel
theorem d_I_type_92 : decode b_I_type 92 = .ok (.iload_n 1, 1) := by decide +kernel
theorem d_I_type_93 : decode b_I_type 93 = .ok (.invokevirtual 174, 3) := by decide +kernel
theorem d_I_type_96 : decode b_I_type 96 = .ok (.ireturn, 1) := by decide +kernel
theorem d_I_type_97 : decode b_I_type 97 = .ok (.aload_n 0, 1) := by decide +kernel
theorem d_I_type_98 : decode b_I_type 98 = .ok (.getfield 19, 3) := by decide +kernel
theorem d_I_type_101 : decode b_I_type 101 = .ok (.iload_n 1, 1) := by decide +kernel
theorem d_I_type_102 : decode b_I_type 102 = .ok (.invokevirtual 177, 3) := by decide +kernel
theorem d_I_type_105 : decode b_I_type 105 = .ok (.ifCond .eq 7, 3) := by decide +kernel
theorem d_I_type_108 : decode b_I_type 108 = .ok (.iconst 1, 1) := by decide +kernel
theorem d_I_type_109 : decode b_I_type 109 = .ok (.goto 4, 3) := by decide +kernel
theorem d_I_type_112 : decode b_I_type 112 = .ok (.iconst 0, 1) := by decide +kernel
theorem d_I_type_113 : decode b_I_type 113 = .ok (.ireturn, 1) := by decide +kernel
theorem d_I_type_114 : decode b_I_type 114 = .ok (.bipush (-2), 2) := by decide +kernel
theorem d_I_type_116 : decode b_I_type 116 = .ok (.ireturn, 1) := by decide +kernel
theorem d_I_bound_0 : decode b_I_bound 0 = .ok (.aload_n 0, 1) := by decide +kernel
theorem d_I_bound_1 : decode b_I_bound 1 = .ok (.getfield 26, 3) := by decide +kernel
theorem d_I_bound_4 : decode b_I_bound 4 = .ok (.iload_n 1, 1) := by decide +kernel
theorem d_I_bound_5 : decode b_I_bound 5 = .ok (.invokevirtual 180, 3) := by decide +kernel
theorem d_I_bound_8 : decode b_I_bound 8 = .ok (.ifCond .ne 6, 3) := by decide +kernel
theorem d_I_bound_11 : decode b_I_bound 11 = .ok (.bipush (-2), 2) := by decide +kernel
theorem d_I_bound_13 : decode b_I_bound 13 = .ok (.ireturn, 1) := by decide +kernel
theorem d_I_bound_14 : decode b_I_bound 14 = .ok (.iload_n 2, 1) := by decide +kernel
theorem d_I_bound_15 : decode b_I_bound 15 = .ok (.tableswitch 65 0 3 #[29, 38, 47, 56], 29) := by decide +kernel
theorem d_I_bound_44 : decode b_I_bound 44 = .ok (.aload_n 0, 1) := by decide +kernel
theorem d_I_bound_45 : decode b_I_bound 45 = .ok (.getfield 26, 3) := by decide +kernel
theorem d_I_bound_48 : decode b_I_bound 48 = .ok (.iload_n 1, 1) := by decide +kernel
theorem d_I_bound_49 : decode b_I_bound 49 = .ok (.invokevirtual 181, 3) := by decide +kernel
theorem d_I_bound_52 : decode b_I_bound 52 = .ok (.ireturn, 1) := by decide +kernel
theorem d_I_bound_53 : decode b_I_bound 53 = .ok (.aload_n 0, 1) := by decide +kernel
theorem d_I_bound_54 : decode b_I_bound 54 = .ok (.getfield 26, 3) := by decide +kernel
theorem d_I_bound_57 : decode b_I_bound 57 = .ok (.iload_n 1, 1) := by decide +kernel
theorem d_I_bound_58 : decode b_I_bound 58 = .ok (.invokevirtual 184, 3) := by decide +kernel
theorem d_I_bound_61 : decode b_I_bound 61 = .ok (.ireturn, 1) := by decide +kernel
theorem d_I_bound_62 : decode b_I_bound 62 = .ok (.aload_n 0, 1) := by decide +kernel
theorem d_I_bound_63 : decode b_I_bound 63 = .ok (.getfield 26, 3) := by decide +kernel
theorem d_I_bound_66 : decode b_I_bound 66 = .ok (.iload_n 1, 1) := by decide +kernel
theorem d_I_bound_67 : decode b_I_bound 67 = .ok (.invokevirtual 187, 3) := by decide +kernel
theorem d_I_bound_70 : decode b_I_bound 70 = .ok (.ireturn, 1) := by decide +kernel
theorem d_I_bound_71 : decode b_I_bound 71 = .ok (.aload_n 0, 1) := by decide +kernel
theorem d_I_bound_72 : decode b_I_bound 72 = .ok (.getfield 26, 3) := by decide +kernel
theorem d_I_bound_75 : decode b_I_bound 75 = .ok (.iload_n 1, 1) := by decide +kernel
theorem d_I_bound_76 : decode b_I_bound 76 = .ok (.invokevirtual 190, 3) := by decide +kernel
theorem d_I_bound_79 : decode b_I_bound 79 = .ok (.ireturn, 1) := by decide +kernel
theorem d_I_bound_80 : decode b_I_bound 80 = .ok (.bipush (-2), 2) := by decide +kernel
theorem d_I_bound_82 : decode b_I_bound 82 = .ok (.ireturn, 1) := by decide +kernel
theorem d_I_instance_0 : decode b_I_instance 0 = .ok (.iload_n 1, 1) := by decide +kernel
theorem d_I_instance_1 : decode b_I_instance 1 = .ok (.ifCond .lt 11, 3) := by decide +kernel
theorem d_I_instance_4 : decode b_I_instance 4 = .ok (.iload_n 1, 1) := by decide +kernel
theorem d_I_instance_5 : decode b_I_instance 5 = .ok (.aload_n 0, 1) := by decide +kernel
theorem d_I_instance_6 : decode b_I_instance 6 = .ok (.getfield 110, 3) := by decide +kernel
theorem d_I_instance_9 : decode b_I_instance 9 = .ok (.if_icmp .lt 6, 3) := by decide +kernel
theorem d_I_instance_12 : decode b_I_instance 12 = .ok (.bipush (-2), 2) := by decide +kernel
theorem d_I_instance_14 : decode b_I_instance 14 = .ok (.ireturn, 1) := by decide +kernel
theorem d_I_instance_15 : decode b_I_instance 15 = .ok (.aload_n 0, 1) := by decide +kernel
theorem d_I_instance_16 : decode b_I_instance 16 = .ok (.getfield 26, 3) := by decide +kernel
theorem d_I_instance_19 : decode b_I_instance 19 = .ok (.iload_n 1, 1) := by decide +kernel
theorem d_I_instance_20 : decode b_I_instance 20 = .ok (.aload_n 0, 1) := by decide +kernel
theorem d_I_instance_21 : decode b_I_instance 21 = .ok (.getfield 19, 3) := by decide +kernel
theorem d_I_instance_24 : decode b_I_instance 24 = .ok (.invokevirtual 193, 3) := by decide +kernel
theorem d_I_instance_27 : decode b_I_instance 27 = .ok (.ireturn, 1) := by decide +kernel
theorem d_I_above_0 : decode b_I_above 0 = .ok (.aload_n 0, 1) := by decide +kernel
theorem d_I_above_1 : decode b_I_above 1 = .ok (.getfield 19, 3) := by decide +kernel
theorem d_I_above_4 : decode b_I_above 4 = .ok (.iload_n 1, 1) := by decide +kernel
theorem d_I_above_5 : decode b_I_above 5 = .ok (.invokevirtual 109, 3) := by decide +kernel
theorem d_I_above_8 : decode b_I_above 8 = .ok (.ifCond .eq 26, 3) := by decide +kernel
theorem d_I_above_11 : decode b_I_above 11 = .ok (.aload_n 0, 1) := by decide +kernel
theorem d_I_above_12 : decode b_I_above 12 = .ok (.getfield 19, 3) := by decide +kernel
theorem d_I_above_15 : decode b_I_above 15 = .ok (.iload_n 1, 1) := by decide +kernel
theorem d_I_above_16 : decode b_I_above 16 = .ok (.invokevirtual 106, 3) := by decide +kernel
theorem d_I_above_19 : decode b_I_above 19 = .ok (.iconst 2, 1) := by decide +kernel
theorem d_I_above_20 : decode b_I_above 20 = .ok (.if_icmp .eq 14, 3) := by decide +kernel
theorem d_I_above_23 : decode b_I_above 23 = .ok (.aload_n 0, 1) := by decide +kernel
theorem d_I_above_24 : decode b_I_above 24 = .ok (.getfield 10, 3) := by decide +kernel
theorem d_I_above_27 : decode b_I_above 27 = .ok (.iload_n 2, 1) := by decide +kernel
theorem d_I_above_28 : decode b_I_above 28 = .ok (.invokevirtual 81, 3) := by decide +kernel
theorem d_I_above_31 : decode b_I_above 31 = .ok (.ifCond .ne 6, 3) := by decide +kernel
theorem d_I_above_34 : decode b_I_above 34 = .ok (.bipush (-2), 2) := by decide +kernel
theorem d_I_above_36 : decode b_I_above 36 = .ok (.ireturn, 1) := by decide +kernel
theorem d_I_above_37 : decode b_I_above 37 = .ok (.aload_n 0, 1) := by decide +kernel
theorem d_I_above_38 : decode b_I_above 38 = .ok (.getfield 44, 3) := by decide +kernel
theorem d_I_above_41 : decode b_I_above 41 = .ok (.iload_n 1, 1) := by decide +kernel
theorem d_I_above_42 : decode b_I_above 42 = .ok (.iload_n 2, 1) := by decide +kernel
theorem d_I_above_43 : decode b_I_above 43 = .ok (.invokevirtual 197, 3) := by decide +kernel
theorem d_I_above_46 : decode b_I_above 46 = .ok (.ireturn, 1) := by decide +kernel
theorem d_I_unchecked_0 : decode b_I_unchecked 0 = .ok (.aload_n 0, 1) := by decide +kernel
theorem d_I_unchecked_1 : decode b_I_unchecked 1 = .ok (.getfield 69, 3) := by decide +kernel
theorem d_I_unchecked_4 : decode b_I_unchecked 4 = .ok (.iload_n 1, 1) := by decide +kernel
theorem d_I_unchecked_5 : decode b_I_unchecked 5 = .ok (.invokevirtual 201, 3) := by decide +kernel
theorem d_I_unchecked_8 : decode b_I_unchecked 8 = .ok (.ifCond .ne 6, 3) := by decide +kernel
theorem d_I_unchecked_11 : decode b_I_unchecked 11 = .ok (.bipush (-2), 2) := by decide +kernel
theorem d_I_unchecked_13 : decode b_I_unchecked 13 = .ok (.ireturn, 1) := by decide +kernel
theorem d_I_unchecked_14 : decode b_I_unchecked 14 = .ok (.aload_n 0, 1) := by decide +kernel
theorem d_I_unchecked_15 : decode b_I_unchecked 15 = .ok (.getfield 69, 3) := by decide +kernel
theorem d_I_unchecked_18 : decode b_I_unchecked 18 = .ok (.iload_n 1, 1) := by decide +kernel
theorem d_I_unchecked_19 : decode b_I_unchecked 19 = .ok (.invokevirtual 202, 3) := by decide +kernel
theorem d_I_unchecked_22 : decode b_I_unchecked 22 = .ok (.ifCond .eq 7, 3) := by decide +kernel
theorem d_I_unchecked_25 : decode b_I_unchecked 25 = .ok (.iconst 1, 1) := by decide +kernel
theorem d_I_unchecked_26 : decode b_I_unchecked 26 = .ok (.goto 4, 3) := by decide +kernel
theorem d_I_unchecked_29 : decode b_I_unchecked 29 = .ok (.iconst 0, 1) := by decide +kernel
theorem d_I_unchecked_30 : decode b_I_unchecked 30 = .ok (.ireturn, 1) := by decide +kernel
theorem d_I_judge_0 : decode b_I_judge 0 = .ok (.aload_n 0, 1) := by decide +kernel
theorem d_I_judge_1 : decode b_I_judge 1 = .ok (.getfield 69, 3) := by decide +kernel
theorem d_I_judge_4 : decode b_I_judge 4 = .ok (.iload_n 1, 1) := by decide +kernel
theorem d_I_judge_5 : decode b_I_judge 5 = .ok (.invokevirtual 201, 3) := by decide +kernel
theorem d_I_judge_8 : decode b_I_judge 8 = .ok (.ifCond .ne 6, 3) := by decide +kernel
theorem d_I_judge_11 : decode b_I_judge 11 = .ok (.bipush (-2), 2) := by decide +kernel
theorem d_I_judge_13 : decode b_I_judge 13 = .ok (.ireturn, 1) := by decide +kernel
theorem d_I_judge_14 : decode b_I_judge 14 = .ok (.aload_n 0, 1) := by decide +kernel
theorem d_I_judge_15 : decode b_I_judge 15 = .ok (.getfield 44, 3) := by decide +kernel
theorem d_I_judge_18 : decode b_I_judge 18 = .ok (.getfield 205, 3) := by decide +kernel
theorem d_I_judge_21 : decode b_I_judge 21 = .ok (.astore_n 2, 1) := by decide +kernel
theorem d_I_judge_22 : decode b_I_judge 22 = .ok (.aload_n 2, 1) := by decide +kernel
theorem d_I_judge_23 : decode b_I_judge 23 = .ok (.invokevirtual 209, 3) := by decide +kernel
theorem d_I_judge_26 : decode b_I_judge 26 = .ok (.iconst 0, 1) := by decide +kernel
theorem d_I_judge_27 : decode b_I_judge 27 = .ok (.istore_n 3, 1) := by decide +kernel
theorem d_I_judge_28 : decode b_I_judge 28 = .ok (.iload_n 3, 1) := by decide +kernel
theorem d_I_judge_29 : decode b_I_judge 29 = .ok (.aload_n 0, 1) := by decide +kernel
theorem d_I_judge_30 : decode b_I_judge 30 = .ok (.getfield 110, 3) := by decide +kernel
theorem d_I_judge_33 : decode b_I_judge 33 = .ok (.if_icmp .ge 35, 3) := by decide +kernel
theorem d_I_judge_36 : decode b_I_judge 36 = .ok (.aload_n 0, 1) := by decide +kernel
theorem d_I_judge_37 : decode b_I_judge 37 = .ok (.getfield 26, 3) := by decide +kernel
theorem d_I_judge_40 : decode b_I_judge 40 = .ok (.iload_n 3, 1) := by decide +kernel
theorem d_I_judge_41 : decode b_I_judge 41 = .ok (.aload_n 0, 1) := by decide +kernel
theorem d_I_judge_42 : decode b_I_judge 42 = .ok (.getfield 19, 3) := by decide +kernel
theorem d_I_judge_45 : decode b_I_judge 45 = .ok (.invokevirtual 193, 3) := by decide +kernel
theorem d_I_judge_48 : decode b_I_judge 48 = .ok (.istore 4, 2) := by decide +kernel
theorem d_I_judge_50 : decode b_I_judge 50 = .ok (.iload 4, 2) := by decide +kernel
theorem d_I_judge_52 : decode b_I_judge 52 = .ok (.ifCond .lt 10, 3) := by decide +kernel
theorem d_I_judge_55 : decode b_I_judge 55 = .ok (.aload_n 2, 1) := by decide +kernel
theorem d_I_judge_56 : decode b_I_judge 56 = .ok (.iload_n 3, 1) := by decide +kernel
theorem d_I_judge_57 : decode b_I_judge 57 = .ok (.iload 4, 2) := by decide +kernel
theorem d_I_judge_59 : decode b_I_judge 59 = .ok (.invokevirtual 212, 3) := by decide +kernel
theorem d_I_judge_62 : decode b_I_judge 62 = .ok (.iinc 3 1, 3) := by decide +kernel
theorem d_I_judge_65 : decode b_I_judge 65 = .ok (.goto (-37), 3) := by decide +kernel
theorem d_I_judge_68 : decode b_I_judge 68 = .ok (.aload_n 2, 1) := by decide +kernel
theorem d_I_judge_69 : decode b_I_judge 69 = .ok (.aload_n 0, 1) := by decide +kernel
theorem d_I_judge_70 : decode b_I_judge 70 = .ok (.getfield 69, 3) := by decide +kernel
theorem d_I_judge_73 : decode b_I_judge 73 = .ok (.iload_n 1, 1) := by decide +kernel
theorem d_I_judge_74 : decode b_I_judge 74 = .ok (.invokevirtual 215, 3) := by decide +kernel
theorem d_I_judge_77 : decode b_I_judge 77 = .ok (.iconst 1, 1) := by decide +kernel
theorem d_I_judge_78 : decode b_I_judge 78 = .ok (.invokevirtual 218, 3) := by decide +kernel
theorem d_I_judge_81 : decode b_I_judge 81 = .ok (.istore_n 3, 1) := by decide +kernel
theorem d_I_judge_82 : decode b_I_judge 82 = .ok (.iload_n 3, 1) := by decide +kernel
theorem d_I_judge_83 : decode b_I_judge 83 = .ok (.ifCond .ge 8, 3) := by decide +kernel
theorem d_I_judge_86 : decode b_I_judge 86 = .ok (.bipush (-3), 2) := by decide +kernel
theorem d_I_judge_88 : decode b_I_judge 88 = .ok (.goto 16, 3) := by decide +kernel
theorem d_I_judge_91 : decode b_I_judge 91 = .ok (.aload_n 2, 1) := by decide +kernel
theorem d_I_judge_92 : decode b_I_judge 92 = .ok (.aload_n 0, 1) := by decide +kernel
theorem d_I_judge_93 : decode b_I_judge 93 = .ok (.getfield 69, 3) := by decide +kernel
theorem d_I_judge_96 : decode b_I_judge 96 = .ok (.iload_n 1, 1) := by decide +kernel
theorem d_I_judge_97 : decode b_I_judge 97 = .ok (.invokevirtual 221, 3) := by decide +kernel
theorem d_I_judge_100 : decode b_I_judge 100 = .ok (.iconst 1, 1) := by decide +kernel
theorem d_I_judge_101 : decode b_I_judge 101 = .ok (.invokevirtual 218, 3) := by decide +kernel
theorem d_I_judge_104 : decode b_I_judge 104 = .ok (.istore 4, 2) := by decide +kernel
theorem d_I_judge_106 : decode b_I_judge 106 = .ok (.iload_n 3, 1) := by decide +kernel
theorem d_I_judge_107 : decode b_I_judge 107 = .ok (.ifCond .lt 8, 3) := by decide +kernel
theorem d_I_judge_110 : decode b_I_judge 110 = .ok (.iload 4, 2) := by decide +kernel
theorem d_I_judge_112 : decode b_I_judge 112 = .ok (.ifCond .ge 6, 3) := by decide +kernel
theorem d_I_judge_115 : decode b_I_judge 115 = .ok (.bipush (-3), 2) := by decide +kernel
theorem d_I_judge_117 : decode b_I_judge 117 = .ok (.ireturn, 1) := by decide +kernel
theorem d_I_judge_118 : decode b_I_judge 118 = .ok (.aload_n 0, 1) := by decide +kernel
theorem d_I_judge_119 : decode b_I_judge 119 = .ok (.getfield 19, 3) := by decide +kernel
theorem d_I_judge_122 : decode b_I_judge 122 = .ok (.iload_n 3, 1) := by decide +kernel
theorem d_I_judge_123 : decode b_I_judge 123 = .ok (.invokevirtual 177, 3) := by decide +kernel
theorem d_I_judge_126 : decode b_I_judge 126 = .ok (.ifCond .eq 15, 3) := by decide +kernel
theorem d_I_judge_129 : decode b_I_judge 129 = .ok (.aload_n 0, 1) := by decide +kernel
theorem d_I_judge_130 : decode b_I_judge 130 = .ok (.getfield 19, 3) := by decide +kernel
theorem d_I_judge_133 : decode b_I_judge 133 = .ok (.iload 4, 2) := by decide +kernel
theorem d_I_judge_135 : decode b_I_judge 135 = .ok (.invokevirtual 177, 3) := by decide +kernel
theorem d_I_judge_138 : decode b_I_judge 138 = .ok (.ifCond .ne 5, 3) := by decide +kernel
theorem d_I_judge_141 : decode b_I_judge 141 = .ok (.iconst 0, 1) := by decide +kernel
theorem d_I_judge_142 : decode b_I_judge 142 = .ok (.ireturn, 1) := by decide +kernel
theorem d_I_judge_143 : decode b_I_judge 143 = .ok (.aload_n 0, 1) := by decide +kernel
theorem d_I_judge_144 : decode b_I_judge 144 = .ok (.getfield 44, 3) := by decide +kernel
theorem d_I_judge_147 : decode b_I_judge 147 = .ok (.getfield 163, 3) := by decide +kernel
theorem d_I_judge_150 : decode b_I_judge 150 = .ok (.istore 5, 2) := by decide +kernel
theorem d_I_judge_152 : decode b_I_judge 152 = .ok (.aload_n 0, 1) := by decide +kernel
theorem d_I_judge_153 : decode b_I_judge 153 = .ok (.getfield 44, 3) := by decide +kernel
theorem d_I_judge_156 : decode b_I_judge 156 = .ok (.iconst (-1), 1) := by decide +kernel
theorem d_I_judge_157 : decode b_I_judge 157 = .ok (.invokevirtual 125, 3) := by decide +kernel
theorem d_I_judge_160 : decode b_I_judge 160 = .ok (.aload_n 0, 1) := by decide +kernel
theorem d_I_judge_161 : decode b_I_judge 161 = .ok (.getfield 44, 3) := by decide +kernel
theorem d_I_judge_164 : decode b_I_judge 164 = .ok (.aload_n 0, 1) := by decide +kernel
theorem d_I_judge_165 : decode b_I_judge 165 = .ok (.getfield 69, 3) := by decide +kernel
theorem d_I_judge_168 : decode b_I_judge 168 = .ok (.iload_n 1, 1) := by decide +kernel
theorem d_I_judge_169 : decode b_I_judge 169 = .ok (.invokevirtual 224, 3) := by decide +kernel
theorem d_I_judge_172 : decode b_I_judge 172 = .ok (.iload_n 3, 1) := by decide +kernel
theorem d_I_judge_173 : decode b_I_judge 173 = .ok (.iload 4, 2) := by decide +kernel
theorem d_I_judge_175 : decode b_I_judge 175 = .ok (.invokevirtual 129, 3) := by decide +kernel
theorem d_I_judge_178 : decode b_I_judge 178 = .ok (.istore 6, 2) := by decide +kernel
theorem d_I_judge_180 : decode b_I_judge 180 = .ok (.iload 6, 2) := by decide +kernel
theorem d_I_judge_182 : decode b_I_judge 182 = .ok (.iconst 1, 1) := by decide +kernel
theorem d_I_judge_183 : decode b_I_judge 183 = .ok (.if_icmp .ne 12, 3) := by decide +kernel
theorem d_I_judge_186 : decode b_I_judge 186 = .ok (.aload_n 0, 1) := by decide +kernel
theorem d_I_judge_187 : decode b_I_judge 187 = .ok (.getfield 44, 3) := by decide +kernel
theorem d_I_judge_190 : decode b_I_judge 190 = .ok (.invokevirtual 225, 3) := by decide +kernel
theorem d_I_judge_193 : decode b_I_judge 193 = .ok (.istore 6, 2) := by decide +kernel
theorem d_I_judge_195 : decode b_I_judge 195 = .ok (.aload_n 0, 1) := by decide +kernel
theorem d_I_judge_196 : decode b_I_judge 196 = .ok (.getfield 44, 3) := by decide +kernel
theorem d_I_judge_199 : decode b_I_judge 199 = .ok (.iload 5, 2) := by decide +kernel
theorem d_I_judge_201 : decode b_I_judge 201 = .ok (.putfield 163, 3) := by decide +kernel
theorem d_I_judge_204 : decode b_I_judge 204 = .ok (.iload 6, 2) := by decide +kernel
theorem d_I_judge_206 : decode b_I_judge 206 = .ok (.iconst 1, 1) := by decide +kernel
theorem d_I_judge_207 : decode b_I_judge 207 = .ok (.if_icmp .ne 15, 3) := by decide +kernel
theorem d_I_judge_210 : decode b_I_judge 210 = .ok (.aload_n 0, 1) := by decide +kernel
theorem d_I_judge_211 : decode b_I_judge 211 = .ok (.getfield 44, 3) := by decide +kernel
theorem d_I_judge_214 : decode b_I_judge 214 = .ok (.getfield 136, 3) := by decide +kernel
theorem d_I_judge_217 : decode b_I_judge 217 = .ok (.ifCond .eq 5, 3) := by decide +kernel
theorem d_I_judge_220 : decode b_I_judge 220 = .ok (.iconst 2, 1) := by decide +kernel
theorem d_I_judge_221 : decode b_I_judge 221 = .ok (.ireturn, 1) := by decide +kernel
theorem d_I_judge_222 : decode b_I_judge 222 = .ok (.iload 6, 2) := by decide +kernel
theorem d_I_judge_224 : decode b_I_judge 224 = .ok (.ireturn, 1) := by decide +kernel
theorem d_I_canBeArgument_0 : decode b_I_canBeArgument 0 = .ok (.aload_n 0, 1) := by decide +kernel
theorem d_I_canBeArgument_1 : decode b_I_canBeArgument 1 = .ok (.getfield 19, 3) := by decide +kernel
theorem d_I_canBeArgument_4 : decode b_I_canBeArgument 4 = .ok (.iload_n 1, 1) := by decide +kernel
theorem d_I_canBeArgument_5 : decode b_I_canBeArgument 5 = .ok (.invokevirtual 106, 3) := by decide +kernel
theorem d_I_canBeArgument_8 : decode b_I_canBeArgument 8 = .ok (.istore_n 2, 1) := by decide +kernel
theorem d_I_canBeArgument_9 : decode b_I_canBeArgument 9 = .ok (.aload_n 0, 1) := by decide +kernel
theorem d_I_canBeArgument_10 : decode b_I_canBeArgument 10 = .ok (.getfield 19, 3) := by decide +kernel
theorem d_I_canBeArgument_13 : decode b_I_canBeArgument 13 = .ok (.iload_n 1, 1) := by decide +kernel
theorem d_I_canBeArgument_14 : decode b_I_canBeArgument 14 = .ok (.invokevirtual 109, 3) := by decide +kernel
theorem d_I_canBeArgument_17 : decode b_I_canBeArgument 17 = .ok (.ifCond .eq 18, 3) := by decide +kernel
theorem d_I_canBeArgument_20 : decode b_I_canBeArgument 20 = .ok (.iload_n 2, 1) := by decide +kernel
theorem d_I_canBeArgument_21 : decode b_I_canBeArgument 21 = .ok (.iconst 5, 1) := by decide +kernel
theorem d_I_canBeArgument_22 : decode b_I_canBeArgument 22 = .ok (.if_icmp .eq 13, 3) := by decide +kernel
theorem d_I_canBeArgument_25 : decode b_I_canBeArgument 25 = .ok (.iload_n 2, 1) := by decide +kernel
theorem d_I_canBeArgument_26 : decode b_I_canBeArgument 26 = .ok (.bipush 6, 2) := by decide +kernel
theorem d_I_canBeArgument_28 : decode b_I_canBeArgument 28 = .ok (.if_icmp .eq 7, 3) := by decide +kernel
theorem d_I_canBeArgument_31 : decode b_I_canBeArgument 31 = .ok (.iconst 1, 1) := by decide +kernel
theorem d_I_canBeArgument_32 : decode b_I_canBeArgument 32 = .ok (.goto 4, 3) := by decide +kernel
theorem d_I_canBeArgument_35 : decode b_I_canBeArgument 35 = .ok (.iconst 0, 1) := by decide +kernel
theorem d_I_canBeArgument_36 : decode b_I_canBeArgument 36 = .ok (.ireturn, 1) := by decide +kernel
theorem d_I_canBeTold_0 : decode b_I_canBeTold 0 = .ok (.aload_n 0, 1) := by decide +kernel
theorem d_I_canBeTold_1 : decode b_I_canBeTold 1 = .ok (.getfield 19, 3) := by decide +kernel
theorem d_I_canBeTold_4 : decode b_I_canBeTold 4 = .ok (.iload_n 2, 1) := by decide +kernel
theorem d_I_canBeTold_5 : decode b_I_canBeTold 5 = .ok (.invokevirtual 109, 3) := by decide +kernel
theorem d_I_canBeTold_8 : decode b_I_canBeTold 8 = .ok (.ifCond .ne 5, 3) := by decide +kernel
theorem d_I_canBeTold_11 : decode b_I_canBeTold 11 = .ok (.iconst 0, 1) := by decide +kernel
theorem d_I_canBeTold_12 : decode b_I_canBeTold 12 = .ok (.ireturn, 1) := by decide +kernel
theorem d_I_canBeTold_13 : decode b_I_canBeTold 13 = .ok (.aload_n 0, 1) := by decide +kernel
theorem d_I_canBeTold_14 : decode b_I_canBeTold 14 = .ok (.getfield 19, 3) := by decide +kernel
theorem d_I_canBeTold_17 : decode b_I_canBeTold 17 = .ok (.iload_n 2, 1) := by decide +kernel
theorem d_I_canBeTold_18 : decode b_I_canBeTold 18 = .ok (.invokevirtual 106, 3) := by decide +kernel
theorem d_I_canBeTold_21 : decode b_I_canBeTold 21 = .ok (.iconst 2, 1) := by decide +kernel
theorem d_I_canBeTold_22 : decode b_I_canBeTold 22 = .ok (.if_icmp .ne 10, 3) := by decide +kernel
theorem d_I_canBeTold_25 : decode b_I_canBeTold 25 = .ok (.iload_n 1, 1) := by decide +kernel
theorem d_I_canBeTold_26 : decode b_I_canBeTold 26 = .ok (.iconst 2, 1) := by decide +kernel
theorem d_I_canBeTold_27 : decode b_I_canBeTold 27 = .ok (.if_icmp .eq 5, 3) := by decide +kernel
theorem d_I_canBeTold_30 : decode b_I_canBeTold 30 = .ok (.iconst 0, 1) := by decide +kernel
theorem d_I_canBeTold_31 : decode b_I_canBeTold 31 = .ok (.ireturn, 1) := by decide +kernel
theorem d_I_canBeTold_32 : decode b_I_canBeTold 32 = .ok (.aload_n 0, 1) := by decide +kernel
theorem d_I_canBeTold_33 : decode b_I_canBeTold 33 = .ok (.getfield 19, 3) := by decide +kernel
theorem d_I_canBeTold_36 : decode b_I_canBeTold 36 = .ok (.iload_n 2, 1) := by decide +kernel
theorem d_I_canBeTold_37 : decode b_I_canBeTold 37 = .ok (.invokevirtual 228, 3) := by decide +kernel
theorem d_I_canBeTold_40 : decode b_I_canBeTold 40 = .ok (.aload_n 0, 1) := by decide +kernel
theorem d_I_canBeTold_41 : decode b_I_canBeTold 41 = .ok (.getfield 110, 3) := by decide +kernel
theorem d_I_canBeTold_44 : decode b_I_canBeTold 44 = .ok (.ishr, 1) := by decide +kernel
theorem d_I_canBeTold_45 : decode b_I_canBeTold 45 = .ok (.ifCond .ne 7, 3) := by decide +kernel
theorem d_I_canBeTold_48 : decode b_I_canBeTold 48 = .ok (.iconst 1, 1) := by decide +kernel
theorem d_I_canBeTold_49 : decode b_I_canBeTold 49 = .ok (.goto 4, 3) := by decide +kernel
theorem d_I_canBeTold_52 : decode b_I_canBeTold 52 = .ok (.iconst 0, 1) := by decide +kernel
theorem d_I_canBeTold_53 : decode b_I_canBeTold 53 = .ok (.ireturn, 1) := by decide +kernel
theorem d_I_canBeParent_0 : decode b_I_canBeParent 0 = .ok (.aload_n 0, 1) := by decide +kernel
theorem d_I_canBeParent_1 : decode b_I_canBeParent 1 = .ok (.getfield 19, 3) := by decide +kernel
theorem d_I_canBeParent_4 : decode b_I_canBeParent 4 = .ok (.iload_n 2, 1) := by decide +kernel
theorem d_I_canBeParent_5 : decode b_I_canBeParent 5 = .ok (.invokevirtual 106, 3) := by decide +kernel
theorem d_I_canBeParent_8 : decode b_I_canBeParent 8 = .ok (.istore_n 3, 1) := by decide +kernel
theorem d_I_canBeParent_9 : decode b_I_canBeParent 9 = .ok (.iload_n 3, 1) := by decide +kernel
theorem d_I_canBeParent_10 : decode b_I_canBeParent 10 = .ok (.ifCond .eq 10, 3) := by decide +kernel
theorem d_I_canBeParent_13 : decode b_I_canBeParent 13 = .ok (.iload_n 3, 1) := by decide +kernel
theorem d_I_canBeParent_14 : decode b_I_canBeParent 14 = .ok (.iconst 1, 1) := by decide +kernel
theorem d_I_canBeParent_15 : decode b_I_canBeParent 15 = .ok (.if_icmp .eq 5, 3) := by decide +kernel
theorem d_I_canBeParent_18 : decode b_I_canBeParent 18 = .ok (.iconst 0, 1) := by decide +kernel
theorem d_I_canBeParent_19 : decode b_I_canBeParent 19 = .ok (.ireturn, 1) := by decide +kernel
theorem d_I_canBeParent_20 : decode b_I_canBeParent 20 = .ok (.aload_n 0, 1) := by decide +kernel
theorem d_I_canBeParent_21 : decode b_I_canBeParent 21 = .ok (.getfield 19, 3) := by decide +kernel
theorem d_I_canBeParent_24 : decode b_I_canBeParent 24 = .ok (.iload_n 2, 1) := by decide +kernel
theorem d_I_canBeParent_25 : decode b_I_canBeParent 25 = .ok (.invokevirtual 89, 3) := by decide +kernel
theorem d_I_canBeParent_28 : decode b_I_canBeParent 28 = .ok (.istore 4, 2) := by decide +kernel
theorem d_I_canBeParent_30 : decode b_I_canBeParent 30 = .ok (.iload 4, 2) := by decide +kernel
theorem d_I_canBeParent_32 : decode b_I_canBeParent 32 = .ok (.ifCond .eq 15, 3) := by decide +kernel
theorem d_I_canBeParent_35 : decode b_I_canBeParent 35 = .ok (.aload_n 0, 1) := by decide +kernel
theorem d_I_canBeParent_36 : decode b_I_canBeParent 36 = .ok (.getfield 19, 3) := by decide +kernel
theorem d_I_canBeParent_39 : decode b_I_canBeParent 39 = .ok (.iload_n 2, 1) := by decide +kernel
theorem d_I_canBeParent_40 : decode b_I_canBeParent 40 = .ok (.iload_n 1, 1) := by decide +kernel
theorem d_I_canBeParent_41 : decode b_I_canBeParent 41 = .ok (.invokevirtual 231, 3) := by decide +kernel
theorem d_I_canBeParent_44 : decode b_I_canBeParent 44 = .ok (.ifCond .ne 5, 3) := by decide +kernel
theorem d_I_canBeParent_47 : decode b_I_canBeParent 47 = .ok (.iconst 0, 1) := by decide +kernel
theorem d_I_canBeParent_48 : decode b_I_canBeParent 48 = .ok (.ireturn, 1) := by decide +kernel
theorem d_I_canBeParent_49 : decode b_I_canBeParent 49 = .ok (.iload_n 3, 1) := by decide +kernel
theorem d_I_canBeParent_50 : decode b_I_canBeParent 50 = .ok (.ifCond .ne 17, 3) := by decide +kernel
theorem d_I_canBeParent_53 : decode b_I_canBeParent 53 = .ok (.aload_n 0, 1) := by decide +kernel
theorem d_I_canBeParent_54 : decode b_I_canBeParent 54 = .ok (.getfield 10, 3) := by decide +kernel
theorem d_I_canBeParent_57 : decode b_I_canBeParent 57 = .ok (.iload 4, 2) := by decide +kernel
theorem d_I_canBeParent_59 : decode b_I_canBeParent 59 = .ok (.invokevirtual 100, 3) := by decide +kernel
theorem d_I_canBeParent_62 : decode b_I_canBeParent 62 = .ok (.ifCond .le 5, 3) := by decide +kernel
theorem d_I_canBeParent_65 : decode b_I_canBeParent 65 = .ok (.iconst 0, 1) := by decide +kernel
theorem d_I_canBeParent_66 : decode b_I_canBeParent 66 = .ok (.ireturn, 1) := by decide +kernel
theorem d_I_canBeParent_67 : decode b_I_canBeParent 67 = .ok (.aload_n 0, 1) := by decide +kernel
theorem d_I_canBeParent_68 : decode b_I_canBeParent 68 = .ok (.getfield 19, 3) := by decide +kernel
theorem d_I_canBeParent_71 : decode b_I_canBeParent 71 = .ok (.aload_n 0, 1) := by decide +kernel
theorem d_I_canBeParent_72 : decode b_I_canBeParent 72 = .ok (.getfield 19, 3) := by decide +kernel
theorem d_I_canBeParent_75 : decode b_I_canBeParent 75 = .ok (.iload_n 2, 1) := by decide +kernel
theorem d_I_canBeParent_76 : decode b_I_canBeParent 76 = .ok (.invokevirtual 168, 3) := by decide +kernel
theorem d_I_canBeParent_79 : decode b_I_canBeParent 79 = .ok (.invokevirtual 106, 3) := by decide +kernel
theorem d_I_canBeParent_82 : decode b_I_canBeParent 82 = .ok (.iconst 2, 1) := by decide +kernel
theorem d_I_canBeParent_83 : decode b_I_canBeParent 83 = .ok (.if_icmp .ne 5, 3) := by decide +kernel
theorem d_I_canBeParent_86 : decode b_I_canBeParent 86 = .ok (.iconst 0, 1) := by decide +kernel
theorem d_I_canBeParent_87 : decode b_I_canBeParent 87 = .ok (.ireturn, 1) := by decide +kernel
theorem d_I_canBeParent_88 : decode b_I_canBeParent 88 = .ok (.aload_n 0, 1) := by decide +kernel
theorem d_I_canBeParent_89 : decode b_I_canBeParent 89 = .ok (.getfield 19, 3) := by decide +kernel
theorem d_I_canBeParent_92 : decode b_I_canBeParent 92 = .ok (.aload_n 0, 1) := by decide +kernel
theorem d_I_canBeParent_93 : decode b_I_canBeParent 93 = .ok (.getfield 19, 3) := by decide +kernel
theorem d_I_canBeParent_96 : decode b_I_canBeParent 96 = .ok (.iload_n 2, 1) := by decide +kernel
theorem d_I_canBeParent_97 : decode b_I_canBeParent 97 = .ok (.invokevirtual 171, 3) := by decide +kernel
theorem d_I_canBeParent_100 : decode b_I_canBeParent 100 = .ok (.invokevirtual 106, 3) := by decide +kernel
theorem d_I_canBeParent_103 : decode b_I_canBeParent 103 = .ok (.iconst 2, 1) := by decide +kernel
theorem d_I_canBeParent_104 : decode b_I_canBeParent 104 = .ok (.if_icmp .ne 5, 3) := by decide +kernel
theorem d_I_canBeParent_107 : decode b_I_canBeParent 107 = .ok (.iconst 0, 1) := by decide +kernel
theorem d_I_canBeParent_108 : decode b_I_canBeParent 108 = .ok (.ireturn, 1) := by decide +kernel
theorem d_I_canBeParent_109 : decode b_I_canBeParent 109 = .ok (.aload_n 0, 1) := by decide +kernel
theorem d_I_canBeParent_110 : decode b_I_canBeParent 110 = .ok (.getfield 19, 3) := by decide +kernel
theorem d_I_canBeParent_113 : decode b_I_canBeParent 113 = .ok (.iload_n 2, 1) := by decide +kernel
theorem d_I_canBeParent_114 : decode b_I_canBeParent 114 = .ok (.bipush 7, 2) := by decide +kernel
theorem d_I_canBeParent_116 : decode b_I_canBeParent 116 = .ok (.invokevirtual 234, 3) := by decide +kernel
theorem d_I_canBeParent_119 : decode b_I_canBeParent 119 = .ok (.ifCond .ne 16, 3) := by decide +kernel
theorem d_I_canBeParent_122 : decode b_I_canBeParent 122 = .ok (.aload_n 0, 1) := by decide +kernel
theorem d_I_canBeParent_123 : decode b_I_canBeParent 123 = .ok (.getfield 19, 3) := by decide +kernel
theorem d_I_canBeParent_126 : decode b_I_canBeParent 126 = .ok (.iload_n 2, 1) := by decide +kernel
theorem d_I_canBeParent_127 : decode b_I_canBeParent 127 = .ok (.bipush 8, 2) := by decide +kernel
theorem d_I_canBeParent_129 : decode b_I_canBeParent 129 = .ok (.invokevirtual 234, 3) := by decide +kernel
theorem d_I_canBeParent_132 : decode b_I_canBeParent 132 = .ok (.ifCond .eq 5, 3) := by decide +kernel
theorem d_I_canBeParent_135 : decode b_I_canBeParent 135 = .ok (.iconst 0, 1) := by decide +kernel
theorem d_I_canBeParent_136 : decode b_I_canBeParent 136 = .ok (.ireturn, 1) := by decide +kernel
theorem d_I_canBeParent_137 : decode b_I_canBeParent 137 = .ok (.aload_n 0, 1) := by decide +kernel
theorem d_I_canBeParent_138 : decode b_I_canBeParent 138 = .ok (.getfield 19, 3) := by decide +kernel
theorem d_I_canBeParent_141 : decode b_I_canBeParent 141 = .ok (.iload_n 2, 1) := by decide +kernel
theorem d_I_canBeParent_142 : decode b_I_canBeParent 142 = .ok (.iload_n 1, 1) := by decide +kernel
theorem d_I_canBeParent_143 : decode b_I_canBeParent 143 = .ok (.invokevirtual 237, 3) := by decide +kernel
theorem d_I_canBeParent_146 : decode b_I_canBeParent 146 = .ok (.lconst 0, 1) := by decide +kernel
theorem d_I_canBeParent_147 : decode b_I_canBeParent 147 = .ok (.lcmp, 1) := by decide +kernel
theorem d_I_canBeParent_148 : decode b_I_canBeParent 148 = .ok (.ifCond .ne 7, 3) := by decide +kernel
theorem d_I_canBeParent_151 : decode b_I_canBeParent 151 = .ok (.iconst 1, 1) := by decide +kernel
theorem d_I_canBeParent_152 : decode b_I_canBeParent 152 = .ok (.goto 4, 3) := by decide +kernel
theorem d_I_canBeParent_155 : decode b_I_canBeParent 155 = .ok (.iconst 0, 1) := by decide +kernel
theorem d_I_canBeParent_156 : decode b_I_canBeParent 156 = .ok (.ireturn, 1) := by decide +kernel
theorem d_I_takeState_0 : decode b_I_takeState 0 = .ok (.iload_n 1, 1) := by decide +kernel
theorem d_I_takeState_1 : decode b_I_takeState 1 = .ok (.iconst 1, 1) := by decide +kernel
theorem d_I_takeState_2 : decode b_I_takeState 2 = .ok (.if_icmp .ne 4, 3) := by decide +kernel
theorem d_I_takeState_5 : decode b_I_takeState 5 = .ok (.return_, 1) := by decide +kernel
theorem d_I_takeState_6 : decode b_I_takeState 6 = .ok (.aload_n 0, 1) := by decide +kernel
theorem d_I_takeState_7 : decode b_I_takeState 7 = .ok (.iload_n 1, 1) := by decide +kernel
theorem d_I_takeState_8 : decode b_I_takeState 8 = .ok (.ifCond .ne 7, 3) := by decide +kernel
theorem d_I_takeState_11 : decode b_I_takeState 11 = .ok (.iconst 1, 1) := by decide +kernel
theorem d_I_takeState_12 : decode b_I_takeState 12 = .ok (.goto 4, 3) := by decide +kernel
theorem d_I_takeState_15 : decode b_I_takeState 15 = .ok (.iconst 2, 1) := by decide +kernel
theorem d_I_takeState_16 : decode b_I_takeState 16 = .ok (.putfield 116, 3) := by decide +kernel
theorem d_I_takeState_19 : decode b_I_takeState 19 = .ok (.aload_n 0, 1) := by decide +kernel
theorem d_I_takeState_20 : decode b_I_takeState 20 = .ok (.iload_n 2, 1) := by decide +kernel
theorem d_I_takeState_21 : decode b_I_takeState 21 = .ok (.putfield 73, 3) := by decide +kernel
theorem d_I_takeState_24 : decode b_I_takeState 24 = .ok (.return_, 1) := by decide +kernel
theorem d_Integer_bitCount_0 : decode b_Integer_bitCount 0 = .ok (.iload_n 0, 1) := by decide +kernel
theorem d_Integer_bitCount_1 : decode b_Integer_bitCount 1 = .ok (.iload_n 0, 1) := by decide +kernel
theorem d_Integer_bitCount_2 : decode b_Integer_bitCount 2 = .ok (.iconst 1, 1) := by decide +kernel
theorem d_Integer_bitCount_3 : decode b_Integer_bitCount 3 = .ok (.iushr, 1) := by decide +kernel
theorem d_Integer_bitCount_4 : decode b_Integer_bitCount 4 = .ok (.ldc_w 265, 3) := by decide +kernel
theorem d_Integer_bitCount_7 : decode b_Integer_bitCount 7 = .ok (.iand, 1) := by decide +kernel
theorem d_Integer_bitCount_8 : decode b_Integer_bitCount 8 = .ok (.isub, 1) := by decide +kernel
theorem d_Integer_bitCount_9 : decode b_Integer_bitCount 9 = .ok (.istore_n 0, 1) := by decide +kernel
theorem d_Integer_bitCount_10 : decode b_Integer_bitCount 10 = .ok (.iload_n 0, 1) := by decide +kernel
theorem d_Integer_bitCount_11 : decode b_Integer_bitCount 11 = .ok (.ldc_w 266, 3) := by decide +kernel
theorem d_Integer_bitCount_14 : decode b_Integer_bitCount 14 = .ok (.iand, 1) := by decide +kernel
theorem d_Integer_bitCount_15 : decode b_Integer_bitCount 15 = .ok (.iload_n 0, 1) := by decide +kernel
theorem d_Integer_bitCount_16 : decode b_Integer_bitCount 16 = .ok (.iconst 2, 1) := by decide +kernel
theorem d_Integer_bitCount_17 : decode b_Integer_bitCount 17 = .ok (.iushr, 1) := by decide +kernel
theorem d_Integer_bitCount_18 : decode b_Integer_bitCount 18 = .ok (.ldc_w 266, 3) := by decide +kernel
theorem d_Integer_bitCount_21 : decode b_Integer_bitCount 21 = .ok (.iand, 1) := by decide +kernel
theorem d_Integer_bitCount_22 : decode b_Integer_bitCount 22 = .ok (.iadd, 1) := by decide +kernel
theorem d_Integer_bitCount_23 : decode b_Integer_bitCount 23 = .ok (.istore_n 0, 1) := by decide +kernel
theorem d_Integer_bitCount_24 : decode b_Integer_bitCount 24 = .ok (.iload_n 0, 1) := by decide +kernel
theorem d_Integer_bitCount_25 : decode b_Integer_bitCount 25 = .ok (.iload_n 0, 1) := by decide +kernel
theorem d_Integer_bitCount_26 : decode b_Integer_bitCount 26 = .ok (.iconst 4, 1) := by decide +kernel
theorem d_Integer_bitCount_27 : decode b_Integer_bitCount 27 = .ok (.iushr, 1) := by decide +kernel
theorem d_Integer_bitCount_28 : decode b_Integer_bitCount 28 = .ok (.iadd, 1) := by decide +kernel
theorem d_Integer_bitCount_29 : decode b_Integer_bitCount 29 = .ok (.ldc_w 267, 3) := by decide +kernel
theorem d_Integer_bitCount_32 : decode b_Integer_bitCount 32 = .ok (.iand, 1) := by decide +kernel
theorem d_Integer_bitCount_33 : decode b_Integer_bitCount 33 = .ok (.istore_n 0, 1) := by decide +kernel
theorem d_Integer_bitCount_34 : decode b_Integer_bitCount 34 = .ok (.iload_n 0, 1) := by decide +kernel
theorem d_Integer_bitCount_35 : decode b_Integer_bitCount 35 = .ok (.iload_n 0, 1) := by decide +kernel
theorem d_Integer_bitCount_36 : decode b_Integer_bitCount 36 = .ok (.bipush 8, 2) := by decide +kernel
theorem d_Integer_bitCount_38 : decode b_Integer_bitCount 38 = .ok (.iushr, 1) := by decide +kernel
theorem d_Integer_bitCount_39 : decode b_Integer_bitCount 39 = .ok (.iadd, 1) := by decide +kernel
theorem d_Integer_bitCount_40 : decode b_Integer_bitCount 40 = .ok (.istore_n 0, 1) := by decide +kernel
theorem d_Integer_bitCount_41 : decode b_Integer_bitCount 41 = .ok (.iload_n 0, 1) := by decide +kernel
theorem d_Integer_bitCount_42 : decode b_Integer_bitCount 42 = .ok (.iload_n 0, 1) := by decide +kernel
theorem d_Integer_bitCount_43 : decode b_Integer_bitCount 43 = .ok (.bipush 16, 2) := by decide +kernel
theorem d_Integer_bitCount_45 : decode b_Integer_bitCount 45 = .ok (.iushr, 1) := by decide +kernel
theorem d_Integer_bitCount_46 : decode b_Integer_bitCount 46 = .ok (.iadd, 1) := by decide +kernel
theorem d_Integer_bitCount_47 : decode b_Integer_bitCount 47 = .ok (.istore_n 0, 1) := by decide +kernel
theorem d_Integer_bitCount_48 : decode b_Integer_bitCount 48 = .ok (.iload_n 0, 1) := by decide +kernel
theorem d_Integer_bitCount_49 : decode b_Integer_bitCount 49 = .ok (.bipush 63, 2) := by decide +kernel
theorem d_Integer_bitCount_51 : decode b_Integer_bitCount 51 = .ok (.iand, 1) := by decide +kernel
theorem d_Integer_bitCount_52 : decode b_Integer_bitCount 52 = .ok (.ireturn, 1) := by decide +kernel
theorem d_Arrays_fill_0 : decode b_Arrays_fill 0 = .ok (.iconst 0, 1) := by decide +kernel
theorem d_Arrays_fill_1 : decode b_Arrays_fill 1 = .ok (.istore_n 2, 1) := by decide +kernel
theorem d_Arrays_fill_2 : decode b_Arrays_fill 2 = .ok (.aload_n 0, 1) := by decide +kernel
theorem d_Arrays_fill_3 : decode b_Arrays_fill 3 = .ok (.arraylength, 1) := by decide +kernel
theorem d_Arrays_fill_4 : decode b_Arrays_fill 4 = .ok (.istore_n 3, 1) := by decide +kernel
theorem d_Arrays_fill_5 : decode b_Arrays_fill 5 = .ok (.iload_n 2, 1) := by decide +kernel
theorem d_Arrays_fill_6 : decode b_Arrays_fill 6 = .ok (.iload_n 3, 1) := by decide +kernel
theorem d_Arrays_fill_7 : decode b_Arrays_fill 7 = .ok (.if_icmp .ge 13, 3) := by decide +kernel
theorem d_Arrays_fill_10 : decode b_Arrays_fill 10 = .ok (.aload_n 0, 1) := by decide +kernel
theorem d_Arrays_fill_11 : decode b_Arrays_fill 11 = .ok (.iload_n 2, 1) := by decide +kernel
theorem d_Arrays_fill_12 : decode b_Arrays_fill 12 = .ok (.iload_n 1, 1) := by decide +kernel
theorem d_Arrays_fill_13 : decode b_Arrays_fill 13 = .ok (.iastore, 1) := by decide +kernel
theorem d_Arrays_fill_14 : decode b_Arrays_fill 14 = .ok (.iinc 2 1, 3) := by decide +kernel
theorem d_Arrays_fill_17 : decode b_Arrays_fill 17 = .ok (.goto (-12), 3) := by decide +kernel
theorem d_Arrays_fill_20 : decode b_Arrays_fill 20 = .ok (.return_, 1) := by decide +kernel
