theorem d_M_hold_0 : decode b_M_hold 0 = .ok (.aload_n 0, 1) := by decide +kernel
theorem d_M_hold_1 : decode b_M_hold 1 = .ok (.getfield 279, 3) := by decide +kernel
theorem d_M_hold_4 : decode b_M_hold 4 = .ok (.aload_n 0, 1) := by decide +kernel
theorem d_M_hold_5 : decode b_M_hold 5 = .ok (.getfield 267, 3) := by decide +kernel
theorem d_M_hold_8 : decode b_M_hold 8 = .ok (.if_icmp .ge 56, 3) := by decide +kernel
theorem d_M_hold_11 : decode b_M_hold 11 = .ok (.aload_n 0, 1) := by decide +kernel
theorem d_M_hold_12 : decode b_M_hold 12 = .ok (.getfield 279, 3) := by decide +kernel
theorem d_M_hold_15 : decode b_M_hold 15 = .ok (.istore_n 1, 1) := by decide +kernel
theorem d_M_hold_16 : decode b_M_hold 16 = .ok (.aload_n 0, 1) := by decide +kernel
theorem d_M_hold_17 : decode b_M_hold 17 = .ok (.dup, 1) := by decide +kernel
theorem d_M_hold_18 : decode b_M_hold 18 = .ok (.getfield 279, 3) := by decide +kernel
theorem d_M_hold_21 : decode b_M_hold 21 = .ok (.iconst 1, 1) := by decide +kernel
theorem d_M_hold_22 : decode b_M_hold 22 = .ok (.iadd, 1) := by decide +kernel
theorem d_M_hold_23 : decode b_M_hold 23 = .ok (.putfield 279, 3) := by decide +kernel
theorem d_M_hold_26 : decode b_M_hold 26 = .ok (.iconst 0, 1) := by decide +kernel
theorem d_M_hold_27 : decode b_M_hold 27 = .ok (.istore_n 2, 1) := by decide +kernel
theorem d_M_hold_28 : decode b_M_hold 28 = .ok (.iload_n 2, 1) := by decide +kernel
theorem d_M_hold_29 : decode b_M_hold 29 = .ok (.iload_n 1, 1) := by decide +kernel
theorem d_M_hold_30 : decode b_M_hold 30 = .ok (.if_icmp .ge 31, 3) := by decide +kernel
theorem d_M_hold_33 : decode b_M_hold 33 = .ok (.aload_n 0, 1) := by decide +kernel
theorem d_M_hold_34 : decode b_M_hold 34 = .ok (.iload_n 2, 1) := by decide +kernel
theorem d_M_hold_35 : decode b_M_hold 35 = .ok (.iload_n 1, 1) := by decide +kernel
theorem d_M_hold_36 : decode b_M_hold 36 = .ok (.iconst 1, 1) := by decide +kernel
theorem d_M_hold_37 : decode b_M_hold 37 = .ok (.invokevirtual 282, 3) := by decide +kernel
theorem d_M_hold_40 : decode b_M_hold 40 = .ok (.ifCond .eq 13, 3) := by decide +kernel
theorem d_M_hold_43 : decode b_M_hold 43 = .ok (.aload_n 0, 1) := by decide +kernel
theorem d_M_hold_44 : decode b_M_hold 44 = .ok (.iload_n 1, 1) := by decide +kernel
theorem d_M_hold_45 : decode b_M_hold 45 = .ok (.iload_n 2, 1) := by decide +kernel
theorem d_M_hold_46 : decode b_M_hold 46 = .ok (.iconst 0, 1) := by decide +kernel
theorem d_M_hold_47 : decode b_M_hold 47 = .ok (.invokevirtual 282, 3) := by decide +kernel
theorem d_M_hold_50 : decode b_M_hold 50 = .ok (.ifCond .ne 5, 3) := by decide +kernel
theorem d_M_hold_53 : decode b_M_hold 53 = .ok (.iconst 0, 1) := by decide +kernel
theorem d_M_hold_54 : decode b_M_hold 54 = .ok (.ireturn, 1) := by decide +kernel
theorem d_M_hold_55 : decode b_M_hold 55 = .ok (.iinc 2 1, 3) := by decide +kernel
theorem d_M_hold_58 : decode b_M_hold 58 = .ok (.goto (-30), 3) := by decide +kernel
theorem d_M_hold_61 : decode b_M_hold 61 = .ok (.goto (-61), 3) := by decide +kernel
theorem d_M_hold_64 : decode b_M_hold 64 = .ok (.iconst 1, 1) := by decide +kernel
theorem d_M_hold_65 : decode b_M_hold 65 = .ok (.ireturn, 1) := by decide +kernel
theorem d_M_holdBoth_0 : decode b_M_holdBoth 0 = .ok (.aload_n 0, 1) := by decide +kernel
theorem d_M_holdBoth_1 : decode b_M_holdBoth 1 = .ok (.getfield 109, 3) := by decide +kernel
theorem d_M_holdBoth_4 : decode b_M_holdBoth 4 = .ok (.iload_n 1, 1) := by decide +kernel
theorem d_M_holdBoth_5 : decode b_M_holdBoth 5 = .ok (.iaload, 1) := by decide +kernel
theorem d_M_holdBoth_6 : decode b_M_holdBoth 6 = .ok (.istore 4, 2) := by decide +kernel
theorem d_M_holdBoth_8 : decode b_M_holdBoth 8 = .ok (.aload_n 0, 1) := by decide +kernel
theorem d_M_holdBoth_9 : decode b_M_holdBoth 9 = .ok (.getfield 109, 3) := by decide +kernel
theorem d_M_holdBoth_12 : decode b_M_holdBoth 12 = .ok (.iload_n 2, 1) := by decide +kernel
theorem d_M_holdBoth_13 : decode b_M_holdBoth 13 = .ok (.iaload, 1) := by decide +kernel
theorem d_M_holdBoth_14 : decode b_M_holdBoth 14 = .ok (.istore 5, 2) := by decide +kernel
theorem d_M_holdBoth_16 : decode b_M_holdBoth 16 = .ok (.aload_n 0, 1) := by decide +kernel
theorem d_M_holdBoth_17 : decode b_M_holdBoth 17 = .ok (.getfield 103, 3) := by decide +kernel
theorem d_M_holdBoth_20 : decode b_M_holdBoth 20 = .ok (.iload_n 1, 1) := by decide +kernel
theorem d_M_holdBoth_21 : decode b_M_holdBoth 21 = .ok (.iaload, 1) := by decide +kernel
theorem d_M_holdBoth_22 : decode b_M_holdBoth 22 = .ok (.istore 6, 2) := by decide +kernel
theorem d_M_holdBoth_24 : decode b_M_holdBoth 24 = .ok (.aload_n 0, 1) := by decide +kernel
theorem d_M_holdBoth_25 : decode b_M_holdBoth 25 = .ok (.getfield 103, 3) := by decide +kernel
theorem d_M_holdBoth_28 : decode b_M_holdBoth 28 = .ok (.iload_n 2, 1) := by decide +kernel
theorem d_M_holdBoth_29 : decode b_M_holdBoth 29 = .ok (.iaload, 1) := by decide +kernel
theorem d_M_holdBoth_30 : decode b_M_holdBoth 30 = .ok (.istore 7, 2) := by decide +kernel
theorem d_M_holdBoth_32 : decode b_M_holdBoth 32 = .ok (.aload_n 0, 1) := by decide +kernel
theorem d_M_holdBoth_33 : decode b_M_holdBoth 33 = .ok (.getfield 106, 3) := by decide +kernel
theorem d_M_holdBoth_36 : decode b_M_holdBoth 36 = .ok (.iload_n 1, 1) := by decide +kernel
theorem d_M_holdBoth_37 : decode b_M_holdBoth 37 = .ok (.iaload, 1) := by decide +kernel
theorem d_M_holdBoth_38 : decode b_M_holdBoth 38 = .ok (.aload_n 0, 1) := by decide +kernel
theorem d_M_holdBoth_39 : decode b_M_holdBoth 39 = .ok (.getfield 106, 3) := by decide +kernel
theorem d_M_holdBoth_42 : decode b_M_holdBoth 42 = .ok (.iload_n 2, 1) := by decide +kernel
theorem d_M_holdBoth_43 : decode b_M_holdBoth 43 = .ok (.iaload, 1) := by decide +kernel
theorem d_M_holdBoth_44 : decode b_M_holdBoth 44 = .ok (.if_icmp .eq 33, 3) := by decide +kernel
theorem d_M_holdBoth_47 : decode b_M_holdBoth 47 = .ok (.iload 6, 2) := by decide +kernel
theorem d_M_holdBoth_49 : decode b_M_holdBoth 49 = .ok (.ifCond .ne 22, 3) := by decide +kernel
theorem d_M_holdBoth_52 : decode b_M_holdBoth 52 = .ok (.aload_n 0, 1) := by decide +kernel
theorem d_M_holdBoth_53 : decode b_M_holdBoth 53 = .ok (.getfield 42, 3) := by decide +kernel
theorem d_M_holdBoth_56 : decode b_M_holdBoth 56 = .ok (.iload 4, 2) := by decide +kernel
theorem d_M_holdBoth_58 : decode b_M_holdBoth 58 = .ok (.baload, 1) := by decide +kernel
theorem d_M_holdBoth_59 : decode b_M_holdBoth 59 = .ok (.ifCond .eq 12, 3) := by decide +kernel
theorem d_M_holdBoth_62 : decode b_M_holdBoth 62 = .ok (.aload_n 0, 1) := by decide +kernel
theorem d_M_holdBoth_63 : decode b_M_holdBoth 63 = .ok (.iload_n 1, 1) := by decide +kernel
theorem d_M_holdBoth_64 : decode b_M_holdBoth 64 = .ok (.iload_n 2, 1) := by decide +kernel
theorem d_M_holdBoth_65 : decode b_M_holdBoth 65 = .ok (.invokevirtual 286, 3) := by decide +kernel
theorem d_M_holdBoth_68 : decode b_M_holdBoth 68 = .ok (.ifCond .eq 7, 3) := by decide +kernel
theorem d_M_holdBoth_71 : decode b_M_holdBoth 71 = .ok (.iconst 1, 1) := by decide +kernel
theorem d_M_holdBoth_72 : decode b_M_holdBoth 72 = .ok (.goto 4, 3) := by decide +kernel
theorem d_M_holdBoth_75 : decode b_M_holdBoth 75 = .ok (.iconst 0, 1) := by decide +kernel
theorem d_M_holdBoth_76 : decode b_M_holdBoth 76 = .ok (.ireturn, 1) := by decide +kernel
theorem d_M_holdBoth_77 : decode b_M_holdBoth 77 = .ok (.iload 6, 2) := by decide +kernel
theorem d_M_holdBoth_79 : decode b_M_holdBoth 79 = .ok (.ifCond .ne 30, 3) := by decide +kernel
theorem d_M_holdBoth_82 : decode b_M_holdBoth 82 = .ok (.iload 7, 2) := by decide +kernel
theorem d_M_holdBoth_84 : decode b_M_holdBoth 84 = .ok (.ifCond .ne 25, 3) := by decide +kernel
theorem d_M_holdBoth_87 : decode b_M_holdBoth 87 = .ok (.iload_n 3, 1) := by decide +kernel
theorem d_M_holdBoth_88 : decode b_M_holdBoth 88 = .ok (.ifCond .eq 15, 3) := by decide +kernel
theorem d_M_holdBoth_91 : decode b_M_holdBoth 91 = .ok (.aload_n 0, 1) := by decide +kernel
theorem d_M_holdBoth_92 : decode b_M_holdBoth 92 = .ok (.iconst 3, 1) := by decide +kernel
theorem d_M_holdBoth_93 : decode b_M_holdBoth 93 = .ok (.iload 4, 2) := by decide +kernel
theorem d_M_holdBoth_95 : decode b_M_holdBoth 95 = .ok (.iload 5, 2) := by decide +kernel
theorem d_M_holdBoth_97 : decode b_M_holdBoth 97 = .ok (.invokevirtual 289, 3) := by decide +kernel
theorem d_M_holdBoth_100 : decode b_M_holdBoth 100 = .ok (.ifCond .eq 7, 3) := by decide +kernel
theorem d_M_holdBoth_103 : decode b_M_holdBoth 103 = .ok (.iconst 1, 1) := by decide +kernel
theorem d_M_holdBoth_104 : decode b_M_holdBoth 104 = .ok (.goto 4, 3) := by decide +kernel
theorem d_M_holdBoth_107 : decode b_M_holdBoth 107 = .ok (.iconst 0, 1) := by decide +kernel
theorem d_M_holdBoth_108 : decode b_M_holdBoth 108 = .ok (.ireturn, 1) := by decide +kernel
theorem d_M_holdBoth_109 : decode b_M_holdBoth 109 = .ok (.iload 6, 2) := by decide +kernel
theorem d_M_holdBoth_111 : decode b_M_holdBoth 111 = .ok (.ifCond .ne 19, 3) := by decide +kernel
theorem d_M_holdBoth_114 : decode b_M_holdBoth 114 = .ok (.iload 7, 2) := by decide +kernel
theorem d_M_holdBoth_116 : decode b_M_holdBoth 116 = .ok (.iconst 1, 1) := by decide +kernel
theorem d_M_holdBoth_117 : decode b_M_holdBoth 117 = .ok (.if_icmp .ne 13, 3) := by decide +kernel
theorem d_M_holdBoth_120 : decode b_M_holdBoth 120 = .ok (.aload_n 0, 1) := by decide +kernel
theorem d_M_holdBoth_121 : decode b_M_holdBoth 121 = .ok (.iconst 1, 1) := by decide +kernel
theorem d_M_holdBoth_122 : decode b_M_holdBoth 122 = .ok (.iload 4, 2) := by decide +kernel
theorem d_M_holdBoth_124 : decode b_M_holdBoth 124 = .ok (.iload 5, 2) := by decide +kernel
theorem d_M_holdBoth_126 : decode b_M_holdBoth 126 = .ok (.invokevirtual 289, 3) := by decide +kernel
theorem d_M_holdBoth_129 : decode b_M_holdBoth 129 = .ok (.ireturn, 1) := by decide +kernel
theorem d_M_holdBoth_130 : decode b_M_holdBoth 130 = .ok (.iload 6, 2) := by decide +kernel
theorem d_M_holdBoth_132 : decode b_M_holdBoth 132 = .ok (.ifCond .ne 13, 3) := by decide +kernel
theorem d_M_holdBoth_135 : decode b_M_holdBoth 135 = .ok (.aload_n 0, 1) := by decide +kernel
theorem d_M_holdBoth_136 : decode b_M_holdBoth 136 = .ok (.iconst 1, 1) := by decide +kernel
theorem d_M_holdBoth_137 : decode b_M_holdBoth 137 = .ok (.iload 5, 2) := by decide +kernel
theorem d_M_holdBoth_139 : decode b_M_holdBoth 139 = .ok (.iload 4, 2) := by decide +kernel
theorem d_M_holdBoth_141 : decode b_M_holdBoth 141 = .ok (.invokevirtual 289, 3) := by decide +kernel
theorem d_M_holdBoth_144 : decode b_M_holdBoth 144 = .ok (.ireturn, 1) := by decide +kernel
theorem d_M_holdBoth_145 : decode b_M_holdBoth 145 = .ok (.iload 6, 2) := by decide +kernel
theorem d_M_holdBoth_147 : decode b_M_holdBoth 147 = .ok (.iconst 2, 1) := by decide +kernel
theorem d_M_holdBoth_148 : decode b_M_holdBoth 148 = .ok (.if_icmp .ne 19, 3) := by decide +kernel
theorem d_M_holdBoth_151 : decode b_M_holdBoth 151 = .ok (.iload 7, 2) := by decide +kernel
theorem d_M_holdBoth_153 : decode b_M_holdBoth 153 = .ok (.iconst 1, 1) := by decide +kernel
theorem d_M_holdBoth_154 : decode b_M_holdBoth 154 = .ok (.if_icmp .ne 13, 3) := by decide +kernel
theorem d_M_holdBoth_157 : decode b_M_holdBoth 157 = .ok (.aload_n 0, 1) := by decide +kernel
theorem d_M_holdBoth_158 : decode b_M_holdBoth 158 = .ok (.iconst 1, 1) := by decide +kernel
theorem d_M_holdBoth_159 : decode b_M_holdBoth 159 = .ok (.iload 4, 2) := by decide +kernel
theorem d_M_holdBoth_161 : decode b_M_holdBoth 161 = .ok (.iload 5, 2) := by decide +kernel
theorem d_M_holdBoth_163 : decode b_M_holdBoth 163 = .ok (.invokevirtual 289, 3) := by decide +kernel
theorem d_M_holdBoth_166 : decode b_M_holdBoth 166 = .ok (.ireturn, 1) := by decide +kernel
theorem d_M_holdBoth_167 : decode b_M_holdBoth 167 = .ok (.iload 6, 2) := by decide +kernel
theorem d_M_holdBoth_169 : decode b_M_holdBoth 169 = .ok (.iconst 1, 1) := by decide +kernel
theorem d_M_holdBoth_170 : decode b_M_holdBoth 170 = .ok (.if_icmp .ne 24, 3) := by decide +kernel
theorem d_M_holdBoth_173 : decode b_M_holdBoth 173 = .ok (.iload 7, 2) := by decide +kernel
theorem d_M_holdBoth_175 : decode b_M_holdBoth 175 = .ok (.iconst 1, 1) := by decide +kernel
theorem d_M_holdBoth_176 : decode b_M_holdBoth 176 = .ok (.if_icmp .ne 18, 3) := by decide +kernel
theorem d_M_holdBoth_179 : decode b_M_holdBoth 179 = .ok (.iload_n 3, 1) := by decide +kernel
theorem d_M_holdBoth_180 : decode b_M_holdBoth 180 = .ok (.ifCond .eq 14, 3) := by decide +kernel
theorem d_M_holdBoth_183 : decode b_M_holdBoth 183 = .ok (.aload_n 0, 1) := by decide +kernel
theorem d_M_holdBoth_184 : decode b_M_holdBoth 184 = .ok (.iload 4, 2) := by decide +kernel
theorem d_M_holdBoth_186 : decode b_M_holdBoth 186 = .ok (.iload 5, 2) := by decide +kernel
theorem d_M_holdBoth_188 : decode b_M_holdBoth 188 = .ok (.invokevirtual 292, 3) := by decide +kernel
theorem d_M_holdBoth_191 : decode b_M_holdBoth 191 = .ok (.ifCond .eq 7, 3) := by decide +kernel
theorem d_M_holdBoth_194 : decode b_M_holdBoth 194 = .ok (.iconst 1, 1) := by decide +kernel
theorem d_M_holdBoth_195 : decode b_M_holdBoth 195 = .ok (.goto 4, 3) := by decide +kernel
theorem d_M_holdBoth_198 : decode b_M_holdBoth 198 = .ok (.iconst 0, 1) := by decide +kernel
theorem d_M_holdBoth_199 : decode b_M_holdBoth 199 = .ok (.ireturn, 1) := by decide +kernel
theorem d_M_isIn_0 : decode b_M_isIn 0 = .ok (.iconst 0, 1) := by decide +kernel
theorem d_M_isIn_1 : decode b_M_isIn 1 = .ok (.istore_n 3, 1) := by decide +kernel
theorem d_M_isIn_2 : decode b_M_isIn 2 = .ok (.aload_n 0, 1) := by decide +kernel
theorem d_M_isIn_3 : decode b_M_isIn 3 = .ok (.dup, 1) := by decide +kernel
theorem d_M_isIn_4 : decode b_M_isIn 4 = .ok (.getfield 167, 3) := by decide +kernel
theorem d_M_isIn_7 : decode b_M_isIn 7 = .ok (.iconst 1, 1) := by decide +kernel
theorem d_M_isIn_8 : decode b_M_isIn 8 = .ok (.iadd, 1) := by decide +kernel
theorem d_M_isIn_9 : decode b_M_isIn 9 = .ok (.putfield 167, 3) := by decide +kernel
theorem d_M_isIn_12 : decode b_M_isIn 12 = .ok (.aload_n 0, 1) := by decide +kernel
theorem d_M_isIn_13 : decode b_M_isIn 13 = .ok (.iconst 0, 1) := by decide +kernel
theorem d_M_isIn_14 : decode b_M_isIn 14 = .ok (.putfield 170, 3) := by decide +kernel
theorem d_M_isIn_17 : decode b_M_isIn 17 = .ok (.aload_n 0, 1) := by decide +kernel
theorem d_M_isIn_18 : decode b_M_isIn 18 = .ok (.getfield 46, 3) := by decide +kernel
theorem d_M_isIn_21 : decode b_M_isIn 21 = .ok (.aload_n 0, 1) := by decide +kernel
theorem d_M_isIn_22 : decode b_M_isIn 22 = .ok (.dup, 1) := by decide +kernel
theorem d_M_isIn_23 : decode b_M_isIn 23 = .ok (.getfield 170, 3) := by decide +kernel
theorem d_M_isIn_26 : decode b_M_isIn 26 = .ok (.dup_x1, 1) := by decide +kernel
theorem d_M_isIn_27 : decode b_M_isIn 27 = .ok (.iconst 1, 1) := by decide +kernel
theorem d_M_isIn_28 : decode b_M_isIn 28 = .ok (.iadd, 1) := by decide +kernel
theorem d_M_isIn_29 : decode b_M_isIn 29 = .ok (.putfield 170, 3) := by decide +kernel
theorem d_M_isIn_32 : decode b_M_isIn 32 = .ok (.iload_n 2, 1) := by decide +kernel
theorem d_M_isIn_33 : decode b_M_isIn 33 = .ok (.iastore, 1) := by decide +kernel
theorem d_M_isIn_34 : decode b_M_isIn 34 = .ok (.aload_n 0, 1) := by decide +kernel
theorem d_M_isIn_35 : decode b_M_isIn 35 = .ok (.getfield 170, 3) := by decide +kernel
theorem d_M_isIn_38 : decode b_M_isIn 38 = .ok (.ifCond .le 215, 3) := by decide +kernel
theorem d_M_isIn_41 : decode b_M_isIn 41 = .ok (.iload_n 3, 1) := by decide +kernel
theorem d_M_isIn_42 : decode b_M_isIn 42 = .ok (.ifCond .ne 211, 3) := by decide +kernel
theorem d_M_isIn_45 : decode b_M_isIn 45 = .ok (.aload_n 0, 1) := by decide +kernel
theorem d_M_isIn_46 : decode b_M_isIn 46 = .ok (.getfield 46, 3) := by decide +kernel
theorem d_M_isIn_49 : decode b_M_isIn 49 = .ok (.aload_n 0, 1) := by decide +kernel
theorem d_M_isIn_50 : decode b_M_isIn 50 = .ok (.dup, 1) := by decide +kernel
theorem d_M_isIn_51 : decode b_M_isIn 51 = .ok (.getfield 170, 3) := by decide +kernel
theorem d_M_isIn_54 : decode b_M_isIn 54 = .ok (.iconst 1, 1) := by decide +kernel
theorem d_M_isIn_55 : decode b_M_isIn 55 = .ok (.isub, 1) := by decide +kernel
theorem d_M_isIn_56 : decode b_M_isIn 56 = .ok (.dup_x1, 1) := by decide +kernel
theorem d_M_isIn_57 : decode b_M_isIn 57 = .ok (.putfield 170, 3) := by decide +kernel
theorem d_M_isIn_60 : decode b_M_isIn 60 = .ok (.iaload, 1) := by decide +kernel
theorem d_M_isIn_61 : decode b_M_isIn 61 = .ok (.istore 4, 2) := by decide +kernel
theorem d_M_isIn_63 : decode b_M_isIn 63 = .ok (.aload_n 0, 1) := by decide +kernel
theorem d_M_isIn_64 : decode b_M_isIn 64 = .ok (.iload 4, 2) := by decide +kernel
theorem d_M_isIn_66 : decode b_M_isIn 66 = .ok (.invokevirtual 173, 3) := by decide +kernel
theorem d_M_isIn_69 : decode b_M_isIn 69 = .ok (.ifCond .eq 6, 3) := by decide +kernel
theorem d_M_isIn_72 : decode b_M_isIn 72 = .ok (.goto (-38), 3) := by decide +kernel
theorem d_M_isIn_75 : decode b_M_isIn 75 = .ok (.aload_n 0, 1) := by decide +kernel
theorem d_M_isIn_76 : decode b_M_isIn 76 = .ok (.getfield 27, 3) := by decide +kernel
theorem d_M_isIn_79 : decode b_M_isIn 79 = .ok (.iload 4, 2) := by decide +kernel
theorem d_M_isIn_81 : decode b_M_isIn 81 = .ok (.iaload, 1) := by decide +kernel
theorem d_M_isIn_82 : decode b_M_isIn 82 = .ok (.bipush 7, 2) := by decide +kernel
theorem d_M_isIn_84 : decode b_M_isIn 84 = .ok (.if_icmp .ne 18, 3) := by decide +kernel
theorem d_M_isIn_87 : decode b_M_isIn 87 = .ok (.aload_n 0, 1) := by decide +kernel
theorem d_M_isIn_88 : decode b_M_isIn 88 = .ok (.getfield 30, 3) := by decide +kernel
theorem d_M_isIn_91 : decode b_M_isIn 91 = .ok (.iload 4, 2) := by decide +kernel
theorem d_M_isIn_93 : decode b_M_isIn 93 = .ok (.iaload, 1) := by decide +kernel
theorem d_M_isIn_94 : decode b_M_isIn 94 = .ok (.iload_n 1, 1) := by decide +kernel
theorem d_M_isIn_95 : decode b_M_isIn 95 = .ok (.if_icmp .ne 7, 3) := by decide +kernel
theorem d_M_isIn_98 : decode b_M_isIn 98 = .ok (.iconst 1, 1) := by decide +kernel
theorem d_M_isIn_99 : decode b_M_isIn 99 = .ok (.goto 4, 3) := by decide +kernel
theorem d_M_isIn_102 : decode b_M_isIn 102 = .ok (.iconst 0, 1) := by decide +kernel
theorem d_M_isIn_103 : decode b_M_isIn 103 = .ok (.istore_n 3, 1) := by decide +kernel
theorem d_M_isIn_104 : decode b_M_isIn 104 = .ok (.aload_n 0, 1) := by decide +kernel
theorem d_M_isIn_105 : decode b_M_isIn 105 = .ok (.getfield 27, 3) := by decide +kernel
theorem d_M_isIn_108 : decode b_M_isIn 108 = .ok (.iload 4, 2) := by decide +kernel
theorem d_M_isIn_110 : decode b_M_isIn 110 = .ok (.iaload, 1) := by decide +kernel
theorem d_M_isIn_111 : decode b_M_isIn 111 = .ok (.iconst 4, 1) := by decide +kernel
theorem d_M_isIn_112 : decode b_M_isIn 112 = .ok (.if_icmp .eq 15, 3) := by decide +kernel
theorem d_M_isIn_115 : decode b_M_isIn 115 = .ok (.aload_n 0, 1) := by decide +kernel
theorem d_M_isIn_116 : decode b_M_isIn 116 = .ok (.getfield 27, 3) := by decide +kernel
theorem d_M_isIn_119 : decode b_M_isIn 119 = .ok (.iload 4, 2) := by decide +kernel
theorem d_M_isIn_121 : decode b_M_isIn 121 = .ok (.iaload, 1) := by decide +kernel
theorem d_M_isIn_122 : decode b_M_isIn 122 = .ok (.bipush 8, 2) := by decide +kernel
theorem d_M_isIn_124 : decode b_M_isIn 124 = .ok (.if_icmp .ne 26, 3) := by decide +kernel
theorem d_M_isIn_127 : decode b_M_isIn 127 = .ok (.aload_n 0, 1) := by decide +kernel
theorem d_M_isIn_128 : decode b_M_isIn 128 = .ok (.getfield 46, 3) := by decide +kernel
theorem d_M_isIn_131 : decode b_M_isIn 131 = .ok (.aload_n 0, 1) := by decide +kernel
theorem d_M_isIn_132 : decode b_M_isIn 132 = .ok (.dup, 1) := by decide +kernel
theorem d_M_isIn_133 : decode b_M_isIn 133 = .ok (.getfield 170, 3) := by decide +kernel
theorem d_M_isIn_136 : decode b_M_isIn 136 = .ok (.dup_x1, 1) := by decide +kernel
theorem d_M_isIn_137 : decode b_M_isIn 137 = .ok (.iconst 1, 1) := by decide +kernel
theorem d_M_isIn_138 : decode b_M_isIn 138 = .ok (.iadd, 1) := by decide +kernel
theorem d_M_isIn_139 : decode b_M_isIn 139 = .ok (.putfield 170, 3) := by decide +kernel
theorem d_M_isIn_142 : decode b_M_isIn 142 = .ok (.aload_n 0, 1) := by decide +kernel
theorem d_M_isIn_143 : decode b_M_isIn 143 = .ok (.getfield 30, 3) := by decide +kernel
theorem d_M_isIn_146 : decode b_M_isIn 146 = .ok (.iload 4, 2) := by decide +kernel
theorem d_M_isIn_148 : decode b_M_isIn 148 = .ok (.iaload, 1) := by decide +kernel
theorem d_M_isIn_149 : decode b_M_isIn 149 = .ok (.iastore, 1) := by decide +kernel
theorem d_M_isIn_150 : decode b_M_isIn 150 = .ok (.aload_n 0, 1) := by decide +kernel
theorem d_M_isIn_151 : decode b_M_isIn 151 = .ok (.getfield 27, 3) := by decide +kernel
theorem d_M_isIn_154 : decode b_M_isIn 154 = .ok (.iload 4, 2) := by decide +kernel
theorem d_M_isIn_156 : decode b_M_isIn 156 = .ok (.iaload, 1) := by decide +kernel
theorem d_M_isIn_157 : decode b_M_isIn 157 = .ok (.iconst 1, 1) := by decide +kernel
theorem d_M_isIn_158 : decode b_M_isIn 158 = .ok (.if_icmp .eq 24, 3) := by decide +kernel
theorem d_M_isIn_161 : decode b_M_isIn 161 = .ok (.aload_n 0, 1) := by decide +kernel
theorem d_M_isIn_162 : decode b_M_isIn 162 = .ok (.getfield 27, 3) := by decide +kernel
theorem d_M_isIn_165 : decode b_M_isIn 165 = .ok (.iload 4, 2) := by decide +kernel
theorem d_M_isIn_167 : decode b_M_isIn 167 = .ok (.iaload, 1) := by decide +kernel
theorem d_M_isIn_168 : decode b_M_isIn 168 = .ok (.iconst 2, 1) := by decide +kernel
theorem d_M_isIn_169 : decode b_M_isIn 169 = .ok (.if_icmp .ne 36, 3) := by decide +kernel
theorem d_M_isIn_172 : decode b_M_isIn 172 = .ok (.aload_n 0, 1) := by decide +kernel
theorem d_M_isIn_173 : decode b_M_isIn 173 = .ok (.getfield 30, 3) := by decide +kernel
theorem d_M_isIn_176 : decode b_M_isIn 176 = .ok (.iload 4, 2) := by decide +kernel
theorem d_M_isIn_178 : decode b_M_isIn 178 = .ok (.iaload, 1) := by decide +kernel
theorem d_M_isIn_179 : decode b_M_isIn 179 = .ok (.ifCond .le 26, 3) := by decide +kernel
theorem d_M_isIn_182 : decode b_M_isIn 182 = .ok (.aload_n 0, 1) := by decide +kernel
theorem d_M_isIn_183 : decode b_M_isIn 183 = .ok (.getfield 46, 3) := by decide +kernel
theorem d_M_isIn_186 : decode b_M_isIn 186 = .ok (.aload_n 0, 1) := by decide +kernel
theorem d_M_isIn_187 : decode b_M_isIn 187 = .ok (.dup, 1) := by decide +kernel
theorem d_M_isIn_188 : decode b_M_isIn 188 = .ok (.getfield 170, 3) := by decide +kernel
theorem d_M_isIn_191 : decode b_M_isIn 191 = .ok (.dup_x1, 1) := by decide +kernel
theorem d_M_isIn_192 : decode b_M_isIn 192 = .ok (.iconst 1, 1) := by decide +kernel
theorem d_M_isIn_193 : decode b_M_isIn 193 = .ok (.iadd, 1) := by decide +kernel
theorem d_M_isIn_194 : decode b_M_isIn 194 = .ok (.putfield 170, 3) := by decide +kernel
theorem d_M_isIn_197 : decode b_M_isIn 197 = .ok (.aload_n 0, 1) := by decide +kernel
theorem d_M_isIn_198 : decode b_M_isIn 198 = .ok (.getfield 33, 3) := by decide +kernel
theorem d_M_isIn_201 : decode b_M_isIn 201 = .ok (.iload 4, 2) := by decide +kernel
theorem d_M_isIn_203 : decode b_M_isIn 203 = .ok (.iaload, 1) := by decide +kernel
theorem d_M_isIn_204 : decode b_M_isIn 204 = .ok (.iastore, 1) := by decide +kernel
theorem d_M_isIn_205 : decode b_M_isIn 205 = .ok (.aload_n 0, 1) := by decide +kernel
theorem d_M_isIn_206 : decode b_M_isIn 206 = .ok (.getfield 27, 3) := by decide +kernel
theorem d_M_isIn_209 : decode b_M_isIn 209 = .ok (.iload 4, 2) := by decide +kernel
theorem d_M_isIn_211 : decode b_M_isIn 211 = .ok (.iaload, 1) := by decide +kernel
theorem d_M_isIn_212 : decode b_M_isIn 212 = .ok (.iconst 1, 1) := by decide +kernel
theorem d_M_isIn_213 : decode b_M_isIn 213 = .ok (.if_icmp .ne 37, 3) := by decide +kernel
theorem d_M_isIn_216 : decode b_M_isIn 216 = .ok (.aload_n 0, 1) := by decide +kernel
theorem d_M_isIn_217 : decode b_M_isIn 217 = .ok (.getfield 36, 3) := by decide +kernel
theorem d_M_isIn_220 : decode b_M_isIn 220 = .ok (.iload 4, 2) := by decide +kernel
theorem d_M_isIn_222 : decode b_M_isIn 222 = .ok (.iaload, 1) := by decide +kernel
theorem d_M_isIn_223 : decode b_M_isIn 223 = .ok (.iconst (-1), 1) := by decide +kernel
theorem d_M_isIn_224 : decode b_M_isIn 224 = .ok (.if_icmp .eq 26, 3) := by decide +kernel
theorem d_M_isIn_227 : decode b_M_isIn 227 = .ok (.aload_n 0, 1) := by decide +kernel
theorem d_M_isIn_228 : decode b_M_isIn 228 = .ok (.getfield 46, 3) := by decide +kernel
theorem d_M_isIn_231 : decode b_M_isIn 231 = .ok (.aload_n 0, 1) := by decide +kernel
theorem d_M_isIn_232 : decode b_M_isIn 232 = .ok (.dup, 1) := by decide +kernel
theorem d_M_isIn_233 : decode b_M_isIn 233 = .ok (.getfield 170, 3) := by decide +kernel
theorem d_M_isIn_236 : decode b_M_isIn 236 = .ok (.dup_x1, 1) := by decide +kernel
theorem d_M_isIn_237 : decode b_M_isIn 237 = .ok (.iconst 1, 1) := by decide +kernel
theorem d_M_isIn_238 : decode b_M_isIn 238 = .ok (.iadd, 1) := by decide +kernel
theorem d_M_isIn_239 : decode b_M_isIn 239 = .ok (.putfield 170, 3) := by decide +kernel
theorem d_M_isIn_242 : decode b_M_isIn 242 = .ok (.aload_n 0, 1) := by decide +kernel
theorem d_M_isIn_243 : decode b_M_isIn 243 = .ok (.getfield 36, 3) := by decide +kernel
theorem d_M_isIn_246 : decode b_M_isIn 246 = .ok (.iload 4, 2) := by decide +kernel
theorem d_M_isIn_248 : decode b_M_isIn 248 = .ok (.iaload, 1) := by decide +kernel
theorem d_M_isIn_249 : decode b_M_isIn 249 = .ok (.iastore, 1) := by decide +kernel
theorem d_M_isIn_250 : decode b_M_isIn 250 = .ok (.goto (-216), 3) := by decide +kernel
theorem d_M_isIn_253 : decode b_M_isIn 253 = .ok (.iload_n 3, 1) := by decide +kernel
theorem d_M_isIn_254 : decode b_M_isIn 254 = .ok (.ireturn, 1) := by decide +kernel
theorem d_M_holdIn_0 : decode b_M_holdIn 0 = .ok (.aload_n 0, 1) := by decide +kernel
theorem d_M_holdIn_1 : decode b_M_holdIn 1 = .ok (.getfield 106, 3) := by decide +kernel
theorem d_M_holdIn_4 : decode b_M_holdIn 4 = .ok (.iload_n 1, 1) := by decide +kernel
theorem d_M_holdIn_5 : decode b_M_holdIn 5 = .ok (.iaload, 1) := by decide +kernel
theorem d_M_holdIn_6 : decode b_M_holdIn 6 = .ok (.istore_n 3, 1) := by decide +kernel
theorem d_M_holdIn_7 : decode b_M_holdIn 7 = .ok (.aload_n 0, 1) := by decide +kernel
theorem d_M_holdIn_8 : decode b_M_holdIn 8 = .ok (.iload_n 3, 1) := by decide +kernel
theorem d_M_holdIn_9 : decode b_M_holdIn 9 = .ok (.aload_n 0, 1) := by decide +kernel
theorem d_M_holdIn_10 : decode b_M_holdIn 10 = .ok (.getfield 109, 3) := by decide +kernel
theorem d_M_holdIn_13 : decode b_M_holdIn 13 = .ok (.iload_n 2, 1) := by decide +kernel
theorem d_M_holdIn_14 : decode b_M_holdIn 14 = .ok (.iaload, 1) := by decide +kernel
theorem d_M_holdIn_15 : decode b_M_holdIn 15 = .ok (.invokevirtual 295, 3) := by decide +kernel
theorem d_M_holdIn_18 : decode b_M_holdIn 18 = .ok (.ifCond .ne 5, 3) := by decide +kernel
theorem d_M_holdIn_21 : decode b_M_holdIn 21 = .ok (.iconst 1, 1) := by decide +kernel
theorem d_M_holdIn_22 : decode b_M_holdIn 22 = .ok (.ireturn, 1) := by decide +kernel
theorem d_M_holdIn_23 : decode b_M_holdIn 23 = .ok (.iconst 0, 1) := by decide +kernel
theorem d_M_holdIn_24 : decode b_M_holdIn 24 = .ok (.istore 4, 2) := by decide +kernel
theorem d_M_holdIn_26 : decode b_M_holdIn 26 = .ok (.iload 4, 2) := by decide +kernel
theorem d_M_holdIn_28 : decode b_M_holdIn 28 = .ok (.bipush 12, 2) := by decide +kernel
theorem d_M_holdIn_30 : decode b_M_holdIn 30 = .ok (.if_icmp .ge 32, 3) := by decide +kernel
theorem d_M_holdIn_33 : decode b_M_holdIn 33 = .ok (.aload_n 0, 1) := by decide +kernel
theorem d_M_holdIn_34 : decode b_M_holdIn 34 = .ok (.getfield 64, 3) := by decide +kernel
theorem d_M_holdIn_37 : decode b_M_holdIn 37 = .ok (.iload 4, 2) := by decide +kernel
theorem d_M_holdIn_39 : decode b_M_holdIn 39 = .ok (.iload 4, 2) := by decide +kernel
theorem d_M_holdIn_41 : decode b_M_holdIn 41 = .ok (.iload_n 3, 1) := by decide +kernel
theorem d_M_holdIn_42 : decode b_M_holdIn 42 = .ok (.if_icmp .ne 12, 3) := by decide +kernel
theorem d_M_holdIn_45 : decode b_M_holdIn 45 = .ok (.aload_n 0, 1) := by decide +kernel
theorem d_M_holdIn_46 : decode b_M_holdIn 46 = .ok (.getfield 109, 3) := by decide +kernel
theorem d_M_holdIn_49 : decode b_M_holdIn 49 = .ok (.iload_n 1, 1) := by decide +kernel
theorem d_M_holdIn_50 : decode b_M_holdIn 50 = .ok (.iaload, 1) := by decide +kernel
theorem d_M_holdIn_51 : decode b_M_holdIn 51 = .ok (.goto 4, 3) := by decide +kernel
theorem d_M_holdIn_54 : decode b_M_holdIn 54 = .ok (.iconst (-1), 1) := by decide +kernel
theorem d_M_holdIn_55 : decode b_M_holdIn 55 = .ok (.iastore, 1) := by decide +kernel
theorem d_M_holdIn_56 : decode b_M_holdIn 56 = .ok (.iinc 4 1, 3) := by decide +kernel
theorem d_M_holdIn_59 : decode b_M_holdIn 59 = .ok (.goto (-33), 3) := by decide +kernel
theorem d_M_holdIn_62 : decode b_M_holdIn 62 = .ok (.aload_n 0, 1) := by decide +kernel
theorem d_M_holdIn_63 : decode b_M_holdIn 63 = .ok (.aload_n 0, 1) := by decide +kernel
theorem d_M_holdIn_64 : decode b_M_holdIn 64 = .ok (.getfield 109, 3) := by decide +kernel
theorem d_M_holdIn_67 : decode b_M_holdIn 67 = .ok (.iload_n 2, 1) := by decide +kernel
theorem d_M_holdIn_68 : decode b_M_holdIn 68 = .ok (.iaload, 1) := by decide +kernel
theorem d_M_holdIn_69 : decode b_M_holdIn 69 = .ok (.iconst (-1), 1) := by decide +kernel
theorem d_M_holdIn_70 : decode b_M_holdIn 70 = .ok (.invokevirtual 209, 3) := by decide +kernel
theorem d_M_holdIn_73 : decode b_M_holdIn 73 = .ok (.istore 4, 2) := by decide +kernel
theorem d_M_holdIn_75 : decode b_M_holdIn 75 = .ok (.aload_n 0, 1) := by decide +kernel
theorem d_M_holdIn_76 : decode b_M_holdIn 76 = .ok (.bipush 7, 2) := by decide +kernel
theorem d_M_holdIn_78 : decode b_M_holdIn 78 = .ok (.aload_n 0, 1) := by decide +kernel
theorem d_M_holdIn_79 : decode b_M_holdIn 79 = .ok (.getfield 106, 3) := by decide +kernel
theorem d_M_holdIn_82 : decode b_M_holdIn 82 = .ok (.iload_n 2, 1) := by decide +kernel
theorem d_M_holdIn_83 : decode b_M_holdIn 83 = .ok (.iaload, 1) := by decide +kernel
theorem d_M_holdIn_84 : decode b_M_holdIn 84 = .ok (.iconst (-1), 1) := by decide +kernel
theorem d_M_holdIn_85 : decode b_M_holdIn 85 = .ok (.iconst (-1), 1) := by decide +kernel
theorem d_M_holdIn_86 : decode b_M_holdIn 86 = .ok (.invokevirtual 155, 3) := by decide +kernel
theorem d_M_holdIn_89 : decode b_M_holdIn 89 = .ok (.istore 5, 2) := by decide +kernel
theorem d_M_holdIn_91 : decode b_M_holdIn 91 = .ok (.aload_n 0, 1) := by decide +kernel
theorem d_M_holdIn_92 : decode b_M_holdIn 92 = .ok (.getfield 148, 3) := by decide +kernel
theorem d_M_holdIn_95 : decode b_M_holdIn 95 = .ok (.ifCond .eq 5, 3) := by decide +kernel
theorem d_M_holdIn_98 : decode b_M_holdIn 98 = .ok (.iconst 0, 1) := by decide +kernel
theorem d_M_holdIn_99 : decode b_M_holdIn 99 = .ok (.ireturn, 1) := by decide +kernel
theorem d_M_holdIn_100 : decode b_M_holdIn 100 = .ok (.aload_n 0, 1) := by decide +kernel
theorem d_M_holdIn_101 : decode b_M_holdIn 101 = .ok (.getfield 103, 3) := by decide +kernel
theorem d_M_holdIn_104 : decode b_M_holdIn 104 = .ok (.iload_n 2, 1) := by decide +kernel
theorem d_M_holdIn_105 : decode b_M_holdIn 105 = .ok (.iaload, 1) := by decide +kernel
theorem d_M_holdIn_106 : decode b_M_holdIn 106 = .ok (.istore 6, 2) := by decide +kernel
theorem d_M_holdIn_108 : decode b_M_holdIn 108 = .ok (.iload 6, 2) := by decide +kernel
theorem d_M_holdIn_110 : decode b_M_holdIn 110 = .ok (.ifCond .ne 15, 3) := by decide +kernel
theorem d_M_holdIn_113 : decode b_M_holdIn 113 = .ok (.aload_n 0, 1) := by decide +kernel
theorem d_M_holdIn_114 : decode b_M_holdIn 114 = .ok (.iconst 3, 1) := by decide +kernel
theorem d_M_holdIn_115 : decode b_M_holdIn 115 = .ok (.iload 5, 2) := by decide +kernel
theorem d_M_holdIn_117 : decode b_M_holdIn 117 = .ok (.iload 4, 2) := by decide +kernel
theorem d_M_holdIn_119 : decode b_M_holdIn 119 = .ok (.invokevirtual 289, 3) := by decide +kernel
theorem d_M_holdIn_122 : decode b_M_holdIn 122 = .ok (.goto 30, 3) := by decide +kernel
theorem d_M_holdIn_125 : decode b_M_holdIn 125 = .ok (.iload 6, 2) := by decide +kernel
theorem d_M_holdIn_127 : decode b_M_holdIn 127 = .ok (.iconst 1, 1) := by decide +kernel
theorem d_M_holdIn_128 : decode b_M_holdIn 128 = .ok (.if_icmp .ne 15, 3) := by decide +kernel
theorem d_M_holdIn_131 : decode b_M_holdIn 131 = .ok (.aload_n 0, 1) := by decide +kernel
theorem d_M_holdIn_132 : decode b_M_holdIn 132 = .ok (.iconst 1, 1) := by decide +kernel
theorem d_M_holdIn_133 : decode b_M_holdIn 133 = .ok (.iload 5, 2) := by decide +kernel
theorem d_M_holdIn_135 : decode b_M_holdIn 135 = .ok (.iload 4, 2) := by decide +kernel
theorem d_M_holdIn_137 : decode b_M_holdIn 137 = .ok (.invokevirtual 289, 3) := by decide +kernel
theorem d_M_holdIn_140 : decode b_M_holdIn 140 = .ok (.goto 12, 3) := by decide +kernel
theorem d_M_holdIn_143 : decode b_M_holdIn 143 = .ok (.aload_n 0, 1) := by decide +kernel
theorem d_M_holdIn_144 : decode b_M_holdIn 144 = .ok (.iconst 1, 1) := by decide +kernel
theorem d_M_holdIn_145 : decode b_M_holdIn 145 = .ok (.iload 4, 2) := by decide +kernel
theorem d_M_holdIn_147 : decode b_M_holdIn 147 = .ok (.iload 5, 2) := by decide +kernel
theorem d_M_holdIn_149 : decode b_M_holdIn 149 = .ok (.invokevirtual 289, 3) := by decide +kernel
theorem d_M_holdIn_152 : decode b_M_holdIn 152 = .ok (.ireturn, 1) := by decide +kernel
theorem d_M_holdArguments_0 : decode b_M_holdArguments 0 = .ok (.iconst 0, 1) := by decide +kernel
theorem d_M_holdArguments_1 : decode b_M_holdArguments 1 = .ok (.istore_n 3, 1) := by decide +kernel
theorem d_M_holdArguments_2 : decode b_M_holdArguments 2 = .ok (.iload_n 3, 1) := by decide +kernel
theorem d_M_holdArguments_3 : decode b_M_holdArguments 3 = .ok (.aload_n 0, 1) := by decide +kernel
theorem d_M_holdArguments_4 : decode b_M_holdArguments 4 = .ok (.getfield 23, 3) := by decide +kernel
theorem d_M_holdArguments_7 : decode b_M_holdArguments 7 = .ok (.if_icmp .ge 197, 3) := by decide +kernel
theorem d_M_holdArguments_10 : decode b_M_holdArguments 10 = .ok (.aload_n 0, 1) := by decide +kernel
theorem d_M_holdArguments_11 : decode b_M_holdArguments 11 = .ok (.getfield 7, 3) := by decide +kernel
theorem d_M_holdArguments_14 : decode b_M_holdArguments 14 = .ok (.iload_n 3, 1) := by decide +kernel
theorem d_M_holdArguments_15 : decode b_M_holdArguments 15 = .ok (.iaload, 1) := by decide +kernel
theorem d_M_holdArguments_16 : decode b_M_holdArguments 16 = .ok (.ifCond .ne 6, 3) := by decide +kernel
theorem d_M_holdArguments_19 : decode b_M_holdArguments 19 = .ok (.goto 179, 3) := by decide +kernel
theorem d_M_holdArguments_22 : decode b_M_holdArguments 22 = .ok (.aload_n 0, 1) := by decide +kernel
theorem d_M_holdArguments_23 : decode b_M_holdArguments 23 = .ok (.iload_n 1, 1) := by decide +kernel
theorem d_M_holdArguments_24 : decode b_M_holdArguments 24 = .ok (.iload_n 3, 1) := by decide +kernel
theorem d_M_holdArguments_25 : decode b_M_holdArguments 25 = .ok (.invokevirtual 212, 3) := by decide +kernel
theorem d_M_holdArguments_28 : decode b_M_holdArguments 28 = .ok (.istore 4, 2) := by decide +kernel
theorem d_M_holdArguments_30 : decode b_M_holdArguments 30 = .ok (.iload 4, 2) := by decide +kernel
theorem d_M_holdArguments_32 : decode b_M_holdArguments 32 = .ok (.iconst (-1), 1) := by decide +kernel
theorem d_M_holdArguments_33 : decode b_M_holdArguments 33 = .ok (.if_icmp .ne 7, 3) := by decide +kernel
theorem d_M_holdArguments_36 : decode b_M_holdArguments 36 = .ok (.iconst (-1), 1) := by decide +kernel
theorem d_M_holdArguments_37 : decode b_M_holdArguments 37 = .ok (.goto 9, 3) := by decide +kernel
theorem d_M_holdArguments_40 : decode b_M_holdArguments 40 = .ok (.aload_n 0, 1) := by decide +kernel
theorem d_M_holdArguments_41 : decode b_M_holdArguments 41 = .ok (.iload_n 2, 1) := by decide +kernel
theorem d_M_holdArguments_42 : decode b_M_holdArguments 42 = .ok (.iload_n 3, 1) := by decide +kernel
theorem d_M_holdArguments_43 : decode b_M_holdArguments 43 = .ok (.invokevirtual 212, 3) := by decide +kernel
theorem d_M_holdArguments_46 : decode b_M_holdArguments 46 = .ok (.istore 5, 2) := by decide +kernel
theorem d_M_holdArguments_48 : decode b_M_holdArguments 48 = .ok (.aload_n 0, 1) := by decide +kernel
theorem d_M_holdArguments_49 : decode b_M_holdArguments 49 = .ok (.getfield 148, 3) := by decide +kernel
theorem d_M_holdArguments_52 : decode b_M_holdArguments 52 = .ok (.ifCond .eq 5, 3) := by decide +kernel
theorem d_M_holdArguments_55 : decode b_M_holdArguments 55 = .ok (.iconst 0, 1) := by decide +kernel
theorem d_M_holdArguments_56 : decode b_M_holdArguments 56 = .ok (.ireturn, 1) := by decide +kernel
theorem d_M_holdArguments_57 : decode b_M_holdArguments 57 = .ok (.iload 4, 2) := by decide +kernel
theorem d_M_holdArguments_59 : decode b_M_holdArguments 59 = .ok (.iconst (-1), 1) := by decide +kernel
theorem d_M_holdArguments_60 : decode b_M_holdArguments 60 = .ok (.if_icmp .eq 138, 3) := by decide +kernel
theorem d_M_holdArguments_63 : decode b_M_holdArguments 63 = .ok (.iload 5, 2) := by decide +kernel
theorem d_M_holdArguments_65 : decode b_M_holdArguments 65 = .ok (.iconst (-1), 1) := by decide +kernel
theorem d_M_holdArguments_66 : decode b_M_holdArguments 66 = .ok (.if_icmp .eq 132, 3) := by decide +kernel
theorem d_M_holdArguments_69 : decode b_M_holdArguments 69 = .ok (.aload_n 0, 1) := by decide +kernel
theorem d_M_holdArguments_70 : decode b_M_holdArguments 70 = .ok (.getfield 27, 3) := by decide +kernel
theorem d_M_holdArguments_73 : decode b_M_holdArguments 73 = .ok (.iload 4, 2) := by decide +kernel
theorem d_M_holdArguments_75 : decode b_M_holdArguments 75 = .ok (.iaload, 1) := by decide +kernel
theorem d_M_holdArguments_76 : decode b_M_holdArguments 76 = .ok (.iconst 1, 1) := by decide +kernel
theorem d_M_holdArguments_77 : decode b_M_holdArguments 77 = .ok (.if_icmp .ne 121, 3) := by decide +kernel
theorem d_M_holdArguments_80 : decode b_M_holdArguments 80 = .ok (.aload_n 0, 1) := by decide +kernel
theorem d_M_holdArguments_81 : decode b_M_holdArguments 81 = .ok (.getfield 27, 3) := by decide +kernel
theorem d_M_holdArguments_84 : decode b_M_holdArguments 84 = .ok (.iload 5, 2) := by decide +kernel
theorem d_M_holdArguments_86 : decode b_M_holdArguments 86 = .ok (.iaload, 1) := by decide +kernel
theorem d_M_holdArguments_87 : decode b_M_holdArguments 87 = .ok (.iconst 1, 1) := by decide +kernel
theorem d_M_holdArguments_88 : decode b_M_holdArguments 88 = .ok (.if_icmp .eq 6, 3) := by decide +kernel
theorem d_M_holdArguments_91 : decode b_M_holdArguments 91 = .ok (.goto 107, 3) := by decide +kernel
theorem d_M_holdArguments_94 : decode b_M_holdArguments 94 = .ok (.iconst 0, 1) := by decide +kernel
theorem d_M_holdArguments_95 : decode b_M_holdArguments 95 = .ok (.istore 6, 2) := by decide +kernel
theorem d_M_holdArguments_97 : decode b_M_holdArguments 97 = .ok (.iload 6, 2) := by decide +kernel
theorem d_M_holdArguments_99 : decode b_M_holdArguments 99 = .ok (.aload_n 0, 1) := by decide +kernel
theorem d_M_holdArguments_100 : decode b_M_holdArguments 100 = .ok (.getfield 7, 3) := by decide +kernel
theorem d_M_holdArguments_103 : decode b_M_holdArguments 103 = .ok (.iload_n 3, 1) := by decide +kernel
theorem d_M_holdArguments_104 : decode b_M_holdArguments 104 = .ok (.iaload, 1) := by decide +kernel
theorem d_M_holdArguments_105 : decode b_M_holdArguments 105 = .ok (.if_icmp .ge 93, 3) := by decide +kernel
theorem d_M_holdArguments_108 : decode b_M_holdArguments 108 = .ok (.iload 6, 2) := by decide +kernel
theorem d_M_holdArguments_110 : decode b_M_holdArguments 110 = .ok (.ifCond .ne 13, 3) := by decide +kernel
theorem d_M_holdArguments_113 : decode b_M_holdArguments 113 = .ok (.aload_n 0, 1) := by decide +kernel
theorem d_M_holdArguments_114 : decode b_M_holdArguments 114 = .ok (.getfield 33, 3) := by decide +kernel
theorem d_M_holdArguments_117 : decode b_M_holdArguments 117 = .ok (.iload 4, 2) := by decide +kernel
theorem d_M_holdArguments_119 : decode b_M_holdArguments 119 = .ok (.iaload, 1) := by decide +kernel
theorem d_M_holdArguments_120 : decode b_M_holdArguments 120 = .ok (.goto 10, 3) := by decide +kernel
theorem d_M_holdArguments_123 : decode b_M_holdArguments 123 = .ok (.aload_n 0, 1) := by decide +kernel
theorem d_M_holdArguments_124 : decode b_M_holdArguments 124 = .ok (.getfield 36, 3) := by decide +kernel
theorem d_M_holdArguments_127 : decode b_M_holdArguments 127 = .ok (.iload 4, 2) := by decide +kernel
theorem d_M_holdArguments_129 : decode b_M_holdArguments 129 = .ok (.iaload, 1) := by decide +kernel
theorem d_M_holdArguments_130 : decode b_M_holdArguments 130 = .ok (.istore 7, 2) := by decide +kernel
theorem d_M_holdArguments_132 : decode b_M_holdArguments 132 = .ok (.iload 6, 2) := by decide +kernel
theorem d_M_holdArguments_134 : decode b_M_holdArguments 134 = .ok (.ifCond .ne 13, 3) := by decide +kernel
theorem d_M_holdArguments_137 : decode b_M_holdArguments 137 = .ok (.aload_n 0, 1) := by decide +kernel
theorem d_M_holdArguments_138 : decode b_M_holdArguments 138 = .ok (.getfield 33, 3) := by decide +kernel
theorem d_M_holdArguments_141 : decode b_M_holdArguments 141 = .ok (.iload 5, 2) := by decide +kernel
theorem d_M_holdArguments_143 : decode b_M_holdArguments 143 = .ok (.iaload, 1) := by decide +kernel
theorem d_M_holdArguments_144 : decode b_M_holdArguments 144 = .ok (.goto 10, 3) := by decide +kernel
theorem d_M_holdArguments_147 : decode b_M_holdArguments 147 = .ok (.aload_n 0, 1) := by decide +kernel
theorem d_M_holdArguments_148 : decode b_M_holdArguments 148 = .ok (.getfield 36, 3) := by decide +kernel
theorem d_M_holdArguments_151 : decode b_M_holdArguments 151 = .ok (.iload 5, 2) := by decide +kernel
theorem d_M_holdArguments_153 : decode b_M_holdArguments 153 = .ok (.iaload, 1) := by decide +kernel
theorem d_M_holdArguments_154 : decode b_M_holdArguments 154 = .ok (.istore 8, 2) := by decide +kernel
theorem d_M_holdArguments_156 : decode b_M_holdArguments 156 = .ok (.aload_n 0, 1) := by decide +kernel
theorem d_M_holdArguments_157 : decode b_M_holdArguments 157 = .ok (.getfield 27, 3) := by decide +kernel
theorem d_M_holdArguments_160 : decode b_M_holdArguments 160 = .ok (.iload 7, 2) := by decide +kernel
theorem d_M_holdArguments_162 : decode b_M_holdArguments 162 = .ok (.iaload, 1) := by decide +kernel
theorem d_M_holdArguments_163 : decode b_M_holdArguments 163 = .ok (.iconst 2, 1) := by decide +kernel
theorem d_M_holdArguments_164 : decode b_M_holdArguments 164 = .ok (.if_icmp .eq 28, 3) := by decide +kernel
theorem d_M_holdArguments_167 : decode b_M_holdArguments 167 = .ok (.aload_n 0, 1) := by decide +kernel
theorem d_M_holdArguments_168 : decode b_M_holdArguments 168 = .ok (.getfield 27, 3) := by decide +kernel
theorem d_M_holdArguments_171 : decode b_M_holdArguments 171 = .ok (.iload 8, 2) := by decide +kernel
theorem d_M_holdArguments_173 : decode b_M_holdArguments 173 = .ok (.iaload, 1) := by decide +kernel
theorem d_M_holdArguments_174 : decode b_M_holdArguments 174 = .ok (.iconst 2, 1) := by decide +kernel
theorem d_M_holdArguments_175 : decode b_M_holdArguments 175 = .ok (.if_icmp .eq 17, 3) := by decide +kernel
theorem d_M_holdArguments_178 : decode b_M_holdArguments 178 = .ok (.aload_n 0, 1) := by decide +kernel
theorem d_M_holdArguments_179 : decode b_M_holdArguments 179 = .ok (.iconst 3, 1) := by decide +kernel
theorem d_M_holdArguments_180 : decode b_M_holdArguments 180 = .ok (.iload 7, 2) := by decide +kernel
theorem d_M_holdArguments_182 : decode b_M_holdArguments 182 = .ok (.iload 8, 2) := by decide +kernel
theorem d_M_holdArguments_184 : decode b_M_holdArguments 184 = .ok (.invokevirtual 289, 3) := by decide +kernel
theorem d_M_holdArguments_187 : decode b_M_holdArguments 187 = .ok (.ifCond .ne 5, 3) := by decide +kernel
theorem d_M_holdArguments_190 : decode b_M_holdArguments 190 = .ok (.iconst 0, 1) := by decide +kernel
theorem d_M_holdArguments_191 : decode b_M_holdArguments 191 = .ok (.ireturn, 1) := by decide +kernel
theorem d_M_holdArguments_192 : decode b_M_holdArguments 192 = .ok (.iinc 6 1, 3) := by decide +kernel
theorem d_M_holdArguments_195 : decode b_M_holdArguments 195 = .ok (.goto (-98), 3) := by decide +kernel
theorem d_M_holdArguments_198 : decode b_M_holdArguments 198 = .ok (.iinc 3 1, 3) := by decide +kernel
theorem d_M_holdArguments_201 : decode b_M_holdArguments 201 = .ok (.goto (-199), 3) := by decide +kernel
theorem d_M_holdArguments_204 : decode b_M_holdArguments 204 = .ok (.iconst 1, 1) := by decide +kernel
theorem d_M_holdArguments_205 : decode b_M_holdArguments 205 = .ok (.ireturn, 1) := by decide +kernel
theorem d_M_isThere_0 : decode b_M_isThere 0 = .ok (.aload_n 0, 1) := by decide +kernel
theorem d_M_isThere_1 : decode b_M_isThere 1 = .ok (.iload_n 1, 1) := by decide +kernel
theorem d_M_isThere_2 : decode b_M_isThere 2 = .ok (.invokevirtual 159, 3) := by decide +kernel
theorem d_M_isThere_5 : decode b_M_isThere 5 = .ok (.istore_n 2, 1) := by decide +kernel
theorem d_M_isThere_6 : decode b_M_isThere 6 = .ok (.aload_n 0, 1) := by decide +kernel
theorem d_M_isThere_7 : decode b_M_isThere 7 = .ok (.getfield 192, 3) := by decide +kernel
theorem d_M_isThere_10 : decode b_M_isThere 10 = .ok (.istore_n 3, 1) := by decide +kernel
theorem d_M_isThere_11 : decode b_M_isThere 11 = .ok (.iload_n 3, 1) := by decide +kernel
theorem d_M_isThere_12 : decode b_M_isThere 12 = .ok (.bipush 12, 2) := by decide +kernel
theorem d_M_isThere_14 : decode b_M_isThere 14 = .ok (.if_icmp .ge 28, 3) := by decide +kernel
theorem d_M_isThere_17 : decode b_M_isThere 17 = .ok (.iload_n 2, 1) := by decide +kernel
theorem d_M_isThere_18 : decode b_M_isThere 18 = .ok (.ifCond .eq 24, 3) := by decide +kernel
theorem d_M_isThere_21 : decode b_M_isThere 21 = .ok (.aload_n 0, 1) := by decide +kernel
theorem d_M_isThere_22 : decode b_M_isThere 22 = .ok (.iload_n 3, 1) := by decide +kernel
theorem d_M_isThere_23 : decode b_M_isThere 23 = .ok (.iload_n 1, 1) := by decide +kernel
theorem d_M_isThere_24 : decode b_M_isThere 24 = .ok (.invokevirtual 295, 3) := by decide +kernel
theorem d_M_isThere_27 : decode b_M_isThere 27 = .ok (.ifCond .ne 7, 3) := by decide +kernel
theorem d_M_isThere_30 : decode b_M_isThere 30 = .ok (.iconst 1, 1) := by decide +kernel
theorem d_M_isThere_31 : decode b_M_isThere 31 = .ok (.goto 4, 3) := by decide +kernel
theorem d_M_isThere_34 : decode b_M_isThere 34 = .ok (.iconst 0, 1) := by decide +kernel
theorem d_M_isThere_35 : decode b_M_isThere 35 = .ok (.istore_n 2, 1) := by decide +kernel
theorem d_M_isThere_36 : decode b_M_isThere 36 = .ok (.iinc 3 1, 3) := by decide +kernel
theorem d_M_isThere_39 : decode b_M_isThere 39 = .ok (.goto (-28), 3) := by decide +kernel
theorem d_M_isThere_42 : decode b_M_isThere 42 = .ok (.iload_n 2, 1) := by decide +kernel
theorem d_M_isThere_43 : decode b_M_isThere 43 = .ok (.ireturn, 1) := by decide +kernel
theorem d_M_formula_0 : decode b_M_formula 0 = .ok (.iload_n 1, 1) := by decide +kernel
theorem d_M_formula_1 : decode b_M_formula 1 = .ok (.ifCond .lt 49, 3) := by decide +kernel
theorem d_M_formula_4 : decode b_M_formula 4 = .ok (.iload_n 1, 1) := by decide +kernel
theorem d_M_formula_5 : decode b_M_formula 5 = .ok (.iconst 3, 1) := by decide +kernel
theorem d_M_formula_6 : decode b_M_formula 6 = .ok (.if_icmp .gt 44, 3) := by decide +kernel
theorem d_M_formula_9 : decode b_M_formula 9 = .ok (.aload_n 0, 1) := by decide +kernel
theorem d_M_formula_10 : decode b_M_formula 10 = .ok (.iload_n 2, 1) := by decide +kernel
theorem d_M_formula_11 : decode b_M_formula 11 = .ok (.invokevirtual 298, 3) := by decide +kernel
theorem d_M_formula_14 : decode b_M_formula 14 = .ok (.ifCond .eq 36, 3) := by decide +kernel
theorem d_M_formula_17 : decode b_M_formula 17 = .ok (.aload_n 0, 1) := by decide +kernel
theorem d_M_formula_18 : decode b_M_formula 18 = .ok (.iload_n 3, 1) := by decide +kernel
theorem d_M_formula_19 : decode b_M_formula 19 = .ok (.invokevirtual 298, 3) := by decide +kernel
theorem d_M_formula_22 : decode b_M_formula 22 = .ok (.ifCond .eq 28, 3) := by decide +kernel
theorem d_M_formula_25 : decode b_M_formula 25 = .ok (.iload_n 1, 1) := by decide +kernel
theorem d_M_formula_26 : decode b_M_formula 26 = .ok (.iconst 2, 1) := by decide +kernel
theorem d_M_formula_27 : decode b_M_formula 27 = .ok (.if_icmp .eq 26, 3) := by decide +kernel
theorem d_M_formula_30 : decode b_M_formula 30 = .ok (.aload_n 0, 1) := by decide +kernel
theorem d_M_formula_31 : decode b_M_formula 31 = .ok (.getfield 27, 3) := by decide +kernel
theorem d_M_formula_34 : decode b_M_formula 34 = .ok (.iload_n 2, 1) := by decide +kernel
theorem d_M_formula_35 : decode b_M_formula 35 = .ok (.iaload, 1) := by decide +kernel
theorem d_M_formula_36 : decode b_M_formula 36 = .ok (.iconst 2, 1) := by decide +kernel
theorem d_M_formula_37 : decode b_M_formula 37 = .ok (.if_icmp .eq 13, 3) := by decide +kernel
theorem d_M_formula_40 : decode b_M_formula 40 = .ok (.aload_n 0, 1) := by decide +kernel
theorem d_M_formula_41 : decode b_M_formula 41 = .ok (.getfield 27, 3) := by decide +kernel
theorem d_M_formula_44 : decode b_M_formula 44 = .ok (.iload_n 3, 1) := by decide +kernel
theorem d_M_formula_45 : decode b_M_formula 45 = .ok (.iaload, 1) := by decide +kernel
theorem d_M_formula_46 : decode b_M_formula 46 = .ok (.iconst 2, 1) := by decide +kernel
theorem d_M_formula_47 : decode b_M_formula 47 = .ok (.if_icmp .ne 6, 3) := by decide +kernel
theorem d_M_formula_50 : decode b_M_formula 50 = .ok (.bipush (-2), 2) := by decide +kernel
theorem d_M_formula_52 : decode b_M_formula 52 = .ok (.ireturn, 1) := by decide +kernel
theorem d_M_formula_53 : decode b_M_formula 53 = .ok (.aload_n 0, 1) := by decide +kernel
theorem d_M_formula_54 : decode b_M_formula 54 = .ok (.getfield 301, 3) := by decide +kernel
theorem d_M_formula_57 : decode b_M_formula 57 = .ok (.ifCond .ne 12, 3) := by decide +kernel
theorem d_M_formula_60 : decode b_M_formula 60 = .ok (.aload_n 0, 1) := by decide +kernel
theorem d_M_formula_61 : decode b_M_formula 61 = .ok (.getfield 304, 3) := by decide +kernel
theorem d_M_formula_64 : decode b_M_formula 64 = .ok (.bipush 60, 2) := by decide +kernel
theorem d_M_formula_66 : decode b_M_formula 66 = .ok (.if_icmp .ne 5, 3) := by decide +kernel
theorem d_M_formula_69 : decode b_M_formula 69 = .ok (.iconst (-1), 1) := by decide +kernel
theorem d_M_formula_70 : decode b_M_formula 70 = .ok (.ireturn, 1) := by decide +kernel
theorem d_M_formula_71 : decode b_M_formula 71 = .ok (.aload_n 0, 1) := by decide +kernel
theorem d_M_formula_72 : decode b_M_formula 72 = .ok (.getfield 304, 3) := by decide +kernel
theorem d_M_formula_75 : decode b_M_formula 75 = .ok (.istore 4, 2) := by decide +kernel
theorem d_M_formula_77 : decode b_M_formula 77 = .ok (.aload_n 0, 1) := by decide +kernel
theorem d_M_formula_78 : decode b_M_formula 78 = .ok (.dup, 1) := by decide +kernel
theorem d_M_formula_79 : decode b_M_formula 79 = .ok (.getfield 304, 3) := by decide +kernel
theorem d_M_formula_82 : decode b_M_formula 82 = .ok (.iconst 1, 1) := by decide +kernel
theorem d_M_formula_83 : decode b_M_formula 83 = .ok (.iadd, 1) := by decide +kernel
theorem d_M_formula_84 : decode b_M_formula 84 = .ok (.putfield 304, 3) := by decide +kernel
theorem d_M_formula_87 : decode b_M_formula 87 = .ok (.aload_n 0, 1) := by decide +kernel
theorem d_M_formula_88 : decode b_M_formula 88 = .ok (.getfield 115, 3) := by decide +kernel
theorem d_M_formula_91 : decode b_M_formula 91 = .ok (.iload 4, 2) := by decide +kernel
theorem d_M_formula_93 : decode b_M_formula 93 = .ok (.iload_n 1, 1) := by decide +kernel
theorem d_M_formula_94 : decode b_M_formula 94 = .ok (.iastore, 1) := by decide +kernel
theorem d_M_formula_95 : decode b_M_formula 95 = .ok (.aload_n 0, 1) := by decide +kernel
theorem d_M_formula_96 : decode b_M_formula 96 = .ok (.getfield 118, 3) := by decide +kernel
theorem d_M_formula_99 : decode b_M_formula 99 = .ok (.iload 4, 2) := by decide +kernel
theorem d_M_formula_101 : decode b_M_formula 101 = .ok (.iload_n 2, 1) := by decide +kernel
theorem d_M_formula_102 : decode b_M_formula 102 = .ok (.iastore, 1) := by decide +kernel
theorem d_M_formula_103 : decode b_M_formula 103 = .ok (.aload_n 0, 1) := by decide +kernel
theorem d_M_formula_104 : decode b_M_formula 104 = .ok (.getfield 121, 3) := by decide +kernel
theorem d_M_formula_107 : decode b_M_formula 107 = .ok (.iload 4, 2) := by decide +kernel
theorem d_M_formula_109 : decode b_M_formula 109 = .ok (.iload_n 3, 1) := by decide +kernel
theorem d_M_formula_110 : decode b_M_formula 110 = .ok (.iastore, 1) := by decide +kernel
theorem d_M_formula_111 : decode b_M_formula 111 = .ok (.aload_n 0, 1) := by decide +kernel
theorem d_M_formula_112 : decode b_M_formula 112 = .ok (.iload 4, 2) := by decide +kernel
theorem d_M_formula_114 : decode b_M_formula 114 = .ok (.invokevirtual 307, 3) := by decide +kernel
theorem d_M_formula_117 : decode b_M_formula 117 = .ok (.aload_n 0, 1) := by decide +kernel
theorem d_M_formula_118 : decode b_M_formula 118 = .ok (.iload_n 1, 1) := by decide +kernel
theorem d_M_formula_119 : decode b_M_formula 119 = .ok (.iload_n 2, 1) := by decide +kernel
theorem d_M_formula_120 : decode b_M_formula 120 = .ok (.iload_n 3, 1) := by decide +kernel
theorem d_M_formula_121 : decode b_M_formula 121 = .ok (.invokevirtual 289, 3) := by decide +kernel
theorem d_M_formula_124 : decode b_M_formula 124 = .ok (.istore 5, 2) := by decide +kernel
theorem d_M_formula_126 : decode b_M_formula 126 = .ok (.aload_n 0, 1) := by decide +kernel
theorem d_M_formula_127 : decode b_M_formula 127 = .ok (.getfield 124, 3) := by decide +kernel
theorem d_M_formula_130 : decode b_M_formula 130 = .ok (.iload 4, 2) := by decide +kernel
theorem d_M_formula_132 : decode b_M_formula 132 = .ok (.aload_n 0, 1) := by decide +kernel
theorem d_M_formula_133 : decode b_M_formula 133 = .ok (.getfield 258, 3) := by decide +kernel
theorem d_M_formula_136 : decode b_M_formula 136 = .ok (.bastore, 1) := by decide +kernel
theorem d_M_formula_137 : decode b_M_formula 137 = .ok (.iload 5, 2) := by decide +kernel
theorem d_M_formula_139 : decode b_M_formula 139 = .ok (.ifCond .eq 14, 3) := by decide +kernel
theorem d_M_formula_142 : decode b_M_formula 142 = .ok (.aload_n 0, 1) := by decide +kernel
theorem d_M_formula_143 : decode b_M_formula 143 = .ok (.invokevirtual 311, 3) := by decide +kernel
theorem d_M_formula_146 : decode b_M_formula 146 = .ok (.ifCond .eq 7, 3) := by decide +kernel
theorem d_M_formula_149 : decode b_M_formula 149 = .ok (.iconst 1, 1) := by decide +kernel
theorem d_M_formula_150 : decode b_M_formula 150 = .ok (.goto 4, 3) := by decide +kernel
theorem d_M_formula_153 : decode b_M_formula 153 = .ok (.iconst 0, 1) := by decide +kernel
theorem d_M_formula_154 : decode b_M_formula 154 = .ok (.istore 5, 2) := by decide +kernel
theorem d_M_formula_156 : decode b_M_formula 156 = .ok (.aload_n 0, 1) := by decide +kernel
theorem d_M_formula_157 : decode b_M_formula 157 = .ok (.iload 5, 2) := by decide +kernel
theorem d_M_formula_159 : decode b_M_formula 159 = .ok (.iload 4, 2) := by decide +kernel
theorem d_M_formula_161 : decode b_M_formula 161 = .ok (.invokevirtual 315, 3) := by decide +kernel
theorem d_M_formula_164 : decode b_M_formula 164 = .ok (.iload 4, 2) := by decide +kernel
theorem d_M_formula_166 : decode b_M_formula 166 = .ok (.ireturn, 1) := by decide +kernel
theorem d_M_begin_0 : decode b_M_begin 0 = .ok (.aload_n 0, 1) := by decide +kernel
theorem d_M_begin_1 : decode b_M_begin 1 = .ok (.iconst 0, 1) := by decide +kernel
theorem d_M_begin_2 : decode b_M_begin 2 = .ok (.putfield 224, 3) := by decide +kernel
theorem d_M_begin_5 : decode b_M_begin 5 = .ok (.aload_n 0, 1) := by decide +kernel
theorem d_M_begin_6 : decode b_M_begin 6 = .ok (.iconst 0, 1) := by decide +kernel
theorem d_M_begin_7 : decode b_M_begin 7 = .ok (.putfield 230, 3) := by decide +kernel
theorem d_M_begin_10 : decode b_M_begin 10 = .ok (.aload_n 0, 1) := by decide +kernel
theorem d_M_begin_11 : decode b_M_begin 11 = .ok (.iconst 0, 1) := by decide +kernel
theorem d_M_begin_12 : decode b_M_begin 12 = .ok (.putfield 258, 3) := by decide +kernel
theorem d_M_begin_15 : decode b_M_begin 15 = .ok (.aload_n 0, 1) := by decide +kernel
theorem d_M_begin_16 : decode b_M_begin 16 = .ok (.iload_n 1, 1) := by decide +kernel
theorem d_M_begin_17 : decode b_M_begin 17 = .ok (.putfield 270, 3) := by decide +kernel
theorem d_M_begin_20 : decode b_M_begin 20 = .ok (.aload_n 0, 1) := by decide +kernel
theorem d_M_begin_21 : decode b_M_begin 21 = .ok (.iconst 0, 1) := by decide +kernel
theorem d_M_begin_22 : decode b_M_begin 22 = .ok (.putfield 148, 3) := by decide +kernel
theorem d_M_begin_25 : decode b_M_begin 25 = .ok (.return_, 1) := by decide +kernel
theorem d_M_settle_0 : decode b_M_settle 0 = .ok (.aload_n 0, 1) := by decide +kernel
theorem d_M_settle_1 : decode b_M_settle 1 = .ok (.aload_n 0, 1) := by decide +kernel
theorem d_M_settle_2 : decode b_M_settle 2 = .ok (.getfield 148, 3) := by decide +kernel
theorem d_M_settle_5 : decode b_M_settle 5 = .ok (.ifCond .eq 7, 3) := by decide +kernel
theorem d_M_settle_8 : decode b_M_settle 8 = .ok (.iconst 2, 1) := by decide +kernel
theorem d_M_settle_9 : decode b_M_settle 9 = .ok (.goto 12, 3) := by decide +kernel
theorem d_M_settle_12 : decode b_M_settle 12 = .ok (.iload_n 1, 1) := by decide +kernel
theorem d_M_settle_13 : decode b_M_settle 13 = .ok (.ifCond .eq 7, 3) := by decide +kernel
theorem d_M_settle_16 : decode b_M_settle 16 = .ok (.iconst 0, 1) := by decide +kernel
theorem d_M_settle_17 : decode b_M_settle 17 = .ok (.goto 4, 3) := by decide +kernel
theorem d_M_settle_20 : decode b_M_settle 20 = .ok (.iconst 1, 1) := by decide +kernel
theorem d_M_settle_21 : decode b_M_settle 21 = .ok (.putfield 301, 3) := by decide +kernel
theorem d_M_settle_24 : decode b_M_settle 24 = .ok (.aload_n 0, 1) := by decide +kernel
theorem d_M_settle_25 : decode b_M_settle 25 = .ok (.aload_n 0, 1) := by decide +kernel
theorem d_M_settle_26 : decode b_M_settle 26 = .ok (.getfield 301, 3) := by decide +kernel
theorem d_M_settle_29 : decode b_M_settle 29 = .ok (.ifCond .ne 7, 3) := by decide +kernel
theorem d_M_settle_32 : decode b_M_settle 32 = .ok (.iconst (-1), 1) := by decide +kernel
theorem d_M_settle_33 : decode b_M_settle 33 = .ok (.goto 4, 3) := by decide +kernel
theorem d_M_settle_36 : decode b_M_settle 36 = .ok (.iload_n 2, 1) := by decide +kernel
theorem d_M_settle_37 : decode b_M_settle 37 = .ok (.putfield 127, 3) := by decide +kernel
theorem d_M_settle_40 : decode b_M_settle 40 = .ok (.aload_n 0, 1) := by decide +kernel
theorem d_M_settle_41 : decode b_M_settle 41 = .ok (.iconst 0, 1) := by decide +kernel
theorem d_M_settle_42 : decode b_M_settle 42 = .ok (.putfield 148, 3) := by decide +kernel
theorem d_M_settle_45 : decode b_M_settle 45 = .ok (.return_, 1) := by decide +kernel
theorem d_M_clear_0 : decode b_M_clear 0 = .ok (.aload_n 0, 1) := by decide +kernel
theorem d_M_clear_1 : decode b_M_clear 1 = .ok (.getfield 304, 3) := by decide +kernel
theorem d_M_clear_4 : decode b_M_clear 4 = .ok (.istore_n 1, 1) := by decide +kernel
theorem d_M_clear_5 : decode b_M_clear 5 = .ok (.aload_n 0, 1) := by decide +kernel
theorem d_M_clear_6 : decode b_M_clear 6 = .ok (.iconst 0, 1) := by decide +kernel
theorem d_M_clear_7 : decode b_M_clear 7 = .ok (.putfield 304, 3) := by decide +kernel
theorem d_M_clear_10 : decode b_M_clear 10 = .ok (.aload_n 0, 1) := by decide +kernel
theorem d_M_clear_11 : decode b_M_clear 11 = .ok (.iconst 0, 1) := by decide +kernel
theorem d_M_clear_12 : decode b_M_clear 12 = .ok (.putfield 192, 3) := by decide +kernel
theorem d_M_clear_15 : decode b_M_clear 15 = .ok (.aload_n 0, 1) := by decide +kernel
theorem d_M_clear_16 : decode b_M_clear 16 = .ok (.iconst 0, 1) := by decide +kernel
theorem d_M_clear_17 : decode b_M_clear 17 = .ok (.putfield 267, 3) := by decide +kernel
theorem d_M_clear_20 : decode b_M_clear 20 = .ok (.aload_n 0, 1) := by decide +kernel
theorem d_M_clear_21 : decode b_M_clear 21 = .ok (.iconst 0, 1) := by decide +kernel
theorem d_M_clear_22 : decode b_M_clear 22 = .ok (.putfield 279, 3) := by decide +kernel
theorem d_M_clear_25 : decode b_M_clear 25 = .ok (.aload_n 0, 1) := by decide +kernel
theorem d_M_clear_26 : decode b_M_clear 26 = .ok (.iconst 0, 1) := by decide +kernel
theorem d_M_clear_27 : decode b_M_clear 27 = .ok (.putfield 301, 3) := by decide +kernel
theorem d_M_clear_30 : decode b_M_clear 30 = .ok (.aload_n 0, 1) := by decide +kernel
theorem d_M_clear_31 : decode b_M_clear 31 = .ok (.iconst (-1), 1) := by decide +kernel
theorem d_M_clear_32 : decode b_M_clear 32 = .ok (.putfield 127, 3) := by decide +kernel
theorem d_M_clear_35 : decode b_M_clear 35 = .ok (.aload_n 0, 1) := by decide +kernel
theorem d_M_clear_36 : decode b_M_clear 36 = .ok (.iconst 0, 1) := by decide +kernel
theorem d_M_clear_37 : decode b_M_clear 37 = .ok (.putfield 227, 3) := by decide +kernel
theorem d_M_clear_40 : decode b_M_clear 40 = .ok (.iload_n 1, 1) := by decide +kernel
theorem d_M_clear_41 : decode b_M_clear 41 = .ok (.ireturn, 1) := by decide +kernel
