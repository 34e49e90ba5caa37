theorem d_Reducer_less_0 : decode b_Reducer_less 0 = .ok (.iconst 1, 1) := by decide +kernel
theorem d_Reducer_less_1 : decode b_Reducer_less 1 = .ok (.istore_n 1, 1) := by decide +kernel
theorem d_Reducer_less_2 : decode b_Reducer_less 2 = .ok (.iconst 0, 1) := by decide +kernel
theorem d_Reducer_less_3 : decode b_Reducer_less 3 = .ok (.istore_n 2, 1) := by decide +kernel
theorem d_Reducer_less_4 : decode b_Reducer_less 4 = .ok (.iload_n 2, 1) := by decide +kernel
theorem d_Reducer_less_5 : decode b_Reducer_less 5 = .ok (.sipush 20000, 3) := by decide +kernel
theorem d_Reducer_less_8 : decode b_Reducer_less 8 = .ok (.if_icmp .gt 191, 3) := by decide +kernel
theorem d_Reducer_less_11 : decode b_Reducer_less 11 = .ok (.iload_n 1, 1) := by decide +kernel
theorem d_Reducer_less_12 : decode b_Reducer_less 12 = .ok (.iconst 1, 1) := by decide +kernel
theorem d_Reducer_less_13 : decode b_Reducer_less 13 = .ok (.if_icmp .ne 186, 3) := by decide +kernel
theorem d_Reducer_less_16 : decode b_Reducer_less 16 = .ok (.aload_n 0, 1) := by decide +kernel
theorem d_Reducer_less_17 : decode b_Reducer_less 17 = .ok (.getfield 12, 3) := by decide +kernel
theorem d_Reducer_less_20 : decode b_Reducer_less 20 = .ok (.invokevirtual 52, 3) := by decide +kernel
theorem d_Reducer_less_23 : decode b_Reducer_less 23 = .ok (.ifCond .eq 176, 3) := by decide +kernel
theorem d_Reducer_less_26 : decode b_Reducer_less 26 = .ok (.aload_n 0, 1) := by decide +kernel
theorem d_Reducer_less_27 : decode b_Reducer_less 27 = .ok (.getfield 12, 3) := by decide +kernel
theorem d_Reducer_less_30 : decode b_Reducer_less 30 = .ok (.getfield 56, 3) := by decide +kernel
theorem d_Reducer_less_33 : decode b_Reducer_less 33 = .ok (.bipush 60, 2) := by decide +kernel
theorem d_Reducer_less_35 : decode b_Reducer_less 35 = .ok (.if_icmp .gt 13, 3) := by decide +kernel
theorem d_Reducer_less_38 : decode b_Reducer_less 38 = .ok (.aload_n 0, 1) := by decide +kernel
theorem d_Reducer_less_39 : decode b_Reducer_less 39 = .ok (.getfield 38, 3) := by decide +kernel
theorem d_Reducer_less_42 : decode b_Reducer_less 42 = .ok (.sipush 20000, 3) := by decide +kernel
theorem d_Reducer_less_45 : decode b_Reducer_less 45 = .ok (.if_icmp .lt 9, 3) := by decide +kernel
theorem d_Reducer_less_48 : decode b_Reducer_less 48 = .ok (.bipush (-3), 2) := by decide +kernel
theorem d_Reducer_less_50 : decode b_Reducer_less 50 = .ok (.istore_n 1, 1) := by decide +kernel
theorem d_Reducer_less_51 : decode b_Reducer_less 51 = .ok (.goto 142, 3) := by decide +kernel
theorem d_Reducer_less_54 : decode b_Reducer_less 54 = .ok (.aload_n 0, 1) := by decide +kernel
theorem d_Reducer_less_55 : decode b_Reducer_less 55 = .ok (.dup, 1) := by decide +kernel
theorem d_Reducer_less_56 : decode b_Reducer_less 56 = .ok (.getfield 38, 3) := by decide +kernel
theorem d_Reducer_less_59 : decode b_Reducer_less 59 = .ok (.iconst 1, 1) := by decide +kernel
theorem d_Reducer_less_60 : decode b_Reducer_less 60 = .ok (.iadd, 1) := by decide +kernel
theorem d_Reducer_less_61 : decode b_Reducer_less 61 = .ok (.putfield 38, 3) := by decide +kernel
theorem d_Reducer_less_64 : decode b_Reducer_less 64 = .ok (.aload_n 0, 1) := by decide +kernel
theorem d_Reducer_less_65 : decode b_Reducer_less 65 = .ok (.dup, 1) := by decide +kernel
theorem d_Reducer_less_66 : decode b_Reducer_less 66 = .ok (.getfield 59, 3) := by decide +kernel
theorem d_Reducer_less_69 : decode b_Reducer_less 69 = .ok (.iconst 1, 1) := by decide +kernel
theorem d_Reducer_less_70 : decode b_Reducer_less 70 = .ok (.iadd, 1) := by decide +kernel
theorem d_Reducer_less_71 : decode b_Reducer_less 71 = .ok (.putfield 59, 3) := by decide +kernel
theorem d_Reducer_less_74 : decode b_Reducer_less 74 = .ok (.aload_n 0, 1) := by decide +kernel
theorem d_Reducer_less_75 : decode b_Reducer_less 75 = .ok (.getfield 12, 3) := by decide +kernel
theorem d_Reducer_less_78 : decode b_Reducer_less 78 = .ok (.getfield 62, 3) := by decide +kernel
theorem d_Reducer_less_81 : decode b_Reducer_less 81 = .ok (.tableswitch 93 0 2 #[27, 49, 71], 27) := by decide +kernel
theorem d_Reducer_less_108 : decode b_Reducer_less 108 = .ok (.aload_n 0, 1) := by decide +kernel
theorem d_Reducer_less_109 : decode b_Reducer_less 109 = .ok (.aload_n 0, 1) := by decide +kernel
theorem d_Reducer_less_110 : decode b_Reducer_less 110 = .ok (.getfield 12, 3) := by decide +kernel
theorem d_Reducer_less_113 : decode b_Reducer_less 113 = .ok (.getfield 65, 3) := by decide +kernel
theorem d_Reducer_less_116 : decode b_Reducer_less 116 = .ok (.aload_n 0, 1) := by decide +kernel
theorem d_Reducer_less_117 : decode b_Reducer_less 117 = .ok (.getfield 12, 3) := by decide +kernel
theorem d_Reducer_less_120 : decode b_Reducer_less 120 = .ok (.getfield 68, 3) := by decide +kernel
theorem d_Reducer_less_123 : decode b_Reducer_less 123 = .ok (.invokevirtual 71, 3) := by decide +kernel
theorem d_Reducer_less_126 : decode b_Reducer_less 126 = .ok (.istore_n 1, 1) := by decide +kernel
theorem d_Reducer_less_127 : decode b_Reducer_less 127 = .ok (.goto 66, 3) := by decide +kernel
theorem d_Reducer_less_130 : decode b_Reducer_less 130 = .ok (.aload_n 0, 1) := by decide +kernel
theorem d_Reducer_less_131 : decode b_Reducer_less 131 = .ok (.aload_n 0, 1) := by decide +kernel
theorem d_Reducer_less_132 : decode b_Reducer_less 132 = .ok (.getfield 12, 3) := by decide +kernel
theorem d_Reducer_less_135 : decode b_Reducer_less 135 = .ok (.getfield 65, 3) := by decide +kernel
theorem d_Reducer_less_138 : decode b_Reducer_less 138 = .ok (.aload_n 0, 1) := by decide +kernel
theorem d_Reducer_less_139 : decode b_Reducer_less 139 = .ok (.getfield 12, 3) := by decide +kernel
theorem d_Reducer_less_142 : decode b_Reducer_less 142 = .ok (.getfield 68, 3) := by decide +kernel
theorem d_Reducer_less_145 : decode b_Reducer_less 145 = .ok (.invokevirtual 75, 3) := by decide +kernel
theorem d_Reducer_less_148 : decode b_Reducer_less 148 = .ok (.istore_n 1, 1) := by decide +kernel
theorem d_Reducer_less_149 : decode b_Reducer_less 149 = .ok (.goto 44, 3) := by decide +kernel
theorem d_Reducer_less_152 : decode b_Reducer_less 152 = .ok (.aload_n 0, 1) := by decide +kernel
theorem d_Reducer_less_153 : decode b_Reducer_less 153 = .ok (.aload_n 0, 1) := by decide +kernel
theorem d_Reducer_less_154 : decode b_Reducer_less 154 = .ok (.getfield 12, 3) := by decide +kernel
theorem d_Reducer_less_157 : decode b_Reducer_less 157 = .ok (.getfield 65, 3) := by decide +kernel
theorem d_Reducer_less_160 : decode b_Reducer_less 160 = .ok (.aload_n 0, 1) := by decide +kernel
theorem d_Reducer_less_161 : decode b_Reducer_less 161 = .ok (.getfield 12, 3) := by decide +kernel
theorem d_Reducer_less_164 : decode b_Reducer_less 164 = .ok (.getfield 68, 3) := by decide +kernel
theorem d_Reducer_less_167 : decode b_Reducer_less 167 = .ok (.invokevirtual 78, 3) := by decide +kernel
theorem d_Reducer_less_170 : decode b_Reducer_less 170 = .ok (.istore_n 1, 1) := by decide +kernel
theorem d_Reducer_less_171 : decode b_Reducer_less 171 = .ok (.goto 22, 3) := by decide +kernel
theorem d_Reducer_less_174 : decode b_Reducer_less 174 = .ok (.aload_n 0, 1) := by decide +kernel
theorem d_Reducer_less_175 : decode b_Reducer_less 175 = .ok (.aload_n 0, 1) := by decide +kernel
theorem d_Reducer_less_176 : decode b_Reducer_less 176 = .ok (.getfield 12, 3) := by decide +kernel
theorem d_Reducer_less_179 : decode b_Reducer_less 179 = .ok (.getfield 65, 3) := by decide +kernel
theorem d_Reducer_less_182 : decode b_Reducer_less 182 = .ok (.aload_n 0, 1) := by decide +kernel
theorem d_Reducer_less_183 : decode b_Reducer_less 183 = .ok (.getfield 12, 3) := by decide +kernel
theorem d_Reducer_less_186 : decode b_Reducer_less 186 = .ok (.getfield 68, 3) := by decide +kernel
theorem d_Reducer_less_189 : decode b_Reducer_less 189 = .ok (.invokevirtual 81, 3) := by decide +kernel
theorem d_Reducer_less_192 : decode b_Reducer_less 192 = .ok (.istore_n 1, 1) := by decide +kernel
theorem d_Reducer_less_193 : decode b_Reducer_less 193 = .ok (.iinc 2 1, 3) := by decide +kernel
theorem d_Reducer_less_196 : decode b_Reducer_less 196 = .ok (.goto (-192), 3) := by decide +kernel
theorem d_Reducer_less_199 : decode b_Reducer_less 199 = .ok (.aload_n 0, 1) := by decide +kernel
theorem d_Reducer_less_200 : decode b_Reducer_less 200 = .ok (.getfield 12, 3) := by decide +kernel
theorem d_Reducer_less_203 : decode b_Reducer_less 203 = .ok (.iconst 0, 1) := by decide +kernel
theorem d_Reducer_less_204 : decode b_Reducer_less 204 = .ok (.putfield 34, 3) := by decide +kernel
theorem d_Reducer_less_207 : decode b_Reducer_less 207 = .ok (.iload_n 1, 1) := by decide +kernel
theorem d_Reducer_less_208 : decode b_Reducer_less 208 = .ok (.ireturn, 1) := by decide +kernel
theorem d_Reducer_within_0 : decode b_Reducer_within 0 = .ok (.iload_n 2, 1) := by decide +kernel
theorem d_Reducer_within_1 : decode b_Reducer_within 1 = .ok (.ifCond .lt 7, 3) := by decide +kernel
theorem d_Reducer_within_4 : decode b_Reducer_within 4 = .ok (.iload_n 3, 1) := by decide +kernel
theorem d_Reducer_within_5 : decode b_Reducer_within 5 = .ok (.ifCond .ge 6, 3) := by decide +kernel
theorem d_Reducer_within_8 : decode b_Reducer_within 8 = .ok (.bipush (-3), 2) := by decide +kernel
theorem d_Reducer_within_10 : decode b_Reducer_within 10 = .ok (.ireturn, 1) := by decide +kernel
theorem d_Reducer_within_11 : decode b_Reducer_within 11 = .ok (.aload_n 0, 1) := by decide +kernel
theorem d_Reducer_within_12 : decode b_Reducer_within 12 = .ok (.getfield 12, 3) := by decide +kernel
theorem d_Reducer_within_15 : decode b_Reducer_within 15 = .ok (.iload_n 1, 1) := by decide +kernel
theorem d_Reducer_within_16 : decode b_Reducer_within 16 = .ok (.iload_n 2, 1) := by decide +kernel
theorem d_Reducer_within_17 : decode b_Reducer_within 17 = .ok (.iload_n 3, 1) := by decide +kernel
theorem d_Reducer_within_18 : decode b_Reducer_within 18 = .ok (.aload_n 0, 1) := by decide +kernel
theorem d_Reducer_within_19 : decode b_Reducer_within 19 = .ok (.getfield 12, 3) := by decide +kernel
theorem d_Reducer_within_22 : decode b_Reducer_within 22 = .ok (.getfield 56, 3) := by decide +kernel
theorem d_Reducer_within_25 : decode b_Reducer_within 25 = .ok (.iconst 1, 1) := by decide +kernel
theorem d_Reducer_within_26 : decode b_Reducer_within 26 = .ok (.iadd, 1) := by decide +kernel
theorem d_Reducer_within_27 : decode b_Reducer_within 27 = .ok (.invokevirtual 48, 3) := by decide +kernel
theorem d_Reducer_within_30 : decode b_Reducer_within 30 = .ok (.ifCond .eq 7, 3) := by decide +kernel
theorem d_Reducer_within_33 : decode b_Reducer_within 33 = .ok (.iconst 1, 1) := by decide +kernel
theorem d_Reducer_within_34 : decode b_Reducer_within 34 = .ok (.goto 5, 3) := by decide +kernel
theorem d_Reducer_within_37 : decode b_Reducer_within 37 = .ok (.bipush (-3), 2) := by decide +kernel
theorem d_Reducer_within_39 : decode b_Reducer_within 39 = .ok (.ireturn, 1) := by decide +kernel
theorem d_Reducer_withinArguments_0 : decode b_Reducer_withinArguments 0 = .ok (.iconst 1, 1) := by decide +kernel
theorem d_Reducer_withinArguments_1 : decode b_Reducer_withinArguments 1 = .ok (.istore 4, 2) := by decide +kernel
theorem d_Reducer_withinArguments_3 : decode b_Reducer_withinArguments 3 = .ok (.aload_n 0, 1) := by decide +kernel
theorem d_Reducer_withinArguments_4 : decode b_Reducer_withinArguments 4 = .ok (.getfield 18, 3) := by decide +kernel
theorem d_Reducer_withinArguments_7 : decode b_Reducer_withinArguments 7 = .ok (.aload_n 0, 1) := by decide +kernel
theorem d_Reducer_withinArguments_8 : decode b_Reducer_withinArguments 8 = .ok (.getfield 22, 3) := by decide +kernel
theorem d_Reducer_withinArguments_11 : decode b_Reducer_withinArguments 11 = .ok (.iload_n 3, 1) := by decide +kernel
theorem d_Reducer_withinArguments_12 : decode b_Reducer_withinArguments 12 = .ok (.invokevirtual 84, 3) := by decide +kernel
theorem d_Reducer_withinArguments_15 : decode b_Reducer_withinArguments 15 = .ok (.invokevirtual 90, 3) := by decide +kernel
theorem d_Reducer_withinArguments_18 : decode b_Reducer_withinArguments 18 = .ok (.iconst 1, 1) := by decide +kernel
theorem d_Reducer_withinArguments_19 : decode b_Reducer_withinArguments 19 = .ok (.isub, 1) := by decide +kernel
theorem d_Reducer_withinArguments_20 : decode b_Reducer_withinArguments 20 = .ok (.istore 5, 2) := by decide +kernel
theorem d_Reducer_withinArguments_22 : decode b_Reducer_withinArguments 22 = .ok (.iload 5, 2) := by decide +kernel
theorem d_Reducer_withinArguments_24 : decode b_Reducer_withinArguments 24 = .ok (.ifCond .lt 42, 3) := by decide +kernel
theorem d_Reducer_withinArguments_27 : decode b_Reducer_withinArguments 27 = .ok (.iload 4, 2) := by decide +kernel
theorem d_Reducer_withinArguments_29 : decode b_Reducer_withinArguments 29 = .ok (.iconst 1, 1) := by decide +kernel
theorem d_Reducer_withinArguments_30 : decode b_Reducer_withinArguments 30 = .ok (.if_icmp .ne 36, 3) := by decide +kernel
theorem d_Reducer_withinArguments_33 : decode b_Reducer_withinArguments 33 = .ok (.aload_n 0, 1) := by decide +kernel
theorem d_Reducer_withinArguments_34 : decode b_Reducer_withinArguments 34 = .ok (.iload_n 1, 1) := by decide +kernel
theorem d_Reducer_withinArguments_35 : decode b_Reducer_withinArguments 35 = .ok (.aload_n 0, 1) := by decide +kernel
theorem d_Reducer_withinArguments_36 : decode b_Reducer_withinArguments 36 = .ok (.getfield 22, 3) := by decide +kernel
theorem d_Reducer_withinArguments_39 : decode b_Reducer_withinArguments 39 = .ok (.iload_n 2, 1) := by decide +kernel
theorem d_Reducer_withinArguments_40 : decode b_Reducer_withinArguments 40 = .ok (.iload 5, 2) := by decide +kernel
theorem d_Reducer_withinArguments_42 : decode b_Reducer_withinArguments 42 = .ok (.invokevirtual 95, 3) := by decide +kernel
theorem d_Reducer_withinArguments_45 : decode b_Reducer_withinArguments 45 = .ok (.aload_n 0, 1) := by decide +kernel
theorem d_Reducer_withinArguments_46 : decode b_Reducer_withinArguments 46 = .ok (.getfield 22, 3) := by decide +kernel
theorem d_Reducer_withinArguments_49 : decode b_Reducer_withinArguments 49 = .ok (.iload_n 3, 1) := by decide +kernel
theorem d_Reducer_withinArguments_50 : decode b_Reducer_withinArguments 50 = .ok (.iload 5, 2) := by decide +kernel
theorem d_Reducer_withinArguments_52 : decode b_Reducer_withinArguments 52 = .ok (.invokevirtual 95, 3) := by decide +kernel
theorem d_Reducer_withinArguments_55 : decode b_Reducer_withinArguments 55 = .ok (.invokevirtual 98, 3) := by decide +kernel
theorem d_Reducer_withinArguments_58 : decode b_Reducer_withinArguments 58 = .ok (.istore 4, 2) := by decide +kernel
theorem d_Reducer_withinArguments_60 : decode b_Reducer_withinArguments 60 = .ok (.iinc 5 (-1), 3) := by decide +kernel
theorem d_Reducer_withinArguments_63 : decode b_Reducer_withinArguments 63 = .ok (.goto (-41), 3) := by decide +kernel
theorem d_Reducer_withinArguments_66 : decode b_Reducer_withinArguments 66 = .ok (.iload 4, 2) := by decide +kernel
theorem d_Reducer_withinArguments_68 : decode b_Reducer_withinArguments 68 = .ok (.ireturn, 1) := by decide +kernel
theorem d_Reducer_lessCompatible_0 : decode b_Reducer_lessCompatible 0 = .ok (.aload_n 0, 1) := by decide +kernel
theorem d_Reducer_lessCompatible_1 : decode b_Reducer_lessCompatible 1 = .ok (.getfield 22, 3) := by decide +kernel
theorem d_Reducer_lessCompatible_4 : decode b_Reducer_lessCompatible 4 = .ok (.iload_n 1, 1) := by decide +kernel
theorem d_Reducer_lessCompatible_5 : decode b_Reducer_lessCompatible 5 = .ok (.invokevirtual 102, 3) := by decide +kernel
theorem d_Reducer_lessCompatible_8 : decode b_Reducer_lessCompatible 8 = .ok (.iconst 5, 1) := by decide +kernel
theorem d_Reducer_lessCompatible_9 : decode b_Reducer_lessCompatible 9 = .ok (.if_icmp .ne 7, 3) := by decide +kernel
theorem d_Reducer_lessCompatible_12 : decode b_Reducer_lessCompatible 12 = .ok (.iconst 1, 1) := by decide +kernel
theorem d_Reducer_lessCompatible_13 : decode b_Reducer_lessCompatible 13 = .ok (.goto 4, 3) := by decide +kernel
theorem d_Reducer_lessCompatible_16 : decode b_Reducer_lessCompatible 16 = .ok (.iconst 0, 1) := by decide +kernel
theorem d_Reducer_lessCompatible_17 : decode b_Reducer_lessCompatible 17 = .ok (.istore_n 3, 1) := by decide +kernel
theorem d_Reducer_lessCompatible_18 : decode b_Reducer_lessCompatible 18 = .ok (.aload_n 0, 1) := by decide +kernel
theorem d_Reducer_lessCompatible_19 : decode b_Reducer_lessCompatible 19 = .ok (.getfield 22, 3) := by decide +kernel
theorem d_Reducer_lessCompatible_22 : decode b_Reducer_lessCompatible 22 = .ok (.iload_n 2, 1) := by decide +kernel
theorem d_Reducer_lessCompatible_23 : decode b_Reducer_lessCompatible 23 = .ok (.invokevirtual 102, 3) := by decide +kernel
theorem d_Reducer_lessCompatible_26 : decode b_Reducer_lessCompatible 26 = .ok (.iconst 5, 1) := by decide +kernel
theorem d_Reducer_lessCompatible_27 : decode b_Reducer_lessCompatible 27 = .ok (.if_icmp .ne 7, 3) := by decide +kernel
theorem d_Reducer_lessCompatible_30 : decode b_Reducer_lessCompatible 30 = .ok (.iconst 1, 1) := by decide +kernel
theorem d_Reducer_lessCompatible_31 : decode b_Reducer_lessCompatible 31 = .ok (.goto 4, 3) := by decide +kernel
theorem d_Reducer_lessCompatible_34 : decode b_Reducer_lessCompatible 34 = .ok (.iconst 0, 1) := by decide +kernel
theorem d_Reducer_lessCompatible_35 : decode b_Reducer_lessCompatible 35 = .ok (.istore 4, 2) := by decide +kernel
theorem d_Reducer_lessCompatible_37 : decode b_Reducer_lessCompatible 37 = .ok (.aload_n 0, 1) := by decide +kernel
theorem d_Reducer_lessCompatible_38 : decode b_Reducer_lessCompatible 38 = .ok (.getfield 22, 3) := by decide +kernel
theorem d_Reducer_lessCompatible_41 : decode b_Reducer_lessCompatible 41 = .ok (.iload_n 1, 1) := by decide +kernel
theorem d_Reducer_lessCompatible_42 : decode b_Reducer_lessCompatible 42 = .ok (.invokevirtual 105, 3) := by decide +kernel
theorem d_Reducer_lessCompatible_45 : decode b_Reducer_lessCompatible 45 = .ok (.ifCond .eq 77, 3) := by decide +kernel
theorem d_Reducer_lessCompatible_48 : decode b_Reducer_lessCompatible 48 = .ok (.aload_n 0, 1) := by decide +kernel
theorem d_Reducer_lessCompatible_49 : decode b_Reducer_lessCompatible 49 = .ok (.getfield 22, 3) := by decide +kernel
theorem d_Reducer_lessCompatible_52 : decode b_Reducer_lessCompatible 52 = .ok (.iload_n 2, 1) := by decide +kernel
theorem d_Reducer_lessCompatible_53 : decode b_Reducer_lessCompatible 53 = .ok (.invokevirtual 105, 3) := by decide +kernel
theorem d_Reducer_lessCompatible_56 : decode b_Reducer_lessCompatible 56 = .ok (.ifCond .eq 66, 3) := by decide +kernel
theorem d_Reducer_lessCompatible_59 : decode b_Reducer_lessCompatible 59 = .ok (.iload_n 3, 1) := by decide +kernel
theorem d_Reducer_lessCompatible_60 : decode b_Reducer_lessCompatible 60 = .ok (.ifCond .eq 31, 3) := by decide +kernel
theorem d_Reducer_lessCompatible_63 : decode b_Reducer_lessCompatible 63 = .ok (.iload 4, 2) := by decide +kernel
theorem d_Reducer_lessCompatible_65 : decode b_Reducer_lessCompatible 65 = .ok (.ifCond .eq 26, 3) := by decide +kernel
theorem d_Reducer_lessCompatible_68 : decode b_Reducer_lessCompatible 68 = .ok (.aload_n 0, 1) := by decide +kernel
theorem d_Reducer_lessCompatible_69 : decode b_Reducer_lessCompatible 69 = .ok (.getfield 22, 3) := by decide +kernel
theorem d_Reducer_lessCompatible_72 : decode b_Reducer_lessCompatible 72 = .ok (.iload_n 1, 1) := by decide +kernel
theorem d_Reducer_lessCompatible_73 : decode b_Reducer_lessCompatible 73 = .ok (.invokevirtual 109, 3) := by decide +kernel
theorem d_Reducer_lessCompatible_76 : decode b_Reducer_lessCompatible 76 = .ok (.aload_n 0, 1) := by decide +kernel
theorem d_Reducer_lessCompatible_77 : decode b_Reducer_lessCompatible 77 = .ok (.getfield 22, 3) := by decide +kernel
theorem d_Reducer_lessCompatible_80 : decode b_Reducer_lessCompatible 80 = .ok (.iload_n 2, 1) := by decide +kernel
theorem d_Reducer_lessCompatible_81 : decode b_Reducer_lessCompatible 81 = .ok (.invokevirtual 109, 3) := by decide +kernel
theorem d_Reducer_lessCompatible_84 : decode b_Reducer_lessCompatible 84 = .ok (.invokestatic 112, 3) := by decide +kernel
theorem d_Reducer_lessCompatible_87 : decode b_Reducer_lessCompatible 87 = .ok (.invokestatic 116, 3) := by decide +kernel
theorem d_Reducer_lessCompatible_90 : decode b_Reducer_lessCompatible 90 = .ok (.ireturn, 1) := by decide +kernel
theorem d_Reducer_lessCompatible_91 : decode b_Reducer_lessCompatible 91 = .ok (.iload_n 3, 1) := by decide +kernel
theorem d_Reducer_lessCompatible_92 : decode b_Reducer_lessCompatible 92 = .ok (.ifCond .eq 15, 3) := by decide +kernel
theorem d_Reducer_lessCompatible_95 : decode b_Reducer_lessCompatible 95 = .ok (.aload_n 0, 1) := by decide +kernel
theorem d_Reducer_lessCompatible_96 : decode b_Reducer_lessCompatible 96 = .ok (.iconst 1, 1) := by decide +kernel
theorem d_Reducer_lessCompatible_97 : decode b_Reducer_lessCompatible 97 = .ok (.aload_n 0, 1) := by decide +kernel
theorem d_Reducer_lessCompatible_98 : decode b_Reducer_lessCompatible 98 = .ok (.iload_n 1, 1) := by decide +kernel
theorem d_Reducer_lessCompatible_99 : decode b_Reducer_lessCompatible 99 = .ok (.invokevirtual 120, 3) := by decide +kernel
theorem d_Reducer_lessCompatible_102 : decode b_Reducer_lessCompatible 102 = .ok (.iload_n 2, 1) := by decide +kernel
theorem d_Reducer_lessCompatible_103 : decode b_Reducer_lessCompatible 103 = .ok (.invokevirtual 98, 3) := by decide +kernel
theorem d_Reducer_lessCompatible_106 : decode b_Reducer_lessCompatible 106 = .ok (.ireturn, 1) := by decide +kernel
theorem d_Reducer_lessCompatible_107 : decode b_Reducer_lessCompatible 107 = .ok (.iload 4, 2) := by decide +kernel
theorem d_Reducer_lessCompatible_109 : decode b_Reducer_lessCompatible 109 = .ok (.ifCond .eq 46, 3) := by decide +kernel
theorem d_Reducer_lessCompatible_112 : decode b_Reducer_lessCompatible 112 = .ok (.aload_n 0, 1) := by decide +kernel
theorem d_Reducer_lessCompatible_113 : decode b_Reducer_lessCompatible 113 = .ok (.iload_n 1, 1) := by decide +kernel
theorem d_Reducer_lessCompatible_114 : decode b_Reducer_lessCompatible 114 = .ok (.iload_n 2, 1) := by decide +kernel
theorem d_Reducer_lessCompatible_115 : decode b_Reducer_lessCompatible 115 = .ok (.invokevirtual 123, 3) := by decide +kernel
theorem d_Reducer_lessCompatible_118 : decode b_Reducer_lessCompatible 118 = .ok (.invokestatic 116, 3) := by decide +kernel
theorem d_Reducer_lessCompatible_121 : decode b_Reducer_lessCompatible 121 = .ok (.ireturn, 1) := by decide +kernel
theorem d_Reducer_lessCompatible_122 : decode b_Reducer_lessCompatible 122 = .ok (.iload_n 3, 1) := by decide +kernel
theorem d_Reducer_lessCompatible_123 : decode b_Reducer_lessCompatible 123 = .ok (.ifCond .eq 15, 3) := by decide +kernel
theorem d_Reducer_lessCompatible_126 : decode b_Reducer_lessCompatible 126 = .ok (.aload_n 0, 1) := by decide +kernel
theorem d_Reducer_lessCompatible_127 : decode b_Reducer_lessCompatible 127 = .ok (.iconst 0, 1) := by decide +kernel
theorem d_Reducer_lessCompatible_128 : decode b_Reducer_lessCompatible 128 = .ok (.aload_n 0, 1) := by decide +kernel
theorem d_Reducer_lessCompatible_129 : decode b_Reducer_lessCompatible 129 = .ok (.iload_n 1, 1) := by decide +kernel
theorem d_Reducer_lessCompatible_130 : decode b_Reducer_lessCompatible 130 = .ok (.invokevirtual 120, 3) := by decide +kernel
theorem d_Reducer_lessCompatible_133 : decode b_Reducer_lessCompatible 133 = .ok (.iload_n 2, 1) := by decide +kernel
theorem d_Reducer_lessCompatible_134 : decode b_Reducer_lessCompatible 134 = .ok (.invokevirtual 98, 3) := by decide +kernel
theorem d_Reducer_lessCompatible_137 : decode b_Reducer_lessCompatible 137 = .ok (.ireturn, 1) := by decide +kernel
theorem d_Reducer_lessCompatible_138 : decode b_Reducer_lessCompatible 138 = .ok (.iload 4, 2) := by decide +kernel
theorem d_Reducer_lessCompatible_140 : decode b_Reducer_lessCompatible 140 = .ok (.ifCond .eq 15, 3) := by decide +kernel
theorem d_Reducer_lessCompatible_143 : decode b_Reducer_lessCompatible 143 = .ok (.aload_n 0, 1) := by decide +kernel
theorem d_Reducer_lessCompatible_144 : decode b_Reducer_lessCompatible 144 = .ok (.iconst 3, 1) := by decide +kernel
theorem d_Reducer_lessCompatible_145 : decode b_Reducer_lessCompatible 145 = .ok (.iload_n 1, 1) := by decide +kernel
theorem d_Reducer_lessCompatible_146 : decode b_Reducer_lessCompatible 146 = .ok (.aload_n 0, 1) := by decide +kernel
theorem d_Reducer_lessCompatible_147 : decode b_Reducer_lessCompatible 147 = .ok (.iload_n 2, 1) := by decide +kernel
theorem d_Reducer_lessCompatible_148 : decode b_Reducer_lessCompatible 148 = .ok (.invokevirtual 120, 3) := by decide +kernel
theorem d_Reducer_lessCompatible_151 : decode b_Reducer_lessCompatible 151 = .ok (.invokevirtual 98, 3) := by decide +kernel
theorem d_Reducer_lessCompatible_154 : decode b_Reducer_lessCompatible 154 = .ok (.ireturn, 1) := by decide +kernel
theorem d_Reducer_lessCompatible_155 : decode b_Reducer_lessCompatible 155 = .ok (.aload_n 0, 1) := by decide +kernel
theorem d_Reducer_lessCompatible_156 : decode b_Reducer_lessCompatible 156 = .ok (.getfield 22, 3) := by decide +kernel
theorem d_Reducer_lessCompatible_159 : decode b_Reducer_lessCompatible 159 = .ok (.iload_n 2, 1) := by decide +kernel
theorem d_Reducer_lessCompatible_160 : decode b_Reducer_lessCompatible 160 = .ok (.invokevirtual 102, 3) := by decide +kernel
theorem d_Reducer_lessCompatible_163 : decode b_Reducer_lessCompatible 163 = .ok (.iconst 1, 1) := by decide +kernel
theorem d_Reducer_lessCompatible_164 : decode b_Reducer_lessCompatible 164 = .ok (.if_icmp .ne 47, 3) := by decide +kernel
theorem d_Reducer_lessCompatible_167 : decode b_Reducer_lessCompatible 167 = .ok (.aload_n 0, 1) := by decide +kernel
theorem d_Reducer_lessCompatible_168 : decode b_Reducer_lessCompatible 168 = .ok (.iload_n 1, 1) := by decide +kernel
theorem d_Reducer_lessCompatible_169 : decode b_Reducer_lessCompatible 169 = .ok (.aload_n 0, 1) := by decide +kernel
theorem d_Reducer_lessCompatible_170 : decode b_Reducer_lessCompatible 170 = .ok (.getfield 22, 3) := by decide +kernel
theorem d_Reducer_lessCompatible_173 : decode b_Reducer_lessCompatible 173 = .ok (.iload_n 2, 1) := by decide +kernel
theorem d_Reducer_lessCompatible_174 : decode b_Reducer_lessCompatible 174 = .ok (.invokevirtual 109, 3) := by decide +kernel
theorem d_Reducer_lessCompatible_177 : decode b_Reducer_lessCompatible 177 = .ok (.invokevirtual 126, 3) := by decide +kernel
theorem d_Reducer_lessCompatible_180 : decode b_Reducer_lessCompatible 180 = .ok (.istore 5, 2) := by decide +kernel
theorem d_Reducer_lessCompatible_182 : decode b_Reducer_lessCompatible 182 = .ok (.iload 5, 2) := by decide +kernel
theorem d_Reducer_lessCompatible_184 : decode b_Reducer_lessCompatible 184 = .ok (.bipush (-3), 2) := by decide +kernel
theorem d_Reducer_lessCompatible_186 : decode b_Reducer_lessCompatible 186 = .ok (.if_icmp .ne 6, 3) := by decide +kernel
theorem d_Reducer_lessCompatible_189 : decode b_Reducer_lessCompatible 189 = .ok (.bipush (-3), 2) := by decide +kernel
theorem d_Reducer_lessCompatible_191 : decode b_Reducer_lessCompatible 191 = .ok (.ireturn, 1) := by decide +kernel
theorem d_Reducer_lessCompatible_192 : decode b_Reducer_lessCompatible 192 = .ok (.aload_n 0, 1) := by decide +kernel
theorem d_Reducer_lessCompatible_193 : decode b_Reducer_lessCompatible 193 = .ok (.getfield 22, 3) := by decide +kernel
theorem d_Reducer_lessCompatible_196 : decode b_Reducer_lessCompatible 196 = .ok (.iload 5, 2) := by decide +kernel
theorem d_Reducer_lessCompatible_198 : decode b_Reducer_lessCompatible 198 = .ok (.invokevirtual 102, 3) := by decide +kernel
theorem d_Reducer_lessCompatible_201 : decode b_Reducer_lessCompatible 201 = .ok (.ifCond .ne 10, 3) := by decide +kernel
theorem d_Reducer_lessCompatible_204 : decode b_Reducer_lessCompatible 204 = .ok (.aload_n 0, 1) := by decide +kernel
theorem d_Reducer_lessCompatible_205 : decode b_Reducer_lessCompatible 205 = .ok (.iconst 1, 1) := by decide +kernel
theorem d_Reducer_lessCompatible_206 : decode b_Reducer_lessCompatible 206 = .ok (.putfield 44, 3) := by decide +kernel
theorem d_Reducer_lessCompatible_209 : decode b_Reducer_lessCompatible 209 = .ok (.iconst 1, 1) := by decide +kernel
theorem d_Reducer_lessCompatible_210 : decode b_Reducer_lessCompatible 210 = .ok (.ireturn, 1) := by decide +kernel
theorem d_Reducer_lessCompatible_211 : decode b_Reducer_lessCompatible 211 = .ok (.aload_n 0, 1) := by decide +kernel
theorem d_Reducer_lessCompatible_212 : decode b_Reducer_lessCompatible 212 = .ok (.iconst 1, 1) := by decide +kernel
theorem d_Reducer_lessCompatible_213 : decode b_Reducer_lessCompatible 213 = .ok (.iload_n 1, 1) := by decide +kernel
theorem d_Reducer_lessCompatible_214 : decode b_Reducer_lessCompatible 214 = .ok (.iload_n 2, 1) := by decide +kernel
theorem d_Reducer_lessCompatible_215 : decode b_Reducer_lessCompatible 215 = .ok (.invokevirtual 98, 3) := by decide +kernel
theorem d_Reducer_lessCompatible_218 : decode b_Reducer_lessCompatible 218 = .ok (.ireturn, 1) := by decide +kernel
theorem d_Reducer_lessSub_0 : decode b_Reducer_lessSub 0 = .ok (.iload_n 1, 1) := by decide +kernel
theorem d_Reducer_lessSub_1 : decode b_Reducer_lessSub 1 = .ok (.iload_n 2, 1) := by decide +kernel
theorem d_Reducer_lessSub_2 : decode b_Reducer_lessSub 2 = .ok (.if_icmp .ne 5, 3) := by decide +kernel
theorem d_Reducer_lessSub_5 : decode b_Reducer_lessSub 5 = .ok (.iconst 1, 1) := by decide +kernel
theorem d_Reducer_lessSub_6 : decode b_Reducer_lessSub 6 = .ok (.ireturn, 1) := by decide +kernel
theorem d_Reducer_lessSub_7 : decode b_Reducer_lessSub 7 = .ok (.aload_n 0, 1) := by decide +kernel
theorem d_Reducer_lessSub_8 : decode b_Reducer_lessSub 8 = .ok (.getfield 22, 3) := by decide +kernel
theorem d_Reducer_lessSub_11 : decode b_Reducer_lessSub 11 = .ok (.iload_n 1, 1) := by decide +kernel
theorem d_Reducer_lessSub_12 : decode b_Reducer_lessSub 12 = .ok (.invokevirtual 102, 3) := by decide +kernel
theorem d_Reducer_lessSub_15 : decode b_Reducer_lessSub 15 = .ok (.istore_n 3, 1) := by decide +kernel
theorem d_Reducer_lessSub_16 : decode b_Reducer_lessSub 16 = .ok (.aload_n 0, 1) := by decide +kernel
theorem d_Reducer_lessSub_17 : decode b_Reducer_lessSub 17 = .ok (.getfield 22, 3) := by decide +kernel
theorem d_Reducer_lessSub_20 : decode b_Reducer_lessSub 20 = .ok (.iload_n 2, 1) := by decide +kernel
theorem d_Reducer_lessSub_21 : decode b_Reducer_lessSub 21 = .ok (.invokevirtual 102, 3) := by decide +kernel
theorem d_Reducer_lessSub_24 : decode b_Reducer_lessSub 24 = .ok (.istore 4, 2) := by decide +kernel
theorem d_Reducer_lessSub_26 : decode b_Reducer_lessSub 26 = .ok (.iload_n 3, 1) := by decide +kernel
theorem d_Reducer_lessSub_27 : decode b_Reducer_lessSub 27 = .ok (.bipush 6, 2) := by decide +kernel
theorem d_Reducer_lessSub_29 : decode b_Reducer_lessSub 29 = .ok (.if_icmp .ne 18, 3) := by decide +kernel
theorem d_Reducer_lessSub_32 : decode b_Reducer_lessSub 32 = .ok (.iload 4, 2) := by decide +kernel
theorem d_Reducer_lessSub_34 : decode b_Reducer_lessSub 34 = .ok (.iconst 5, 1) := by decide +kernel
theorem d_Reducer_lessSub_35 : decode b_Reducer_lessSub 35 = .ok (.if_icmp .eq 7, 3) := by decide +kernel
theorem d_Reducer_lessSub_38 : decode b_Reducer_lessSub 38 = .ok (.iconst 1, 1) := by decide +kernel
theorem d_Reducer_lessSub_39 : decode b_Reducer_lessSub 39 = .ok (.goto 4, 3) := by decide +kernel
theorem d_Reducer_lessSub_42 : decode b_Reducer_lessSub 42 = .ok (.iconst 0, 1) := by decide +kernel
theorem d_Reducer_lessSub_43 : decode b_Reducer_lessSub 43 = .ok (.invokestatic 116, 3) := by decide +kernel
theorem d_Reducer_lessSub_46 : decode b_Reducer_lessSub 46 = .ok (.ireturn, 1) := by decide +kernel
theorem d_Reducer_lessSub_47 : decode b_Reducer_lessSub 47 = .ok (.iload 4, 2) := by decide +kernel
theorem d_Reducer_lessSub_49 : decode b_Reducer_lessSub 49 = .ok (.bipush 6, 2) := by decide +kernel
theorem d_Reducer_lessSub_51 : decode b_Reducer_lessSub 51 = .ok (.if_icmp .eq 14, 3) := by decide +kernel
theorem d_Reducer_lessSub_54 : decode b_Reducer_lessSub 54 = .ok (.iload_n 3, 1) := by decide +kernel
theorem d_Reducer_lessSub_55 : decode b_Reducer_lessSub 55 = .ok (.iconst 5, 1) := by decide +kernel
theorem d_Reducer_lessSub_56 : decode b_Reducer_lessSub 56 = .ok (.if_icmp .eq 9, 3) := by decide +kernel
theorem d_Reducer_lessSub_59 : decode b_Reducer_lessSub 59 = .ok (.iload 4, 2) := by decide +kernel
theorem d_Reducer_lessSub_61 : decode b_Reducer_lessSub 61 = .ok (.iconst 5, 1) := by decide +kernel
theorem d_Reducer_lessSub_62 : decode b_Reducer_lessSub 62 = .ok (.if_icmp .ne 5, 3) := by decide +kernel
theorem d_Reducer_lessSub_65 : decode b_Reducer_lessSub 65 = .ok (.iconst 0, 1) := by decide +kernel
theorem d_Reducer_lessSub_66 : decode b_Reducer_lessSub 66 = .ok (.ireturn, 1) := by decide +kernel
theorem d_Reducer_lessSub_67 : decode b_Reducer_lessSub 67 = .ok (.iload_n 3, 1) := by decide +kernel
theorem d_Reducer_lessSub_68 : decode b_Reducer_lessSub 68 = .ok (.bipush 7, 2) := by decide +kernel
theorem d_Reducer_lessSub_70 : decode b_Reducer_lessSub 70 = .ok (.if_icmp .eq 10, 3) := by decide +kernel
theorem d_Reducer_lessSub_73 : decode b_Reducer_lessSub 73 = .ok (.iload 4, 2) := by decide +kernel
theorem d_Reducer_lessSub_75 : decode b_Reducer_lessSub 75 = .ok (.bipush 7, 2) := by decide +kernel
theorem d_Reducer_lessSub_77 : decode b_Reducer_lessSub 77 = .ok (.if_icmp .ne 12, 3) := by decide +kernel
theorem d_Reducer_lessSub_80 : decode b_Reducer_lessSub 80 = .ok (.aload_n 0, 1) := by decide +kernel
theorem d_Reducer_lessSub_81 : decode b_Reducer_lessSub 81 = .ok (.iconst 1, 1) := by decide +kernel
theorem d_Reducer_lessSub_82 : decode b_Reducer_lessSub 82 = .ok (.iconst 2, 1) := by decide +kernel
theorem d_Reducer_lessSub_83 : decode b_Reducer_lessSub 83 = .ok (.iload_n 1, 1) := by decide +kernel
theorem d_Reducer_lessSub_84 : decode b_Reducer_lessSub 84 = .ok (.iload_n 2, 1) := by decide +kernel
theorem d_Reducer_lessSub_85 : decode b_Reducer_lessSub 85 = .ok (.invokevirtual 129, 3) := by decide +kernel
theorem d_Reducer_lessSub_88 : decode b_Reducer_lessSub 88 = .ok (.ireturn, 1) := by decide +kernel
theorem d_Reducer_lessSub_89 : decode b_Reducer_lessSub 89 = .ok (.iload 4, 2) := by decide +kernel
theorem d_Reducer_lessSub_91 : decode b_Reducer_lessSub 91 = .ok (.ifCond .ne 57, 3) := by decide +kernel
theorem d_Reducer_lessSub_94 : decode b_Reducer_lessSub 94 = .ok (.aload_n 0, 1) := by decide +kernel
theorem d_Reducer_lessSub_95 : decode b_Reducer_lessSub 95 = .ok (.getfield 22, 3) := by decide +kernel
theorem d_Reducer_lessSub_98 : decode b_Reducer_lessSub 98 = .ok (.iload_n 2, 1) := by decide +kernel
theorem d_Reducer_lessSub_99 : decode b_Reducer_lessSub 99 = .ok (.invokevirtual 109, 3) := by decide +kernel
theorem d_Reducer_lessSub_102 : decode b_Reducer_lessSub 102 = .ok (.ifCond .ne 5, 3) := by decide +kernel
theorem d_Reducer_lessSub_105 : decode b_Reducer_lessSub 105 = .ok (.iconst 1, 1) := by decide +kernel
theorem d_Reducer_lessSub_106 : decode b_Reducer_lessSub 106 = .ok (.ireturn, 1) := by decide +kernel
theorem d_Reducer_lessSub_107 : decode b_Reducer_lessSub 107 = .ok (.aload_n 0, 1) := by decide +kernel
theorem d_Reducer_lessSub_108 : decode b_Reducer_lessSub 108 = .ok (.iload_n 1, 1) := by decide +kernel
theorem d_Reducer_lessSub_109 : decode b_Reducer_lessSub 109 = .ok (.aload_n 0, 1) := by decide +kernel
theorem d_Reducer_lessSub_110 : decode b_Reducer_lessSub 110 = .ok (.getfield 22, 3) := by decide +kernel
theorem d_Reducer_lessSub_113 : decode b_Reducer_lessSub 113 = .ok (.iload_n 2, 1) := by decide +kernel
theorem d_Reducer_lessSub_114 : decode b_Reducer_lessSub 114 = .ok (.invokevirtual 109, 3) := by decide +kernel
theorem d_Reducer_lessSub_117 : decode b_Reducer_lessSub 117 = .ok (.invokevirtual 126, 3) := by decide +kernel
theorem d_Reducer_lessSub_120 : decode b_Reducer_lessSub 120 = .ok (.istore 5, 2) := by decide +kernel
theorem d_Reducer_lessSub_122 : decode b_Reducer_lessSub 122 = .ok (.iload 5, 2) := by decide +kernel
theorem d_Reducer_lessSub_124 : decode b_Reducer_lessSub 124 = .ok (.bipush (-3), 2) := by decide +kernel
theorem d_Reducer_lessSub_126 : decode b_Reducer_lessSub 126 = .ok (.if_icmp .ne 8, 3) := by decide +kernel
theorem d_Reducer_lessSub_129 : decode b_Reducer_lessSub 129 = .ok (.bipush (-3), 2) := by decide +kernel
theorem d_Reducer_lessSub_131 : decode b_Reducer_lessSub 131 = .ok (.goto 16, 3) := by decide +kernel
theorem d_Reducer_lessSub_134 : decode b_Reducer_lessSub 134 = .ok (.iload 5, 2) := by decide +kernel
theorem d_Reducer_lessSub_136 : decode b_Reducer_lessSub 136 = .ok (.ifCond .lt 7, 3) := by decide +kernel
theorem d_Reducer_lessSub_139 : decode b_Reducer_lessSub 139 = .ok (.iconst 1, 1) := by decide +kernel
theorem d_Reducer_lessSub_140 : decode b_Reducer_lessSub 140 = .ok (.goto 4, 3) := by decide +kernel
theorem d_Reducer_lessSub_143 : decode b_Reducer_lessSub 143 = .ok (.iconst 0, 1) := by decide +kernel
theorem d_Reducer_lessSub_144 : decode b_Reducer_lessSub 144 = .ok (.invokestatic 116, 3) := by decide +kernel
theorem d_Reducer_lessSub_147 : decode b_Reducer_lessSub 147 = .ok (.ireturn, 1) := by decide +kernel
theorem d_Reducer_lessSub_148 : decode b_Reducer_lessSub 148 = .ok (.iload 4, 2) := by decide +kernel
theorem d_Reducer_lessSub_150 : decode b_Reducer_lessSub 150 = .ok (.iconst 1, 1) := by decide +kernel
theorem d_Reducer_lessSub_151 : decode b_Reducer_lessSub 151 = .ok (.if_icmp .ne 54, 3) := by decide +kernel
theorem d_Reducer_lessSub_154 : decode b_Reducer_lessSub 154 = .ok (.aload_n 0, 1) := by decide +kernel
theorem d_Reducer_lessSub_155 : decode b_Reducer_lessSub 155 = .ok (.iload_n 1, 1) := by decide +kernel
theorem d_Reducer_lessSub_156 : decode b_Reducer_lessSub 156 = .ok (.aload_n 0, 1) := by decide +kernel
theorem d_Reducer_lessSub_157 : decode b_Reducer_lessSub 157 = .ok (.getfield 22, 3) := by decide +kernel
theorem d_Reducer_lessSub_160 : decode b_Reducer_lessSub 160 = .ok (.iload_n 2, 1) := by decide +kernel
theorem d_Reducer_lessSub_161 : decode b_Reducer_lessSub 161 = .ok (.invokevirtual 109, 3) := by decide +kernel
theorem d_Reducer_lessSub_164 : decode b_Reducer_lessSub 164 = .ok (.invokevirtual 126, 3) := by decide +kernel
theorem d_Reducer_lessSub_167 : decode b_Reducer_lessSub 167 = .ok (.istore 5, 2) := by decide +kernel
theorem d_Reducer_lessSub_169 : decode b_Reducer_lessSub 169 = .ok (.iload 5, 2) := by decide +kernel
theorem d_Reducer_lessSub_171 : decode b_Reducer_lessSub 171 = .ok (.bipush (-3), 2) := by decide +kernel
theorem d_Reducer_lessSub_173 : decode b_Reducer_lessSub 173 = .ok (.if_icmp .ne 6, 3) := by decide +kernel
theorem d_Reducer_lessSub_176 : decode b_Reducer_lessSub 176 = .ok (.bipush (-3), 2) := by decide +kernel
theorem d_Reducer_lessSub_178 : decode b_Reducer_lessSub 178 = .ok (.ireturn, 1) := by decide +kernel
theorem d_Reducer_lessSub_179 : decode b_Reducer_lessSub 179 = .ok (.aload_n 0, 1) := by decide +kernel
theorem d_Reducer_lessSub_180 : decode b_Reducer_lessSub 180 = .ok (.getfield 22, 3) := by decide +kernel
theorem d_Reducer_lessSub_183 : decode b_Reducer_lessSub 183 = .ok (.iload 5, 2) := by decide +kernel
theorem d_Reducer_lessSub_185 : decode b_Reducer_lessSub 185 = .ok (.invokevirtual 102, 3) := by decide +kernel
theorem d_Reducer_lessSub_188 : decode b_Reducer_lessSub 188 = .ok (.iconst 1, 1) := by decide +kernel
theorem d_Reducer_lessSub_189 : decode b_Reducer_lessSub 189 = .ok (.if_icmp .ne 14, 3) := by decide +kernel
theorem d_Reducer_lessSub_192 : decode b_Reducer_lessSub 192 = .ok (.aload_n 0, 1) := by decide +kernel
theorem d_Reducer_lessSub_193 : decode b_Reducer_lessSub 193 = .ok (.iconst 2, 1) := by decide +kernel
theorem d_Reducer_lessSub_194 : decode b_Reducer_lessSub 194 = .ok (.iload 5, 2) := by decide +kernel
theorem d_Reducer_lessSub_196 : decode b_Reducer_lessSub 196 = .ok (.iload_n 2, 1) := by decide +kernel
theorem d_Reducer_lessSub_197 : decode b_Reducer_lessSub 197 = .ok (.invokevirtual 133, 3) := by decide +kernel
theorem d_Reducer_lessSub_200 : decode b_Reducer_lessSub 200 = .ok (.goto 4, 3) := by decide +kernel
theorem d_Reducer_lessSub_203 : decode b_Reducer_lessSub 203 = .ok (.iconst 0, 1) := by decide +kernel
theorem d_Reducer_lessSub_204 : decode b_Reducer_lessSub 204 = .ok (.ireturn, 1) := by decide +kernel
theorem d_Reducer_lessSub_205 : decode b_Reducer_lessSub 205 = .ok (.iload 4, 2) := by decide +kernel
theorem d_Reducer_lessSub_207 : decode b_Reducer_lessSub 207 = .ok (.iconst 4, 1) := by decide +kernel
theorem d_Reducer_lessSub_208 : decode b_Reducer_lessSub 208 = .ok (.if_icmp .ne 80, 3) := by decide +kernel
theorem d_Reducer_lessSub_211 : decode b_Reducer_lessSub 211 = .ok (.iload_n 3, 1) := by decide +kernel
theorem d_Reducer_lessSub_212 : decode b_Reducer_lessSub 212 = .ok (.iconst 4, 1) := by decide +kernel
theorem d_Reducer_lessSub_213 : decode b_Reducer_lessSub 213 = .ok (.if_icmp .ne 75, 3) := by decide +kernel
theorem d_Reducer_lessSub_216 : decode b_Reducer_lessSub 216 = .ok (.aload_n 0, 1) := by decide +kernel
theorem d_Reducer_lessSub_217 : decode b_Reducer_lessSub 217 = .ok (.getfield 22, 3) := by decide +kernel
theorem d_Reducer_lessSub_220 : decode b_Reducer_lessSub 220 = .ok (.iload_n 1, 1) := by decide +kernel
theorem d_Reducer_lessSub_221 : decode b_Reducer_lessSub 221 = .ok (.invokevirtual 109, 3) := by decide +kernel
theorem d_Reducer_lessSub_224 : decode b_Reducer_lessSub 224 = .ok (.istore 5, 2) := by decide +kernel
theorem d_Reducer_lessSub_226 : decode b_Reducer_lessSub 226 = .ok (.aload_n 0, 1) := by decide +kernel
theorem d_Reducer_lessSub_227 : decode b_Reducer_lessSub 227 = .ok (.getfield 22, 3) := by decide +kernel
theorem d_Reducer_lessSub_230 : decode b_Reducer_lessSub 230 = .ok (.iload_n 2, 1) := by decide +kernel
theorem d_Reducer_lessSub_231 : decode b_Reducer_lessSub 231 = .ok (.invokevirtual 109, 3) := by decide +kernel
theorem d_Reducer_lessSub_234 : decode b_Reducer_lessSub 234 = .ok (.istore 6, 2) := by decide +kernel
theorem d_Reducer_lessSub_236 : decode b_Reducer_lessSub 236 = .ok (.aload_n 0, 1) := by decide +kernel
theorem d_Reducer_lessSub_237 : decode b_Reducer_lessSub 237 = .ok (.getfield 22, 3) := by decide +kernel
theorem d_Reducer_lessSub_240 : decode b_Reducer_lessSub 240 = .ok (.iload 5, 2) := by decide +kernel
theorem d_Reducer_lessSub_242 : decode b_Reducer_lessSub 242 = .ok (.invokevirtual 102, 3) := by decide +kernel
theorem d_Reducer_lessSub_245 : decode b_Reducer_lessSub 245 = .ok (.iconst 5, 1) := by decide +kernel
theorem d_Reducer_lessSub_246 : decode b_Reducer_lessSub 246 = .ok (.if_icmp .eq 16, 3) := by decide +kernel
theorem d_Reducer_lessSub_249 : decode b_Reducer_lessSub 249 = .ok (.aload_n 0, 1) := by decide +kernel
theorem d_Reducer_lessSub_250 : decode b_Reducer_lessSub 250 = .ok (.getfield 22, 3) := by decide +kernel
theorem d_Reducer_lessSub_253 : decode b_Reducer_lessSub 253 = .ok (.iload 6, 2) := by decide +kernel
theorem d_Reducer_lessSub_255 : decode b_Reducer_lessSub 255 = .ok (.invokevirtual 102, 3) := by decide +kernel
theorem d_Reducer_lessSub_258 : decode b_Reducer_lessSub 258 = .ok (.iconst 5, 1) := by decide +kernel
theorem d_Reducer_lessSub_259 : decode b_Reducer_lessSub 259 = .ok (.if_icmp .ne 19, 3) := by decide +kernel
theorem d_Reducer_lessSub_262 : decode b_Reducer_lessSub 262 = .ok (.iload 5, 2) := by decide +kernel
theorem d_Reducer_lessSub_264 : decode b_Reducer_lessSub 264 = .ok (.iload 6, 2) := by decide +kernel
theorem d_Reducer_lessSub_266 : decode b_Reducer_lessSub 266 = .ok (.if_icmp .ne 7, 3) := by decide +kernel
theorem d_Reducer_lessSub_269 : decode b_Reducer_lessSub 269 = .ok (.iconst 1, 1) := by decide +kernel
theorem d_Reducer_lessSub_270 : decode b_Reducer_lessSub 270 = .ok (.goto 4, 3) := by decide +kernel
theorem d_Reducer_lessSub_273 : decode b_Reducer_lessSub 273 = .ok (.iconst 0, 1) := by decide +kernel
theorem d_Reducer_lessSub_274 : decode b_Reducer_lessSub 274 = .ok (.invokestatic 116, 3) := by decide +kernel
theorem d_Reducer_lessSub_277 : decode b_Reducer_lessSub 277 = .ok (.ireturn, 1) := by decide +kernel
theorem d_Reducer_lessSub_278 : decode b_Reducer_lessSub 278 = .ok (.aload_n 0, 1) := by decide +kernel
theorem d_Reducer_lessSub_279 : decode b_Reducer_lessSub 279 = .ok (.iconst 1, 1) := by decide +kernel
theorem d_Reducer_lessSub_280 : decode b_Reducer_lessSub 280 = .ok (.iload 5, 2) := by decide +kernel
theorem d_Reducer_lessSub_282 : decode b_Reducer_lessSub 282 = .ok (.iload 6, 2) := by decide +kernel
theorem d_Reducer_lessSub_284 : decode b_Reducer_lessSub 284 = .ok (.invokevirtual 98, 3) := by decide +kernel
theorem d_Reducer_lessSub_287 : decode b_Reducer_lessSub 287 = .ok (.ireturn, 1) := by decide +kernel
theorem d_Reducer_lessSub_288 : decode b_Reducer_lessSub 288 = .ok (.aload_n 0, 1) := by decide +kernel
theorem d_Reducer_lessSub_289 : decode b_Reducer_lessSub 289 = .ok (.getfield 22, 3) := by decide +kernel
theorem d_Reducer_lessSub_292 : decode b_Reducer_lessSub 292 = .ok (.iload_n 2, 1) := by decide +kernel
theorem d_Reducer_lessSub_293 : decode b_Reducer_lessSub 293 = .ok (.iconst 2, 1) := by decide +kernel
theorem d_Reducer_lessSub_294 : decode b_Reducer_lessSub 294 = .ok (.invokevirtual 136, 3) := by decide +kernel
theorem d_Reducer_lessSub_297 : decode b_Reducer_lessSub 297 = .ok (.istore 5, 2) := by decide +kernel
theorem d_Reducer_lessSub_299 : decode b_Reducer_lessSub 299 = .ok (.iload 5, 2) := by decide +kernel
theorem d_Reducer_lessSub_301 : decode b_Reducer_lessSub 301 = .ok (.ifCond .lt 14, 3) := by decide +kernel
theorem d_Reducer_lessSub_304 : decode b_Reducer_lessSub 304 = .ok (.aload_n 0, 1) := by decide +kernel
theorem d_Reducer_lessSub_305 : decode b_Reducer_lessSub 305 = .ok (.iconst 1, 1) := by decide +kernel
theorem d_Reducer_lessSub_306 : decode b_Reducer_lessSub 306 = .ok (.iload_n 1, 1) := by decide +kernel
theorem d_Reducer_lessSub_307 : decode b_Reducer_lessSub 307 = .ok (.iload 5, 2) := by decide +kernel
theorem d_Reducer_lessSub_309 : decode b_Reducer_lessSub 309 = .ok (.invokevirtual 98, 3) := by decide +kernel
theorem d_Reducer_lessSub_312 : decode b_Reducer_lessSub 312 = .ok (.goto 4, 3) := by decide +kernel
theorem d_Reducer_lessSub_315 : decode b_Reducer_lessSub 315 = .ok (.iconst 0, 1) := by decide +kernel
theorem d_Reducer_lessSub_316 : decode b_Reducer_lessSub 316 = .ok (.ireturn, 1) := by decide +kernel
theorem d_Reducer_lessContained_0 : decode b_Reducer_lessContained 0 = .ok (.aload_n 0, 1) := by decide +kernel
theorem d_Reducer_lessContained_1 : decode b_Reducer_lessContained 1 = .ok (.getfield 22, 3) := by decide +kernel
theorem d_Reducer_lessContained_4 : decode b_Reducer_lessContained 4 = .ok (.iload_n 1, 1) := by decide +kernel
theorem d_Reducer_lessContained_5 : decode b_Reducer_lessContained 5 = .ok (.invokevirtual 102, 3) := by decide +kernel
theorem d_Reducer_lessContained_8 : decode b_Reducer_lessContained 8 = .ok (.iconst 2, 1) := by decide +kernel
theorem d_Reducer_lessContained_9 : decode b_Reducer_lessContained 9 = .ok (.if_icmp .ne 7, 3) := by decide +kernel
theorem d_Reducer_lessContained_12 : decode b_Reducer_lessContained 12 = .ok (.iconst 1, 1) := by decide +kernel
theorem d_Reducer_lessContained_13 : decode b_Reducer_lessContained 13 = .ok (.goto 4, 3) := by decide +kernel
theorem d_Reducer_lessContained_16 : decode b_Reducer_lessContained 16 = .ok (.iconst 0, 1) := by decide +kernel
theorem d_Reducer_lessContained_17 : decode b_Reducer_lessContained 17 = .ok (.istore_n 3, 1) := by decide +kernel
theorem d_Reducer_lessContained_18 : decode b_Reducer_lessContained 18 = .ok (.aload_n 0, 1) := by decide +kernel
theorem d_Reducer_lessContained_19 : decode b_Reducer_lessContained 19 = .ok (.getfield 22, 3) := by decide +kernel
theorem d_Reducer_lessContained_22 : decode b_Reducer_lessContained 22 = .ok (.iload_n 2, 1) := by decide +kernel
theorem d_Reducer_lessContained_23 : decode b_Reducer_lessContained 23 = .ok (.invokevirtual 102, 3) := by decide +kernel
theorem d_Reducer_lessContained_26 : decode b_Reducer_lessContained 26 = .ok (.iconst 2, 1) := by decide +kernel
theorem d_Reducer_lessContained_27 : decode b_Reducer_lessContained 27 = .ok (.if_icmp .eq 19, 3) := by decide +kernel
theorem d_Reducer_lessContained_30 : decode b_Reducer_lessContained 30 = .ok (.iload_n 3, 1) := by decide +kernel
theorem d_Reducer_lessContained_31 : decode b_Reducer_lessContained 31 = .ok (.ifCond .eq 7, 3) := by decide +kernel
theorem d_Reducer_lessContained_34 : decode b_Reducer_lessContained 34 = .ok (.iconst 0, 1) := by decide +kernel
theorem d_Reducer_lessContained_35 : decode b_Reducer_lessContained 35 = .ok (.goto 10, 3) := by decide +kernel
theorem d_Reducer_lessContained_38 : decode b_Reducer_lessContained 38 = .ok (.aload_n 0, 1) := by decide +kernel
theorem d_Reducer_lessContained_39 : decode b_Reducer_lessContained 39 = .ok (.iconst 3, 1) := by decide +kernel
theorem d_Reducer_lessContained_40 : decode b_Reducer_lessContained 40 = .ok (.iload_n 1, 1) := by decide +kernel
theorem d_Reducer_lessContained_41 : decode b_Reducer_lessContained 41 = .ok (.iload_n 2, 1) := by decide +kernel
theorem d_Reducer_lessContained_42 : decode b_Reducer_lessContained 42 = .ok (.invokevirtual 98, 3) := by decide +kernel
theorem d_Reducer_lessContained_45 : decode b_Reducer_lessContained 45 = .ok (.ireturn, 1) := by decide +kernel
theorem d_Reducer_lessContained_46 : decode b_Reducer_lessContained 46 = .ok (.aload_n 0, 1) := by decide +kernel
theorem d_Reducer_lessContained_47 : decode b_Reducer_lessContained 47 = .ok (.getfield 22, 3) := by decide +kernel
theorem d_Reducer_lessContained_50 : decode b_Reducer_lessContained 50 = .ok (.iload_n 2, 1) := by decide +kernel
theorem d_Reducer_lessContained_51 : decode b_Reducer_lessContained 51 = .ok (.invokevirtual 109, 3) := by decide +kernel
theorem d_Reducer_lessContained_54 : decode b_Reducer_lessContained 54 = .ok (.istore 4, 2) := by decide +kernel
theorem d_Reducer_lessContained_56 : decode b_Reducer_lessContained 56 = .ok (.aload_n 0, 1) := by decide +kernel
theorem d_Reducer_lessContained_57 : decode b_Reducer_lessContained 57 = .ok (.getfield 22, 3) := by decide +kernel
theorem d_Reducer_lessContained_60 : decode b_Reducer_lessContained 60 = .ok (.iload_n 2, 1) := by decide +kernel
theorem d_Reducer_lessContained_61 : decode b_Reducer_lessContained 61 = .ok (.invokevirtual 139, 3) := by decide +kernel
theorem d_Reducer_lessContained_64 : decode b_Reducer_lessContained 64 = .ok (.istore 5, 2) := by decide +kernel
theorem d_Reducer_lessContained_66 : decode b_Reducer_lessContained 66 = .ok (.iload 4, 2) := by decide +kernel
theorem d_Reducer_lessContained_68 : decode b_Reducer_lessContained 68 = .ok (.ifCond .ne 5, 3) := by decide +kernel
theorem d_Reducer_lessContained_71 : decode b_Reducer_lessContained 71 = .ok (.iconst 1, 1) := by decide +kernel
theorem d_Reducer_lessContained_72 : decode b_Reducer_lessContained 72 = .ok (.ireturn, 1) := by decide +kernel
theorem d_Reducer_lessContained_73 : decode b_Reducer_lessContained 73 = .ok (.iload_n 3, 1) := by decide +kernel
theorem d_Reducer_lessContained_74 : decode b_Reducer_lessContained 74 = .ok (.ifCond .eq 14, 3) := by decide +kernel
theorem d_Reducer_lessContained_77 : decode b_Reducer_lessContained 77 = .ok (.aload_n 0, 1) := by decide +kernel
theorem d_Reducer_lessContained_78 : decode b_Reducer_lessContained 78 = .ok (.getfield 22, 3) := by decide +kernel
theorem d_Reducer_lessContained_81 : decode b_Reducer_lessContained 81 = .ok (.iload_n 1, 1) := by decide +kernel
theorem d_Reducer_lessContained_82 : decode b_Reducer_lessContained 82 = .ok (.invokevirtual 109, 3) := by decide +kernel
theorem d_Reducer_lessContained_85 : decode b_Reducer_lessContained 85 = .ok (.goto 4, 3) := by decide +kernel
theorem d_Reducer_lessContained_88 : decode b_Reducer_lessContained 88 = .ok (.iconst (-1), 1) := by decide +kernel
theorem d_Reducer_lessContained_89 : decode b_Reducer_lessContained 89 = .ok (.istore 6, 2) := by decide +kernel
theorem d_Reducer_lessContained_91 : decode b_Reducer_lessContained 91 = .ok (.iload 4, 2) := by decide +kernel
theorem d_Reducer_lessContained_93 : decode b_Reducer_lessContained 93 = .ok (.iconst 1, 1) := by decide +kernel
theorem d_Reducer_lessContained_94 : decode b_Reducer_lessContained 94 = .ok (.if_icmp .ne 66, 3) := by decide +kernel
theorem d_Reducer_lessContained_97 : decode b_Reducer_lessContained 97 = .ok (.iload_n 3, 1) := by decide +kernel
theorem d_Reducer_lessContained_98 : decode b_Reducer_lessContained 98 = .ok (.ifCond .ne 12, 3) := by decide +kernel
theorem d_Reducer_lessContained_101 : decode b_Reducer_lessContained 101 = .ok (.aload_n 0, 1) := by decide +kernel
theorem d_Reducer_lessContained_102 : decode b_Reducer_lessContained 102 = .ok (.iconst 1, 1) := by decide +kernel
theorem d_Reducer_lessContained_103 : decode b_Reducer_lessContained 103 = .ok (.iload_n 1, 1) := by decide +kernel
theorem d_Reducer_lessContained_104 : decode b_Reducer_lessContained 104 = .ok (.iload 5, 2) := by decide +kernel
theorem d_Reducer_lessContained_106 : decode b_Reducer_lessContained 106 = .ok (.invokevirtual 98, 3) := by decide +kernel
theorem d_Reducer_lessContained_109 : decode b_Reducer_lessContained 109 = .ok (.ireturn, 1) := by decide +kernel
theorem d_Reducer_lessContained_110 : decode b_Reducer_lessContained 110 = .ok (.iload 6, 2) := by decide +kernel
theorem d_Reducer_lessContained_112 : decode b_Reducer_lessContained 112 = .ok (.iconst 1, 1) := by decide +kernel
theorem d_Reducer_lessContained_113 : decode b_Reducer_lessContained 113 = .ok (.if_icmp .ne 19, 3) := by decide +kernel
theorem d_Reducer_lessContained_116 : decode b_Reducer_lessContained 116 = .ok (.aload_n 0, 1) := by decide +kernel
theorem d_Reducer_lessContained_117 : decode b_Reducer_lessContained 117 = .ok (.iconst 1, 1) := by decide +kernel
theorem d_Reducer_lessContained_118 : decode b_Reducer_lessContained 118 = .ok (.aload_n 0, 1) := by decide +kernel
theorem d_Reducer_lessContained_119 : decode b_Reducer_lessContained 119 = .ok (.getfield 22, 3) := by decide +kernel
theorem d_Reducer_lessContained_122 : decode b_Reducer_lessContained 122 = .ok (.iload_n 1, 1) := by decide +kernel
theorem d_Reducer_lessContained_123 : decode b_Reducer_lessContained 123 = .ok (.invokevirtual 139, 3) := by decide +kernel
theorem d_Reducer_lessContained_126 : decode b_Reducer_lessContained 126 = .ok (.iload 5, 2) := by decide +kernel
theorem d_Reducer_lessContained_128 : decode b_Reducer_lessContained 128 = .ok (.invokevirtual 98, 3) := by decide +kernel
theorem d_Reducer_lessContained_131 : decode b_Reducer_lessContained 131 = .ok (.ireturn, 1) := by decide +kernel
theorem d_Reducer_lessContained_132 : decode b_Reducer_lessContained 132 = .ok (.aload_n 0, 1) := by decide +kernel
theorem d_Reducer_lessContained_133 : decode b_Reducer_lessContained 133 = .ok (.iload 6, 2) := by decide +kernel
theorem d_Reducer_lessContained_135 : decode b_Reducer_lessContained 135 = .ok (.ifCond .ne 7, 3) := by decide +kernel
theorem d_Reducer_lessContained_138 : decode b_Reducer_lessContained 138 = .ok (.iconst 1, 1) := by decide +kernel
theorem d_Reducer_lessContained_139 : decode b_Reducer_lessContained 139 = .ok (.goto 4, 3) := by decide +kernel
theorem d_Reducer_lessContained_142 : decode b_Reducer_lessContained 142 = .ok (.iconst 3, 1) := by decide +kernel
theorem d_Reducer_lessContained_143 : decode b_Reducer_lessContained 143 = .ok (.aload_n 0, 1) := by decide +kernel
theorem d_Reducer_lessContained_144 : decode b_Reducer_lessContained 144 = .ok (.getfield 22, 3) := by decide +kernel
theorem d_Reducer_lessContained_147 : decode b_Reducer_lessContained 147 = .ok (.iconst 0, 1) := by decide +kernel
theorem d_Reducer_lessContained_148 : decode b_Reducer_lessContained 148 = .ok (.iconst 0, 1) := by decide +kernel
theorem d_Reducer_lessContained_149 : decode b_Reducer_lessContained 149 = .ok (.iconst (-1), 1) := by decide +kernel
theorem d_Reducer_lessContained_150 : decode b_Reducer_lessContained 150 = .ok (.iconst (-1), 1) := by decide +kernel
theorem d_Reducer_lessContained_151 : decode b_Reducer_lessContained 151 = .ok (.invokevirtual 142, 3) := by decide +kernel
theorem d_Reducer_lessContained_154 : decode b_Reducer_lessContained 154 = .ok (.iload 5, 2) := by decide +kernel
theorem d_Reducer_lessContained_156 : decode b_Reducer_lessContained 156 = .ok (.invokevirtual 98, 3) := by decide +kernel
theorem d_Reducer_lessContained_159 : decode b_Reducer_lessContained 159 = .ok (.ireturn, 1) := by decide +kernel
theorem d_Reducer_lessContained_160 : decode b_Reducer_lessContained 160 = .ok (.iload_n 3, 1) := by decide +kernel
theorem d_Reducer_lessContained_161 : decode b_Reducer_lessContained 161 = .ok (.ifCond .ne 12, 3) := by decide +kernel
theorem d_Reducer_lessContained_164 : decode b_Reducer_lessContained 164 = .ok (.aload_n 0, 1) := by decide +kernel
theorem d_Reducer_lessContained_165 : decode b_Reducer_lessContained 165 = .ok (.iconst 1, 1) := by decide +kernel
theorem d_Reducer_lessContained_166 : decode b_Reducer_lessContained 166 = .ok (.iload 5, 2) := by decide +kernel
theorem d_Reducer_lessContained_168 : decode b_Reducer_lessContained 168 = .ok (.iload_n 1, 1) := by decide +kernel
theorem d_Reducer_lessContained_169 : decode b_Reducer_lessContained 169 = .ok (.invokevirtual 98, 3) := by decide +kernel
theorem d_Reducer_lessContained_172 : decode b_Reducer_lessContained 172 = .ok (.ireturn, 1) := by decide +kernel
theorem d_Reducer_lessContained_173 : decode b_Reducer_lessContained 173 = .ok (.iload 6, 2) := by decide +kernel
theorem d_Reducer_lessContained_175 : decode b_Reducer_lessContained 175 = .ok (.iconst 2, 1) := by decide +kernel
theorem d_Reducer_lessContained_176 : decode b_Reducer_lessContained 176 = .ok (.if_icmp .ne 21, 3) := by decide +kernel
theorem d_Reducer_lessContained_179 : decode b_Reducer_lessContained 179 = .ok (.aload_n 0, 1) := by decide +kernel
theorem d_Reducer_lessContained_180 : decode b_Reducer_lessContained 180 = .ok (.iconst 1, 1) := by decide +kernel
theorem d_Reducer_lessContained_181 : decode b_Reducer_lessContained 181 = .ok (.iload 5, 2) := by decide +kernel
theorem d_Reducer_lessContained_183 : decode b_Reducer_lessContained 183 = .ok (.aload_n 0, 1) := by decide +kernel
theorem d_Reducer_lessContained_184 : decode b_Reducer_lessContained 184 = .ok (.getfield 22, 3) := by decide +kernel
theorem d_Reducer_lessContained_187 : decode b_Reducer_lessContained 187 = .ok (.iload_n 1, 1) := by decide +kernel
theorem d_Reducer_lessContained_188 : decode b_Reducer_lessContained 188 = .ok (.invokevirtual 139, 3) := by decide +kernel
theorem d_Reducer_lessContained_191 : decode b_Reducer_lessContained 191 = .ok (.invokevirtual 98, 3) := by decide +kernel
theorem d_Reducer_lessContained_194 : decode b_Reducer_lessContained 194 = .ok (.goto 4, 3) := by decide +kernel
theorem d_Reducer_lessContained_197 : decode b_Reducer_lessContained 197 = .ok (.iconst 0, 1) := by decide +kernel
theorem d_Reducer_lessContained_198 : decode b_Reducer_lessContained 198 = .ok (.ireturn, 1) := by decide +kernel
theorem d_Reducer_lessEqual_0 : decode b_Reducer_lessEqual 0 = .ok (.iload_n 1, 1) := by decide +kernel
theorem d_Reducer_lessEqual_1 : decode b_Reducer_lessEqual 1 = .ok (.iload_n 2, 1) := by decide +kernel
theorem d_Reducer_lessEqual_2 : decode b_Reducer_lessEqual 2 = .ok (.if_icmp .ne 5, 3) := by decide +kernel
theorem d_Reducer_lessEqual_5 : decode b_Reducer_lessEqual 5 = .ok (.iconst 1, 1) := by decide +kernel
theorem d_Reducer_lessEqual_6 : decode b_Reducer_lessEqual 6 = .ok (.ireturn, 1) := by decide +kernel
theorem d_Reducer_lessEqual_7 : decode b_Reducer_lessEqual 7 = .ok (.aload_n 0, 1) := by decide +kernel
theorem d_Reducer_lessEqual_8 : decode b_Reducer_lessEqual 8 = .ok (.getfield 22, 3) := by decide +kernel
theorem d_Reducer_lessEqual_11 : decode b_Reducer_lessEqual 11 = .ok (.iload_n 1, 1) := by decide +kernel
theorem d_Reducer_lessEqual_12 : decode b_Reducer_lessEqual 12 = .ok (.invokevirtual 105, 3) := by decide +kernel
theorem d_Reducer_lessEqual_15 : decode b_Reducer_lessEqual 15 = .ok (.ifCond .eq 16, 3) := by decide +kernel
theorem d_Reducer_lessEqual_18 : decode b_Reducer_lessEqual 18 = .ok (.aload_n 0, 1) := by decide +kernel
theorem d_Reducer_lessEqual_19 : decode b_Reducer_lessEqual 19 = .ok (.getfield 22, 3) := by decide +kernel
theorem d_Reducer_lessEqual_22 : decode b_Reducer_lessEqual 22 = .ok (.iload_n 2, 1) := by decide +kernel
theorem d_Reducer_lessEqual_23 : decode b_Reducer_lessEqual 23 = .ok (.invokevirtual 105, 3) := by decide +kernel
theorem d_Reducer_lessEqual_26 : decode b_Reducer_lessEqual 26 = .ok (.ifCond .eq 5, 3) := by decide +kernel
theorem d_Reducer_lessEqual_29 : decode b_Reducer_lessEqual 29 = .ok (.iconst 0, 1) := by decide +kernel
theorem d_Reducer_lessEqual_30 : decode b_Reducer_lessEqual 30 = .ok (.ireturn, 1) := by decide +kernel
theorem d_Reducer_lessEqual_31 : decode b_Reducer_lessEqual 31 = .ok (.aload_n 0, 1) := by decide +kernel
theorem d_Reducer_lessEqual_32 : decode b_Reducer_lessEqual 32 = .ok (.getfield 22, 3) := by decide +kernel
theorem d_Reducer_lessEqual_35 : decode b_Reducer_lessEqual 35 = .ok (.iload_n 1, 1) := by decide +kernel
theorem d_Reducer_lessEqual_36 : decode b_Reducer_lessEqual 36 = .ok (.invokevirtual 102, 3) := by decide +kernel
theorem d_Reducer_lessEqual_39 : decode b_Reducer_lessEqual 39 = .ok (.istore_n 3, 1) := by decide +kernel
theorem d_Reducer_lessEqual_40 : decode b_Reducer_lessEqual 40 = .ok (.aload_n 0, 1) := by decide +kernel
theorem d_Reducer_lessEqual_41 : decode b_Reducer_lessEqual 41 = .ok (.getfield 22, 3) := by decide +kernel
theorem d_Reducer_lessEqual_44 : decode b_Reducer_lessEqual 44 = .ok (.iload_n 2, 1) := by decide +kernel
theorem d_Reducer_lessEqual_45 : decode b_Reducer_lessEqual 45 = .ok (.invokevirtual 102, 3) := by decide +kernel
theorem d_Reducer_lessEqual_48 : decode b_Reducer_lessEqual 48 = .ok (.istore 4, 2) := by decide +kernel
theorem d_Reducer_lessEqual_50 : decode b_Reducer_lessEqual 50 = .ok (.iload_n 3, 1) := by decide +kernel
theorem d_Reducer_lessEqual_51 : decode b_Reducer_lessEqual 51 = .ok (.bipush 6, 2) := by decide +kernel
theorem d_Reducer_lessEqual_53 : decode b_Reducer_lessEqual 53 = .ok (.if_icmp .eq 21, 3) := by decide +kernel
theorem d_Reducer_lessEqual_56 : decode b_Reducer_lessEqual 56 = .ok (.iload_n 3, 1) := by decide +kernel
theorem d_Reducer_lessEqual_57 : decode b_Reducer_lessEqual 57 = .ok (.iconst 5, 1) := by decide +kernel
theorem d_Reducer_lessEqual_58 : decode b_Reducer_lessEqual 58 = .ok (.if_icmp .eq 16, 3) := by decide +kernel
theorem d_Reducer_lessEqual_61 : decode b_Reducer_lessEqual 61 = .ok (.iload 4, 2) := by decide +kernel
theorem d_Reducer_lessEqual_63 : decode b_Reducer_lessEqual 63 = .ok (.bipush 6, 2) := by decide +kernel
theorem d_Reducer_lessEqual_65 : decode b_Reducer_lessEqual 65 = .ok (.if_icmp .eq 9, 3) := by decide +kernel
theorem d_Reducer_lessEqual_68 : decode b_Reducer_lessEqual 68 = .ok (.iload 4, 2) := by decide +kernel
theorem d_Reducer_lessEqual_70 : decode b_Reducer_lessEqual 70 = .ok (.iconst 5, 1) := by decide +kernel
theorem d_Reducer_lessEqual_71 : decode b_Reducer_lessEqual 71 = .ok (.if_icmp .ne 5, 3) := by decide +kernel
theorem d_Reducer_lessEqual_74 : decode b_Reducer_lessEqual 74 = .ok (.iconst 0, 1) := by decide +kernel
theorem d_Reducer_lessEqual_75 : decode b_Reducer_lessEqual 75 = .ok (.ireturn, 1) := by decide +kernel
theorem d_Reducer_lessEqual_76 : decode b_Reducer_lessEqual 76 = .ok (.iload_n 3, 1) := by decide +kernel
theorem d_Reducer_lessEqual_77 : decode b_Reducer_lessEqual 77 = .ok (.bipush 7, 2) := by decide +kernel
theorem d_Reducer_lessEqual_79 : decode b_Reducer_lessEqual 79 = .ok (.if_icmp .eq 10, 3) := by decide +kernel
theorem d_Reducer_lessEqual_82 : decode b_Reducer_lessEqual 82 = .ok (.iload 4, 2) := by decide +kernel
theorem d_Reducer_lessEqual_84 : decode b_Reducer_lessEqual 84 = .ok (.bipush 7, 2) := by decide +kernel
theorem d_Reducer_lessEqual_86 : decode b_Reducer_lessEqual 86 = .ok (.if_icmp .ne 12, 3) := by decide +kernel
theorem d_Reducer_lessEqual_89 : decode b_Reducer_lessEqual 89 = .ok (.aload_n 0, 1) := by decide +kernel
theorem d_Reducer_lessEqual_90 : decode b_Reducer_lessEqual 90 = .ok (.iconst 0, 1) := by decide +kernel
theorem d_Reducer_lessEqual_91 : decode b_Reducer_lessEqual 91 = .ok (.iconst 0, 1) := by decide +kernel
theorem d_Reducer_lessEqual_92 : decode b_Reducer_lessEqual 92 = .ok (.iload_n 1, 1) := by decide +kernel
theorem d_Reducer_lessEqual_93 : decode b_Reducer_lessEqual 93 = .ok (.iload_n 2, 1) := by decide +kernel
theorem d_Reducer_lessEqual_94 : decode b_Reducer_lessEqual 94 = .ok (.invokevirtual 129, 3) := by decide +kernel
theorem d_Reducer_lessEqual_97 : decode b_Reducer_lessEqual 97 = .ok (.ireturn, 1) := by decide +kernel
theorem d_Reducer_lessEqual_98 : decode b_Reducer_lessEqual 98 = .ok (.iload_n 3, 1) := by decide +kernel
theorem d_Reducer_lessEqual_99 : decode b_Reducer_lessEqual 99 = .ok (.iload 4, 2) := by decide +kernel
theorem d_Reducer_lessEqual_101 : decode b_Reducer_lessEqual 101 = .ok (.if_icmp .eq 5, 3) := by decide +kernel
theorem d_Reducer_lessEqual_104 : decode b_Reducer_lessEqual 104 = .ok (.iconst 0, 1) := by decide +kernel
theorem d_Reducer_lessEqual_105 : decode b_Reducer_lessEqual 105 = .ok (.ireturn, 1) := by decide +kernel
theorem d_Reducer_lessEqual_106 : decode b_Reducer_lessEqual 106 = .ok (.aload_n 0, 1) := by decide +kernel
theorem d_Reducer_lessEqual_107 : decode b_Reducer_lessEqual 107 = .ok (.getfield 22, 3) := by decide +kernel
theorem d_Reducer_lessEqual_110 : decode b_Reducer_lessEqual 110 = .ok (.iload_n 1, 1) := by decide +kernel
theorem d_Reducer_lessEqual_111 : decode b_Reducer_lessEqual 111 = .ok (.invokevirtual 109, 3) := by decide +kernel
theorem d_Reducer_lessEqual_114 : decode b_Reducer_lessEqual 114 = .ok (.istore 5, 2) := by decide +kernel
theorem d_Reducer_lessEqual_116 : decode b_Reducer_lessEqual 116 = .ok (.aload_n 0, 1) := by decide +kernel
theorem d_Reducer_lessEqual_117 : decode b_Reducer_lessEqual 117 = .ok (.getfield 22, 3) := by decide +kernel
theorem d_Reducer_lessEqual_120 : decode b_Reducer_lessEqual 120 = .ok (.iload_n 2, 1) := by decide +kernel
theorem d_Reducer_lessEqual_121 : decode b_Reducer_lessEqual 121 = .ok (.invokevirtual 109, 3) := by decide +kernel
theorem d_Reducer_lessEqual_124 : decode b_Reducer_lessEqual 124 = .ok (.istore 6, 2) := by decide +kernel
theorem d_Reducer_lessEqual_126 : decode b_Reducer_lessEqual 126 = .ok (.iload_n 3, 1) := by decide +kernel
theorem d_Reducer_lessEqual_127 : decode b_Reducer_lessEqual 127 = .ok (.iconst 1, 1) := by decide +kernel
theorem d_Reducer_lessEqual_128 : decode b_Reducer_lessEqual 128 = .ok (.if_icmp .ne 22, 3) := by decide +kernel
theorem d_Reducer_lessEqual_131 : decode b_Reducer_lessEqual 131 = .ok (.iload 5, 2) := by decide +kernel
theorem d_Reducer_lessEqual_133 : decode b_Reducer_lessEqual 133 = .ok (.iload 6, 2) := by decide +kernel
theorem d_Reducer_lessEqual_135 : decode b_Reducer_lessEqual 135 = .ok (.if_icmp .ne 13, 3) := by decide +kernel
theorem d_Reducer_lessEqual_138 : decode b_Reducer_lessEqual 138 = .ok (.aload_n 0, 1) := by decide +kernel
theorem d_Reducer_lessEqual_139 : decode b_Reducer_lessEqual 139 = .ok (.iconst 3, 1) := by decide +kernel
theorem d_Reducer_lessEqual_140 : decode b_Reducer_lessEqual 140 = .ok (.iload_n 1, 1) := by decide +kernel
theorem d_Reducer_lessEqual_141 : decode b_Reducer_lessEqual 141 = .ok (.iload_n 2, 1) := by decide +kernel
theorem d_Reducer_lessEqual_142 : decode b_Reducer_lessEqual 142 = .ok (.invokevirtual 133, 3) := by decide +kernel
theorem d_Reducer_lessEqual_145 : decode b_Reducer_lessEqual 145 = .ok (.goto 4, 3) := by decide +kernel
theorem d_Reducer_lessEqual_148 : decode b_Reducer_lessEqual 148 = .ok (.iconst 0, 1) := by decide +kernel
theorem d_Reducer_lessEqual_149 : decode b_Reducer_lessEqual 149 = .ok (.ireturn, 1) := by decide +kernel
theorem d_Reducer_lessEqual_150 : decode b_Reducer_lessEqual 150 = .ok (.iload_n 3, 1) := by decide +kernel
theorem d_Reducer_lessEqual_151 : decode b_Reducer_lessEqual 151 = .ok (.iconst 4, 1) := by decide +kernel
theorem d_Reducer_lessEqual_152 : decode b_Reducer_lessEqual 152 = .ok (.if_icmp .ne 13, 3) := by decide +kernel
theorem d_Reducer_lessEqual_155 : decode b_Reducer_lessEqual 155 = .ok (.aload_n 0, 1) := by decide +kernel
theorem d_Reducer_lessEqual_156 : decode b_Reducer_lessEqual 156 = .ok (.iconst 3, 1) := by decide +kernel
theorem d_Reducer_lessEqual_157 : decode b_Reducer_lessEqual 157 = .ok (.iload 5, 2) := by decide +kernel
theorem d_Reducer_lessEqual_159 : decode b_Reducer_lessEqual 159 = .ok (.iload 6, 2) := by decide +kernel
theorem d_Reducer_lessEqual_161 : decode b_Reducer_lessEqual 161 = .ok (.invokevirtual 98, 3) := by decide +kernel
theorem d_Reducer_lessEqual_164 : decode b_Reducer_lessEqual 164 = .ok (.ireturn, 1) := by decide +kernel
theorem d_Reducer_lessEqual_165 : decode b_Reducer_lessEqual 165 = .ok (.aload_n 0, 1) := by decide +kernel
theorem d_Reducer_lessEqual_166 : decode b_Reducer_lessEqual 166 = .ok (.getfield 22, 3) := by decide +kernel
theorem d_Reducer_lessEqual_169 : decode b_Reducer_lessEqual 169 = .ok (.iload_n 1, 1) := by decide +kernel
theorem d_Reducer_lessEqual_170 : decode b_Reducer_lessEqual 170 = .ok (.invokevirtual 139, 3) := by decide +kernel
theorem d_Reducer_lessEqual_173 : decode b_Reducer_lessEqual 173 = .ok (.istore 7, 2) := by decide +kernel
theorem d_Reducer_lessEqual_175 : decode b_Reducer_lessEqual 175 = .ok (.aload_n 0, 1) := by decide +kernel
theorem d_Reducer_lessEqual_176 : decode b_Reducer_lessEqual 176 = .ok (.getfield 22, 3) := by decide +kernel
theorem d_Reducer_lessEqual_179 : decode b_Reducer_lessEqual 179 = .ok (.iload_n 2, 1) := by decide +kernel
theorem d_Reducer_lessEqual_180 : decode b_Reducer_lessEqual 180 = .ok (.invokevirtual 139, 3) := by decide +kernel
theorem d_Reducer_lessEqual_183 : decode b_Reducer_lessEqual 183 = .ok (.istore 8, 2) := by decide +kernel
theorem d_Reducer_lessEqual_185 : decode b_Reducer_lessEqual 185 = .ok (.iload_n 3, 1) := by decide +kernel
theorem d_Reducer_lessEqual_186 : decode b_Reducer_lessEqual 186 = .ok (.bipush 8, 2) := by decide +kernel
theorem d_Reducer_lessEqual_188 : decode b_Reducer_lessEqual 188 = .ok (.if_icmp .ne 24, 3) := by decide +kernel
theorem d_Reducer_lessEqual_191 : decode b_Reducer_lessEqual 191 = .ok (.iload 7, 2) := by decide +kernel
theorem d_Reducer_lessEqual_193 : decode b_Reducer_lessEqual 193 = .ok (.iload 8, 2) := by decide +kernel
theorem d_Reducer_lessEqual_195 : decode b_Reducer_lessEqual 195 = .ok (.if_icmp .ne 15, 3) := by decide +kernel
theorem d_Reducer_lessEqual_198 : decode b_Reducer_lessEqual 198 = .ok (.aload_n 0, 1) := by decide +kernel
theorem d_Reducer_lessEqual_199 : decode b_Reducer_lessEqual 199 = .ok (.iconst 3, 1) := by decide +kernel
theorem d_Reducer_lessEqual_200 : decode b_Reducer_lessEqual 200 = .ok (.iload 5, 2) := by decide +kernel
theorem d_Reducer_lessEqual_202 : decode b_Reducer_lessEqual 202 = .ok (.iload 6, 2) := by decide +kernel
theorem d_Reducer_lessEqual_204 : decode b_Reducer_lessEqual 204 = .ok (.invokevirtual 98, 3) := by decide +kernel
theorem d_Reducer_lessEqual_207 : decode b_Reducer_lessEqual 207 = .ok (.goto 4, 3) := by decide +kernel
theorem d_Reducer_lessEqual_210 : decode b_Reducer_lessEqual 210 = .ok (.iconst 0, 1) := by decide +kernel
theorem d_Reducer_lessEqual_211 : decode b_Reducer_lessEqual 211 = .ok (.ireturn, 1) := by decide +kernel
theorem d_Reducer_lessEqual_212 : decode b_Reducer_lessEqual 212 = .ok (.iload_n 3, 1) := by decide +kernel
theorem d_Reducer_lessEqual_213 : decode b_Reducer_lessEqual 213 = .ok (.iconst 2, 1) := by decide +kernel
theorem d_Reducer_lessEqual_214 : decode b_Reducer_lessEqual 214 = .ok (.if_icmp .ne 22, 3) := by decide +kernel
theorem d_Reducer_lessEqual_217 : decode b_Reducer_lessEqual 217 = .ok (.iload 5, 2) := by decide +kernel
theorem d_Reducer_lessEqual_219 : decode b_Reducer_lessEqual 219 = .ok (.iload 6, 2) := by decide +kernel
theorem d_Reducer_lessEqual_221 : decode b_Reducer_lessEqual 221 = .ok (.if_icmp .ne 15, 3) := by decide +kernel
theorem d_Reducer_lessEqual_224 : decode b_Reducer_lessEqual 224 = .ok (.aload_n 0, 1) := by decide +kernel
theorem d_Reducer_lessEqual_225 : decode b_Reducer_lessEqual 225 = .ok (.iconst 3, 1) := by decide +kernel
theorem d_Reducer_lessEqual_226 : decode b_Reducer_lessEqual 226 = .ok (.iload 7, 2) := by decide +kernel
theorem d_Reducer_lessEqual_228 : decode b_Reducer_lessEqual 228 = .ok (.iload 8, 2) := by decide +kernel
theorem d_Reducer_lessEqual_230 : decode b_Reducer_lessEqual 230 = .ok (.invokevirtual 98, 3) := by decide +kernel
theorem d_Reducer_lessEqual_233 : decode b_Reducer_lessEqual 233 = .ok (.goto 4, 3) := by decide +kernel
theorem d_Reducer_lessEqual_236 : decode b_Reducer_lessEqual 236 = .ok (.iconst 0, 1) := by decide +kernel
theorem d_Reducer_lessEqual_237 : decode b_Reducer_lessEqual 237 = .ok (.ireturn, 1) := by decide +kernel
