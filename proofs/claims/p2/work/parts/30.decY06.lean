theorem d_M_joined_0 : decode b_M_joined 0 = .ok (.aload_n 0, 1) := by decide +kernel
theorem d_M_joined_1 : decode b_M_joined 1 = .ok (.getfield 7, 3) := by decide +kernel
theorem d_M_joined_4 : decode b_M_joined 4 = .ok (.iload_n 1, 1) := by decide +kernel
theorem d_M_joined_5 : decode b_M_joined 5 = .ok (.iaload, 1) := by decide +kernel
theorem d_M_joined_6 : decode b_M_joined 6 = .ok (.ifCond .ne 9, 3) := by decide +kernel
theorem d_M_joined_9 : decode b_M_joined 9 = .ok (.aload_n 0, 1) := by decide +kernel
theorem d_M_joined_10 : decode b_M_joined 10 = .ok (.iload_n 1, 1) := by decide +kernel
theorem d_M_joined_11 : decode b_M_joined 11 = .ok (.invokevirtual 182, 3) := by decide +kernel
theorem d_M_joined_14 : decode b_M_joined 14 = .ok (.ireturn, 1) := by decide +kernel
theorem d_M_joined_15 : decode b_M_joined 15 = .ok (.iconst (-1), 1) := by decide +kernel
theorem d_M_joined_16 : decode b_M_joined 16 = .ok (.istore_n 2, 1) := by decide +kernel
theorem d_M_joined_17 : decode b_M_joined 17 = .ok (.iconst (-1), 1) := by decide +kernel
theorem d_M_joined_18 : decode b_M_joined 18 = .ok (.istore_n 3, 1) := by decide +kernel
theorem d_M_joined_19 : decode b_M_joined 19 = .ok (.iconst 1, 1) := by decide +kernel
theorem d_M_joined_20 : decode b_M_joined 20 = .ok (.istore 4, 2) := by decide +kernel
theorem d_M_joined_22 : decode b_M_joined 22 = .ok (.iconst 1, 1) := by decide +kernel
theorem d_M_joined_23 : decode b_M_joined 23 = .ok (.istore 5, 2) := by decide +kernel
theorem d_M_joined_25 : decode b_M_joined 25 = .ok (.iconst 0, 1) := by decide +kernel
theorem d_M_joined_26 : decode b_M_joined 26 = .ok (.istore 6, 2) := by decide +kernel
theorem d_M_joined_28 : decode b_M_joined 28 = .ok (.iload 6, 2) := by decide +kernel
theorem d_M_joined_30 : decode b_M_joined 30 = .ok (.aload_n 0, 1) := by decide +kernel
theorem d_M_joined_31 : decode b_M_joined 31 = .ok (.getfield 334, 3) := by decide +kernel
theorem d_M_joined_34 : decode b_M_joined 34 = .ok (.if_icmp .ge 121, 3) := by decide +kernel
theorem d_M_joined_37 : decode b_M_joined 37 = .ok (.aload_n 0, 1) := by decide +kernel
theorem d_M_joined_38 : decode b_M_joined 38 = .ok (.aload_n 0, 1) := by decide +kernel
theorem d_M_joined_39 : decode b_M_joined 39 = .ok (.getfield 139, 3) := by decide +kernel
theorem d_M_joined_42 : decode b_M_joined 42 = .ok (.iload 6, 2) := by decide +kernel
theorem d_M_joined_44 : decode b_M_joined 44 = .ok (.iaload, 1) := by decide +kernel
theorem d_M_joined_45 : decode b_M_joined 45 = .ok (.iload_n 1, 1) := by decide +kernel
theorem d_M_joined_46 : decode b_M_joined 46 = .ok (.invokevirtual 212, 3) := by decide +kernel
theorem d_M_joined_49 : decode b_M_joined 49 = .ok (.istore 7, 2) := by decide +kernel
theorem d_M_joined_51 : decode b_M_joined 51 = .ok (.aload_n 0, 1) := by decide +kernel
theorem d_M_joined_52 : decode b_M_joined 52 = .ok (.getfield 148, 3) := by decide +kernel
theorem d_M_joined_55 : decode b_M_joined 55 = .ok (.ifCond .eq 5, 3) := by decide +kernel
theorem d_M_joined_58 : decode b_M_joined 58 = .ok (.iconst (-1), 1) := by decide +kernel
theorem d_M_joined_59 : decode b_M_joined 59 = .ok (.ireturn, 1) := by decide +kernel
theorem d_M_joined_60 : decode b_M_joined 60 = .ok (.aload_n 0, 1) := by decide +kernel
theorem d_M_joined_61 : decode b_M_joined 61 = .ok (.getfield 27, 3) := by decide +kernel
theorem d_M_joined_64 : decode b_M_joined 64 = .ok (.iload 7, 2) := by decide +kernel
theorem d_M_joined_66 : decode b_M_joined 66 = .ok (.iaload, 1) := by decide +kernel
theorem d_M_joined_67 : decode b_M_joined 67 = .ok (.iconst 1, 1) := by decide +kernel
theorem d_M_joined_68 : decode b_M_joined 68 = .ok (.if_icmp .eq 9, 3) := by decide +kernel
theorem d_M_joined_71 : decode b_M_joined 71 = .ok (.aload_n 0, 1) := by decide +kernel
theorem d_M_joined_72 : decode b_M_joined 72 = .ok (.iload_n 1, 1) := by decide +kernel
theorem d_M_joined_73 : decode b_M_joined 73 = .ok (.invokevirtual 182, 3) := by decide +kernel
theorem d_M_joined_76 : decode b_M_joined 76 = .ok (.ireturn, 1) := by decide +kernel
theorem d_M_joined_77 : decode b_M_joined 77 = .ok (.iload 6, 2) := by decide +kernel
theorem d_M_joined_79 : decode b_M_joined 79 = .ok (.ifCond .eq 19, 3) := by decide +kernel
theorem d_M_joined_82 : decode b_M_joined 82 = .ok (.iload 4, 2) := by decide +kernel
theorem d_M_joined_84 : decode b_M_joined 84 = .ok (.ifCond .eq 18, 3) := by decide +kernel
theorem d_M_joined_87 : decode b_M_joined 87 = .ok (.aload_n 0, 1) := by decide +kernel
theorem d_M_joined_88 : decode b_M_joined 88 = .ok (.getfield 33, 3) := by decide +kernel
theorem d_M_joined_91 : decode b_M_joined 91 = .ok (.iload 7, 2) := by decide +kernel
theorem d_M_joined_93 : decode b_M_joined 93 = .ok (.iaload, 1) := by decide +kernel
theorem d_M_joined_94 : decode b_M_joined 94 = .ok (.iload_n 2, 1) := by decide +kernel
theorem d_M_joined_95 : decode b_M_joined 95 = .ok (.if_icmp .ne 7, 3) := by decide +kernel
theorem d_M_joined_98 : decode b_M_joined 98 = .ok (.iconst 1, 1) := by decide +kernel
theorem d_M_joined_99 : decode b_M_joined 99 = .ok (.goto 4, 3) := by decide +kernel
theorem d_M_joined_102 : decode b_M_joined 102 = .ok (.iconst 0, 1) := by decide +kernel
theorem d_M_joined_103 : decode b_M_joined 103 = .ok (.istore 4, 2) := by decide +kernel
theorem d_M_joined_105 : decode b_M_joined 105 = .ok (.iload 6, 2) := by decide +kernel
theorem d_M_joined_107 : decode b_M_joined 107 = .ok (.ifCond .eq 19, 3) := by decide +kernel
theorem d_M_joined_110 : decode b_M_joined 110 = .ok (.iload 5, 2) := by decide +kernel
theorem d_M_joined_112 : decode b_M_joined 112 = .ok (.ifCond .eq 18, 3) := by decide +kernel
theorem d_M_joined_115 : decode b_M_joined 115 = .ok (.aload_n 0, 1) := by decide +kernel
theorem d_M_joined_116 : decode b_M_joined 116 = .ok (.getfield 36, 3) := by decide +kernel
theorem d_M_joined_119 : decode b_M_joined 119 = .ok (.iload 7, 2) := by decide +kernel
theorem d_M_joined_121 : decode b_M_joined 121 = .ok (.iaload, 1) := by decide +kernel
theorem d_M_joined_122 : decode b_M_joined 122 = .ok (.iload_n 3, 1) := by decide +kernel
theorem d_M_joined_123 : decode b_M_joined 123 = .ok (.if_icmp .ne 7, 3) := by decide +kernel
theorem d_M_joined_126 : decode b_M_joined 126 = .ok (.iconst 1, 1) := by decide +kernel
theorem d_M_joined_127 : decode b_M_joined 127 = .ok (.goto 4, 3) := by decide +kernel
theorem d_M_joined_130 : decode b_M_joined 130 = .ok (.iconst 0, 1) := by decide +kernel
theorem d_M_joined_131 : decode b_M_joined 131 = .ok (.istore 5, 2) := by decide +kernel
theorem d_M_joined_133 : decode b_M_joined 133 = .ok (.aload_n 0, 1) := by decide +kernel
theorem d_M_joined_134 : decode b_M_joined 134 = .ok (.getfield 33, 3) := by decide +kernel
theorem d_M_joined_137 : decode b_M_joined 137 = .ok (.iload 7, 2) := by decide +kernel
theorem d_M_joined_139 : decode b_M_joined 139 = .ok (.iaload, 1) := by decide +kernel
theorem d_M_joined_140 : decode b_M_joined 140 = .ok (.istore_n 2, 1) := by decide +kernel
theorem d_M_joined_141 : decode b_M_joined 141 = .ok (.aload_n 0, 1) := by decide +kernel
theorem d_M_joined_142 : decode b_M_joined 142 = .ok (.getfield 36, 3) := by decide +kernel
theorem d_M_joined_145 : decode b_M_joined 145 = .ok (.iload 7, 2) := by decide +kernel
theorem d_M_joined_147 : decode b_M_joined 147 = .ok (.iaload, 1) := by decide +kernel
theorem d_M_joined_148 : decode b_M_joined 148 = .ok (.istore_n 3, 1) := by decide +kernel
theorem d_M_joined_149 : decode b_M_joined 149 = .ok (.iinc 6 1, 3) := by decide +kernel
theorem d_M_joined_152 : decode b_M_joined 152 = .ok (.goto (-124), 3) := by decide +kernel
theorem d_M_joined_155 : decode b_M_joined 155 = .ok (.iload 4, 2) := by decide +kernel
theorem d_M_joined_157 : decode b_M_joined 157 = .ok (.ifCond .eq 7, 3) := by decide +kernel
theorem d_M_joined_160 : decode b_M_joined 160 = .ok (.iload_n 2, 1) := by decide +kernel
theorem d_M_joined_161 : decode b_M_joined 161 = .ok (.goto 11, 3) := by decide +kernel
theorem d_M_joined_164 : decode b_M_joined 164 = .ok (.aload_n 0, 1) := by decide +kernel
theorem d_M_joined_165 : decode b_M_joined 165 = .ok (.iconst 2, 1) := by decide +kernel
theorem d_M_joined_166 : decode b_M_joined 166 = .ok (.iconst 0, 1) := by decide +kernel
theorem d_M_joined_167 : decode b_M_joined 167 = .ok (.iconst (-1), 1) := by decide +kernel
theorem d_M_joined_168 : decode b_M_joined 168 = .ok (.iconst (-1), 1) := by decide +kernel
theorem d_M_joined_169 : decode b_M_joined 169 = .ok (.invokevirtual 155, 3) := by decide +kernel
theorem d_M_joined_172 : decode b_M_joined 172 = .ok (.istore_n 2, 1) := by decide +kernel
theorem d_M_joined_173 : decode b_M_joined 173 = .ok (.aload_n 0, 1) := by decide +kernel
theorem d_M_joined_174 : decode b_M_joined 174 = .ok (.getfield 7, 3) := by decide +kernel
theorem d_M_joined_177 : decode b_M_joined 177 = .ok (.iload_n 1, 1) := by decide +kernel
theorem d_M_joined_178 : decode b_M_joined 178 = .ok (.iaload, 1) := by decide +kernel
theorem d_M_joined_179 : decode b_M_joined 179 = .ok (.iconst 1, 1) := by decide +kernel
theorem d_M_joined_180 : decode b_M_joined 180 = .ok (.if_icmp .ne 7, 3) := by decide +kernel
theorem d_M_joined_183 : decode b_M_joined 183 = .ok (.iconst (-1), 1) := by decide +kernel
theorem d_M_joined_184 : decode b_M_joined 184 = .ok (.goto 20, 3) := by decide +kernel
theorem d_M_joined_187 : decode b_M_joined 187 = .ok (.iload 5, 2) := by decide +kernel
theorem d_M_joined_189 : decode b_M_joined 189 = .ok (.ifCond .eq 7, 3) := by decide +kernel
theorem d_M_joined_192 : decode b_M_joined 192 = .ok (.iload_n 3, 1) := by decide +kernel
theorem d_M_joined_193 : decode b_M_joined 193 = .ok (.goto 11, 3) := by decide +kernel
theorem d_M_joined_196 : decode b_M_joined 196 = .ok (.aload_n 0, 1) := by decide +kernel
theorem d_M_joined_197 : decode b_M_joined 197 = .ok (.iconst 2, 1) := by decide +kernel
theorem d_M_joined_198 : decode b_M_joined 198 = .ok (.iconst 0, 1) := by decide +kernel
theorem d_M_joined_199 : decode b_M_joined 199 = .ok (.iconst (-1), 1) := by decide +kernel
theorem d_M_joined_200 : decode b_M_joined 200 = .ok (.iconst (-1), 1) := by decide +kernel
theorem d_M_joined_201 : decode b_M_joined 201 = .ok (.invokevirtual 155, 3) := by decide +kernel
theorem d_M_joined_204 : decode b_M_joined 204 = .ok (.istore_n 3, 1) := by decide +kernel
theorem d_M_joined_205 : decode b_M_joined 205 = .ok (.aload_n 0, 1) := by decide +kernel
theorem d_M_joined_206 : decode b_M_joined 206 = .ok (.getfield 148, 3) := by decide +kernel
theorem d_M_joined_209 : decode b_M_joined 209 = .ok (.ifCond .eq 7, 3) := by decide +kernel
theorem d_M_joined_212 : decode b_M_joined 212 = .ok (.iconst (-1), 1) := by decide +kernel
theorem d_M_joined_213 : decode b_M_joined 213 = .ok (.goto 11, 3) := by decide +kernel
theorem d_M_joined_216 : decode b_M_joined 216 = .ok (.aload_n 0, 1) := by decide +kernel
theorem d_M_joined_217 : decode b_M_joined 217 = .ok (.iconst 1, 1) := by decide +kernel
theorem d_M_joined_218 : decode b_M_joined 218 = .ok (.iload_n 1, 1) := by decide +kernel
theorem d_M_joined_219 : decode b_M_joined 219 = .ok (.iload_n 2, 1) := by decide +kernel
theorem d_M_joined_220 : decode b_M_joined 220 = .ok (.iload_n 3, 1) := by decide +kernel
theorem d_M_joined_221 : decode b_M_joined 221 = .ok (.invokevirtual 155, 3) := by decide +kernel
theorem d_M_joined_224 : decode b_M_joined 224 = .ok (.ireturn, 1) := by decide +kernel
theorem d_M_count_0 : decode b_M_count 0 = .ok (.iload_n 1, 1) := by decide +kernel
theorem d_M_count_1 : decode b_M_count 1 = .ok (.tableswitch 87 0 7 #[47, 52, 57, 62, 67, 72, 77, 82], 47) := by decide +kernel
theorem d_M_count_48 : decode b_M_count 48 = .ok (.aload_n 0, 1) := by decide +kernel
theorem d_M_count_49 : decode b_M_count 49 = .ok (.getfield 23, 3) := by decide +kernel
theorem d_M_count_52 : decode b_M_count 52 = .ok (.ireturn, 1) := by decide +kernel
theorem d_M_count_53 : decode b_M_count 53 = .ok (.aload_n 0, 1) := by decide +kernel
theorem d_M_count_54 : decode b_M_count 54 = .ok (.getfield 152, 3) := by decide +kernel
theorem d_M_count_57 : decode b_M_count 57 = .ok (.ireturn, 1) := by decide +kernel
theorem d_M_count_58 : decode b_M_count 58 = .ok (.aload_n 0, 1) := by decide +kernel
theorem d_M_count_59 : decode b_M_count 59 = .ok (.getfield 192, 3) := by decide +kernel
theorem d_M_count_62 : decode b_M_count 62 = .ok (.ireturn, 1) := by decide +kernel
theorem d_M_count_63 : decode b_M_count 63 = .ok (.aload_n 0, 1) := by decide +kernel
theorem d_M_count_64 : decode b_M_count 64 = .ok (.getfield 304, 3) := by decide +kernel
theorem d_M_count_67 : decode b_M_count 67 = .ok (.ireturn, 1) := by decide +kernel
theorem d_M_count_68 : decode b_M_count 68 = .ok (.aload_n 0, 1) := by decide +kernel
theorem d_M_count_69 : decode b_M_count 69 = .ok (.getfield 267, 3) := by decide +kernel
theorem d_M_count_72 : decode b_M_count 72 = .ok (.ireturn, 1) := by decide +kernel
theorem d_M_count_73 : decode b_M_count 73 = .ok (.aload_n 0, 1) := by decide +kernel
theorem d_M_count_74 : decode b_M_count 74 = .ok (.getfield 301, 3) := by decide +kernel
theorem d_M_count_77 : decode b_M_count 77 = .ok (.ireturn, 1) := by decide +kernel
theorem d_M_count_78 : decode b_M_count 78 = .ok (.aload_n 0, 1) := by decide +kernel
theorem d_M_count_79 : decode b_M_count 79 = .ok (.getfield 227, 3) := by decide +kernel
theorem d_M_count_82 : decode b_M_count 82 = .ok (.ireturn, 1) := by decide +kernel
theorem d_M_count_83 : decode b_M_count 83 = .ok (.aload_n 0, 1) := by decide +kernel
theorem d_M_count_84 : decode b_M_count 84 = .ok (.getfield 127, 3) := by decide +kernel
theorem d_M_count_87 : decode b_M_count 87 = .ok (.ireturn, 1) := by decide +kernel
theorem d_M_count_88 : decode b_M_count 88 = .ok (.bipush (-2), 2) := by decide +kernel
theorem d_M_count_90 : decode b_M_count 90 = .ok (.ireturn, 1) := by decide +kernel
theorem d_M_type_0 : decode b_M_type 0 = .ok (.aload_n 0, 1) := by decide +kernel
theorem d_M_type_1 : decode b_M_type 1 = .ok (.iload_n 1, 1) := by decide +kernel
theorem d_M_type_2 : decode b_M_type 2 = .ok (.invokevirtual 159, 3) := by decide +kernel
theorem d_M_type_5 : decode b_M_type 5 = .ok (.ifCond .eq 12, 3) := by decide +kernel
theorem d_M_type_8 : decode b_M_type 8 = .ok (.iload_n 2, 1) := by decide +kernel
theorem d_M_type_9 : decode b_M_type 9 = .ok (.ifCond .lt 8, 3) := by decide +kernel
theorem d_M_type_12 : decode b_M_type 12 = .ok (.iload_n 2, 1) := by decide +kernel
theorem d_M_type_13 : decode b_M_type 13 = .ok (.iconst 5, 1) := by decide +kernel
theorem d_M_type_14 : decode b_M_type 14 = .ok (.if_icmp .le 6, 3) := by decide +kernel
theorem d_M_type_17 : decode b_M_type 17 = .ok (.bipush (-2), 2) := by decide +kernel
theorem d_M_type_19 : decode b_M_type 19 = .ok (.ireturn, 1) := by decide +kernel
theorem d_M_type_20 : decode b_M_type 20 = .ok (.iload_n 2, 1) := by decide +kernel
theorem d_M_type_21 : decode b_M_type 21 = .ok (.tableswitch 70 0 4 #[35, 42, 49, 56, 63], 35) := by decide +kernel
theorem d_M_type_56 : decode b_M_type 56 = .ok (.aload_n 0, 1) := by decide +kernel
theorem d_M_type_57 : decode b_M_type 57 = .ok (.getfield 27, 3) := by decide +kernel
theorem d_M_type_60 : decode b_M_type 60 = .ok (.iload_n 1, 1) := by decide +kernel
theorem d_M_type_61 : decode b_M_type 61 = .ok (.iaload, 1) := by decide +kernel
theorem d_M_type_62 : decode b_M_type 62 = .ok (.ireturn, 1) := by decide +kernel
theorem d_M_type_63 : decode b_M_type 63 = .ok (.aload_n 0, 1) := by decide +kernel
theorem d_M_type_64 : decode b_M_type 64 = .ok (.getfield 30, 3) := by decide +kernel
theorem d_M_type_67 : decode b_M_type 67 = .ok (.iload_n 1, 1) := by decide +kernel
theorem d_M_type_68 : decode b_M_type 68 = .ok (.iaload, 1) := by decide +kernel
theorem d_M_type_69 : decode b_M_type 69 = .ok (.ireturn, 1) := by decide +kernel
theorem d_M_type_70 : decode b_M_type 70 = .ok (.aload_n 0, 1) := by decide +kernel
theorem d_M_type_71 : decode b_M_type 71 = .ok (.getfield 33, 3) := by decide +kernel
theorem d_M_type_74 : decode b_M_type 74 = .ok (.iload_n 1, 1) := by decide +kernel
theorem d_M_type_75 : decode b_M_type 75 = .ok (.iaload, 1) := by decide +kernel
theorem d_M_type_76 : decode b_M_type 76 = .ok (.ireturn, 1) := by decide +kernel
theorem d_M_type_77 : decode b_M_type 77 = .ok (.aload_n 0, 1) := by decide +kernel
theorem d_M_type_78 : decode b_M_type 78 = .ok (.getfield 36, 3) := by decide +kernel
theorem d_M_type_81 : decode b_M_type 81 = .ok (.iload_n 1, 1) := by decide +kernel
theorem d_M_type_82 : decode b_M_type 82 = .ok (.iaload, 1) := by decide +kernel
theorem d_M_type_83 : decode b_M_type 83 = .ok (.ireturn, 1) := by decide +kernel
theorem d_M_type_84 : decode b_M_type 84 = .ok (.aload_n 0, 1) := by decide +kernel
theorem d_M_type_85 : decode b_M_type 85 = .ok (.getfield 39, 3) := by decide +kernel
theorem d_M_type_88 : decode b_M_type 88 = .ok (.iload_n 1, 1) := by decide +kernel
theorem d_M_type_89 : decode b_M_type 89 = .ok (.iaload, 1) := by decide +kernel
theorem d_M_type_90 : decode b_M_type 90 = .ok (.ireturn, 1) := by decide +kernel
theorem d_M_type_91 : decode b_M_type 91 = .ok (.aload_n 0, 1) := by decide +kernel
theorem d_M_type_92 : decode b_M_type 92 = .ok (.getfield 42, 3) := by decide +kernel
theorem d_M_type_95 : decode b_M_type 95 = .ok (.iload_n 1, 1) := by decide +kernel
theorem d_M_type_96 : decode b_M_type 96 = .ok (.baload, 1) := by decide +kernel
theorem d_M_type_97 : decode b_M_type 97 = .ok (.ifCond .eq 7, 3) := by decide +kernel
theorem d_M_type_100 : decode b_M_type 100 = .ok (.iconst 1, 1) := by decide +kernel
theorem d_M_type_101 : decode b_M_type 101 = .ok (.goto 4, 3) := by decide +kernel
theorem d_M_type_104 : decode b_M_type 104 = .ok (.iconst 0, 1) := by decide +kernel
theorem d_M_type_105 : decode b_M_type 105 = .ok (.ireturn, 1) := by decide +kernel
theorem d_M_bound_0 : decode b_M_bound 0 = .ok (.iload_n 1, 1) := by decide +kernel
theorem d_M_bound_1 : decode b_M_bound 1 = .ok (.ifCond .lt 20, 3) := by decide +kernel
theorem d_M_bound_4 : decode b_M_bound 4 = .ok (.iload_n 1, 1) := by decide +kernel
theorem d_M_bound_5 : decode b_M_bound 5 = .ok (.aload_n 0, 1) := by decide +kernel
theorem d_M_bound_6 : decode b_M_bound 6 = .ok (.getfield 267, 3) := by decide +kernel
theorem d_M_bound_9 : decode b_M_bound 9 = .ok (.if_icmp .ge 12, 3) := by decide +kernel
theorem d_M_bound_12 : decode b_M_bound 12 = .ok (.iload_n 2, 1) := by decide +kernel
theorem d_M_bound_13 : decode b_M_bound 13 = .ok (.ifCond .lt 8, 3) := by decide +kernel
theorem d_M_bound_16 : decode b_M_bound 16 = .ok (.iload_n 2, 1) := by decide +kernel
theorem d_M_bound_17 : decode b_M_bound 17 = .ok (.iconst 3, 1) := by decide +kernel
theorem d_M_bound_18 : decode b_M_bound 18 = .ok (.if_icmp .le 6, 3) := by decide +kernel
theorem d_M_bound_21 : decode b_M_bound 21 = .ok (.bipush (-2), 2) := by decide +kernel
theorem d_M_bound_23 : decode b_M_bound 23 = .ok (.ireturn, 1) := by decide +kernel
theorem d_M_bound_24 : decode b_M_bound 24 = .ok (.iload_n 2, 1) := by decide +kernel
theorem d_M_bound_25 : decode b_M_bound 25 = .ok (.ifCond .ne 12, 3) := by decide +kernel
theorem d_M_bound_28 : decode b_M_bound 28 = .ok (.aload_n 0, 1) := by decide +kernel
theorem d_M_bound_29 : decode b_M_bound 29 = .ok (.getfield 103, 3) := by decide +kernel
theorem d_M_bound_32 : decode b_M_bound 32 = .ok (.iload_n 1, 1) := by decide +kernel
theorem d_M_bound_33 : decode b_M_bound 33 = .ok (.iaload, 1) := by decide +kernel
theorem d_M_bound_34 : decode b_M_bound 34 = .ok (.goto 37, 3) := by decide +kernel
theorem d_M_bound_37 : decode b_M_bound 37 = .ok (.iload_n 2, 1) := by decide +kernel
theorem d_M_bound_38 : decode b_M_bound 38 = .ok (.iconst 1, 1) := by decide +kernel
theorem d_M_bound_39 : decode b_M_bound 39 = .ok (.if_icmp .ne 12, 3) := by decide +kernel
theorem d_M_bound_42 : decode b_M_bound 42 = .ok (.aload_n 0, 1) := by decide +kernel
theorem d_M_bound_43 : decode b_M_bound 43 = .ok (.getfield 106, 3) := by decide +kernel
theorem d_M_bound_46 : decode b_M_bound 46 = .ok (.iload_n 1, 1) := by decide +kernel
theorem d_M_bound_47 : decode b_M_bound 47 = .ok (.iaload, 1) := by decide +kernel
theorem d_M_bound_48 : decode b_M_bound 48 = .ok (.goto 23, 3) := by decide +kernel
theorem d_M_bound_51 : decode b_M_bound 51 = .ok (.iload_n 2, 1) := by decide +kernel
theorem d_M_bound_52 : decode b_M_bound 52 = .ok (.iconst 2, 1) := by decide +kernel
theorem d_M_bound_53 : decode b_M_bound 53 = .ok (.if_icmp .ne 12, 3) := by decide +kernel
theorem d_M_bound_56 : decode b_M_bound 56 = .ok (.aload_n 0, 1) := by decide +kernel
theorem d_M_bound_57 : decode b_M_bound 57 = .ok (.getfield 109, 3) := by decide +kernel
theorem d_M_bound_60 : decode b_M_bound 60 = .ok (.iload_n 1, 1) := by decide +kernel
theorem d_M_bound_61 : decode b_M_bound 61 = .ok (.iaload, 1) := by decide +kernel
theorem d_M_bound_62 : decode b_M_bound 62 = .ok (.goto 9, 3) := by decide +kernel
theorem d_M_bound_65 : decode b_M_bound 65 = .ok (.aload_n 0, 1) := by decide +kernel
theorem d_M_bound_66 : decode b_M_bound 66 = .ok (.getfield 112, 3) := by decide +kernel
theorem d_M_bound_69 : decode b_M_bound 69 = .ok (.iload_n 1, 1) := by decide +kernel
theorem d_M_bound_70 : decode b_M_bound 70 = .ok (.iaload, 1) := by decide +kernel
theorem d_M_bound_71 : decode b_M_bound 71 = .ok (.ireturn, 1) := by decide +kernel
theorem d_M_instance_0 : decode b_M_instance 0 = .ok (.iload_n 1, 1) := by decide +kernel
theorem d_M_instance_1 : decode b_M_instance 1 = .ok (.ifCond .lt 11, 3) := by decide +kernel
theorem d_M_instance_4 : decode b_M_instance 4 = .ok (.iload_n 1, 1) := by decide +kernel
theorem d_M_instance_5 : decode b_M_instance 5 = .ok (.aload_n 0, 1) := by decide +kernel
theorem d_M_instance_6 : decode b_M_instance 6 = .ok (.getfield 192, 3) := by decide +kernel
theorem d_M_instance_9 : decode b_M_instance 9 = .ok (.if_icmp .lt 8, 3) := by decide +kernel
theorem d_M_instance_12 : decode b_M_instance 12 = .ok (.bipush (-2), 2) := by decide +kernel
theorem d_M_instance_14 : decode b_M_instance 14 = .ok (.goto 8, 3) := by decide +kernel
theorem d_M_instance_17 : decode b_M_instance 17 = .ok (.aload_n 0, 1) := by decide +kernel
theorem d_M_instance_18 : decode b_M_instance 18 = .ok (.iload_n 1, 1) := by decide +kernel
theorem d_M_instance_19 : decode b_M_instance 19 = .ok (.invokevirtual 322, 3) := by decide +kernel
theorem d_M_instance_22 : decode b_M_instance 22 = .ok (.ireturn, 1) := by decide +kernel
theorem d_M_unchecked_0 : decode b_M_unchecked 0 = .ok (.iload_n 1, 1) := by decide +kernel
theorem d_M_unchecked_1 : decode b_M_unchecked 1 = .ok (.ifCond .lt 11, 3) := by decide +kernel
theorem d_M_unchecked_4 : decode b_M_unchecked 4 = .ok (.iload_n 1, 1) := by decide +kernel
theorem d_M_unchecked_5 : decode b_M_unchecked 5 = .ok (.aload_n 0, 1) := by decide +kernel
theorem d_M_unchecked_6 : decode b_M_unchecked 6 = .ok (.getfield 304, 3) := by decide +kernel
theorem d_M_unchecked_9 : decode b_M_unchecked 9 = .ok (.if_icmp .lt 8, 3) := by decide +kernel
theorem d_M_unchecked_12 : decode b_M_unchecked 12 = .ok (.bipush (-2), 2) := by decide +kernel
theorem d_M_unchecked_14 : decode b_M_unchecked 14 = .ok (.goto 17, 3) := by decide +kernel
theorem d_M_unchecked_17 : decode b_M_unchecked 17 = .ok (.aload_n 0, 1) := by decide +kernel
theorem d_M_unchecked_18 : decode b_M_unchecked 18 = .ok (.getfield 124, 3) := by decide +kernel
theorem d_M_unchecked_21 : decode b_M_unchecked 21 = .ok (.iload_n 1, 1) := by decide +kernel
theorem d_M_unchecked_22 : decode b_M_unchecked 22 = .ok (.baload, 1) := by decide +kernel
theorem d_M_unchecked_23 : decode b_M_unchecked 23 = .ok (.ifCond .eq 7, 3) := by decide +kernel
theorem d_M_unchecked_26 : decode b_M_unchecked 26 = .ok (.iconst 1, 1) := by decide +kernel
theorem d_M_unchecked_27 : decode b_M_unchecked 27 = .ok (.goto 4, 3) := by decide +kernel
theorem d_M_unchecked_30 : decode b_M_unchecked 30 = .ok (.iconst 0, 1) := by decide +kernel
theorem d_M_unchecked_31 : decode b_M_unchecked 31 = .ok (.ireturn, 1) := by decide +kernel
theorem d_M_judge_0 : decode b_M_judge 0 = .ok (.iload_n 1, 1) := by decide +kernel
theorem d_M_judge_1 : decode b_M_judge 1 = .ok (.ifCond .lt 11, 3) := by decide +kernel
theorem d_M_judge_4 : decode b_M_judge 4 = .ok (.iload_n 1, 1) := by decide +kernel
theorem d_M_judge_5 : decode b_M_judge 5 = .ok (.aload_n 0, 1) := by decide +kernel
theorem d_M_judge_6 : decode b_M_judge 6 = .ok (.getfield 304, 3) := by decide +kernel
theorem d_M_judge_9 : decode b_M_judge 9 = .ok (.if_icmp .lt 6, 3) := by decide +kernel
theorem d_M_judge_12 : decode b_M_judge 12 = .ok (.bipush (-2), 2) := by decide +kernel
theorem d_M_judge_14 : decode b_M_judge 14 = .ok (.ireturn, 1) := by decide +kernel
theorem d_M_judge_15 : decode b_M_judge 15 = .ok (.aload_n 0, 1) := by decide +kernel
theorem d_M_judge_16 : decode b_M_judge 16 = .ok (.iconst (-1), 1) := by decide +kernel
theorem d_M_judge_17 : decode b_M_judge 17 = .ok (.invokevirtual 307, 3) := by decide +kernel
theorem d_M_judge_20 : decode b_M_judge 20 = .ok (.iconst 0, 1) := by decide +kernel
theorem d_M_judge_21 : decode b_M_judge 21 = .ok (.istore_n 2, 1) := by decide +kernel
theorem d_M_judge_22 : decode b_M_judge 22 = .ok (.iload_n 2, 1) := by decide +kernel
theorem d_M_judge_23 : decode b_M_judge 23 = .ok (.bipush 12, 2) := by decide +kernel
theorem d_M_judge_25 : decode b_M_judge 25 = .ok (.if_icmp .ge 32, 3) := by decide +kernel
theorem d_M_judge_28 : decode b_M_judge 28 = .ok (.aload_n 0, 1) := by decide +kernel
theorem d_M_judge_29 : decode b_M_judge 29 = .ok (.getfield 64, 3) := by decide +kernel
theorem d_M_judge_32 : decode b_M_judge 32 = .ok (.iload_n 2, 1) := by decide +kernel
theorem d_M_judge_33 : decode b_M_judge 33 = .ok (.iload_n 2, 1) := by decide +kernel
theorem d_M_judge_34 : decode b_M_judge 34 = .ok (.aload_n 0, 1) := by decide +kernel
theorem d_M_judge_35 : decode b_M_judge 35 = .ok (.getfield 192, 3) := by decide +kernel
theorem d_M_judge_38 : decode b_M_judge 38 = .ok (.if_icmp .ge 11, 3) := by decide +kernel
theorem d_M_judge_41 : decode b_M_judge 41 = .ok (.aload_n 0, 1) := by decide +kernel
theorem d_M_judge_42 : decode b_M_judge 42 = .ok (.iload_n 2, 1) := by decide +kernel
theorem d_M_judge_43 : decode b_M_judge 43 = .ok (.invokevirtual 322, 3) := by decide +kernel
theorem d_M_judge_46 : decode b_M_judge 46 = .ok (.goto 4, 3) := by decide +kernel
theorem d_M_judge_49 : decode b_M_judge 49 = .ok (.iconst (-1), 1) := by decide +kernel
theorem d_M_judge_50 : decode b_M_judge 50 = .ok (.iastore, 1) := by decide +kernel
theorem d_M_judge_51 : decode b_M_judge 51 = .ok (.iinc 2 1, 3) := by decide +kernel
theorem d_M_judge_54 : decode b_M_judge 54 = .ok (.goto (-32), 3) := by decide +kernel
theorem d_M_judge_57 : decode b_M_judge 57 = .ok (.aload_n 0, 1) := by decide +kernel
theorem d_M_judge_58 : decode b_M_judge 58 = .ok (.aload_n 0, 1) := by decide +kernel
theorem d_M_judge_59 : decode b_M_judge 59 = .ok (.getfield 118, 3) := by decide +kernel
theorem d_M_judge_62 : decode b_M_judge 62 = .ok (.iload_n 1, 1) := by decide +kernel
theorem d_M_judge_63 : decode b_M_judge 63 = .ok (.iaload, 1) := by decide +kernel
theorem d_M_judge_64 : decode b_M_judge 64 = .ok (.iconst (-1), 1) := by decide +kernel
theorem d_M_judge_65 : decode b_M_judge 65 = .ok (.invokevirtual 209, 3) := by decide +kernel
theorem d_M_judge_68 : decode b_M_judge 68 = .ok (.istore_n 2, 1) := by decide +kernel
theorem d_M_judge_69 : decode b_M_judge 69 = .ok (.aload_n 0, 1) := by decide +kernel
theorem d_M_judge_70 : decode b_M_judge 70 = .ok (.getfield 148, 3) := by decide +kernel
theorem d_M_judge_73 : decode b_M_judge 73 = .ok (.ifCond .eq 7, 3) := by decide +kernel
theorem d_M_judge_76 : decode b_M_judge 76 = .ok (.iconst (-1), 1) := by decide +kernel
theorem d_M_judge_77 : decode b_M_judge 77 = .ok (.goto 14, 3) := by decide +kernel
theorem d_M_judge_80 : decode b_M_judge 80 = .ok (.aload_n 0, 1) := by decide +kernel
theorem d_M_judge_81 : decode b_M_judge 81 = .ok (.aload_n 0, 1) := by decide +kernel
theorem d_M_judge_82 : decode b_M_judge 82 = .ok (.getfield 121, 3) := by decide +kernel
theorem d_M_judge_85 : decode b_M_judge 85 = .ok (.iload_n 1, 1) := by decide +kernel
theorem d_M_judge_86 : decode b_M_judge 86 = .ok (.iaload, 1) := by decide +kernel
theorem d_M_judge_87 : decode b_M_judge 87 = .ok (.iconst (-1), 1) := by decide +kernel
theorem d_M_judge_88 : decode b_M_judge 88 = .ok (.invokevirtual 209, 3) := by decide +kernel
theorem d_M_judge_91 : decode b_M_judge 91 = .ok (.istore_n 3, 1) := by decide +kernel
theorem d_M_judge_92 : decode b_M_judge 92 = .ok (.aload_n 0, 1) := by decide +kernel
theorem d_M_judge_93 : decode b_M_judge 93 = .ok (.iconst 1, 1) := by decide +kernel
theorem d_M_judge_94 : decode b_M_judge 94 = .ok (.putfield 230, 3) := by decide +kernel
theorem d_M_judge_97 : decode b_M_judge 97 = .ok (.aload_n 0, 1) := by decide +kernel
theorem d_M_judge_98 : decode b_M_judge 98 = .ok (.iconst 0, 1) := by decide +kernel
theorem d_M_judge_99 : decode b_M_judge 99 = .ok (.putfield 273, 3) := by decide +kernel
theorem d_M_judge_102 : decode b_M_judge 102 = .ok (.aload_n 0, 1) := by decide +kernel
theorem d_M_judge_103 : decode b_M_judge 103 = .ok (.getfield 148, 3) := by decide +kernel
theorem d_M_judge_106 : decode b_M_judge 106 = .ok (.ifCond .ne 40, 3) := by decide +kernel
theorem d_M_judge_109 : decode b_M_judge 109 = .ok (.aload_n 0, 1) := by decide +kernel
theorem d_M_judge_110 : decode b_M_judge 110 = .ok (.getfield 42, 3) := by decide +kernel
theorem d_M_judge_113 : decode b_M_judge 113 = .ok (.iload_n 2, 1) := by decide +kernel
theorem d_M_judge_114 : decode b_M_judge 114 = .ok (.baload, 1) := by decide +kernel
theorem d_M_judge_115 : decode b_M_judge 115 = .ok (.ifCond .eq 31, 3) := by decide +kernel
theorem d_M_judge_118 : decode b_M_judge 118 = .ok (.aload_n 0, 1) := by decide +kernel
theorem d_M_judge_119 : decode b_M_judge 119 = .ok (.getfield 42, 3) := by decide +kernel
theorem d_M_judge_122 : decode b_M_judge 122 = .ok (.iload_n 3, 1) := by decide +kernel
theorem d_M_judge_123 : decode b_M_judge 123 = .ok (.baload, 1) := by decide +kernel
theorem d_M_judge_124 : decode b_M_judge 124 = .ok (.ifCond .eq 22, 3) := by decide +kernel
theorem d_M_judge_127 : decode b_M_judge 127 = .ok (.aload_n 0, 1) := by decide +kernel
theorem d_M_judge_128 : decode b_M_judge 128 = .ok (.aload_n 0, 1) := by decide +kernel
theorem d_M_judge_129 : decode b_M_judge 129 = .ok (.getfield 115, 3) := by decide +kernel
theorem d_M_judge_132 : decode b_M_judge 132 = .ok (.iload_n 1, 1) := by decide +kernel
theorem d_M_judge_133 : decode b_M_judge 133 = .ok (.iaload, 1) := by decide +kernel
theorem d_M_judge_134 : decode b_M_judge 134 = .ok (.iload_n 2, 1) := by decide +kernel
theorem d_M_judge_135 : decode b_M_judge 135 = .ok (.iload_n 3, 1) := by decide +kernel
theorem d_M_judge_136 : decode b_M_judge 136 = .ok (.invokevirtual 289, 3) := by decide +kernel
theorem d_M_judge_139 : decode b_M_judge 139 = .ok (.ifCond .eq 7, 3) := by decide +kernel
theorem d_M_judge_142 : decode b_M_judge 142 = .ok (.iconst 1, 1) := by decide +kernel
theorem d_M_judge_143 : decode b_M_judge 143 = .ok (.goto 4, 3) := by decide +kernel
theorem d_M_judge_146 : decode b_M_judge 146 = .ok (.iconst 0, 1) := by decide +kernel
theorem d_M_judge_147 : decode b_M_judge 147 = .ok (.istore 4, 2) := by decide +kernel
theorem d_M_judge_149 : decode b_M_judge 149 = .ok (.aload_n 0, 1) := by decide +kernel
theorem d_M_judge_150 : decode b_M_judge 150 = .ok (.getfield 148, 3) := by decide +kernel
theorem d_M_judge_153 : decode b_M_judge 153 = .ok (.istore 5, 2) := by decide +kernel
theorem d_M_judge_155 : decode b_M_judge 155 = .ok (.aload_n 0, 1) := by decide +kernel
theorem d_M_judge_156 : decode b_M_judge 156 = .ok (.iconst 0, 1) := by decide +kernel
theorem d_M_judge_157 : decode b_M_judge 157 = .ok (.putfield 148, 3) := by decide +kernel
theorem d_M_judge_160 : decode b_M_judge 160 = .ok (.aload_n 0, 1) := by decide +kernel
theorem d_M_judge_161 : decode b_M_judge 161 = .ok (.iconst 0, 1) := by decide +kernel
theorem d_M_judge_162 : decode b_M_judge 162 = .ok (.putfield 230, 3) := by decide +kernel
theorem d_M_judge_165 : decode b_M_judge 165 = .ok (.iload 5, 2) := by decide +kernel
theorem d_M_judge_167 : decode b_M_judge 167 = .ok (.ifCond .eq 8, 3) := by decide +kernel
theorem d_M_judge_170 : decode b_M_judge 170 = .ok (.bipush (-3), 2) := by decide +kernel
theorem d_M_judge_172 : decode b_M_judge 172 = .ok (.goto 24, 3) := by decide +kernel
theorem d_M_judge_175 : decode b_M_judge 175 = .ok (.iload 4, 2) := by decide +kernel
theorem d_M_judge_177 : decode b_M_judge 177 = .ok (.ifCond .eq 18, 3) := by decide +kernel
theorem d_M_judge_180 : decode b_M_judge 180 = .ok (.aload_n 0, 1) := by decide +kernel
theorem d_M_judge_181 : decode b_M_judge 181 = .ok (.getfield 258, 3) := by decide +kernel
theorem d_M_judge_184 : decode b_M_judge 184 = .ok (.ifCond .eq 7, 3) := by decide +kernel
theorem d_M_judge_187 : decode b_M_judge 187 = .ok (.iconst 2, 1) := by decide +kernel
theorem d_M_judge_188 : decode b_M_judge 188 = .ok (.goto 8, 3) := by decide +kernel
theorem d_M_judge_191 : decode b_M_judge 191 = .ok (.iconst 1, 1) := by decide +kernel
theorem d_M_judge_192 : decode b_M_judge 192 = .ok (.goto 4, 3) := by decide +kernel
theorem d_M_judge_195 : decode b_M_judge 195 = .ok (.iconst 0, 1) := by decide +kernel
theorem d_M_judge_196 : decode b_M_judge 196 = .ok (.ireturn, 1) := by decide +kernel
