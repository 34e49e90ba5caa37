theorem d_Reducer_bind_0 : decode b_Reducer_bind 0 = .ok (.iconst 1, 1) := by decide +kernel
theorem d_Reducer_bind_1 : decode b_Reducer_bind 1 = .ok (.istore 5, 2) := by decide +kernel
theorem d_Reducer_bind_3 : decode b_Reducer_bind 3 = .ok (.aload_n 0, 1) := by decide +kernel
theorem d_Reducer_bind_4 : decode b_Reducer_bind 4 = .ok (.getfield 22, 3) := by decide +kernel
theorem d_Reducer_bind_7 : decode b_Reducer_bind 7 = .ok (.iload_n 3, 1) := by decide +kernel
theorem d_Reducer_bind_8 : decode b_Reducer_bind 8 = .ok (.invokevirtual 102, 3) := by decide +kernel
theorem d_Reducer_bind_11 : decode b_Reducer_bind 11 = .ok (.bipush 7, 2) := by decide +kernel
theorem d_Reducer_bind_13 : decode b_Reducer_bind 13 = .ok (.if_icmp .ne 27, 3) := by decide +kernel
theorem d_Reducer_bind_16 : decode b_Reducer_bind 16 = .ok (.aload_n 0, 1) := by decide +kernel
theorem d_Reducer_bind_17 : decode b_Reducer_bind 17 = .ok (.getfield 26, 3) := by decide +kernel
theorem d_Reducer_bind_20 : decode b_Reducer_bind 20 = .ok (.iload_n 1, 1) := by decide +kernel
theorem d_Reducer_bind_21 : decode b_Reducer_bind 21 = .ok (.aload_n 0, 1) := by decide +kernel
theorem d_Reducer_bind_22 : decode b_Reducer_bind 22 = .ok (.getfield 22, 3) := by decide +kernel
theorem d_Reducer_bind_25 : decode b_Reducer_bind 25 = .ok (.iload_n 3, 1) := by decide +kernel
theorem d_Reducer_bind_26 : decode b_Reducer_bind 26 = .ok (.invokevirtual 109, 3) := by decide +kernel
theorem d_Reducer_bind_29 : decode b_Reducer_bind 29 = .ok (.iload 4, 2) := by decide +kernel
theorem d_Reducer_bind_31 : decode b_Reducer_bind 31 = .ok (.aload_n 0, 1) := by decide +kernel
theorem d_Reducer_bind_32 : decode b_Reducer_bind 32 = .ok (.getfield 41, 3) := by decide +kernel
theorem d_Reducer_bind_35 : decode b_Reducer_bind 35 = .ok (.invokevirtual 145, 3) := by decide +kernel
theorem d_Reducer_bind_38 : decode b_Reducer_bind 38 = .ok (.istore 5, 2) := by decide +kernel
theorem d_Reducer_bind_40 : decode b_Reducer_bind 40 = .ok (.iload 5, 2) := by decide +kernel
theorem d_Reducer_bind_42 : decode b_Reducer_bind 42 = .ok (.iconst 1, 1) := by decide +kernel
theorem d_Reducer_bind_43 : decode b_Reducer_bind 43 = .ok (.if_icmp .ne 41, 3) := by decide +kernel
theorem d_Reducer_bind_46 : decode b_Reducer_bind 46 = .ok (.aload_n 0, 1) := by decide +kernel
theorem d_Reducer_bind_47 : decode b_Reducer_bind 47 = .ok (.getfield 22, 3) := by decide +kernel
theorem d_Reducer_bind_50 : decode b_Reducer_bind 50 = .ok (.iload 4, 2) := by decide +kernel
theorem d_Reducer_bind_52 : decode b_Reducer_bind 52 = .ok (.invokevirtual 102, 3) := by decide +kernel
theorem d_Reducer_bind_55 : decode b_Reducer_bind 55 = .ok (.bipush 7, 2) := by decide +kernel
theorem d_Reducer_bind_57 : decode b_Reducer_bind 57 = .ok (.if_icmp .ne 27, 3) := by decide +kernel
theorem d_Reducer_bind_60 : decode b_Reducer_bind 60 = .ok (.aload_n 0, 1) := by decide +kernel
theorem d_Reducer_bind_61 : decode b_Reducer_bind 61 = .ok (.getfield 26, 3) := by decide +kernel
theorem d_Reducer_bind_64 : decode b_Reducer_bind 64 = .ok (.iload_n 2, 1) := by decide +kernel
theorem d_Reducer_bind_65 : decode b_Reducer_bind 65 = .ok (.aload_n 0, 1) := by decide +kernel
theorem d_Reducer_bind_66 : decode b_Reducer_bind 66 = .ok (.getfield 22, 3) := by decide +kernel
theorem d_Reducer_bind_69 : decode b_Reducer_bind 69 = .ok (.iload 4, 2) := by decide +kernel
theorem d_Reducer_bind_71 : decode b_Reducer_bind 71 = .ok (.invokevirtual 109, 3) := by decide +kernel
theorem d_Reducer_bind_74 : decode b_Reducer_bind 74 = .ok (.iload_n 3, 1) := by decide +kernel
theorem d_Reducer_bind_75 : decode b_Reducer_bind 75 = .ok (.aload_n 0, 1) := by decide +kernel
theorem d_Reducer_bind_76 : decode b_Reducer_bind 76 = .ok (.getfield 41, 3) := by decide +kernel
theorem d_Reducer_bind_79 : decode b_Reducer_bind 79 = .ok (.invokevirtual 145, 3) := by decide +kernel
theorem d_Reducer_bind_82 : decode b_Reducer_bind 82 = .ok (.istore 5, 2) := by decide +kernel
theorem d_Reducer_bind_84 : decode b_Reducer_bind 84 = .ok (.iload 5, 2) := by decide +kernel
theorem d_Reducer_bind_86 : decode b_Reducer_bind 86 = .ok (.ireturn, 1) := by decide +kernel
theorem d_Reducer_truth_0 : decode b_Reducer_truth 0 = .ok (.iload_n 0, 1) := by decide +kernel
theorem d_Reducer_truth_1 : decode b_Reducer_truth 1 = .ok (.ifCond .eq 7, 3) := by decide +kernel
theorem d_Reducer_truth_4 : decode b_Reducer_truth 4 = .ok (.iconst 1, 1) := by decide +kernel
theorem d_Reducer_truth_5 : decode b_Reducer_truth 5 = .ok (.goto 4, 3) := by decide +kernel
theorem d_Reducer_truth_8 : decode b_Reducer_truth 8 = .ok (.iconst 0, 1) := by decide +kernel
theorem d_Reducer_truth_9 : decode b_Reducer_truth 9 = .ok (.ireturn, 1) := by decide +kernel
theorem d_Reducer_boxOf_0 : decode b_Reducer_boxOf 0 = .ok (.aload_n 0, 1) := by decide +kernel
theorem d_Reducer_boxOf_1 : decode b_Reducer_boxOf 1 = .ok (.getfield 22, 3) := by decide +kernel
theorem d_Reducer_boxOf_4 : decode b_Reducer_boxOf 4 = .ok (.iconst 0, 1) := by decide +kernel
theorem d_Reducer_boxOf_5 : decode b_Reducer_boxOf 5 = .ok (.aload_n 0, 1) := by decide +kernel
theorem d_Reducer_boxOf_6 : decode b_Reducer_boxOf 6 = .ok (.getfield 22, 3) := by decide +kernel
theorem d_Reducer_boxOf_9 : decode b_Reducer_boxOf 9 = .ok (.iload_n 1, 1) := by decide +kernel
theorem d_Reducer_boxOf_10 : decode b_Reducer_boxOf 10 = .ok (.invokevirtual 109, 3) := by decide +kernel
theorem d_Reducer_boxOf_13 : decode b_Reducer_boxOf 13 = .ok (.iconst 1, 1) := by decide +kernel
theorem d_Reducer_boxOf_14 : decode b_Reducer_boxOf 14 = .ok (.iadd, 1) := by decide +kernel
theorem d_Reducer_boxOf_15 : decode b_Reducer_boxOf 15 = .ok (.iconst (-1), 1) := by decide +kernel
theorem d_Reducer_boxOf_16 : decode b_Reducer_boxOf 16 = .ok (.iconst (-1), 1) := by decide +kernel
theorem d_Reducer_boxOf_17 : decode b_Reducer_boxOf 17 = .ok (.invokevirtual 142, 3) := by decide +kernel
theorem d_Reducer_boxOf_20 : decode b_Reducer_boxOf 20 = .ok (.ireturn, 1) := by decide +kernel
theorem d_Reducer_widens_0 : decode b_Reducer_widens 0 = .ok (.iload_n 0, 1) := by decide +kernel
theorem d_Reducer_widens_1 : decode b_Reducer_widens 1 = .ok (.iload_n 1, 1) := by decide +kernel
theorem d_Reducer_widens_2 : decode b_Reducer_widens 2 = .ok (.if_icmp .eq 17, 3) := by decide +kernel
theorem d_Reducer_widens_5 : decode b_Reducer_widens 5 = .ok (.iload_n 0, 1) := by decide +kernel
theorem d_Reducer_widens_6 : decode b_Reducer_widens 6 = .ok (.ifCond .eq 17, 3) := by decide +kernel
theorem d_Reducer_widens_9 : decode b_Reducer_widens 9 = .ok (.iload_n 1, 1) := by decide +kernel
theorem d_Reducer_widens_10 : decode b_Reducer_widens 10 = .ok (.iload_n 0, 1) := by decide +kernel
theorem d_Reducer_widens_11 : decode b_Reducer_widens 11 = .ok (.if_icmp .le 12, 3) := by decide +kernel
theorem d_Reducer_widens_14 : decode b_Reducer_widens 14 = .ok (.iload_n 1, 1) := by decide +kernel
theorem d_Reducer_widens_15 : decode b_Reducer_widens 15 = .ok (.iconst 3, 1) := by decide +kernel
theorem d_Reducer_widens_16 : decode b_Reducer_widens 16 = .ok (.if_icmp .eq 7, 3) := by decide +kernel
theorem d_Reducer_widens_19 : decode b_Reducer_widens 19 = .ok (.iconst 1, 1) := by decide +kernel
theorem d_Reducer_widens_20 : decode b_Reducer_widens 20 = .ok (.goto 4, 3) := by decide +kernel
theorem d_Reducer_widens_23 : decode b_Reducer_widens 23 = .ok (.iconst 0, 1) := by decide +kernel
theorem d_Reducer_widens_24 : decode b_Reducer_widens 24 = .ok (.ireturn, 1) := by decide +kernel
theorem d_Reducer_unboxes_0 : decode b_Reducer_unboxes 0 = .ok (.aload_n 0, 1) := by decide +kernel
theorem d_Reducer_unboxes_1 : decode b_Reducer_unboxes 1 = .ok (.getfield 22, 3) := by decide +kernel
theorem d_Reducer_unboxes_4 : decode b_Reducer_unboxes 4 = .ok (.iload_n 1, 1) := by decide +kernel
theorem d_Reducer_unboxes_5 : decode b_Reducer_unboxes 5 = .ok (.invokevirtual 109, 3) := by decide +kernel
theorem d_Reducer_unboxes_8 : decode b_Reducer_unboxes 8 = .ok (.istore_n 3, 1) := by decide +kernel
theorem d_Reducer_unboxes_9 : decode b_Reducer_unboxes 9 = .ok (.aload_n 0, 1) := by decide +kernel
theorem d_Reducer_unboxes_10 : decode b_Reducer_unboxes 10 = .ok (.getfield 22, 3) := by decide +kernel
theorem d_Reducer_unboxes_13 : decode b_Reducer_unboxes 13 = .ok (.iload_n 1, 1) := by decide +kernel
theorem d_Reducer_unboxes_14 : decode b_Reducer_unboxes 14 = .ok (.invokevirtual 102, 3) := by decide +kernel
theorem d_Reducer_unboxes_17 : decode b_Reducer_unboxes 17 = .ok (.ifCond .ne 14, 3) := by decide +kernel
theorem d_Reducer_unboxes_20 : decode b_Reducer_unboxes 20 = .ok (.iload_n 3, 1) := by decide +kernel
theorem d_Reducer_unboxes_21 : decode b_Reducer_unboxes 21 = .ok (.iconst 1, 1) := by decide +kernel
theorem d_Reducer_unboxes_22 : decode b_Reducer_unboxes 22 = .ok (.if_icmp .lt 9, 3) := by decide +kernel
theorem d_Reducer_unboxes_25 : decode b_Reducer_unboxes 25 = .ok (.iload_n 3, 1) := by decide +kernel
theorem d_Reducer_unboxes_26 : decode b_Reducer_unboxes 26 = .ok (.bipush 9, 2) := by decide +kernel
theorem d_Reducer_unboxes_28 : decode b_Reducer_unboxes 28 = .ok (.if_icmp .lt 5, 3) := by decide +kernel
theorem d_Reducer_unboxes_31 : decode b_Reducer_unboxes 31 = .ok (.iconst 0, 1) := by decide +kernel
theorem d_Reducer_unboxes_32 : decode b_Reducer_unboxes 32 = .ok (.ireturn, 1) := by decide +kernel
theorem d_Reducer_unboxes_33 : decode b_Reducer_unboxes 33 = .ok (.iload_n 3, 1) := by decide +kernel
theorem d_Reducer_unboxes_34 : decode b_Reducer_unboxes 34 = .ok (.iconst 1, 1) := by decide +kernel
theorem d_Reducer_unboxes_35 : decode b_Reducer_unboxes 35 = .ok (.isub, 1) := by decide +kernel
theorem d_Reducer_unboxes_36 : decode b_Reducer_unboxes 36 = .ok (.aload_n 0, 1) := by decide +kernel
theorem d_Reducer_unboxes_37 : decode b_Reducer_unboxes 37 = .ok (.getfield 22, 3) := by decide +kernel
theorem d_Reducer_unboxes_40 : decode b_Reducer_unboxes 40 = .ok (.iload_n 2, 1) := by decide +kernel
theorem d_Reducer_unboxes_41 : decode b_Reducer_unboxes 41 = .ok (.invokevirtual 109, 3) := by decide +kernel
theorem d_Reducer_unboxes_44 : decode b_Reducer_unboxes 44 = .ok (.invokestatic 112, 3) := by decide +kernel
theorem d_Reducer_unboxes_47 : decode b_Reducer_unboxes 47 = .ok (.ireturn, 1) := by decide +kernel
theorem d_Reducer_aboveOf_0 : decode b_Reducer_aboveOf 0 = .ok (.iload_n 1, 1) := by decide +kernel
theorem d_Reducer_aboveOf_1 : decode b_Reducer_aboveOf 1 = .ok (.istore_n 3, 1) := by decide +kernel
theorem d_Reducer_aboveOf_2 : decode b_Reducer_aboveOf 2 = .ok (.iconst 0, 1) := by decide +kernel
theorem d_Reducer_aboveOf_3 : decode b_Reducer_aboveOf 3 = .ok (.istore 4, 2) := by decide +kernel
theorem d_Reducer_aboveOf_5 : decode b_Reducer_aboveOf 5 = .ok (.iload 4, 2) := by decide +kernel
theorem d_Reducer_aboveOf_7 : decode b_Reducer_aboveOf 7 = .ok (.bipush 20, 2) := by decide +kernel
theorem d_Reducer_aboveOf_9 : decode b_Reducer_aboveOf 9 = .ok (.if_icmp .ge 32, 3) := by decide +kernel
theorem d_Reducer_aboveOf_12 : decode b_Reducer_aboveOf 12 = .ok (.aload_n 0, 1) := by decide +kernel
theorem d_Reducer_aboveOf_13 : decode b_Reducer_aboveOf 13 = .ok (.getfield 22, 3) := by decide +kernel
theorem d_Reducer_aboveOf_16 : decode b_Reducer_aboveOf 16 = .ok (.iload_n 3, 1) := by decide +kernel
theorem d_Reducer_aboveOf_17 : decode b_Reducer_aboveOf 17 = .ok (.invokevirtual 102, 3) := by decide +kernel
theorem d_Reducer_aboveOf_20 : decode b_Reducer_aboveOf 20 = .ok (.bipush 8, 2) := by decide +kernel
theorem d_Reducer_aboveOf_22 : decode b_Reducer_aboveOf 22 = .ok (.if_icmp .ne 19, 3) := by decide +kernel
theorem d_Reducer_aboveOf_25 : decode b_Reducer_aboveOf 25 = .ok (.aload_n 0, 1) := by decide +kernel
theorem d_Reducer_aboveOf_26 : decode b_Reducer_aboveOf 26 = .ok (.getfield 22, 3) := by decide +kernel
theorem d_Reducer_aboveOf_29 : decode b_Reducer_aboveOf 29 = .ok (.iload_n 3, 1) := by decide +kernel
theorem d_Reducer_aboveOf_30 : decode b_Reducer_aboveOf 30 = .ok (.iconst 1, 1) := by decide +kernel
theorem d_Reducer_aboveOf_31 : decode b_Reducer_aboveOf 31 = .ok (.invokevirtual 136, 3) := by decide +kernel
theorem d_Reducer_aboveOf_34 : decode b_Reducer_aboveOf 34 = .ok (.istore_n 3, 1) := by decide +kernel
theorem d_Reducer_aboveOf_35 : decode b_Reducer_aboveOf 35 = .ok (.iinc 4 1, 3) := by decide +kernel
theorem d_Reducer_aboveOf_38 : decode b_Reducer_aboveOf 38 = .ok (.goto (-33), 3) := by decide +kernel
theorem d_Reducer_aboveOf_41 : decode b_Reducer_aboveOf 41 = .ok (.iconst 0, 1) := by decide +kernel
theorem d_Reducer_aboveOf_42 : decode b_Reducer_aboveOf 42 = .ok (.istore 4, 2) := by decide +kernel
theorem d_Reducer_aboveOf_44 : decode b_Reducer_aboveOf 44 = .ok (.iload 4, 2) := by decide +kernel
theorem d_Reducer_aboveOf_46 : decode b_Reducer_aboveOf 46 = .ok (.bipush 40, 2) := by decide +kernel
theorem d_Reducer_aboveOf_48 : decode b_Reducer_aboveOf 48 = .ok (.if_icmp .ge 137, 3) := by decide +kernel
theorem d_Reducer_aboveOf_51 : decode b_Reducer_aboveOf 51 = .ok (.aload_n 0, 1) := by decide +kernel
theorem d_Reducer_aboveOf_52 : decode b_Reducer_aboveOf 52 = .ok (.getfield 18, 3) := by decide +kernel
theorem d_Reducer_aboveOf_55 : decode b_Reducer_aboveOf 55 = .ok (.aload_n 0, 1) := by decide +kernel
theorem d_Reducer_aboveOf_56 : decode b_Reducer_aboveOf 56 = .ok (.getfield 22, 3) := by decide +kernel
theorem d_Reducer_aboveOf_59 : decode b_Reducer_aboveOf 59 = .ok (.iload_n 3, 1) := by decide +kernel
theorem d_Reducer_aboveOf_60 : decode b_Reducer_aboveOf 60 = .ok (.invokevirtual 84, 3) := by decide +kernel
theorem d_Reducer_aboveOf_63 : decode b_Reducer_aboveOf 63 = .ok (.iload_n 2, 1) := by decide +kernel
theorem d_Reducer_aboveOf_64 : decode b_Reducer_aboveOf 64 = .ok (.invokevirtual 149, 3) := by decide +kernel
theorem d_Reducer_aboveOf_67 : decode b_Reducer_aboveOf 67 = .ok (.ifCond .eq 118, 3) := by decide +kernel
theorem d_Reducer_aboveOf_70 : decode b_Reducer_aboveOf 70 = .ok (.aload_n 0, 1) := by decide +kernel
theorem d_Reducer_aboveOf_71 : decode b_Reducer_aboveOf 71 = .ok (.getfield 22, 3) := by decide +kernel
theorem d_Reducer_aboveOf_74 : decode b_Reducer_aboveOf 74 = .ok (.iload_n 3, 1) := by decide +kernel
theorem d_Reducer_aboveOf_75 : decode b_Reducer_aboveOf 75 = .ok (.invokevirtual 84, 3) := by decide +kernel
theorem d_Reducer_aboveOf_78 : decode b_Reducer_aboveOf 78 = .ok (.istore 5, 2) := by decide +kernel
theorem d_Reducer_aboveOf_80 : decode b_Reducer_aboveOf 80 = .ok (.iload 5, 2) := by decide +kernel
theorem d_Reducer_aboveOf_82 : decode b_Reducer_aboveOf 82 = .ok (.iload_n 2, 1) := by decide +kernel
theorem d_Reducer_aboveOf_83 : decode b_Reducer_aboveOf 83 = .ok (.if_icmp .ne 5, 3) := by decide +kernel
theorem d_Reducer_aboveOf_86 : decode b_Reducer_aboveOf 86 = .ok (.iload_n 3, 1) := by decide +kernel
theorem d_Reducer_aboveOf_87 : decode b_Reducer_aboveOf 87 = .ok (.ireturn, 1) := by decide +kernel
theorem d_Reducer_aboveOf_88 : decode b_Reducer_aboveOf 88 = .ok (.aload_n 0, 1) := by decide +kernel
theorem d_Reducer_aboveOf_89 : decode b_Reducer_aboveOf 89 = .ok (.getfield 18, 3) := by decide +kernel
theorem d_Reducer_aboveOf_92 : decode b_Reducer_aboveOf 92 = .ok (.iload 5, 2) := by decide +kernel
theorem d_Reducer_aboveOf_94 : decode b_Reducer_aboveOf 94 = .ok (.iload_n 2, 1) := by decide +kernel
theorem d_Reducer_aboveOf_95 : decode b_Reducer_aboveOf 95 = .ok (.invokevirtual 152, 3) := by decide +kernel
theorem d_Reducer_aboveOf_98 : decode b_Reducer_aboveOf 98 = .ok (.istore 6, 2) := by decide +kernel
theorem d_Reducer_aboveOf_100 : decode b_Reducer_aboveOf 100 = .ok (.aload_n 0, 1) := by decide +kernel
theorem d_Reducer_aboveOf_101 : decode b_Reducer_aboveOf 101 = .ok (.getfield 22, 3) := by decide +kernel
theorem d_Reducer_aboveOf_104 : decode b_Reducer_aboveOf 104 = .ok (.iload_n 3, 1) := by decide +kernel
theorem d_Reducer_aboveOf_105 : decode b_Reducer_aboveOf 105 = .ok (.invokevirtual 102, 3) := by decide +kernel
theorem d_Reducer_aboveOf_108 : decode b_Reducer_aboveOf 108 = .ok (.iconst 1, 1) := by decide +kernel
theorem d_Reducer_aboveOf_109 : decode b_Reducer_aboveOf 109 = .ok (.if_icmp .ne 25, 3) := by decide +kernel
theorem d_Reducer_aboveOf_112 : decode b_Reducer_aboveOf 112 = .ok (.aload_n 0, 1) := by decide +kernel
theorem d_Reducer_aboveOf_113 : decode b_Reducer_aboveOf 113 = .ok (.getfield 30, 3) := by decide +kernel
theorem d_Reducer_aboveOf_116 : decode b_Reducer_aboveOf 116 = .ok (.iload_n 3, 1) := by decide +kernel
theorem d_Reducer_aboveOf_117 : decode b_Reducer_aboveOf 117 = .ok (.invokevirtual 155, 3) := by decide +kernel
theorem d_Reducer_aboveOf_120 : decode b_Reducer_aboveOf 120 = .ok (.aload_n 0, 1) := by decide +kernel
theorem d_Reducer_aboveOf_121 : decode b_Reducer_aboveOf 121 = .ok (.getfield 30, 3) := by decide +kernel
theorem d_Reducer_aboveOf_124 : decode b_Reducer_aboveOf 124 = .ok (.iload 6, 2) := by decide +kernel
theorem d_Reducer_aboveOf_126 : decode b_Reducer_aboveOf 126 = .ok (.iconst 1, 1) := by decide +kernel
theorem d_Reducer_aboveOf_127 : decode b_Reducer_aboveOf 127 = .ok (.invokevirtual 161, 3) := by decide +kernel
theorem d_Reducer_aboveOf_130 : decode b_Reducer_aboveOf 130 = .ok (.istore_n 3, 1) := by decide +kernel
theorem d_Reducer_aboveOf_131 : decode b_Reducer_aboveOf 131 = .ok (.goto 41, 3) := by decide +kernel
theorem d_Reducer_aboveOf_134 : decode b_Reducer_aboveOf 134 = .ok (.aload_n 0, 1) := by decide +kernel
theorem d_Reducer_aboveOf_135 : decode b_Reducer_aboveOf 135 = .ok (.getfield 18, 3) := by decide +kernel
theorem d_Reducer_aboveOf_138 : decode b_Reducer_aboveOf 138 = .ok (.iload 5, 2) := by decide +kernel
theorem d_Reducer_aboveOf_140 : decode b_Reducer_aboveOf 140 = .ok (.invokevirtual 90, 3) := by decide +kernel
theorem d_Reducer_aboveOf_143 : decode b_Reducer_aboveOf 143 = .ok (.ifCond .le 26, 3) := by decide +kernel
theorem d_Reducer_aboveOf_146 : decode b_Reducer_aboveOf 146 = .ok (.aload_n 0, 1) := by decide +kernel
theorem d_Reducer_aboveOf_147 : decode b_Reducer_aboveOf 147 = .ok (.getfield 22, 3) := by decide +kernel
theorem d_Reducer_aboveOf_150 : decode b_Reducer_aboveOf 150 = .ok (.iconst 0, 1) := by decide +kernel
theorem d_Reducer_aboveOf_151 : decode b_Reducer_aboveOf 151 = .ok (.aload_n 0, 1) := by decide +kernel
theorem d_Reducer_aboveOf_152 : decode b_Reducer_aboveOf 152 = .ok (.getfield 22, 3) := by decide +kernel
theorem d_Reducer_aboveOf_155 : decode b_Reducer_aboveOf 155 = .ok (.iload 6, 2) := by decide +kernel
theorem d_Reducer_aboveOf_157 : decode b_Reducer_aboveOf 157 = .ok (.invokevirtual 109, 3) := by decide +kernel
theorem d_Reducer_aboveOf_160 : decode b_Reducer_aboveOf 160 = .ok (.iconst (-1), 1) := by decide +kernel
theorem d_Reducer_aboveOf_161 : decode b_Reducer_aboveOf 161 = .ok (.iconst (-1), 1) := by decide +kernel
theorem d_Reducer_aboveOf_162 : decode b_Reducer_aboveOf 162 = .ok (.invokevirtual 142, 3) := by decide +kernel
theorem d_Reducer_aboveOf_165 : decode b_Reducer_aboveOf 165 = .ok (.istore_n 3, 1) := by decide +kernel
theorem d_Reducer_aboveOf_166 : decode b_Reducer_aboveOf 166 = .ok (.goto 6, 3) := by decide +kernel
theorem d_Reducer_aboveOf_169 : decode b_Reducer_aboveOf 169 = .ok (.iload 6, 2) := by decide +kernel
theorem d_Reducer_aboveOf_171 : decode b_Reducer_aboveOf 171 = .ok (.istore_n 3, 1) := by decide +kernel
theorem d_Reducer_aboveOf_172 : decode b_Reducer_aboveOf 172 = .ok (.iload_n 3, 1) := by decide +kernel
theorem d_Reducer_aboveOf_173 : decode b_Reducer_aboveOf 173 = .ok (.ifCond .ge 6, 3) := by decide +kernel
theorem d_Reducer_aboveOf_176 : decode b_Reducer_aboveOf 176 = .ok (.bipush (-3), 2) := by decide +kernel
theorem d_Reducer_aboveOf_178 : decode b_Reducer_aboveOf 178 = .ok (.ireturn, 1) := by decide +kernel
theorem d_Reducer_aboveOf_179 : decode b_Reducer_aboveOf 179 = .ok (.iinc 4 1, 3) := by decide +kernel
theorem d_Reducer_aboveOf_182 : decode b_Reducer_aboveOf 182 = .ok (.goto (-138), 3) := by decide +kernel
theorem d_Reducer_aboveOf_185 : decode b_Reducer_aboveOf 185 = .ok (.iload_n 2, 1) := by decide +kernel
theorem d_Reducer_aboveOf_186 : decode b_Reducer_aboveOf 186 = .ok (.ifCond .ne 26, 3) := by decide +kernel
theorem d_Reducer_aboveOf_189 : decode b_Reducer_aboveOf 189 = .ok (.aload_n 0, 1) := by decide +kernel
theorem d_Reducer_aboveOf_190 : decode b_Reducer_aboveOf 190 = .ok (.getfield 22, 3) := by decide +kernel
theorem d_Reducer_aboveOf_193 : decode b_Reducer_aboveOf 193 = .ok (.iload_n 1, 1) := by decide +kernel
theorem d_Reducer_aboveOf_194 : decode b_Reducer_aboveOf 194 = .ok (.invokevirtual 164, 3) := by decide +kernel
theorem d_Reducer_aboveOf_197 : decode b_Reducer_aboveOf 197 = .ok (.ifCond .eq 15, 3) := by decide +kernel
theorem d_Reducer_aboveOf_200 : decode b_Reducer_aboveOf 200 = .ok (.aload_n 0, 1) := by decide +kernel
theorem d_Reducer_aboveOf_201 : decode b_Reducer_aboveOf 201 = .ok (.getfield 22, 3) := by decide +kernel
theorem d_Reducer_aboveOf_204 : decode b_Reducer_aboveOf 204 = .ok (.iload_n 1, 1) := by decide +kernel
theorem d_Reducer_aboveOf_205 : decode b_Reducer_aboveOf 205 = .ok (.invokevirtual 102, 3) := by decide +kernel
theorem d_Reducer_aboveOf_208 : decode b_Reducer_aboveOf 208 = .ok (.iconst 5, 1) := by decide +kernel
theorem d_Reducer_aboveOf_209 : decode b_Reducer_aboveOf 209 = .ok (.if_icmp .ne 5, 3) := by decide +kernel
theorem d_Reducer_aboveOf_212 : decode b_Reducer_aboveOf 212 = .ok (.iconst (-1), 1) := by decide +kernel
theorem d_Reducer_aboveOf_213 : decode b_Reducer_aboveOf 213 = .ok (.ireturn, 1) := by decide +kernel
theorem d_Reducer_aboveOf_214 : decode b_Reducer_aboveOf 214 = .ok (.aload_n 0, 1) := by decide +kernel
theorem d_Reducer_aboveOf_215 : decode b_Reducer_aboveOf 215 = .ok (.getfield 22, 3) := by decide +kernel
theorem d_Reducer_aboveOf_218 : decode b_Reducer_aboveOf 218 = .ok (.iconst 0, 1) := by decide +kernel
theorem d_Reducer_aboveOf_219 : decode b_Reducer_aboveOf 219 = .ok (.iconst 0, 1) := by decide +kernel
theorem d_Reducer_aboveOf_220 : decode b_Reducer_aboveOf 220 = .ok (.iconst (-1), 1) := by decide +kernel
theorem d_Reducer_aboveOf_221 : decode b_Reducer_aboveOf 221 = .ok (.iconst (-1), 1) := by decide +kernel
theorem d_Reducer_aboveOf_222 : decode b_Reducer_aboveOf 222 = .ok (.invokevirtual 142, 3) := by decide +kernel
theorem d_Reducer_aboveOf_225 : decode b_Reducer_aboveOf 225 = .ok (.ireturn, 1) := by decide +kernel
theorem d_Resolver_init_0 : decode b_Resolver_init 0 = .ok (.aload_n 0, 1) := by decide +kernel
theorem d_Resolver_init_1 : decode b_Resolver_init 1 = .ok (.invokespecial 3, 3) := by decide +kernel
theorem d_Resolver_init_4 : decode b_Resolver_init 4 = .ok (.aload_n 0, 1) := by decide +kernel
theorem d_Resolver_init_5 : decode b_Resolver_init 5 = .ok (.sipush 200, 3) := by decide +kernel
theorem d_Resolver_init_8 : decode b_Resolver_init 8 = .ok (.newarray .int, 2) := by decide +kernel
theorem d_Resolver_init_10 : decode b_Resolver_init 10 = .ok (.putfield 9, 3) := by decide +kernel
theorem d_Resolver_init_13 : decode b_Resolver_init 13 = .ok (.aload_n 0, 1) := by decide +kernel
theorem d_Resolver_init_14 : decode b_Resolver_init 14 = .ok (.bipush 12, 2) := by decide +kernel
theorem d_Resolver_init_16 : decode b_Resolver_init 16 = .ok (.newarray .int, 2) := by decide +kernel
theorem d_Resolver_init_18 : decode b_Resolver_init 18 = .ok (.putfield 15, 3) := by decide +kernel
theorem d_Resolver_init_21 : decode b_Resolver_init 21 = .ok (.aload_n 0, 1) := by decide +kernel
theorem d_Resolver_init_22 : decode b_Resolver_init 22 = .ok (.bipush 12, 2) := by decide +kernel
theorem d_Resolver_init_24 : decode b_Resolver_init 24 = .ok (.newarray .int, 2) := by decide +kernel
theorem d_Resolver_init_26 : decode b_Resolver_init 26 = .ok (.putfield 18, 3) := by decide +kernel
theorem d_Resolver_init_29 : decode b_Resolver_init 29 = .ok (.aload_n 0, 1) := by decide +kernel
theorem d_Resolver_init_30 : decode b_Resolver_init 30 = .ok (.aload_n 1, 1) := by decide +kernel
theorem d_Resolver_init_31 : decode b_Resolver_init 31 = .ok (.putfield 21, 3) := by decide +kernel
theorem d_Resolver_init_34 : decode b_Resolver_init 34 = .ok (.aload_n 0, 1) := by decide +kernel
theorem d_Resolver_init_35 : decode b_Resolver_init 35 = .ok (.aload_n 2, 1) := by decide +kernel
theorem d_Resolver_init_36 : decode b_Resolver_init 36 = .ok (.putfield 25, 3) := by decide +kernel
theorem d_Resolver_init_39 : decode b_Resolver_init 39 = .ok (.aload_n 0, 1) := by decide +kernel
theorem d_Resolver_init_40 : decode b_Resolver_init 40 = .ok (.aload_n 3, 1) := by decide +kernel
theorem d_Resolver_init_41 : decode b_Resolver_init 41 = .ok (.putfield 29, 3) := by decide +kernel
theorem d_Resolver_init_44 : decode b_Resolver_init 44 = .ok (.aload_n 0, 1) := by decide +kernel
theorem d_Resolver_init_45 : decode b_Resolver_init 45 = .ok (.aload 4, 2) := by decide +kernel
theorem d_Resolver_init_47 : decode b_Resolver_init 47 = .ok (.putfield 33, 3) := by decide +kernel
theorem d_Resolver_init_50 : decode b_Resolver_init 50 = .ok (.return_, 1) := by decide +kernel
theorem d_Resolver_choiceOf_0 : decode b_Resolver_choiceOf 0 = .ok (.iload_n 1, 1) := by decide +kernel
theorem d_Resolver_choiceOf_1 : decode b_Resolver_choiceOf 1 = .ok (.ifCond .lt 18, 3) := by decide +kernel
theorem d_Resolver_choiceOf_4 : decode b_Resolver_choiceOf 4 = .ok (.iload_n 1, 1) := by decide +kernel
theorem d_Resolver_choiceOf_5 : decode b_Resolver_choiceOf 5 = .ok (.bipush 12, 2) := by decide +kernel
theorem d_Resolver_choiceOf_7 : decode b_Resolver_choiceOf 7 = .ok (.if_icmp .ge 12, 3) := by decide +kernel
theorem d_Resolver_choiceOf_10 : decode b_Resolver_choiceOf 10 = .ok (.aload_n 0, 1) := by decide +kernel
theorem d_Resolver_choiceOf_11 : decode b_Resolver_choiceOf 11 = .ok (.getfield 18, 3) := by decide +kernel
theorem d_Resolver_choiceOf_14 : decode b_Resolver_choiceOf 14 = .ok (.iload_n 1, 1) := by decide +kernel
theorem d_Resolver_choiceOf_15 : decode b_Resolver_choiceOf 15 = .ok (.iaload, 1) := by decide +kernel
theorem d_Resolver_choiceOf_16 : decode b_Resolver_choiceOf 16 = .ok (.goto 4, 3) := by decide +kernel
theorem d_Resolver_choiceOf_19 : decode b_Resolver_choiceOf 19 = .ok (.iconst (-1), 1) := by decide +kernel
theorem d_Resolver_choiceOf_20 : decode b_Resolver_choiceOf 20 = .ok (.ireturn, 1) := by decide +kernel
theorem d_Resolver_nextGroup_0 : decode b_Resolver_nextGroup 0 = .ok (.iconst 0, 1) := by decide +kernel
theorem d_Resolver_nextGroup_1 : decode b_Resolver_nextGroup 1 = .ok (.istore_n 2, 1) := by decide +kernel
theorem d_Resolver_nextGroup_2 : decode b_Resolver_nextGroup 2 = .ok (.iconst 0, 1) := by decide +kernel
theorem d_Resolver_nextGroup_3 : decode b_Resolver_nextGroup 3 = .ok (.istore_n 3, 1) := by decide +kernel
theorem d_Resolver_nextGroup_4 : decode b_Resolver_nextGroup 4 = .ok (.iload_n 3, 1) := by decide +kernel
theorem d_Resolver_nextGroup_5 : decode b_Resolver_nextGroup 5 = .ok (.iload_n 1, 1) := by decide +kernel
theorem d_Resolver_nextGroup_6 : decode b_Resolver_nextGroup 6 = .ok (.if_icmp .ge 30, 3) := by decide +kernel
theorem d_Resolver_nextGroup_9 : decode b_Resolver_nextGroup 9 = .ok (.aload_n 0, 1) := by decide +kernel
theorem d_Resolver_nextGroup_10 : decode b_Resolver_nextGroup 10 = .ok (.getfield 29, 3) := by decide +kernel
theorem d_Resolver_nextGroup_13 : decode b_Resolver_nextGroup 13 = .ok (.iload_n 3, 1) := by decide +kernel
theorem d_Resolver_nextGroup_14 : decode b_Resolver_nextGroup 14 = .ok (.aload_n 0, 1) := by decide +kernel
theorem d_Resolver_nextGroup_15 : decode b_Resolver_nextGroup 15 = .ok (.getfield 25, 3) := by decide +kernel
theorem d_Resolver_nextGroup_18 : decode b_Resolver_nextGroup 18 = .ok (.invokevirtual 37, 3) := by decide +kernel
theorem d_Resolver_nextGroup_21 : decode b_Resolver_nextGroup 21 = .ok (.ifCond .ge 9, 3) := by decide +kernel
theorem d_Resolver_nextGroup_24 : decode b_Resolver_nextGroup 24 = .ok (.iload_n 2, 1) := by decide +kernel
theorem d_Resolver_nextGroup_25 : decode b_Resolver_nextGroup 25 = .ok (.iconst 1, 1) := by decide +kernel
theorem d_Resolver_nextGroup_26 : decode b_Resolver_nextGroup 26 = .ok (.iload_n 3, 1) := by decide +kernel
theorem d_Resolver_nextGroup_27 : decode b_Resolver_nextGroup 27 = .ok (.ishl, 1) := by decide +kernel
theorem d_Resolver_nextGroup_28 : decode b_Resolver_nextGroup 28 = .ok (.ior, 1) := by decide +kernel
theorem d_Resolver_nextGroup_29 : decode b_Resolver_nextGroup 29 = .ok (.istore_n 2, 1) := by decide +kernel
theorem d_Resolver_nextGroup_30 : decode b_Resolver_nextGroup 30 = .ok (.iinc 3 1, 3) := by decide +kernel
theorem d_Resolver_nextGroup_33 : decode b_Resolver_nextGroup 33 = .ok (.goto (-29), 3) := by decide +kernel
theorem d_Resolver_nextGroup_36 : decode b_Resolver_nextGroup 36 = .ok (.aload_n 0, 1) := by decide +kernel
theorem d_Resolver_nextGroup_37 : decode b_Resolver_nextGroup 37 = .ok (.iload_n 2, 1) := by decide +kernel
theorem d_Resolver_nextGroup_38 : decode b_Resolver_nextGroup 38 = .ok (.invokevirtual 43, 3) := by decide +kernel
theorem d_Resolver_nextGroup_41 : decode b_Resolver_nextGroup 41 = .ok (.iconst 0, 1) := by decide +kernel
theorem d_Resolver_nextGroup_42 : decode b_Resolver_nextGroup 42 = .ok (.istore_n 3, 1) := by decide +kernel
theorem d_Resolver_nextGroup_43 : decode b_Resolver_nextGroup 43 = .ok (.iconst 0, 1) := by decide +kernel
theorem d_Resolver_nextGroup_44 : decode b_Resolver_nextGroup 44 = .ok (.istore 4, 2) := by decide +kernel
theorem d_Resolver_nextGroup_46 : decode b_Resolver_nextGroup 46 = .ok (.iload 4, 2) := by decide +kernel
theorem d_Resolver_nextGroup_48 : decode b_Resolver_nextGroup 48 = .ok (.iload_n 1, 1) := by decide +kernel
theorem d_Resolver_nextGroup_49 : decode b_Resolver_nextGroup 49 = .ok (.if_icmp .ge 48, 3) := by decide +kernel
theorem d_Resolver_nextGroup_52 : decode b_Resolver_nextGroup 52 = .ok (.iload_n 2, 1) := by decide +kernel
theorem d_Resolver_nextGroup_53 : decode b_Resolver_nextGroup 53 = .ok (.iload 4, 2) := by decide +kernel
theorem d_Resolver_nextGroup_55 : decode b_Resolver_nextGroup 55 = .ok (.ishr, 1) := by decide +kernel
theorem d_Resolver_nextGroup_56 : decode b_Resolver_nextGroup 56 = .ok (.iconst 1, 1) := by decide +kernel
theorem d_Resolver_nextGroup_57 : decode b_Resolver_nextGroup 57 = .ok (.iand, 1) := by decide +kernel
theorem d_Resolver_nextGroup_58 : decode b_Resolver_nextGroup 58 = .ok (.ifCond .ne 6, 3) := by decide +kernel
theorem d_Resolver_nextGroup_61 : decode b_Resolver_nextGroup 61 = .ok (.goto 30, 3) := by decide +kernel
theorem d_Resolver_nextGroup_64 : decode b_Resolver_nextGroup 64 = .ok (.aload_n 0, 1) := by decide +kernel
theorem d_Resolver_nextGroup_65 : decode b_Resolver_nextGroup 65 = .ok (.iload 4, 2) := by decide +kernel
theorem d_Resolver_nextGroup_67 : decode b_Resolver_nextGroup 67 = .ok (.invokevirtual 47, 3) := by decide +kernel
theorem d_Resolver_nextGroup_70 : decode b_Resolver_nextGroup 70 = .ok (.istore 5, 2) := by decide +kernel
theorem d_Resolver_nextGroup_72 : decode b_Resolver_nextGroup 72 = .ok (.iload_n 3, 1) := by decide +kernel
theorem d_Resolver_nextGroup_73 : decode b_Resolver_nextGroup 73 = .ok (.ifCond .eq 15, 3) := by decide +kernel
theorem d_Resolver_nextGroup_76 : decode b_Resolver_nextGroup 76 = .ok (.iload 5, 2) := by decide +kernel
theorem d_Resolver_nextGroup_78 : decode b_Resolver_nextGroup 78 = .ok (.invokestatic 51, 3) := by decide +kernel
theorem d_Resolver_nextGroup_81 : decode b_Resolver_nextGroup 81 = .ok (.iload_n 3, 1) := by decide +kernel
theorem d_Resolver_nextGroup_82 : decode b_Resolver_nextGroup 82 = .ok (.invokestatic 51, 3) := by decide +kernel
theorem d_Resolver_nextGroup_85 : decode b_Resolver_nextGroup 85 = .ok (.if_icmp .ge 6, 3) := by decide +kernel
theorem d_Resolver_nextGroup_88 : decode b_Resolver_nextGroup 88 = .ok (.iload 5, 2) := by decide +kernel
theorem d_Resolver_nextGroup_90 : decode b_Resolver_nextGroup 90 = .ok (.istore_n 3, 1) := by decide +kernel
theorem d_Resolver_nextGroup_91 : decode b_Resolver_nextGroup 91 = .ok (.iinc 4 1, 3) := by decide +kernel
theorem d_Resolver_nextGroup_94 : decode b_Resolver_nextGroup 94 = .ok (.goto (-48), 3) := by decide +kernel
theorem d_Resolver_nextGroup_97 : decode b_Resolver_nextGroup 97 = .ok (.iload_n 3, 1) := by decide +kernel
theorem d_Resolver_nextGroup_98 : decode b_Resolver_nextGroup 98 = .ok (.ireturn, 1) := by decide +kernel
theorem d_Resolver_link_0 : decode b_Resolver_link 0 = .ok (.aload_n 0, 1) := by decide +kernel
theorem d_Resolver_link_1 : decode b_Resolver_link 1 = .ok (.getfield 15, 3) := by decide +kernel
theorem d_Resolver_link_4 : decode b_Resolver_link 4 = .ok (.iconst 0, 1) := by decide +kernel
theorem d_Resolver_link_5 : decode b_Resolver_link 5 = .ok (.invokestatic 56, 3) := by decide +kernel
theorem d_Resolver_link_8 : decode b_Resolver_link 8 = .ok (.iconst 0, 1) := by decide +kernel
theorem d_Resolver_link_9 : decode b_Resolver_link 9 = .ok (.istore_n 2, 1) := by decide +kernel
theorem d_Resolver_link_10 : decode b_Resolver_link 10 = .ok (.iload_n 2, 1) := by decide +kernel
theorem d_Resolver_link_11 : decode b_Resolver_link 11 = .ok (.aload_n 0, 1) := by decide +kernel
theorem d_Resolver_link_12 : decode b_Resolver_link 12 = .ok (.getfield 29, 3) := by decide +kernel
theorem d_Resolver_link_15 : decode b_Resolver_link 15 = .ok (.getfield 62, 3) := by decide +kernel
theorem d_Resolver_link_18 : decode b_Resolver_link 18 = .ok (.if_icmp .ge 108, 3) := by decide +kernel
theorem d_Resolver_link_21 : decode b_Resolver_link 21 = .ok (.aload_n 0, 1) := by decide +kernel
theorem d_Resolver_link_22 : decode b_Resolver_link 22 = .ok (.getfield 29, 3) := by decide +kernel
theorem d_Resolver_link_25 : decode b_Resolver_link 25 = .ok (.iload_n 2, 1) := by decide +kernel
theorem d_Resolver_link_26 : decode b_Resolver_link 26 = .ok (.invokevirtual 66, 3) := by decide +kernel
theorem d_Resolver_link_29 : decode b_Resolver_link 29 = .ok (.istore_n 3, 1) := by decide +kernel
theorem d_Resolver_link_30 : decode b_Resolver_link 30 = .ok (.iload_n 3, 1) := by decide +kernel
theorem d_Resolver_link_31 : decode b_Resolver_link 31 = .ok (.ifCond .lt 89, 3) := by decide +kernel
theorem d_Resolver_link_34 : decode b_Resolver_link 34 = .ok (.iload_n 3, 1) := by decide +kernel
theorem d_Resolver_link_35 : decode b_Resolver_link 35 = .ok (.bipush 12, 2) := by decide +kernel
theorem d_Resolver_link_37 : decode b_Resolver_link 37 = .ok (.if_icmp .ge 83, 3) := by decide +kernel
theorem d_Resolver_link_40 : decode b_Resolver_link 40 = .ok (.iload_n 1, 1) := by decide +kernel
theorem d_Resolver_link_41 : decode b_Resolver_link 41 = .ok (.iload_n 3, 1) := by decide +kernel
theorem d_Resolver_link_42 : decode b_Resolver_link 42 = .ok (.ishr, 1) := by decide +kernel
theorem d_Resolver_link_43 : decode b_Resolver_link 43 = .ok (.iconst 1, 1) := by decide +kernel
theorem d_Resolver_link_44 : decode b_Resolver_link 44 = .ok (.iand, 1) := by decide +kernel
theorem d_Resolver_link_45 : decode b_Resolver_link 45 = .ok (.ifCond .ne 6, 3) := by decide +kernel
theorem d_Resolver_link_48 : decode b_Resolver_link 48 = .ok (.goto 72, 3) := by decide +kernel
theorem d_Resolver_link_51 : decode b_Resolver_link 51 = .ok (.aload_n 0, 1) := by decide +kernel
theorem d_Resolver_link_52 : decode b_Resolver_link 52 = .ok (.getfield 25, 3) := by decide +kernel
theorem d_Resolver_link_55 : decode b_Resolver_link 55 = .ok (.aload_n 0, 1) := by decide +kernel
theorem d_Resolver_link_56 : decode b_Resolver_link 56 = .ok (.getfield 29, 3) := by decide +kernel
theorem d_Resolver_link_59 : decode b_Resolver_link 59 = .ok (.iload_n 2, 1) := by decide +kernel
theorem d_Resolver_link_60 : decode b_Resolver_link 60 = .ok (.invokevirtual 69, 3) := by decide +kernel
theorem d_Resolver_link_63 : decode b_Resolver_link 63 = .ok (.invokevirtual 72, 3) := by decide +kernel
theorem d_Resolver_link_66 : decode b_Resolver_link 66 = .ok (.iload_n 1, 1) := by decide +kernel
theorem d_Resolver_link_67 : decode b_Resolver_link 67 = .ok (.iand, 1) := by decide +kernel
theorem d_Resolver_link_68 : decode b_Resolver_link 68 = .ok (.istore 4, 2) := by decide +kernel
theorem d_Resolver_link_70 : decode b_Resolver_link 70 = .ok (.aload_n 0, 1) := by decide +kernel
theorem d_Resolver_link_71 : decode b_Resolver_link 71 = .ok (.getfield 15, 3) := by decide +kernel
theorem d_Resolver_link_74 : decode b_Resolver_link 74 = .ok (.iload_n 3, 1) := by decide +kernel
theorem d_Resolver_link_75 : decode b_Resolver_link 75 = .ok (.dup2, 1) := by decide +kernel
theorem d_Resolver_link_76 : decode b_Resolver_link 76 = .ok (.iaload, 1) := by decide +kernel
theorem d_Resolver_link_77 : decode b_Resolver_link 77 = .ok (.iload 4, 2) := by decide +kernel
theorem d_Resolver_link_79 : decode b_Resolver_link 79 = .ok (.ior, 1) := by decide +kernel
theorem d_Resolver_link_80 : decode b_Resolver_link 80 = .ok (.iastore, 1) := by decide +kernel
theorem d_Resolver_link_81 : decode b_Resolver_link 81 = .ok (.iconst 0, 1) := by decide +kernel
theorem d_Resolver_link_82 : decode b_Resolver_link 82 = .ok (.istore 5, 2) := by decide +kernel
theorem d_Resolver_link_84 : decode b_Resolver_link 84 = .ok (.iload 5, 2) := by decide +kernel
theorem d_Resolver_link_86 : decode b_Resolver_link 86 = .ok (.bipush 12, 2) := by decide +kernel
theorem d_Resolver_link_88 : decode b_Resolver_link 88 = .ok (.if_icmp .ge 32, 3) := by decide +kernel
theorem d_Resolver_link_91 : decode b_Resolver_link 91 = .ok (.iload 4, 2) := by decide +kernel
theorem d_Resolver_link_93 : decode b_Resolver_link 93 = .ok (.iload 5, 2) := by decide +kernel
theorem d_Resolver_link_95 : decode b_Resolver_link 95 = .ok (.ishr, 1) := by decide +kernel
theorem d_Resolver_link_96 : decode b_Resolver_link 96 = .ok (.iconst 1, 1) := by decide +kernel
theorem d_Resolver_link_97 : decode b_Resolver_link 97 = .ok (.iand, 1) := by decide +kernel
theorem d_Resolver_link_98 : decode b_Resolver_link 98 = .ok (.ifCond .eq 16, 3) := by decide +kernel
theorem d_Resolver_link_101 : decode b_Resolver_link 101 = .ok (.aload_n 0, 1) := by decide +kernel
theorem d_Resolver_link_102 : decode b_Resolver_link 102 = .ok (.getfield 15, 3) := by decide +kernel
theorem d_Resolver_link_105 : decode b_Resolver_link 105 = .ok (.iload 5, 2) := by decide +kernel
theorem d_Resolver_link_107 : decode b_Resolver_link 107 = .ok (.dup2, 1) := by decide +kernel
theorem d_Resolver_link_108 : decode b_Resolver_link 108 = .ok (.iaload, 1) := by decide +kernel
theorem d_Resolver_link_109 : decode b_Resolver_link 109 = .ok (.iconst 1, 1) := by decide +kernel
theorem d_Resolver_link_110 : decode b_Resolver_link 110 = .ok (.iload_n 3, 1) := by decide +kernel
theorem d_Resolver_link_111 : decode b_Resolver_link 111 = .ok (.ishl, 1) := by decide +kernel
theorem d_Resolver_link_112 : decode b_Resolver_link 112 = .ok (.ior, 1) := by decide +kernel
theorem d_Resolver_link_113 : decode b_Resolver_link 113 = .ok (.iastore, 1) := by decide +kernel
theorem d_Resolver_link_114 : decode b_Resolver_link 114 = .ok (.iinc 5 1, 3) := by decide +kernel
theorem d_Resolver_link_117 : decode b_Resolver_link 117 = .ok (.goto (-33), 3) := by decide +kernel
theorem d_Resolver_link_120 : decode b_Resolver_link 120 = .ok (.iinc 2 1, 3) := by decide +kernel
theorem d_Resolver_link_123 : decode b_Resolver_link 123 = .ok (.goto (-113), 3) := by decide +kernel
theorem d_Resolver_link_126 : decode b_Resolver_link 126 = .ok (.return_, 1) := by decide +kernel
theorem d_Resolver_groupOf_0 : decode b_Resolver_groupOf 0 = .ok (.iconst 1, 1) := by decide +kernel
theorem d_Resolver_groupOf_1 : decode b_Resolver_groupOf 1 = .ok (.iload_n 1, 1) := by decide +kernel
theorem d_Resolver_groupOf_2 : decode b_Resolver_groupOf 2 = .ok (.ishl, 1) := by decide +kernel
theorem d_Resolver_groupOf_3 : decode b_Resolver_groupOf 3 = .ok (.istore_n 2, 1) := by decide +kernel
theorem d_Resolver_groupOf_4 : decode b_Resolver_groupOf 4 = .ok (.iconst 0, 1) := by decide +kernel
theorem d_Resolver_groupOf_5 : decode b_Resolver_groupOf 5 = .ok (.istore_n 3, 1) := by decide +kernel
theorem d_Resolver_groupOf_6 : decode b_Resolver_groupOf 6 = .ok (.iload_n 3, 1) := by decide +kernel
theorem d_Resolver_groupOf_7 : decode b_Resolver_groupOf 7 = .ok (.bipush 12, 2) := by decide +kernel
theorem d_Resolver_groupOf_9 : decode b_Resolver_groupOf 9 = .ok (.if_icmp .ge 44, 3) := by decide +kernel
theorem d_Resolver_groupOf_12 : decode b_Resolver_groupOf 12 = .ok (.iconst 0, 1) := by decide +kernel
theorem d_Resolver_groupOf_13 : decode b_Resolver_groupOf 13 = .ok (.istore 4, 2) := by decide +kernel
theorem d_Resolver_groupOf_15 : decode b_Resolver_groupOf 15 = .ok (.iload 4, 2) := by decide +kernel
theorem d_Resolver_groupOf_17 : decode b_Resolver_groupOf 17 = .ok (.bipush 12, 2) := by decide +kernel
theorem d_Resolver_groupOf_19 : decode b_Resolver_groupOf 19 = .ok (.if_icmp .ge 28, 3) := by decide +kernel
theorem d_Resolver_groupOf_22 : decode b_Resolver_groupOf 22 = .ok (.iload_n 2, 1) := by decide +kernel
theorem d_Resolver_groupOf_23 : decode b_Resolver_groupOf 23 = .ok (.iload 4, 2) := by decide +kernel
theorem d_Resolver_groupOf_25 : decode b_Resolver_groupOf 25 = .ok (.ishr, 1) := by decide +kernel
theorem d_Resolver_groupOf_26 : decode b_Resolver_groupOf 26 = .ok (.iconst 1, 1) := by decide +kernel
theorem d_Resolver_groupOf_27 : decode b_Resolver_groupOf 27 = .ok (.iand, 1) := by decide +kernel
theorem d_Resolver_groupOf_28 : decode b_Resolver_groupOf 28 = .ok (.ifCond .eq 13, 3) := by decide +kernel
theorem d_Resolver_groupOf_31 : decode b_Resolver_groupOf 31 = .ok (.iload_n 2, 1) := by decide +kernel
theorem d_Resolver_groupOf_32 : decode b_Resolver_groupOf 32 = .ok (.aload_n 0, 1) := by decide +kernel
theorem d_Resolver_groupOf_33 : decode b_Resolver_groupOf 33 = .ok (.getfield 15, 3) := by decide +kernel
theorem d_Resolver_groupOf_36 : decode b_Resolver_groupOf 36 = .ok (.iload 4, 2) := by decide +kernel
theorem d_Resolver_groupOf_38 : decode b_Resolver_groupOf 38 = .ok (.iaload, 1) := by decide +kernel
theorem d_Resolver_groupOf_39 : decode b_Resolver_groupOf 39 = .ok (.ior, 1) := by decide +kernel
theorem d_Resolver_groupOf_40 : decode b_Resolver_groupOf 40 = .ok (.istore_n 2, 1) := by decide +kernel
theorem d_Resolver_groupOf_41 : decode b_Resolver_groupOf 41 = .ok (.iinc 4 1, 3) := by decide +kernel
theorem d_Resolver_groupOf_44 : decode b_Resolver_groupOf 44 = .ok (.goto (-29), 3) := by decide +kernel
theorem d_Resolver_groupOf_47 : decode b_Resolver_groupOf 47 = .ok (.iinc 3 1, 3) := by decide +kernel
theorem d_Resolver_groupOf_50 : decode b_Resolver_groupOf 50 = .ok (.goto (-44), 3) := by decide +kernel
theorem d_Resolver_groupOf_53 : decode b_Resolver_groupOf 53 = .ok (.iload_n 2, 1) := by decide +kernel
theorem d_Resolver_groupOf_54 : decode b_Resolver_groupOf 54 = .ok (.ireturn, 1) := by decide +kernel
theorem d_Resolver_choose_0 : decode b_Resolver_choose 0 = .ok (.iload_n 1, 1) := by decide +kernel
theorem d_Resolver_choose_1 : decode b_Resolver_choose 1 = .ok (.ifCond .lt 9, 3) := by decide +kernel
theorem d_Resolver_choose_4 : decode b_Resolver_choose 4 = .ok (.iload_n 1, 1) := by decide +kernel
theorem d_Resolver_choose_5 : decode b_Resolver_choose 5 = .ok (.bipush 12, 2) := by decide +kernel
theorem d_Resolver_choose_7 : decode b_Resolver_choose 7 = .ok (.if_icmp .lt 5, 3) := by decide +kernel
theorem d_Resolver_choose_10 : decode b_Resolver_choose 10 = .ok (.iconst 0, 1) := by decide +kernel
theorem d_Resolver_choose_11 : decode b_Resolver_choose 11 = .ok (.ireturn, 1) := by decide +kernel
theorem d_Resolver_choose_12 : decode b_Resolver_choose 12 = .ok (.aload_n 0, 1) := by decide +kernel
theorem d_Resolver_choose_13 : decode b_Resolver_choose 13 = .ok (.iconst 2, 1) := by decide +kernel
theorem d_Resolver_choose_14 : decode b_Resolver_choose 14 = .ok (.iload_n 1, 1) := by decide +kernel
theorem d_Resolver_choose_15 : decode b_Resolver_choose 15 = .ok (.invokevirtual 77, 3) := by decide +kernel
theorem d_Resolver_choose_18 : decode b_Resolver_choose 18 = .ok (.aload_n 0, 1) := by decide +kernel
theorem d_Resolver_choose_19 : decode b_Resolver_choose 19 = .ok (.getfield 81, 3) := by decide +kernel
theorem d_Resolver_choose_22 : decode b_Resolver_choose 22 = .ok (.ifCond .le 22, 3) := by decide +kernel
theorem d_Resolver_choose_25 : decode b_Resolver_choose 25 = .ok (.aload_n 0, 1) := by decide +kernel
theorem d_Resolver_choose_26 : decode b_Resolver_choose 26 = .ok (.iconst 2, 1) := by decide +kernel
theorem d_Resolver_choose_27 : decode b_Resolver_choose 27 = .ok (.invokevirtual 84, 3) := by decide +kernel
theorem d_Resolver_choose_30 : decode b_Resolver_choose 30 = .ok (.istore_n 2, 1) := by decide +kernel
theorem d_Resolver_choose_31 : decode b_Resolver_choose 31 = .ok (.iload_n 2, 1) := by decide +kernel
theorem d_Resolver_choose_32 : decode b_Resolver_choose 32 = .ok (.iconst (-1), 1) := by decide +kernel
theorem d_Resolver_choose_33 : decode b_Resolver_choose 33 = .ok (.if_icmp .ne 44, 3) := by decide +kernel
theorem d_Resolver_choose_36 : decode b_Resolver_choose 36 = .ok (.aload_n 0, 1) := by decide +kernel
theorem d_Resolver_choose_37 : decode b_Resolver_choose 37 = .ok (.invokevirtual 87, 3) := by decide +kernel
theorem d_Resolver_choose_40 : decode b_Resolver_choose 40 = .ok (.istore_n 2, 1) := by decide +kernel
theorem d_Resolver_choose_41 : decode b_Resolver_choose 41 = .ok (.goto 36, 3) := by decide +kernel
theorem d_Resolver_choose_44 : decode b_Resolver_choose 44 = .ok (.aload_n 0, 1) := by decide +kernel
theorem d_Resolver_choose_45 : decode b_Resolver_choose 45 = .ok (.iconst 1, 1) := by decide +kernel
theorem d_Resolver_choose_46 : decode b_Resolver_choose 46 = .ok (.iload_n 1, 1) := by decide +kernel
theorem d_Resolver_choose_47 : decode b_Resolver_choose 47 = .ok (.invokevirtual 77, 3) := by decide +kernel
theorem d_Resolver_choose_50 : decode b_Resolver_choose 50 = .ok (.aload_n 0, 1) := by decide +kernel
theorem d_Resolver_choose_51 : decode b_Resolver_choose 51 = .ok (.getfield 81, 3) := by decide +kernel
theorem d_Resolver_choose_54 : decode b_Resolver_choose 54 = .ok (.ifCond .le 11, 3) := by decide +kernel
theorem d_Resolver_choose_57 : decode b_Resolver_choose 57 = .ok (.aload_n 0, 1) := by decide +kernel
theorem d_Resolver_choose_58 : decode b_Resolver_choose 58 = .ok (.iconst 1, 1) := by decide +kernel
theorem d_Resolver_choose_59 : decode b_Resolver_choose 59 = .ok (.invokevirtual 84, 3) := by decide +kernel
theorem d_Resolver_choose_62 : decode b_Resolver_choose 62 = .ok (.goto 14, 3) := by decide +kernel
theorem d_Resolver_choose_65 : decode b_Resolver_choose 65 = .ok (.aload_n 0, 1) := by decide +kernel
theorem d_Resolver_choose_66 : decode b_Resolver_choose 66 = .ok (.getfield 25, 3) := by decide +kernel
theorem d_Resolver_choose_69 : decode b_Resolver_choose 69 = .ok (.iconst 0, 1) := by decide +kernel
theorem d_Resolver_choose_70 : decode b_Resolver_choose 70 = .ok (.iconst 0, 1) := by decide +kernel
theorem d_Resolver_choose_71 : decode b_Resolver_choose 71 = .ok (.iconst (-1), 1) := by decide +kernel
theorem d_Resolver_choose_72 : decode b_Resolver_choose 72 = .ok (.iconst (-1), 1) := by decide +kernel
theorem d_Resolver_choose_73 : decode b_Resolver_choose 73 = .ok (.invokevirtual 91, 3) := by decide +kernel
theorem d_Resolver_choose_76 : decode b_Resolver_choose 76 = .ok (.istore_n 2, 1) := by decide +kernel
theorem d_Resolver_choose_77 : decode b_Resolver_choose 77 = .ok (.aload_n 0, 1) := by decide +kernel
theorem d_Resolver_choose_78 : decode b_Resolver_choose 78 = .ok (.getfield 18, 3) := by decide +kernel
theorem d_Resolver_choose_81 : decode b_Resolver_choose 81 = .ok (.iload_n 1, 1) := by decide +kernel
theorem d_Resolver_choose_82 : decode b_Resolver_choose 82 = .ok (.iload_n 2, 1) := by decide +kernel
theorem d_Resolver_choose_83 : decode b_Resolver_choose 83 = .ok (.iastore, 1) := by decide +kernel
theorem d_Resolver_choose_84 : decode b_Resolver_choose 84 = .ok (.iload_n 2, 1) := by decide +kernel
theorem d_Resolver_choose_85 : decode b_Resolver_choose 85 = .ok (.ifCond .lt 5, 3) := by decide +kernel
theorem d_Resolver_choose_88 : decode b_Resolver_choose 88 = .ok (.iconst 1, 1) := by decide +kernel
theorem d_Resolver_choose_89 : decode b_Resolver_choose 89 = .ok (.ireturn, 1) := by decide +kernel
theorem d_Resolver_choose_90 : decode b_Resolver_choose 90 = .ok (.iload_n 2, 1) := by decide +kernel
theorem d_Resolver_choose_91 : decode b_Resolver_choose 91 = .ok (.bipush (-3), 2) := by decide +kernel
theorem d_Resolver_choose_93 : decode b_Resolver_choose 93 = .ok (.if_icmp .ne 8, 3) := by decide +kernel
theorem d_Resolver_choose_96 : decode b_Resolver_choose 96 = .ok (.bipush (-3), 2) := by decide +kernel
theorem d_Resolver_choose_98 : decode b_Resolver_choose 98 = .ok (.goto 4, 3) := by decide +kernel
theorem d_Resolver_choose_101 : decode b_Resolver_choose 101 = .ok (.iconst 0, 1) := by decide +kernel
theorem d_Resolver_choose_102 : decode b_Resolver_choose 102 = .ok (.ireturn, 1) := by decide +kernel
theorem d_Resolver_gather_0 : decode b_Resolver_gather 0 = .ok (.aload_n 0, 1) := by decide +kernel
theorem d_Resolver_gather_1 : decode b_Resolver_gather 1 = .ok (.iconst 0, 1) := by decide +kernel
theorem d_Resolver_gather_2 : decode b_Resolver_gather 2 = .ok (.putfield 81, 3) := by decide +kernel
theorem d_Resolver_gather_5 : decode b_Resolver_gather 5 = .ok (.iconst 0, 1) := by decide +kernel
theorem d_Resolver_gather_6 : decode b_Resolver_gather 6 = .ok (.istore_n 3, 1) := by decide +kernel
theorem d_Resolver_gather_7 : decode b_Resolver_gather 7 = .ok (.iload_n 3, 1) := by decide +kernel
theorem d_Resolver_gather_8 : decode b_Resolver_gather 8 = .ok (.aload_n 0, 1) := by decide +kernel
theorem d_Resolver_gather_9 : decode b_Resolver_gather 9 = .ok (.getfield 29, 3) := by decide +kernel
theorem d_Resolver_gather_12 : decode b_Resolver_gather 12 = .ok (.getfield 62, 3) := by decide +kernel
theorem d_Resolver_gather_15 : decode b_Resolver_gather 15 = .ok (.if_icmp .ge 94, 3) := by decide +kernel
theorem d_Resolver_gather_18 : decode b_Resolver_gather 18 = .ok (.aload_n 0, 1) := by decide +kernel
theorem d_Resolver_gather_19 : decode b_Resolver_gather 19 = .ok (.getfield 81, 3) := by decide +kernel
theorem d_Resolver_gather_22 : decode b_Resolver_gather 22 = .ok (.sipush 200, 3) := by decide +kernel
theorem d_Resolver_gather_25 : decode b_Resolver_gather 25 = .ok (.if_icmp .ge 84, 3) := by decide +kernel
theorem d_Resolver_gather_28 : decode b_Resolver_gather 28 = .ok (.aload_n 0, 1) := by decide +kernel
theorem d_Resolver_gather_29 : decode b_Resolver_gather 29 = .ok (.getfield 29, 3) := by decide +kernel
theorem d_Resolver_gather_32 : decode b_Resolver_gather 32 = .ok (.iload_n 3, 1) := by decide +kernel
theorem d_Resolver_gather_33 : decode b_Resolver_gather 33 = .ok (.invokevirtual 95, 3) := by decide +kernel
theorem d_Resolver_gather_36 : decode b_Resolver_gather 36 = .ok (.iload_n 1, 1) := by decide +kernel
theorem d_Resolver_gather_37 : decode b_Resolver_gather 37 = .ok (.if_icmp .ne 66, 3) := by decide +kernel
theorem d_Resolver_gather_40 : decode b_Resolver_gather 40 = .ok (.aload_n 0, 1) := by decide +kernel
theorem d_Resolver_gather_41 : decode b_Resolver_gather 41 = .ok (.getfield 29, 3) := by decide +kernel
theorem d_Resolver_gather_44 : decode b_Resolver_gather 44 = .ok (.iload_n 3, 1) := by decide +kernel
theorem d_Resolver_gather_45 : decode b_Resolver_gather 45 = .ok (.invokevirtual 66, 3) := by decide +kernel
theorem d_Resolver_gather_48 : decode b_Resolver_gather 48 = .ok (.iload_n 2, 1) := by decide +kernel
theorem d_Resolver_gather_49 : decode b_Resolver_gather 49 = .ok (.if_icmp .eq 6, 3) := by decide +kernel
theorem d_Resolver_gather_52 : decode b_Resolver_gather 52 = .ok (.goto 51, 3) := by decide +kernel
theorem d_Resolver_gather_55 : decode b_Resolver_gather 55 = .ok (.aload_n 0, 1) := by decide +kernel
theorem d_Resolver_gather_56 : decode b_Resolver_gather 56 = .ok (.getfield 25, 3) := by decide +kernel
theorem d_Resolver_gather_59 : decode b_Resolver_gather 59 = .ok (.aload_n 0, 1) := by decide +kernel
theorem d_Resolver_gather_60 : decode b_Resolver_gather 60 = .ok (.getfield 29, 3) := by decide +kernel
theorem d_Resolver_gather_63 : decode b_Resolver_gather 63 = .ok (.iload_n 3, 1) := by decide +kernel
theorem d_Resolver_gather_64 : decode b_Resolver_gather 64 = .ok (.invokevirtual 69, 3) := by decide +kernel
theorem d_Resolver_gather_67 : decode b_Resolver_gather 67 = .ok (.invokevirtual 98, 3) := by decide +kernel
theorem d_Resolver_gather_70 : decode b_Resolver_gather 70 = .ok (.ifCond .ne 6, 3) := by decide +kernel
theorem d_Resolver_gather_73 : decode b_Resolver_gather 73 = .ok (.goto 30, 3) := by decide +kernel
theorem d_Resolver_gather_76 : decode b_Resolver_gather 76 = .ok (.aload_n 0, 1) := by decide +kernel
theorem d_Resolver_gather_77 : decode b_Resolver_gather 77 = .ok (.getfield 9, 3) := by decide +kernel
theorem d_Resolver_gather_80 : decode b_Resolver_gather 80 = .ok (.aload_n 0, 1) := by decide +kernel
theorem d_Resolver_gather_81 : decode b_Resolver_gather 81 = .ok (.getfield 81, 3) := by decide +kernel
theorem d_Resolver_gather_84 : decode b_Resolver_gather 84 = .ok (.aload_n 0, 1) := by decide +kernel
theorem d_Resolver_gather_85 : decode b_Resolver_gather 85 = .ok (.getfield 29, 3) := by decide +kernel
theorem d_Resolver_gather_88 : decode b_Resolver_gather 88 = .ok (.iload_n 3, 1) := by decide +kernel
theorem d_Resolver_gather_89 : decode b_Resolver_gather 89 = .ok (.invokevirtual 69, 3) := by decide +kernel
theorem d_Resolver_gather_92 : decode b_Resolver_gather 92 = .ok (.iastore, 1) := by decide +kernel
theorem d_Resolver_gather_93 : decode b_Resolver_gather 93 = .ok (.aload_n 0, 1) := by decide +kernel
theorem d_Resolver_gather_94 : decode b_Resolver_gather 94 = .ok (.dup, 1) := by decide +kernel
theorem d_Resolver_gather_95 : decode b_Resolver_gather 95 = .ok (.getfield 81, 3) := by decide +kernel
theorem d_Resolver_gather_98 : decode b_Resolver_gather 98 = .ok (.iconst 1, 1) := by decide +kernel
theorem d_Resolver_gather_99 : decode b_Resolver_gather 99 = .ok (.iadd, 1) := by decide +kernel
theorem d_Resolver_gather_100 : decode b_Resolver_gather 100 = .ok (.putfield 81, 3) := by decide +kernel
theorem d_Resolver_gather_103 : decode b_Resolver_gather 103 = .ok (.iinc 3 1, 3) := by decide +kernel
theorem d_Resolver_gather_106 : decode b_Resolver_gather 106 = .ok (.goto (-99), 3) := by decide +kernel
theorem d_Resolver_gather_109 : decode b_Resolver_gather 109 = .ok (.return_, 1) := by decide +kernel
theorem d_Resolver_outermost_0 : decode b_Resolver_outermost 0 = .ok (.iconst 0, 1) := by decide +kernel
theorem d_Resolver_outermost_1 : decode b_Resolver_outermost 1 = .ok (.istore_n 2, 1) := by decide +kernel
theorem d_Resolver_outermost_2 : decode b_Resolver_outermost 2 = .ok (.iload_n 2, 1) := by decide +kernel
theorem d_Resolver_outermost_3 : decode b_Resolver_outermost 3 = .ok (.aload_n 0, 1) := by decide +kernel
theorem d_Resolver_outermost_4 : decode b_Resolver_outermost 4 = .ok (.getfield 81, 3) := by decide +kernel
theorem d_Resolver_outermost_7 : decode b_Resolver_outermost 7 = .ok (.if_icmp .ge 128, 3) := by decide +kernel
theorem d_Resolver_outermost_10 : decode b_Resolver_outermost 10 = .ok (.iconst 1, 1) := by decide +kernel
theorem d_Resolver_outermost_11 : decode b_Resolver_outermost 11 = .ok (.istore_n 3, 1) := by decide +kernel
theorem d_Resolver_outermost_12 : decode b_Resolver_outermost 12 = .ok (.iconst 0, 1) := by decide +kernel
theorem d_Resolver_outermost_13 : decode b_Resolver_outermost 13 = .ok (.istore 4, 2) := by decide +kernel
theorem d_Resolver_outermost_15 : decode b_Resolver_outermost 15 = .ok (.iload 4, 2) := by decide +kernel
theorem d_Resolver_outermost_17 : decode b_Resolver_outermost 17 = .ok (.aload_n 0, 1) := by decide +kernel
theorem d_Resolver_outermost_18 : decode b_Resolver_outermost 18 = .ok (.getfield 81, 3) := by decide +kernel
theorem d_Resolver_outermost_21 : decode b_Resolver_outermost 21 = .ok (.if_icmp .ge 87, 3) := by decide +kernel
theorem d_Resolver_outermost_24 : decode b_Resolver_outermost 24 = .ok (.iload_n 3, 1) := by decide +kernel
theorem d_Resolver_outermost_25 : decode b_Resolver_outermost 25 = .ok (.iconst 1, 1) := by decide +kernel
theorem d_Resolver_outermost_26 : decode b_Resolver_outermost 26 = .ok (.if_icmp .ne 82, 3) := by decide +kernel
theorem d_Resolver_outermost_29 : decode b_Resolver_outermost 29 = .ok (.iload 4, 2) := by decide +kernel
theorem d_Resolver_outermost_31 : decode b_Resolver_outermost 31 = .ok (.iload_n 2, 1) := by decide +kernel
theorem d_Resolver_outermost_32 : decode b_Resolver_outermost 32 = .ok (.if_icmp .ne 6, 3) := by decide +kernel
theorem d_Resolver_outermost_35 : decode b_Resolver_outermost 35 = .ok (.goto 67, 3) := by decide +kernel
theorem d_Resolver_outermost_38 : decode b_Resolver_outermost 38 = .ok (.iload_n 1, 1) := by decide +kernel
theorem d_Resolver_outermost_39 : decode b_Resolver_outermost 39 = .ok (.iconst 2, 1) := by decide +kernel
theorem d_Resolver_outermost_40 : decode b_Resolver_outermost 40 = .ok (.if_icmp .ne 27, 3) := by decide +kernel
theorem d_Resolver_outermost_43 : decode b_Resolver_outermost 43 = .ok (.aload_n 0, 1) := by decide +kernel
theorem d_Resolver_outermost_44 : decode b_Resolver_outermost 44 = .ok (.getfield 33, 3) := by decide +kernel
theorem d_Resolver_outermost_47 : decode b_Resolver_outermost 47 = .ok (.iconst 1, 1) := by decide +kernel
theorem d_Resolver_outermost_48 : decode b_Resolver_outermost 48 = .ok (.aload_n 0, 1) := by decide +kernel
theorem d_Resolver_outermost_49 : decode b_Resolver_outermost 49 = .ok (.getfield 9, 3) := by decide +kernel
theorem d_Resolver_outermost_52 : decode b_Resolver_outermost 52 = .ok (.iload 4, 2) := by decide +kernel
theorem d_Resolver_outermost_54 : decode b_Resolver_outermost 54 = .ok (.iaload, 1) := by decide +kernel
theorem d_Resolver_outermost_55 : decode b_Resolver_outermost 55 = .ok (.aload_n 0, 1) := by decide +kernel
theorem d_Resolver_outermost_56 : decode b_Resolver_outermost 56 = .ok (.getfield 9, 3) := by decide +kernel
theorem d_Resolver_outermost_59 : decode b_Resolver_outermost 59 = .ok (.iload_n 2, 1) := by decide +kernel
theorem d_Resolver_outermost_60 : decode b_Resolver_outermost 60 = .ok (.iaload, 1) := by decide +kernel
theorem d_Resolver_outermost_61 : decode b_Resolver_outermost 61 = .ok (.invokevirtual 102, 3) := by decide +kernel
theorem d_Resolver_outermost_64 : decode b_Resolver_outermost 64 = .ok (.goto 24, 3) := by decide +kernel
theorem d_Resolver_outermost_67 : decode b_Resolver_outermost 67 = .ok (.aload_n 0, 1) := by decide +kernel
theorem d_Resolver_outermost_68 : decode b_Resolver_outermost 68 = .ok (.getfield 33, 3) := by decide +kernel
theorem d_Resolver_outermost_71 : decode b_Resolver_outermost 71 = .ok (.iconst 1, 1) := by decide +kernel
theorem d_Resolver_outermost_72 : decode b_Resolver_outermost 72 = .ok (.aload_n 0, 1) := by decide +kernel
theorem d_Resolver_outermost_73 : decode b_Resolver_outermost 73 = .ok (.getfield 9, 3) := by decide +kernel
theorem d_Resolver_outermost_76 : decode b_Resolver_outermost 76 = .ok (.iload_n 2, 1) := by decide +kernel
theorem d_Resolver_outermost_77 : decode b_Resolver_outermost 77 = .ok (.iaload, 1) := by decide +kernel
theorem d_Resolver_outermost_78 : decode b_Resolver_outermost 78 = .ok (.aload_n 0, 1) := by decide +kernel
theorem d_Resolver_outermost_79 : decode b_Resolver_outermost 79 = .ok (.getfield 9, 3) := by decide +kernel
theorem d_Resolver_outermost_82 : decode b_Resolver_outermost 82 = .ok (.iload 4, 2) := by decide +kernel
theorem d_Resolver_outermost_84 : decode b_Resolver_outermost 84 = .ok (.iaload, 1) := by decide +kernel
theorem d_Resolver_outermost_85 : decode b_Resolver_outermost 85 = .ok (.invokevirtual 102, 3) := by decide +kernel
theorem d_Resolver_outermost_88 : decode b_Resolver_outermost 88 = .ok (.istore_n 3, 1) := by decide +kernel
theorem d_Resolver_outermost_89 : decode b_Resolver_outermost 89 = .ok (.iload_n 3, 1) := by decide +kernel
theorem d_Resolver_outermost_90 : decode b_Resolver_outermost 90 = .ok (.iconst 1, 1) := by decide +kernel
theorem d_Resolver_outermost_91 : decode b_Resolver_outermost 91 = .ok (.if_icmp .ne 11, 3) := by decide +kernel
theorem d_Resolver_outermost_94 : decode b_Resolver_outermost 94 = .ok (.aload_n 0, 1) := by decide +kernel
theorem d_Resolver_outermost_95 : decode b_Resolver_outermost 95 = .ok (.getfield 33, 3) := by decide +kernel
theorem d_Resolver_outermost_98 : decode b_Resolver_outermost 98 = .ok (.invokevirtual 108, 3) := by decide +kernel
theorem d_Resolver_outermost_101 : decode b_Resolver_outermost 101 = .ok (.istore_n 3, 1) := by decide +kernel
theorem d_Resolver_outermost_102 : decode b_Resolver_outermost 102 = .ok (.iinc 4 1, 3) := by decide +kernel
theorem d_Resolver_outermost_105 : decode b_Resolver_outermost 105 = .ok (.goto (-90), 3) := by decide +kernel
theorem d_Resolver_outermost_108 : decode b_Resolver_outermost 108 = .ok (.iload_n 3, 1) := by decide +kernel
theorem d_Resolver_outermost_109 : decode b_Resolver_outermost 109 = .ok (.bipush (-3), 2) := by decide +kernel
theorem d_Resolver_outermost_111 : decode b_Resolver_outermost 111 = .ok (.if_icmp .ne 6, 3) := by decide +kernel
theorem d_Resolver_outermost_114 : decode b_Resolver_outermost 114 = .ok (.bipush (-3), 2) := by decide +kernel
theorem d_Resolver_outermost_116 : decode b_Resolver_outermost 116 = .ok (.ireturn, 1) := by decide +kernel
theorem d_Resolver_outermost_117 : decode b_Resolver_outermost 117 = .ok (.iload_n 3, 1) := by decide +kernel
theorem d_Resolver_outermost_118 : decode b_Resolver_outermost 118 = .ok (.iconst 1, 1) := by decide +kernel
theorem d_Resolver_outermost_119 : decode b_Resolver_outermost 119 = .ok (.if_icmp .ne 10, 3) := by decide +kernel
theorem d_Resolver_outermost_122 : decode b_Resolver_outermost 122 = .ok (.aload_n 0, 1) := by decide +kernel
theorem d_Resolver_outermost_123 : decode b_Resolver_outermost 123 = .ok (.getfield 9, 3) := by decide +kernel
theorem d_Resolver_outermost_126 : decode b_Resolver_outermost 126 = .ok (.iload_n 2, 1) := by decide +kernel
theorem d_Resolver_outermost_127 : decode b_Resolver_outermost 127 = .ok (.iaload, 1) := by decide +kernel
theorem d_Resolver_outermost_128 : decode b_Resolver_outermost 128 = .ok (.ireturn, 1) := by decide +kernel
theorem d_Resolver_outermost_129 : decode b_Resolver_outermost 129 = .ok (.iinc 2 1, 3) := by decide +kernel
theorem d_Resolver_outermost_132 : decode b_Resolver_outermost 132 = .ok (.goto (-130), 3) := by decide +kernel
theorem d_Resolver_outermost_135 : decode b_Resolver_outermost 135 = .ok (.iconst (-1), 1) := by decide +kernel
theorem d_Resolver_outermost_136 : decode b_Resolver_outermost 136 = .ok (.ireturn, 1) := by decide +kernel
theorem d_Resolver_joinOfClasses_0 : decode b_Resolver_joinOfClasses 0 = .ok (.lconst 0, 1) := by decide +kernel
theorem d_Resolver_joinOfClasses_1 : decode b_Resolver_joinOfClasses 1 = .ok (.lstore_n 1, 1) := by decide +kernel
theorem d_Resolver_joinOfClasses_2 : decode b_Resolver_joinOfClasses 2 = .ok (.iconst 0, 1) := by decide +kernel
theorem d_Resolver_joinOfClasses_3 : decode b_Resolver_joinOfClasses 3 = .ok (.istore_n 3, 1) := by decide +kernel
theorem d_Resolver_joinOfClasses_4 : decode b_Resolver_joinOfClasses 4 = .ok (.iload_n 3, 1) := by decide +kernel
theorem d_Resolver_joinOfClasses_5 : decode b_Resolver_joinOfClasses 5 = .ok (.aload_n 0, 1) := by decide +kernel
theorem d_Resolver_joinOfClasses_6 : decode b_Resolver_joinOfClasses 6 = .ok (.getfield 21, 3) := by decide +kernel
theorem d_Resolver_joinOfClasses_9 : decode b_Resolver_joinOfClasses 9 = .ok (.getfield 111, 3) := by decide +kernel
theorem d_Resolver_joinOfClasses_12 : decode b_Resolver_joinOfClasses 12 = .ok (.if_icmp .ge 38, 3) := by decide +kernel
theorem d_Resolver_joinOfClasses_15 : decode b_Resolver_joinOfClasses 15 = .ok (.aload_n 0, 1) := by decide +kernel
theorem d_Resolver_joinOfClasses_16 : decode b_Resolver_joinOfClasses 16 = .ok (.iload_n 3, 1) := by decide +kernel
theorem d_Resolver_joinOfClasses_17 : decode b_Resolver_joinOfClasses 17 = .ok (.invokevirtual 114, 3) := by decide +kernel
theorem d_Resolver_joinOfClasses_20 : decode b_Resolver_joinOfClasses 20 = .ok (.istore 4, 2) := by decide +kernel
theorem d_Resolver_joinOfClasses_22 : decode b_Resolver_joinOfClasses 22 = .ok (.iload 4, 2) := by decide +kernel
theorem d_Resolver_joinOfClasses_24 : decode b_Resolver_joinOfClasses 24 = .ok (.bipush (-3), 2) := by decide +kernel
theorem d_Resolver_joinOfClasses_26 : decode b_Resolver_joinOfClasses 26 = .ok (.if_icmp .ne 6, 3) := by decide +kernel
theorem d_Resolver_joinOfClasses_29 : decode b_Resolver_joinOfClasses 29 = .ok (.bipush (-3), 2) := by decide +kernel
theorem d_Resolver_joinOfClasses_31 : decode b_Resolver_joinOfClasses 31 = .ok (.ireturn, 1) := by decide +kernel
theorem d_Resolver_joinOfClasses_32 : decode b_Resolver_joinOfClasses 32 = .ok (.iload 4, 2) := by decide +kernel
theorem d_Resolver_joinOfClasses_34 : decode b_Resolver_joinOfClasses 34 = .ok (.iconst 1, 1) := by decide +kernel
theorem d_Resolver_joinOfClasses_35 : decode b_Resolver_joinOfClasses 35 = .ok (.if_icmp .ne 9, 3) := by decide +kernel
theorem d_Resolver_joinOfClasses_38 : decode b_Resolver_joinOfClasses 38 = .ok (.lload_n 1, 1) := by decide +kernel
theorem d_Resolver_joinOfClasses_39 : decode b_Resolver_joinOfClasses 39 = .ok (.lconst 1, 1) := by decide +kernel
theorem d_Resolver_joinOfClasses_40 : decode b_Resolver_joinOfClasses 40 = .ok (.iload_n 3, 1) := by decide +kernel
theorem d_Resolver_joinOfClasses_41 : decode b_Resolver_joinOfClasses 41 = .ok (.lshl, 1) := by decide +kernel
theorem d_Resolver_joinOfClasses_42 : decode b_Resolver_joinOfClasses 42 = .ok (.lor, 1) := by decide +kernel
theorem d_Resolver_joinOfClasses_43 : decode b_Resolver_joinOfClasses 43 = .ok (.lstore_n 1, 1) := by decide +kernel
theorem d_Resolver_joinOfClasses_44 : decode b_Resolver_joinOfClasses 44 = .ok (.iinc 3 1, 3) := by decide +kernel
theorem d_Resolver_joinOfClasses_47 : decode b_Resolver_joinOfClasses 47 = .ok (.goto (-43), 3) := by decide +kernel
theorem d_Resolver_joinOfClasses_50 : decode b_Resolver_joinOfClasses 50 = .ok (.iconst 0, 1) := by decide +kernel
theorem d_Resolver_joinOfClasses_51 : decode b_Resolver_joinOfClasses 51 = .ok (.istore_n 3, 1) := by decide +kernel
theorem d_Resolver_joinOfClasses_52 : decode b_Resolver_joinOfClasses 52 = .ok (.iload_n 3, 1) := by decide +kernel
theorem d_Resolver_joinOfClasses_53 : decode b_Resolver_joinOfClasses 53 = .ok (.aload_n 0, 1) := by decide +kernel
theorem d_Resolver_joinOfClasses_54 : decode b_Resolver_joinOfClasses 54 = .ok (.getfield 21, 3) := by decide +kernel
theorem d_Resolver_joinOfClasses_57 : decode b_Resolver_joinOfClasses 57 = .ok (.getfield 111, 3) := by decide +kernel
theorem d_Resolver_joinOfClasses_60 : decode b_Resolver_joinOfClasses 60 = .ok (.if_icmp .ge 51, 3) := by decide +kernel
theorem d_Resolver_joinOfClasses_63 : decode b_Resolver_joinOfClasses 63 = .ok (.lload_n 1, 1) := by decide +kernel
theorem d_Resolver_joinOfClasses_64 : decode b_Resolver_joinOfClasses 64 = .ok (.iload_n 3, 1) := by decide +kernel
theorem d_Resolver_joinOfClasses_65 : decode b_Resolver_joinOfClasses 65 = .ok (.lshr, 1) := by decide +kernel
theorem d_Resolver_joinOfClasses_66 : decode b_Resolver_joinOfClasses 66 = .ok (.lconst 1, 1) := by decide +kernel
theorem d_Resolver_joinOfClasses_67 : decode b_Resolver_joinOfClasses 67 = .ok (.land, 1) := by decide +kernel
theorem d_Resolver_joinOfClasses_68 : decode b_Resolver_joinOfClasses 68 = .ok (.lconst 0, 1) := by decide +kernel
theorem d_Resolver_joinOfClasses_69 : decode b_Resolver_joinOfClasses 69 = .ok (.lcmp, 1) := by decide +kernel
theorem d_Resolver_joinOfClasses_70 : decode b_Resolver_joinOfClasses 70 = .ok (.ifCond .ne 6, 3) := by decide +kernel
theorem d_Resolver_joinOfClasses_73 : decode b_Resolver_joinOfClasses 73 = .ok (.goto 32, 3) := by decide +kernel
theorem d_Resolver_joinOfClasses_76 : decode b_Resolver_joinOfClasses 76 = .ok (.aload_n 0, 1) := by decide +kernel
theorem d_Resolver_joinOfClasses_77 : decode b_Resolver_joinOfClasses 77 = .ok (.iload_n 3, 1) := by decide +kernel
theorem d_Resolver_joinOfClasses_78 : decode b_Resolver_joinOfClasses 78 = .ok (.lload_n 1, 1) := by decide +kernel
theorem d_Resolver_joinOfClasses_79 : decode b_Resolver_joinOfClasses 79 = .ok (.invokevirtual 117, 3) := by decide +kernel
theorem d_Resolver_joinOfClasses_82 : decode b_Resolver_joinOfClasses 82 = .ok (.istore 4, 2) := by decide +kernel
theorem d_Resolver_joinOfClasses_84 : decode b_Resolver_joinOfClasses 84 = .ok (.iload 4, 2) := by decide +kernel
theorem d_Resolver_joinOfClasses_86 : decode b_Resolver_joinOfClasses 86 = .ok (.bipush (-3), 2) := by decide +kernel
theorem d_Resolver_joinOfClasses_88 : decode b_Resolver_joinOfClasses 88 = .ok (.if_icmp .ne 6, 3) := by decide +kernel
theorem d_Resolver_joinOfClasses_91 : decode b_Resolver_joinOfClasses 91 = .ok (.bipush (-3), 2) := by decide +kernel
theorem d_Resolver_joinOfClasses_93 : decode b_Resolver_joinOfClasses 93 = .ok (.ireturn, 1) := by decide +kernel
theorem d_Resolver_joinOfClasses_94 : decode b_Resolver_joinOfClasses 94 = .ok (.iload 4, 2) := by decide +kernel
theorem d_Resolver_joinOfClasses_96 : decode b_Resolver_joinOfClasses 96 = .ok (.ifCond .ne 9, 3) := by decide +kernel
theorem d_Resolver_joinOfClasses_99 : decode b_Resolver_joinOfClasses 99 = .ok (.aload_n 0, 1) := by decide +kernel
theorem d_Resolver_joinOfClasses_100 : decode b_Resolver_joinOfClasses 100 = .ok (.iload_n 3, 1) := by decide +kernel
theorem d_Resolver_joinOfClasses_101 : decode b_Resolver_joinOfClasses 101 = .ok (.invokevirtual 121, 3) := by decide +kernel
theorem d_Resolver_joinOfClasses_104 : decode b_Resolver_joinOfClasses 104 = .ok (.ireturn, 1) := by decide +kernel
theorem d_Resolver_joinOfClasses_105 : decode b_Resolver_joinOfClasses 105 = .ok (.iinc 3 1, 3) := by decide +kernel
theorem d_Resolver_joinOfClasses_108 : decode b_Resolver_joinOfClasses 108 = .ok (.goto (-56), 3) := by decide +kernel
theorem d_Resolver_joinOfClasses_111 : decode b_Resolver_joinOfClasses 111 = .ok (.iconst (-1), 1) := by decide +kernel
theorem d_Resolver_joinOfClasses_112 : decode b_Resolver_joinOfClasses 112 = .ok (.ireturn, 1) := by decide +kernel
