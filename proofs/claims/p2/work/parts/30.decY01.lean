theorem d_M_parent_0 : decode b_M_parent 0 = .ok (.iload_n 1, 1) := by decide +kernel
theorem d_M_parent_1 : decode b_M_parent 1 = .ok (.bipush 9, 2) := by decide +kernel
theorem d_M_parent_3 : decode b_M_parent 3 = .ok (.if_icmp .lt 20, 3) := by decide +kernel
theorem d_M_parent_6 : decode b_M_parent 6 = .ok (.aload_n 0, 1) := by decide +kernel
theorem d_M_parent_7 : decode b_M_parent 7 = .ok (.iload_n 1, 1) := by decide +kernel
theorem d_M_parent_8 : decode b_M_parent 8 = .ok (.invokevirtual 176, 3) := by decide +kernel
theorem d_M_parent_11 : decode b_M_parent 11 = .ok (.ifCond .eq 12, 3) := by decide +kernel
theorem d_M_parent_14 : decode b_M_parent 14 = .ok (.aload_n 0, 1) := by decide +kernel
theorem d_M_parent_15 : decode b_M_parent 15 = .ok (.iload_n 1, 1) := by decide +kernel
theorem d_M_parent_16 : decode b_M_parent 16 = .ok (.iload_n 2, 1) := by decide +kernel
theorem d_M_parent_17 : decode b_M_parent 17 = .ok (.invokevirtual 179, 3) := by decide +kernel
theorem d_M_parent_20 : decode b_M_parent 20 = .ok (.ifCond .ne 6, 3) := by decide +kernel
theorem d_M_parent_23 : decode b_M_parent 23 = .ok (.bipush (-2), 2) := by decide +kernel
theorem d_M_parent_25 : decode b_M_parent 25 = .ok (.ireturn, 1) := by decide +kernel
theorem d_M_parent_26 : decode b_M_parent 26 = .ok (.aload_n 0, 1) := by decide +kernel
theorem d_M_parent_27 : decode b_M_parent 27 = .ok (.getfield 16, 3) := by decide +kernel
theorem d_M_parent_30 : decode b_M_parent 30 = .ok (.iload_n 1, 1) := by decide +kernel
theorem d_M_parent_31 : decode b_M_parent 31 = .ok (.iaload, 1) := by decide +kernel
theorem d_M_parent_32 : decode b_M_parent 32 = .ok (.iconst 3, 1) := by decide +kernel
theorem d_M_parent_33 : decode b_M_parent 33 = .ok (.if_icmp .ne 6, 3) := by decide +kernel
theorem d_M_parent_36 : decode b_M_parent 36 = .ok (.bipush (-3), 2) := by decide +kernel
theorem d_M_parent_38 : decode b_M_parent 38 = .ok (.ireturn, 1) := by decide +kernel
theorem d_M_parent_39 : decode b_M_parent 39 = .ok (.aload_n 0, 1) := by decide +kernel
theorem d_M_parent_40 : decode b_M_parent 40 = .ok (.getfield 13, 3) := by decide +kernel
theorem d_M_parent_43 : decode b_M_parent 43 = .ok (.iconst 3, 1) := by decide +kernel
theorem d_M_parent_44 : decode b_M_parent 44 = .ok (.iload_n 1, 1) := by decide +kernel
theorem d_M_parent_45 : decode b_M_parent 45 = .ok (.imul, 1) := by decide +kernel
theorem d_M_parent_46 : decode b_M_parent 46 = .ok (.aload_n 0, 1) := by decide +kernel
theorem d_M_parent_47 : decode b_M_parent 47 = .ok (.getfield 16, 3) := by decide +kernel
theorem d_M_parent_50 : decode b_M_parent 50 = .ok (.iload_n 1, 1) := by decide +kernel
theorem d_M_parent_51 : decode b_M_parent 51 = .ok (.iaload, 1) := by decide +kernel
theorem d_M_parent_52 : decode b_M_parent 52 = .ok (.iadd, 1) := by decide +kernel
theorem d_M_parent_53 : decode b_M_parent 53 = .ok (.iload_n 2, 1) := by decide +kernel
theorem d_M_parent_54 : decode b_M_parent 54 = .ok (.iastore, 1) := by decide +kernel
theorem d_M_parent_55 : decode b_M_parent 55 = .ok (.aload_n 0, 1) := by decide +kernel
theorem d_M_parent_56 : decode b_M_parent 56 = .ok (.getfield 16, 3) := by decide +kernel
theorem d_M_parent_59 : decode b_M_parent 59 = .ok (.iload_n 1, 1) := by decide +kernel
theorem d_M_parent_60 : decode b_M_parent 60 = .ok (.dup2, 1) := by decide +kernel
theorem d_M_parent_61 : decode b_M_parent 61 = .ok (.iaload, 1) := by decide +kernel
theorem d_M_parent_62 : decode b_M_parent 62 = .ok (.iconst 1, 1) := by decide +kernel
theorem d_M_parent_63 : decode b_M_parent 63 = .ok (.iadd, 1) := by decide +kernel
theorem d_M_parent_64 : decode b_M_parent 64 = .ok (.iastore, 1) := by decide +kernel
theorem d_M_parent_65 : decode b_M_parent 65 = .ok (.iconst 0, 1) := by decide +kernel
theorem d_M_parent_66 : decode b_M_parent 66 = .ok (.istore_n 3, 1) := by decide +kernel
theorem d_M_parent_67 : decode b_M_parent 67 = .ok (.iload_n 3, 1) := by decide +kernel
theorem d_M_parent_68 : decode b_M_parent 68 = .ok (.aload_n 0, 1) := by decide +kernel
theorem d_M_parent_69 : decode b_M_parent 69 = .ok (.getfield 23, 3) := by decide +kernel
theorem d_M_parent_72 : decode b_M_parent 72 = .ok (.if_icmp .ge 75, 3) := by decide +kernel
theorem d_M_parent_75 : decode b_M_parent 75 = .ok (.aload_n 0, 1) := by decide +kernel
theorem d_M_parent_76 : decode b_M_parent 76 = .ok (.getfield 19, 3) := by decide +kernel
theorem d_M_parent_79 : decode b_M_parent 79 = .ok (.iload_n 3, 1) := by decide +kernel
theorem d_M_parent_80 : decode b_M_parent 80 = .ok (.lconst 0, 1) := by decide +kernel
theorem d_M_parent_81 : decode b_M_parent 81 = .ok (.lastore, 1) := by decide +kernel
theorem d_M_parent_82 : decode b_M_parent 82 = .ok (.iconst 0, 1) := by decide +kernel
theorem d_M_parent_83 : decode b_M_parent 83 = .ok (.istore 4, 2) := by decide +kernel
theorem d_M_parent_85 : decode b_M_parent 85 = .ok (.iload 4, 2) := by decide +kernel
theorem d_M_parent_87 : decode b_M_parent 87 = .ok (.aload_n 0, 1) := by decide +kernel
theorem d_M_parent_88 : decode b_M_parent 88 = .ok (.getfield 16, 3) := by decide +kernel
theorem d_M_parent_91 : decode b_M_parent 91 = .ok (.iload_n 3, 1) := by decide +kernel
theorem d_M_parent_92 : decode b_M_parent 92 = .ok (.iaload, 1) := by decide +kernel
theorem d_M_parent_93 : decode b_M_parent 93 = .ok (.if_icmp .ge 48, 3) := by decide +kernel
theorem d_M_parent_96 : decode b_M_parent 96 = .ok (.aload_n 0, 1) := by decide +kernel
theorem d_M_parent_97 : decode b_M_parent 97 = .ok (.getfield 30, 3) := by decide +kernel
theorem d_M_parent_100 : decode b_M_parent 100 = .ok (.aload_n 0, 1) := by decide +kernel
theorem d_M_parent_101 : decode b_M_parent 101 = .ok (.getfield 13, 3) := by decide +kernel
theorem d_M_parent_104 : decode b_M_parent 104 = .ok (.iconst 3, 1) := by decide +kernel
theorem d_M_parent_105 : decode b_M_parent 105 = .ok (.iload_n 3, 1) := by decide +kernel
theorem d_M_parent_106 : decode b_M_parent 106 = .ok (.imul, 1) := by decide +kernel
theorem d_M_parent_107 : decode b_M_parent 107 = .ok (.iload 4, 2) := by decide +kernel
theorem d_M_parent_109 : decode b_M_parent 109 = .ok (.iadd, 1) := by decide +kernel
theorem d_M_parent_110 : decode b_M_parent 110 = .ok (.iaload, 1) := by decide +kernel
theorem d_M_parent_111 : decode b_M_parent 111 = .ok (.iaload, 1) := by decide +kernel
theorem d_M_parent_112 : decode b_M_parent 112 = .ok (.istore 5, 2) := by decide +kernel
theorem d_M_parent_114 : decode b_M_parent 114 = .ok (.aload_n 0, 1) := by decide +kernel
theorem d_M_parent_115 : decode b_M_parent 115 = .ok (.getfield 19, 3) := by decide +kernel
theorem d_M_parent_118 : decode b_M_parent 118 = .ok (.iload_n 3, 1) := by decide +kernel
theorem d_M_parent_119 : decode b_M_parent 119 = .ok (.dup2, 1) := by decide +kernel
theorem d_M_parent_120 : decode b_M_parent 120 = .ok (.laload, 1) := by decide +kernel
theorem d_M_parent_121 : decode b_M_parent 121 = .ok (.lconst 1, 1) := by decide +kernel
theorem d_M_parent_122 : decode b_M_parent 122 = .ok (.iload 5, 2) := by decide +kernel
theorem d_M_parent_124 : decode b_M_parent 124 = .ok (.lshl, 1) := by decide +kernel
theorem d_M_parent_125 : decode b_M_parent 125 = .ok (.aload_n 0, 1) := by decide +kernel
theorem d_M_parent_126 : decode b_M_parent 126 = .ok (.getfield 19, 3) := by decide +kernel
theorem d_M_parent_129 : decode b_M_parent 129 = .ok (.iload 5, 2) := by decide +kernel
theorem d_M_parent_131 : decode b_M_parent 131 = .ok (.laload, 1) := by decide +kernel
theorem d_M_parent_132 : decode b_M_parent 132 = .ok (.lor, 1) := by decide +kernel
theorem d_M_parent_133 : decode b_M_parent 133 = .ok (.lor, 1) := by decide +kernel
theorem d_M_parent_134 : decode b_M_parent 134 = .ok (.lastore, 1) := by decide +kernel
theorem d_M_parent_135 : decode b_M_parent 135 = .ok (.iinc 4 1, 3) := by decide +kernel
theorem d_M_parent_138 : decode b_M_parent 138 = .ok (.goto (-53), 3) := by decide +kernel
theorem d_M_parent_141 : decode b_M_parent 141 = .ok (.iinc 3 1, 3) := by decide +kernel
theorem d_M_parent_144 : decode b_M_parent 144 = .ok (.goto (-77), 3) := by decide +kernel
theorem d_M_parent_147 : decode b_M_parent 147 = .ok (.aload_n 0, 1) := by decide +kernel
theorem d_M_parent_148 : decode b_M_parent 148 = .ok (.getfield 16, 3) := by decide +kernel
theorem d_M_parent_151 : decode b_M_parent 151 = .ok (.iload_n 1, 1) := by decide +kernel
theorem d_M_parent_152 : decode b_M_parent 152 = .ok (.iaload, 1) := by decide +kernel
theorem d_M_parent_153 : decode b_M_parent 153 = .ok (.ireturn, 1) := by decide +kernel
theorem d_M_plain_0 : decode b_M_plain 0 = .ok (.aload_n 0, 1) := by decide +kernel
theorem d_M_plain_1 : decode b_M_plain 1 = .ok (.iload_n 1, 1) := by decide +kernel
theorem d_M_plain_2 : decode b_M_plain 2 = .ok (.invokevirtual 176, 3) := by decide +kernel
theorem d_M_plain_5 : decode b_M_plain 5 = .ok (.ifCond .eq 15, 3) := by decide +kernel
theorem d_M_plain_8 : decode b_M_plain 8 = .ok (.aload_n 0, 1) := by decide +kernel
theorem d_M_plain_9 : decode b_M_plain 9 = .ok (.aload_n 0, 1) := by decide +kernel
theorem d_M_plain_10 : decode b_M_plain 10 = .ok (.iload_n 1, 1) := by decide +kernel
theorem d_M_plain_11 : decode b_M_plain 11 = .ok (.invokevirtual 182, 3) := by decide +kernel
theorem d_M_plain_14 : decode b_M_plain 14 = .ok (.invokevirtual 186, 3) := by decide +kernel
theorem d_M_plain_17 : decode b_M_plain 17 = .ok (.goto 5, 3) := by decide +kernel
theorem d_M_plain_20 : decode b_M_plain 20 = .ok (.bipush (-2), 2) := by decide +kernel
theorem d_M_plain_22 : decode b_M_plain 22 = .ok (.ireturn, 1) := by decide +kernel
theorem d_M_isArgument_0 : decode b_M_isArgument 0 = .ok (.aload_n 0, 1) := by decide +kernel
theorem d_M_isArgument_1 : decode b_M_isArgument 1 = .ok (.iload_n 1, 1) := by decide +kernel
theorem d_M_isArgument_2 : decode b_M_isArgument 2 = .ok (.invokevirtual 159, 3) := by decide +kernel
theorem d_M_isArgument_5 : decode b_M_isArgument 5 = .ok (.ifCond .eq 28, 3) := by decide +kernel
theorem d_M_isArgument_8 : decode b_M_isArgument 8 = .ok (.aload_n 0, 1) := by decide +kernel
theorem d_M_isArgument_9 : decode b_M_isArgument 9 = .ok (.getfield 27, 3) := by decide +kernel
theorem d_M_isArgument_12 : decode b_M_isArgument 12 = .ok (.iload_n 1, 1) := by decide +kernel
theorem d_M_isArgument_13 : decode b_M_isArgument 13 = .ok (.iaload, 1) := by decide +kernel
theorem d_M_isArgument_14 : decode b_M_isArgument 14 = .ok (.iconst 5, 1) := by decide +kernel
theorem d_M_isArgument_15 : decode b_M_isArgument 15 = .ok (.if_icmp .eq 18, 3) := by decide +kernel
theorem d_M_isArgument_18 : decode b_M_isArgument 18 = .ok (.aload_n 0, 1) := by decide +kernel
theorem d_M_isArgument_19 : decode b_M_isArgument 19 = .ok (.getfield 27, 3) := by decide +kernel
theorem d_M_isArgument_22 : decode b_M_isArgument 22 = .ok (.iload_n 1, 1) := by decide +kernel
theorem d_M_isArgument_23 : decode b_M_isArgument 23 = .ok (.iaload, 1) := by decide +kernel
theorem d_M_isArgument_24 : decode b_M_isArgument 24 = .ok (.bipush 6, 2) := by decide +kernel
theorem d_M_isArgument_26 : decode b_M_isArgument 26 = .ok (.if_icmp .eq 7, 3) := by decide +kernel
theorem d_M_isArgument_29 : decode b_M_isArgument 29 = .ok (.iconst 1, 1) := by decide +kernel
theorem d_M_isArgument_30 : decode b_M_isArgument 30 = .ok (.goto 4, 3) := by decide +kernel
theorem d_M_isArgument_33 : decode b_M_isArgument 33 = .ok (.iconst 0, 1) := by decide +kernel
theorem d_M_isArgument_34 : decode b_M_isArgument 34 = .ok (.ireturn, 1) := by decide +kernel
theorem d_M_of_0 : decode b_M_of 0 = .ok (.aload_n 0, 1) := by decide +kernel
theorem d_M_of_1 : decode b_M_of 1 = .ok (.iload_n 1, 1) := by decide +kernel
theorem d_M_of_2 : decode b_M_of 2 = .ok (.invokevirtual 176, 3) := by decide +kernel
theorem d_M_of_5 : decode b_M_of 5 = .ok (.ifCond .eq 38, 3) := by decide +kernel
theorem d_M_of_8 : decode b_M_of 8 = .ok (.aload_n 0, 1) := by decide +kernel
theorem d_M_of_9 : decode b_M_of 9 = .ok (.getfield 7, 3) := by decide +kernel
theorem d_M_of_12 : decode b_M_of 12 = .ok (.iload_n 1, 1) := by decide +kernel
theorem d_M_of_13 : decode b_M_of 13 = .ok (.iaload, 1) := by decide +kernel
theorem d_M_of_14 : decode b_M_of 14 = .ok (.ifCond .eq 29, 3) := by decide +kernel
theorem d_M_of_17 : decode b_M_of 17 = .ok (.aload_n 0, 1) := by decide +kernel
theorem d_M_of_18 : decode b_M_of 18 = .ok (.iload_n 2, 1) := by decide +kernel
theorem d_M_of_19 : decode b_M_of 19 = .ok (.invokevirtual 189, 3) := by decide +kernel
theorem d_M_of_22 : decode b_M_of 22 = .ok (.ifCond .eq 21, 3) := by decide +kernel
theorem d_M_of_25 : decode b_M_of 25 = .ok (.aload_n 0, 1) := by decide +kernel
theorem d_M_of_26 : decode b_M_of 26 = .ok (.getfield 7, 3) := by decide +kernel
theorem d_M_of_29 : decode b_M_of 29 = .ok (.iload_n 1, 1) := by decide +kernel
theorem d_M_of_30 : decode b_M_of 30 = .ok (.iaload, 1) := by decide +kernel
theorem d_M_of_31 : decode b_M_of 31 = .ok (.iconst 2, 1) := by decide +kernel
theorem d_M_of_32 : decode b_M_of 32 = .ok (.if_icmp .ne 14, 3) := by decide +kernel
theorem d_M_of_35 : decode b_M_of 35 = .ok (.aload_n 0, 1) := by decide +kernel
theorem d_M_of_36 : decode b_M_of 36 = .ok (.iload_n 3, 1) := by decide +kernel
theorem d_M_of_37 : decode b_M_of 37 = .ok (.invokevirtual 189, 3) := by decide +kernel
theorem d_M_of_40 : decode b_M_of 40 = .ok (.ifCond .ne 6, 3) := by decide +kernel
theorem d_M_of_43 : decode b_M_of 43 = .ok (.bipush (-2), 2) := by decide +kernel
theorem d_M_of_45 : decode b_M_of 45 = .ok (.ireturn, 1) := by decide +kernel
theorem d_M_of_46 : decode b_M_of 46 = .ok (.aload_n 0, 1) := by decide +kernel
theorem d_M_of_47 : decode b_M_of 47 = .ok (.aload_n 0, 1) := by decide +kernel
theorem d_M_of_48 : decode b_M_of 48 = .ok (.iconst 1, 1) := by decide +kernel
theorem d_M_of_49 : decode b_M_of 49 = .ok (.iload_n 1, 1) := by decide +kernel
theorem d_M_of_50 : decode b_M_of 50 = .ok (.iload_n 2, 1) := by decide +kernel
theorem d_M_of_51 : decode b_M_of 51 = .ok (.aload_n 0, 1) := by decide +kernel
theorem d_M_of_52 : decode b_M_of 52 = .ok (.getfield 7, 3) := by decide +kernel
theorem d_M_of_55 : decode b_M_of 55 = .ok (.iload_n 1, 1) := by decide +kernel
theorem d_M_of_56 : decode b_M_of 56 = .ok (.iaload, 1) := by decide +kernel
theorem d_M_of_57 : decode b_M_of 57 = .ok (.iconst 2, 1) := by decide +kernel
theorem d_M_of_58 : decode b_M_of 58 = .ok (.if_icmp .ne 7, 3) := by decide +kernel
theorem d_M_of_61 : decode b_M_of 61 = .ok (.iload_n 3, 1) := by decide +kernel
theorem d_M_of_62 : decode b_M_of 62 = .ok (.goto 4, 3) := by decide +kernel
theorem d_M_of_65 : decode b_M_of 65 = .ok (.iconst (-1), 1) := by decide +kernel
theorem d_M_of_66 : decode b_M_of 66 = .ok (.invokevirtual 155, 3) := by decide +kernel
theorem d_M_of_69 : decode b_M_of 69 = .ok (.invokevirtual 186, 3) := by decide +kernel
theorem d_M_of_72 : decode b_M_of 72 = .ok (.ireturn, 1) := by decide +kernel
theorem d_M_wild_0 : decode b_M_wild 0 = .ok (.iload_n 1, 1) := by decide +kernel
theorem d_M_wild_1 : decode b_M_wild 1 = .ok (.ifCond .lt 30, 3) := by decide +kernel
theorem d_M_wild_4 : decode b_M_wild 4 = .ok (.iload_n 1, 1) := by decide +kernel
theorem d_M_wild_5 : decode b_M_wild 5 = .ok (.iconst 2, 1) := by decide +kernel
theorem d_M_wild_6 : decode b_M_wild 6 = .ok (.if_icmp .gt 25, 3) := by decide +kernel
theorem d_M_wild_9 : decode b_M_wild 9 = .ok (.iload_n 1, 1) := by decide +kernel
theorem d_M_wild_10 : decode b_M_wild 10 = .ok (.ifCond .le 24, 3) := by decide +kernel
theorem d_M_wild_13 : decode b_M_wild 13 = .ok (.aload_n 0, 1) := by decide +kernel
theorem d_M_wild_14 : decode b_M_wild 14 = .ok (.iload_n 2, 1) := by decide +kernel
theorem d_M_wild_15 : decode b_M_wild 15 = .ok (.invokevirtual 189, 3) := by decide +kernel
theorem d_M_wild_18 : decode b_M_wild 18 = .ok (.ifCond .eq 13, 3) := by decide +kernel
theorem d_M_wild_21 : decode b_M_wild 21 = .ok (.aload_n 0, 1) := by decide +kernel
theorem d_M_wild_22 : decode b_M_wild 22 = .ok (.getfield 27, 3) := by decide +kernel
theorem d_M_wild_25 : decode b_M_wild 25 = .ok (.iload_n 2, 1) := by decide +kernel
theorem d_M_wild_26 : decode b_M_wild 26 = .ok (.iaload, 1) := by decide +kernel
theorem d_M_wild_27 : decode b_M_wild 27 = .ok (.iconst 2, 1) := by decide +kernel
theorem d_M_wild_28 : decode b_M_wild 28 = .ok (.if_icmp .ne 6, 3) := by decide +kernel
theorem d_M_wild_31 : decode b_M_wild 31 = .ok (.bipush (-2), 2) := by decide +kernel
theorem d_M_wild_33 : decode b_M_wild 33 = .ok (.ireturn, 1) := by decide +kernel
theorem d_M_wild_34 : decode b_M_wild 34 = .ok (.aload_n 0, 1) := by decide +kernel
theorem d_M_wild_35 : decode b_M_wild 35 = .ok (.aload_n 0, 1) := by decide +kernel
theorem d_M_wild_36 : decode b_M_wild 36 = .ok (.iconst 2, 1) := by decide +kernel
theorem d_M_wild_37 : decode b_M_wild 37 = .ok (.iload_n 1, 1) := by decide +kernel
theorem d_M_wild_38 : decode b_M_wild 38 = .ok (.iload_n 1, 1) := by decide +kernel
theorem d_M_wild_39 : decode b_M_wild 39 = .ok (.ifCond .ne 7, 3) := by decide +kernel
theorem d_M_wild_42 : decode b_M_wild 42 = .ok (.iconst (-1), 1) := by decide +kernel
theorem d_M_wild_43 : decode b_M_wild 43 = .ok (.goto 4, 3) := by decide +kernel
theorem d_M_wild_46 : decode b_M_wild 46 = .ok (.iload_n 2, 1) := by decide +kernel
theorem d_M_wild_47 : decode b_M_wild 47 = .ok (.iconst (-1), 1) := by decide +kernel
theorem d_M_wild_48 : decode b_M_wild 48 = .ok (.invokevirtual 155, 3) := by decide +kernel
theorem d_M_wild_51 : decode b_M_wild 51 = .ok (.invokevirtual 186, 3) := by decide +kernel
theorem d_M_wild_54 : decode b_M_wild 54 = .ok (.ireturn, 1) := by decide +kernel
theorem d_M_parameter_0 : decode b_M_parameter 0 = .ok (.aload_n 0, 1) := by decide +kernel
theorem d_M_parameter_1 : decode b_M_parameter 1 = .ok (.iload_n 1, 1) := by decide +kernel
theorem d_M_parameter_2 : decode b_M_parameter 2 = .ok (.invokevirtual 176, 3) := by decide +kernel
theorem d_M_parameter_5 : decode b_M_parameter 5 = .ok (.ifCond .eq 32, 3) := by decide +kernel
theorem d_M_parameter_8 : decode b_M_parameter 8 = .ok (.iload_n 2, 1) := by decide +kernel
theorem d_M_parameter_9 : decode b_M_parameter 9 = .ok (.ifCond .lt 28, 3) := by decide +kernel
theorem d_M_parameter_12 : decode b_M_parameter 12 = .ok (.iload_n 2, 1) := by decide +kernel
theorem d_M_parameter_13 : decode b_M_parameter 13 = .ok (.aload_n 0, 1) := by decide +kernel
theorem d_M_parameter_14 : decode b_M_parameter 14 = .ok (.getfield 7, 3) := by decide +kernel
theorem d_M_parameter_17 : decode b_M_parameter 17 = .ok (.iload_n 1, 1) := by decide +kernel
theorem d_M_parameter_18 : decode b_M_parameter 18 = .ok (.iaload, 1) := by decide +kernel
theorem d_M_parameter_19 : decode b_M_parameter 19 = .ok (.if_icmp .ge 18, 3) := by decide +kernel
theorem d_M_parameter_22 : decode b_M_parameter 22 = .ok (.aload_n 0, 1) := by decide +kernel
theorem d_M_parameter_23 : decode b_M_parameter 23 = .ok (.aload_n 0, 1) := by decide +kernel
theorem d_M_parameter_24 : decode b_M_parameter 24 = .ok (.iconst 3, 1) := by decide +kernel
theorem d_M_parameter_25 : decode b_M_parameter 25 = .ok (.iload_n 1, 1) := by decide +kernel
theorem d_M_parameter_26 : decode b_M_parameter 26 = .ok (.iload_n 2, 1) := by decide +kernel
theorem d_M_parameter_27 : decode b_M_parameter 27 = .ok (.iconst (-1), 1) := by decide +kernel
theorem d_M_parameter_28 : decode b_M_parameter 28 = .ok (.invokevirtual 155, 3) := by decide +kernel
theorem d_M_parameter_31 : decode b_M_parameter 31 = .ok (.invokevirtual 186, 3) := by decide +kernel
theorem d_M_parameter_34 : decode b_M_parameter 34 = .ok (.goto 5, 3) := by decide +kernel
theorem d_M_parameter_37 : decode b_M_parameter 37 = .ok (.bipush (-2), 2) := by decide +kernel
theorem d_M_parameter_39 : decode b_M_parameter 39 = .ok (.ireturn, 1) := by decide +kernel
theorem d_M_array_0 : decode b_M_array 0 = .ok (.aload_n 0, 1) := by decide +kernel
theorem d_M_array_1 : decode b_M_array 1 = .ok (.iload_n 1, 1) := by decide +kernel
theorem d_M_array_2 : decode b_M_array 2 = .ok (.invokevirtual 159, 3) := by decide +kernel
theorem d_M_array_5 : decode b_M_array 5 = .ok (.ifCond .eq 39, 3) := by decide +kernel
theorem d_M_array_8 : decode b_M_array 8 = .ok (.aload_n 0, 1) := by decide +kernel
theorem d_M_array_9 : decode b_M_array 9 = .ok (.getfield 27, 3) := by decide +kernel
theorem d_M_array_12 : decode b_M_array 12 = .ok (.iload_n 1, 1) := by decide +kernel
theorem d_M_array_13 : decode b_M_array 13 = .ok (.iaload, 1) := by decide +kernel
theorem d_M_array_14 : decode b_M_array 14 = .ok (.iconst 2, 1) := by decide +kernel
theorem d_M_array_15 : decode b_M_array 15 = .ok (.if_icmp .eq 29, 3) := by decide +kernel
theorem d_M_array_18 : decode b_M_array 18 = .ok (.aload_n 0, 1) := by decide +kernel
theorem d_M_array_19 : decode b_M_array 19 = .ok (.getfield 27, 3) := by decide +kernel
theorem d_M_array_22 : decode b_M_array 22 = .ok (.iload_n 1, 1) := by decide +kernel
theorem d_M_array_23 : decode b_M_array 23 = .ok (.iaload, 1) := by decide +kernel
theorem d_M_array_24 : decode b_M_array 24 = .ok (.bipush 6, 2) := by decide +kernel
theorem d_M_array_26 : decode b_M_array 26 = .ok (.if_icmp .eq 18, 3) := by decide +kernel
theorem d_M_array_29 : decode b_M_array 29 = .ok (.aload_n 0, 1) := by decide +kernel
theorem d_M_array_30 : decode b_M_array 30 = .ok (.aload_n 0, 1) := by decide +kernel
theorem d_M_array_31 : decode b_M_array 31 = .ok (.iconst 4, 1) := by decide +kernel
theorem d_M_array_32 : decode b_M_array 32 = .ok (.iload_n 1, 1) := by decide +kernel
theorem d_M_array_33 : decode b_M_array 33 = .ok (.iconst (-1), 1) := by decide +kernel
theorem d_M_array_34 : decode b_M_array 34 = .ok (.iconst (-1), 1) := by decide +kernel
theorem d_M_array_35 : decode b_M_array 35 = .ok (.invokevirtual 155, 3) := by decide +kernel
theorem d_M_array_38 : decode b_M_array 38 = .ok (.invokevirtual 186, 3) := by decide +kernel
theorem d_M_array_41 : decode b_M_array 41 = .ok (.goto 5, 3) := by decide +kernel
theorem d_M_array_44 : decode b_M_array 44 = .ok (.bipush (-2), 2) := by decide +kernel
theorem d_M_array_46 : decode b_M_array 46 = .ok (.ireturn, 1) := by decide +kernel
theorem d_M_primitive_0 : decode b_M_primitive 0 = .ok (.iload_n 1, 1) := by decide +kernel
theorem d_M_primitive_1 : decode b_M_primitive 1 = .ok (.ifCond .lt 9, 3) := by decide +kernel
theorem d_M_primitive_4 : decode b_M_primitive 4 = .ok (.iload_n 1, 1) := by decide +kernel
theorem d_M_primitive_5 : decode b_M_primitive 5 = .ok (.bipush 7, 2) := by decide +kernel
theorem d_M_primitive_7 : decode b_M_primitive 7 = .ok (.if_icmp .le 8, 3) := by decide +kernel
theorem d_M_primitive_10 : decode b_M_primitive 10 = .ok (.bipush (-2), 2) := by decide +kernel
theorem d_M_primitive_12 : decode b_M_primitive 12 = .ok (.goto 15, 3) := by decide +kernel
theorem d_M_primitive_15 : decode b_M_primitive 15 = .ok (.aload_n 0, 1) := by decide +kernel
theorem d_M_primitive_16 : decode b_M_primitive 16 = .ok (.aload_n 0, 1) := by decide +kernel
theorem d_M_primitive_17 : decode b_M_primitive 17 = .ok (.iconst 5, 1) := by decide +kernel
theorem d_M_primitive_18 : decode b_M_primitive 18 = .ok (.iload_n 1, 1) := by decide +kernel
theorem d_M_primitive_19 : decode b_M_primitive 19 = .ok (.iconst (-1), 1) := by decide +kernel
theorem d_M_primitive_20 : decode b_M_primitive 20 = .ok (.iconst (-1), 1) := by decide +kernel
theorem d_M_primitive_21 : decode b_M_primitive 21 = .ok (.invokevirtual 155, 3) := by decide +kernel
theorem d_M_primitive_24 : decode b_M_primitive 24 = .ok (.invokevirtual 186, 3) := by decide +kernel
theorem d_M_primitive_27 : decode b_M_primitive 27 = .ok (.ireturn, 1) := by decide +kernel
theorem d_M_nothing_0 : decode b_M_nothing 0 = .ok (.aload_n 0, 1) := by decide +kernel
theorem d_M_nothing_1 : decode b_M_nothing 1 = .ok (.aload_n 0, 1) := by decide +kernel
theorem d_M_nothing_2 : decode b_M_nothing 2 = .ok (.bipush 6, 2) := by decide +kernel
theorem d_M_nothing_4 : decode b_M_nothing 4 = .ok (.iconst 0, 1) := by decide +kernel
theorem d_M_nothing_5 : decode b_M_nothing 5 = .ok (.iconst (-1), 1) := by decide +kernel
theorem d_M_nothing_6 : decode b_M_nothing 6 = .ok (.iconst (-1), 1) := by decide +kernel
theorem d_M_nothing_7 : decode b_M_nothing 7 = .ok (.invokevirtual 155, 3) := by decide +kernel
theorem d_M_nothing_10 : decode b_M_nothing 10 = .ok (.invokevirtual 186, 3) := by decide +kernel
theorem d_M_nothing_13 : decode b_M_nothing 13 = .ok (.ireturn, 1) := by decide +kernel
theorem d_M_variable_0 : decode b_M_variable 0 = .ok (.aload_n 0, 1) := by decide +kernel
theorem d_M_variable_1 : decode b_M_variable 1 = .ok (.getfield 192, 3) := by decide +kernel
theorem d_M_variable_4 : decode b_M_variable 4 = .ok (.bipush 12, 2) := by decide +kernel
theorem d_M_variable_6 : decode b_M_variable 6 = .ok (.if_icmp .ne 6, 3) := by decide +kernel
theorem d_M_variable_9 : decode b_M_variable 9 = .ok (.bipush (-3), 2) := by decide +kernel
theorem d_M_variable_11 : decode b_M_variable 11 = .ok (.ireturn, 1) := by decide +kernel
theorem d_M_variable_12 : decode b_M_variable 12 = .ok (.aload_n 0, 1) := by decide +kernel
theorem d_M_variable_13 : decode b_M_variable 13 = .ok (.aload_n 0, 1) := by decide +kernel
theorem d_M_variable_14 : decode b_M_variable 14 = .ok (.bipush 7, 2) := by decide +kernel
theorem d_M_variable_16 : decode b_M_variable 16 = .ok (.aload_n 0, 1) := by decide +kernel
theorem d_M_variable_17 : decode b_M_variable 17 = .ok (.getfield 192, 3) := by decide +kernel
theorem d_M_variable_20 : decode b_M_variable 20 = .ok (.iconst (-1), 1) := by decide +kernel
theorem d_M_variable_21 : decode b_M_variable 21 = .ok (.iconst (-1), 1) := by decide +kernel
theorem d_M_variable_22 : decode b_M_variable 22 = .ok (.invokevirtual 155, 3) := by decide +kernel
theorem d_M_variable_25 : decode b_M_variable 25 = .ok (.invokevirtual 186, 3) := by decide +kernel
theorem d_M_variable_28 : decode b_M_variable 28 = .ok (.istore_n 1, 1) := by decide +kernel
theorem d_M_variable_29 : decode b_M_variable 29 = .ok (.aload_n 0, 1) := by decide +kernel
theorem d_M_variable_30 : decode b_M_variable 30 = .ok (.dup, 1) := by decide +kernel
theorem d_M_variable_31 : decode b_M_variable 31 = .ok (.getfield 192, 3) := by decide +kernel
theorem d_M_variable_34 : decode b_M_variable 34 = .ok (.iload_n 1, 1) := by decide +kernel
theorem d_M_variable_35 : decode b_M_variable 35 = .ok (.bipush (-3), 2) := by decide +kernel
theorem d_M_variable_37 : decode b_M_variable 37 = .ok (.if_icmp .ne 7, 3) := by decide +kernel
theorem d_M_variable_40 : decode b_M_variable 40 = .ok (.iconst 0, 1) := by decide +kernel
theorem d_M_variable_41 : decode b_M_variable 41 = .ok (.goto 4, 3) := by decide +kernel
theorem d_M_variable_44 : decode b_M_variable 44 = .ok (.iconst 1, 1) := by decide +kernel
theorem d_M_variable_45 : decode b_M_variable 45 = .ok (.iadd, 1) := by decide +kernel
theorem d_M_variable_46 : decode b_M_variable 46 = .ok (.putfield 192, 3) := by decide +kernel
theorem d_M_variable_49 : decode b_M_variable 49 = .ok (.iload_n 1, 1) := by decide +kernel
theorem d_M_variable_50 : decode b_M_variable 50 = .ok (.ireturn, 1) := by decide +kernel
theorem d_M_inPlaceOf_0 : decode b_M_inPlaceOf 0 = .ok (.aload_n 0, 1) := by decide +kernel
theorem d_M_inPlaceOf_1 : decode b_M_inPlaceOf 1 = .ok (.getfield 27, 3) := by decide +kernel
theorem d_M_inPlaceOf_4 : decode b_M_inPlaceOf 4 = .ok (.iload_n 1, 1) := by decide +kernel
theorem d_M_inPlaceOf_5 : decode b_M_inPlaceOf 5 = .ok (.iaload, 1) := by decide +kernel
theorem d_M_inPlaceOf_6 : decode b_M_inPlaceOf 6 = .ok (.iconst 3, 1) := by decide +kernel
theorem d_M_inPlaceOf_7 : decode b_M_inPlaceOf 7 = .ok (.if_icmp .ne 77, 3) := by decide +kernel
theorem d_M_inPlaceOf_10 : decode b_M_inPlaceOf 10 = .ok (.iload_n 2, 1) := by decide +kernel
theorem d_M_inPlaceOf_11 : decode b_M_inPlaceOf 11 = .ok (.iconst (-1), 1) := by decide +kernel
theorem d_M_inPlaceOf_12 : decode b_M_inPlaceOf 12 = .ok (.if_icmp .eq 72, 3) := by decide +kernel
theorem d_M_inPlaceOf_15 : decode b_M_inPlaceOf 15 = .ok (.aload_n 0, 1) := by decide +kernel
theorem d_M_inPlaceOf_16 : decode b_M_inPlaceOf 16 = .ok (.getfield 30, 3) := by decide +kernel
theorem d_M_inPlaceOf_19 : decode b_M_inPlaceOf 19 = .ok (.iload_n 1, 1) := by decide +kernel
theorem d_M_inPlaceOf_20 : decode b_M_inPlaceOf 20 = .ok (.iaload, 1) := by decide +kernel
theorem d_M_inPlaceOf_21 : decode b_M_inPlaceOf 21 = .ok (.aload_n 0, 1) := by decide +kernel
theorem d_M_inPlaceOf_22 : decode b_M_inPlaceOf 22 = .ok (.getfield 30, 3) := by decide +kernel
theorem d_M_inPlaceOf_25 : decode b_M_inPlaceOf 25 = .ok (.iload_n 2, 1) := by decide +kernel
theorem d_M_inPlaceOf_26 : decode b_M_inPlaceOf 26 = .ok (.iaload, 1) := by decide +kernel
theorem d_M_inPlaceOf_27 : decode b_M_inPlaceOf 27 = .ok (.if_icmp .ne 57, 3) := by decide +kernel
theorem d_M_inPlaceOf_30 : decode b_M_inPlaceOf 30 = .ok (.aload_n 0, 1) := by decide +kernel
theorem d_M_inPlaceOf_31 : decode b_M_inPlaceOf 31 = .ok (.getfield 33, 3) := by decide +kernel
theorem d_M_inPlaceOf_34 : decode b_M_inPlaceOf 34 = .ok (.iload_n 1, 1) := by decide +kernel
theorem d_M_inPlaceOf_35 : decode b_M_inPlaceOf 35 = .ok (.iaload, 1) := by decide +kernel
theorem d_M_inPlaceOf_36 : decode b_M_inPlaceOf 36 = .ok (.ifCond .ne 12, 3) := by decide +kernel
theorem d_M_inPlaceOf_39 : decode b_M_inPlaceOf 39 = .ok (.aload_n 0, 1) := by decide +kernel
theorem d_M_inPlaceOf_40 : decode b_M_inPlaceOf 40 = .ok (.getfield 33, 3) := by decide +kernel
theorem d_M_inPlaceOf_43 : decode b_M_inPlaceOf 43 = .ok (.iload_n 2, 1) := by decide +kernel
theorem d_M_inPlaceOf_44 : decode b_M_inPlaceOf 44 = .ok (.iaload, 1) := by decide +kernel
theorem d_M_inPlaceOf_45 : decode b_M_inPlaceOf 45 = .ok (.goto 9, 3) := by decide +kernel
theorem d_M_inPlaceOf_48 : decode b_M_inPlaceOf 48 = .ok (.aload_n 0, 1) := by decide +kernel
theorem d_M_inPlaceOf_49 : decode b_M_inPlaceOf 49 = .ok (.getfield 36, 3) := by decide +kernel
theorem d_M_inPlaceOf_52 : decode b_M_inPlaceOf 52 = .ok (.iload_n 2, 1) := by decide +kernel
theorem d_M_inPlaceOf_53 : decode b_M_inPlaceOf 53 = .ok (.iaload, 1) := by decide +kernel
theorem d_M_inPlaceOf_54 : decode b_M_inPlaceOf 54 = .ok (.istore_n 3, 1) := by decide +kernel
theorem d_M_inPlaceOf_55 : decode b_M_inPlaceOf 55 = .ok (.aload_n 0, 1) := by decide +kernel
theorem d_M_inPlaceOf_56 : decode b_M_inPlaceOf 56 = .ok (.getfield 27, 3) := by decide +kernel
theorem d_M_inPlaceOf_59 : decode b_M_inPlaceOf 59 = .ok (.iload_n 3, 1) := by decide +kernel
theorem d_M_inPlaceOf_60 : decode b_M_inPlaceOf 60 = .ok (.iaload, 1) := by decide +kernel
theorem d_M_inPlaceOf_61 : decode b_M_inPlaceOf 61 = .ok (.iconst 2, 1) := by decide +kernel
theorem d_M_inPlaceOf_62 : decode b_M_inPlaceOf 62 = .ok (.if_icmp .ne 20, 3) := by decide +kernel
theorem d_M_inPlaceOf_65 : decode b_M_inPlaceOf 65 = .ok (.aload_n 0, 1) := by decide +kernel
theorem d_M_inPlaceOf_66 : decode b_M_inPlaceOf 66 = .ok (.bipush 8, 2) := by decide +kernel
theorem d_M_inPlaceOf_68 : decode b_M_inPlaceOf 68 = .ok (.iload_n 2, 1) := by decide +kernel
theorem d_M_inPlaceOf_69 : decode b_M_inPlaceOf 69 = .ok (.aload_n 0, 1) := by decide +kernel
theorem d_M_inPlaceOf_70 : decode b_M_inPlaceOf 70 = .ok (.getfield 33, 3) := by decide +kernel
theorem d_M_inPlaceOf_73 : decode b_M_inPlaceOf 73 = .ok (.iload_n 1, 1) := by decide +kernel
theorem d_M_inPlaceOf_74 : decode b_M_inPlaceOf 74 = .ok (.iaload, 1) := by decide +kernel
theorem d_M_inPlaceOf_75 : decode b_M_inPlaceOf 75 = .ok (.iconst (-1), 1) := by decide +kernel
theorem d_M_inPlaceOf_76 : decode b_M_inPlaceOf 76 = .ok (.invokevirtual 155, 3) := by decide +kernel
theorem d_M_inPlaceOf_79 : decode b_M_inPlaceOf 79 = .ok (.goto 4, 3) := by decide +kernel
theorem d_M_inPlaceOf_82 : decode b_M_inPlaceOf 82 = .ok (.iload_n 3, 1) := by decide +kernel
theorem d_M_inPlaceOf_83 : decode b_M_inPlaceOf 83 = .ok (.ireturn, 1) := by decide +kernel
theorem d_M_inPlaceOf_84 : decode b_M_inPlaceOf 84 = .ok (.aload_n 0, 1) := by decide +kernel
theorem d_M_inPlaceOf_85 : decode b_M_inPlaceOf 85 = .ok (.getfield 27, 3) := by decide +kernel
theorem d_M_inPlaceOf_88 : decode b_M_inPlaceOf 88 = .ok (.iload_n 1, 1) := by decide +kernel
theorem d_M_inPlaceOf_89 : decode b_M_inPlaceOf 89 = .ok (.iaload, 1) := by decide +kernel
theorem d_M_inPlaceOf_90 : decode b_M_inPlaceOf 90 = .ok (.bipush 7, 2) := by decide +kernel
theorem d_M_inPlaceOf_92 : decode b_M_inPlaceOf 92 = .ok (.if_icmp .ne 39, 3) := by decide +kernel
theorem d_M_inPlaceOf_95 : decode b_M_inPlaceOf 95 = .ok (.iload_n 2, 1) := by decide +kernel
theorem d_M_inPlaceOf_96 : decode b_M_inPlaceOf 96 = .ok (.iconst (-1), 1) := by decide +kernel
theorem d_M_inPlaceOf_97 : decode b_M_inPlaceOf 97 = .ok (.if_icmp .ne 34, 3) := by decide +kernel
theorem d_M_inPlaceOf_100 : decode b_M_inPlaceOf 100 = .ok (.aload_n 0, 1) := by decide +kernel
theorem d_M_inPlaceOf_101 : decode b_M_inPlaceOf 101 = .ok (.getfield 64, 3) := by decide +kernel
theorem d_M_inPlaceOf_104 : decode b_M_inPlaceOf 104 = .ok (.aload_n 0, 1) := by decide +kernel
theorem d_M_inPlaceOf_105 : decode b_M_inPlaceOf 105 = .ok (.getfield 30, 3) := by decide +kernel
theorem d_M_inPlaceOf_108 : decode b_M_inPlaceOf 108 = .ok (.iload_n 1, 1) := by decide +kernel
theorem d_M_inPlaceOf_109 : decode b_M_inPlaceOf 109 = .ok (.iaload, 1) := by decide +kernel
theorem d_M_inPlaceOf_110 : decode b_M_inPlaceOf 110 = .ok (.iaload, 1) := by decide +kernel
theorem d_M_inPlaceOf_111 : decode b_M_inPlaceOf 111 = .ok (.iconst (-1), 1) := by decide +kernel
theorem d_M_inPlaceOf_112 : decode b_M_inPlaceOf 112 = .ok (.if_icmp .ne 7, 3) := by decide +kernel
theorem d_M_inPlaceOf_115 : decode b_M_inPlaceOf 115 = .ok (.iload_n 1, 1) := by decide +kernel
theorem d_M_inPlaceOf_116 : decode b_M_inPlaceOf 116 = .ok (.goto 14, 3) := by decide +kernel
theorem d_M_inPlaceOf_119 : decode b_M_inPlaceOf 119 = .ok (.aload_n 0, 1) := by decide +kernel
theorem d_M_inPlaceOf_120 : decode b_M_inPlaceOf 120 = .ok (.getfield 64, 3) := by decide +kernel
theorem d_M_inPlaceOf_123 : decode b_M_inPlaceOf 123 = .ok (.aload_n 0, 1) := by decide +kernel
theorem d_M_inPlaceOf_124 : decode b_M_inPlaceOf 124 = .ok (.getfield 30, 3) := by decide +kernel
theorem d_M_inPlaceOf_127 : decode b_M_inPlaceOf 127 = .ok (.iload_n 1, 1) := by decide +kernel
theorem d_M_inPlaceOf_128 : decode b_M_inPlaceOf 128 = .ok (.iaload, 1) := by decide +kernel
theorem d_M_inPlaceOf_129 : decode b_M_inPlaceOf 129 = .ok (.iaload, 1) := by decide +kernel
theorem d_M_inPlaceOf_130 : decode b_M_inPlaceOf 130 = .ok (.ireturn, 1) := by decide +kernel
theorem d_M_inPlaceOf_131 : decode b_M_inPlaceOf 131 = .ok (.aload_n 0, 1) := by decide +kernel
theorem d_M_inPlaceOf_132 : decode b_M_inPlaceOf 132 = .ok (.getfield 27, 3) := by decide +kernel
theorem d_M_inPlaceOf_135 : decode b_M_inPlaceOf 135 = .ok (.iload_n 1, 1) := by decide +kernel
theorem d_M_inPlaceOf_136 : decode b_M_inPlaceOf 136 = .ok (.iaload, 1) := by decide +kernel
theorem d_M_inPlaceOf_137 : decode b_M_inPlaceOf 137 = .ok (.iconst 1, 1) := by decide +kernel
theorem d_M_inPlaceOf_138 : decode b_M_inPlaceOf 138 = .ok (.if_icmp .eq 43, 3) := by decide +kernel
theorem d_M_inPlaceOf_141 : decode b_M_inPlaceOf 141 = .ok (.aload_n 0, 1) := by decide +kernel
theorem d_M_inPlaceOf_142 : decode b_M_inPlaceOf 142 = .ok (.getfield 27, 3) := by decide +kernel
theorem d_M_inPlaceOf_145 : decode b_M_inPlaceOf 145 = .ok (.iload_n 1, 1) := by decide +kernel
theorem d_M_inPlaceOf_146 : decode b_M_inPlaceOf 146 = .ok (.iaload, 1) := by decide +kernel
theorem d_M_inPlaceOf_147 : decode b_M_inPlaceOf 147 = .ok (.iconst 4, 1) := by decide +kernel
theorem d_M_inPlaceOf_148 : decode b_M_inPlaceOf 148 = .ok (.if_icmp .eq 33, 3) := by decide +kernel
theorem d_M_inPlaceOf_151 : decode b_M_inPlaceOf 151 = .ok (.aload_n 0, 1) := by decide +kernel
theorem d_M_inPlaceOf_152 : decode b_M_inPlaceOf 152 = .ok (.getfield 27, 3) := by decide +kernel
theorem d_M_inPlaceOf_155 : decode b_M_inPlaceOf 155 = .ok (.iload_n 1, 1) := by decide +kernel
theorem d_M_inPlaceOf_156 : decode b_M_inPlaceOf 156 = .ok (.iaload, 1) := by decide +kernel
theorem d_M_inPlaceOf_157 : decode b_M_inPlaceOf 157 = .ok (.bipush 8, 2) := by decide +kernel
theorem d_M_inPlaceOf_159 : decode b_M_inPlaceOf 159 = .ok (.if_icmp .eq 22, 3) := by decide +kernel
theorem d_M_inPlaceOf_162 : decode b_M_inPlaceOf 162 = .ok (.aload_n 0, 1) := by decide +kernel
theorem d_M_inPlaceOf_163 : decode b_M_inPlaceOf 163 = .ok (.getfield 27, 3) := by decide +kernel
theorem d_M_inPlaceOf_166 : decode b_M_inPlaceOf 166 = .ok (.iload_n 1, 1) := by decide +kernel
theorem d_M_inPlaceOf_167 : decode b_M_inPlaceOf 167 = .ok (.iaload, 1) := by decide +kernel
theorem d_M_inPlaceOf_168 : decode b_M_inPlaceOf 168 = .ok (.iconst 2, 1) := by decide +kernel
theorem d_M_inPlaceOf_169 : decode b_M_inPlaceOf 169 = .ok (.if_icmp .ne 16, 3) := by decide +kernel
theorem d_M_inPlaceOf_172 : decode b_M_inPlaceOf 172 = .ok (.aload_n 0, 1) := by decide +kernel
theorem d_M_inPlaceOf_173 : decode b_M_inPlaceOf 173 = .ok (.getfield 30, 3) := by decide +kernel
theorem d_M_inPlaceOf_176 : decode b_M_inPlaceOf 176 = .ok (.iload_n 1, 1) := by decide +kernel
theorem d_M_inPlaceOf_177 : decode b_M_inPlaceOf 177 = .ok (.iaload, 1) := by decide +kernel
theorem d_M_inPlaceOf_178 : decode b_M_inPlaceOf 178 = .ok (.ifCond .le 7, 3) := by decide +kernel
theorem d_M_inPlaceOf_181 : decode b_M_inPlaceOf 181 = .ok (.iconst 1, 1) := by decide +kernel
theorem d_M_inPlaceOf_182 : decode b_M_inPlaceOf 182 = .ok (.goto 4, 3) := by decide +kernel
theorem d_M_inPlaceOf_185 : decode b_M_inPlaceOf 185 = .ok (.iconst 0, 1) := by decide +kernel
theorem d_M_inPlaceOf_186 : decode b_M_inPlaceOf 186 = .ok (.istore_n 3, 1) := by decide +kernel
theorem d_M_inPlaceOf_187 : decode b_M_inPlaceOf 187 = .ok (.iload_n 3, 1) := by decide +kernel
theorem d_M_inPlaceOf_188 : decode b_M_inPlaceOf 188 = .ok (.ifCond .eq 7, 3) := by decide +kernel
theorem d_M_inPlaceOf_191 : decode b_M_inPlaceOf 191 = .ok (.iconst (-1), 1) := by decide +kernel
theorem d_M_inPlaceOf_192 : decode b_M_inPlaceOf 192 = .ok (.goto 4, 3) := by decide +kernel
theorem d_M_inPlaceOf_195 : decode b_M_inPlaceOf 195 = .ok (.iload_n 1, 1) := by decide +kernel
theorem d_M_inPlaceOf_196 : decode b_M_inPlaceOf 196 = .ok (.ireturn, 1) := by decide +kernel
theorem d_M_innerOf_0 : decode b_M_innerOf 0 = .ok (.aload_n 0, 1) := by decide +kernel
theorem d_M_innerOf_1 : decode b_M_innerOf 1 = .ok (.getfield 27, 3) := by decide +kernel
theorem d_M_innerOf_4 : decode b_M_innerOf 4 = .ok (.iload_n 1, 1) := by decide +kernel
theorem d_M_innerOf_5 : decode b_M_innerOf 5 = .ok (.iaload, 1) := by decide +kernel
theorem d_M_innerOf_6 : decode b_M_innerOf 6 = .ok (.iconst 1, 1) := by decide +kernel
theorem d_M_innerOf_7 : decode b_M_innerOf 7 = .ok (.if_icmp .ne 25, 3) := by decide +kernel
theorem d_M_innerOf_10 : decode b_M_innerOf 10 = .ok (.iload_n 2, 1) := by decide +kernel
theorem d_M_innerOf_11 : decode b_M_innerOf 11 = .ok (.ifCond .ne 12, 3) := by decide +kernel
theorem d_M_innerOf_14 : decode b_M_innerOf 14 = .ok (.aload_n 0, 1) := by decide +kernel
theorem d_M_innerOf_15 : decode b_M_innerOf 15 = .ok (.getfield 33, 3) := by decide +kernel
theorem d_M_innerOf_18 : decode b_M_innerOf 18 = .ok (.iload_n 1, 1) := by decide +kernel
theorem d_M_innerOf_19 : decode b_M_innerOf 19 = .ok (.iaload, 1) := by decide +kernel
theorem d_M_innerOf_20 : decode b_M_innerOf 20 = .ok (.goto 37, 3) := by decide +kernel
theorem d_M_innerOf_23 : decode b_M_innerOf 23 = .ok (.aload_n 0, 1) := by decide +kernel
theorem d_M_innerOf_24 : decode b_M_innerOf 24 = .ok (.getfield 36, 3) := by decide +kernel
theorem d_M_innerOf_27 : decode b_M_innerOf 27 = .ok (.iload_n 1, 1) := by decide +kernel
theorem d_M_innerOf_28 : decode b_M_innerOf 28 = .ok (.iaload, 1) := by decide +kernel
theorem d_M_innerOf_29 : decode b_M_innerOf 29 = .ok (.goto 28, 3) := by decide +kernel
theorem d_M_innerOf_32 : decode b_M_innerOf 32 = .ok (.aload_n 0, 1) := by decide +kernel
theorem d_M_innerOf_33 : decode b_M_innerOf 33 = .ok (.getfield 27, 3) := by decide +kernel
theorem d_M_innerOf_36 : decode b_M_innerOf 36 = .ok (.iload_n 1, 1) := by decide +kernel
theorem d_M_innerOf_37 : decode b_M_innerOf 37 = .ok (.iaload, 1) := by decide +kernel
theorem d_M_innerOf_38 : decode b_M_innerOf 38 = .ok (.iconst 2, 1) := by decide +kernel
theorem d_M_innerOf_39 : decode b_M_innerOf 39 = .ok (.if_icmp .ne 12, 3) := by decide +kernel
theorem d_M_innerOf_42 : decode b_M_innerOf 42 = .ok (.aload_n 0, 1) := by decide +kernel
theorem d_M_innerOf_43 : decode b_M_innerOf 43 = .ok (.getfield 33, 3) := by decide +kernel
theorem d_M_innerOf_46 : decode b_M_innerOf 46 = .ok (.iload_n 1, 1) := by decide +kernel
theorem d_M_innerOf_47 : decode b_M_innerOf 47 = .ok (.iaload, 1) := by decide +kernel
theorem d_M_innerOf_48 : decode b_M_innerOf 48 = .ok (.goto 9, 3) := by decide +kernel
theorem d_M_innerOf_51 : decode b_M_innerOf 51 = .ok (.aload_n 0, 1) := by decide +kernel
theorem d_M_innerOf_52 : decode b_M_innerOf 52 = .ok (.getfield 30, 3) := by decide +kernel
theorem d_M_innerOf_55 : decode b_M_innerOf 55 = .ok (.iload_n 1, 1) := by decide +kernel
theorem d_M_innerOf_56 : decode b_M_innerOf 56 = .ok (.iaload, 1) := by decide +kernel
theorem d_M_innerOf_57 : decode b_M_innerOf 57 = .ok (.ireturn, 1) := by decide +kernel
theorem d_M_isSeen_0 : decode b_M_isSeen 0 = .ok (.aload_n 0, 1) := by decide +kernel
theorem d_M_isSeen_1 : decode b_M_isSeen 1 = .ok (.getfield 70, 3) := by decide +kernel
theorem d_M_isSeen_4 : decode b_M_isSeen 4 = .ok (.iload_n 1, 1) := by decide +kernel
theorem d_M_isSeen_5 : decode b_M_isSeen 5 = .ok (.iaload, 1) := by decide +kernel
theorem d_M_isSeen_6 : decode b_M_isSeen 6 = .ok (.aload_n 0, 1) := by decide +kernel
theorem d_M_isSeen_7 : decode b_M_isSeen 7 = .ok (.getfield 167, 3) := by decide +kernel
theorem d_M_isSeen_10 : decode b_M_isSeen 10 = .ok (.if_icmp .ne 7, 3) := by decide +kernel
theorem d_M_isSeen_13 : decode b_M_isSeen 13 = .ok (.iconst 1, 1) := by decide +kernel
theorem d_M_isSeen_14 : decode b_M_isSeen 14 = .ok (.goto 4, 3) := by decide +kernel
theorem d_M_isSeen_17 : decode b_M_isSeen 17 = .ok (.iconst 0, 1) := by decide +kernel
theorem d_M_isSeen_18 : decode b_M_isSeen 18 = .ok (.istore_n 2, 1) := by decide +kernel
theorem d_M_isSeen_19 : decode b_M_isSeen 19 = .ok (.aload_n 0, 1) := by decide +kernel
theorem d_M_isSeen_20 : decode b_M_isSeen 20 = .ok (.getfield 70, 3) := by decide +kernel
theorem d_M_isSeen_23 : decode b_M_isSeen 23 = .ok (.iload_n 1, 1) := by decide +kernel
theorem d_M_isSeen_24 : decode b_M_isSeen 24 = .ok (.aload_n 0, 1) := by decide +kernel
theorem d_M_isSeen_25 : decode b_M_isSeen 25 = .ok (.getfield 167, 3) := by decide +kernel
theorem d_M_isSeen_28 : decode b_M_isSeen 28 = .ok (.iastore, 1) := by decide +kernel
theorem d_M_isSeen_29 : decode b_M_isSeen 29 = .ok (.iload_n 2, 1) := by decide +kernel
theorem d_M_isSeen_30 : decode b_M_isSeen 30 = .ok (.ireturn, 1) := by decide +kernel
theorem d_M_replaced_0 : decode b_M_replaced 0 = .ok (.aload_n 0, 1) := by decide +kernel
theorem d_M_replaced_1 : decode b_M_replaced 1 = .ok (.dup, 1) := by decide +kernel
theorem d_M_replaced_2 : decode b_M_replaced 2 = .ok (.getfield 167, 3) := by decide +kernel
theorem d_M_replaced_5 : decode b_M_replaced 5 = .ok (.iconst 1, 1) := by decide +kernel
theorem d_M_replaced_6 : decode b_M_replaced 6 = .ok (.iadd, 1) := by decide +kernel
theorem d_M_replaced_7 : decode b_M_replaced 7 = .ok (.putfield 167, 3) := by decide +kernel
theorem d_M_replaced_10 : decode b_M_replaced 10 = .ok (.iconst 1, 1) := by decide +kernel
theorem d_M_replaced_11 : decode b_M_replaced 11 = .ok (.istore_n 3, 1) := by decide +kernel
theorem d_M_replaced_12 : decode b_M_replaced 12 = .ok (.aload_n 0, 1) := by decide +kernel
theorem d_M_replaced_13 : decode b_M_replaced 13 = .ok (.getfield 55, 3) := by decide +kernel
theorem d_M_replaced_16 : decode b_M_replaced 16 = .ok (.iconst 0, 1) := by decide +kernel
theorem d_M_replaced_17 : decode b_M_replaced 17 = .ok (.iload_n 1, 1) := by decide +kernel
theorem d_M_replaced_18 : decode b_M_replaced 18 = .ok (.iastore, 1) := by decide +kernel
theorem d_M_replaced_19 : decode b_M_replaced 19 = .ok (.aload_n 0, 1) := by decide +kernel
theorem d_M_replaced_20 : decode b_M_replaced 20 = .ok (.getfield 58, 3) := by decide +kernel
theorem d_M_replaced_23 : decode b_M_replaced 23 = .ok (.iconst 0, 1) := by decide +kernel
theorem d_M_replaced_24 : decode b_M_replaced 24 = .ok (.iconst 0, 1) := by decide +kernel
theorem d_M_replaced_25 : decode b_M_replaced 25 = .ok (.iastore, 1) := by decide +kernel
theorem d_M_replaced_26 : decode b_M_replaced 26 = .ok (.iconst (-1), 1) := by decide +kernel
theorem d_M_replaced_27 : decode b_M_replaced 27 = .ok (.istore 4, 2) := by decide +kernel
theorem d_M_replaced_29 : decode b_M_replaced 29 = .ok (.iconst 0, 1) := by decide +kernel
theorem d_M_replaced_30 : decode b_M_replaced 30 = .ok (.istore 5, 2) := by decide +kernel
theorem d_M_replaced_32 : decode b_M_replaced 32 = .ok (.iload_n 3, 1) := by decide +kernel
theorem d_M_replaced_33 : decode b_M_replaced 33 = .ok (.ifCond .le 332, 3) := by decide +kernel
theorem d_M_replaced_36 : decode b_M_replaced 36 = .ok (.aload_n 0, 1) := by decide +kernel
theorem d_M_replaced_37 : decode b_M_replaced 37 = .ok (.getfield 148, 3) := by decide +kernel
theorem d_M_replaced_40 : decode b_M_replaced 40 = .ok (.ifCond .ne 325, 3) := by decide +kernel
theorem d_M_replaced_43 : decode b_M_replaced 43 = .ok (.iload_n 3, 1) := by decide +kernel
theorem d_M_replaced_44 : decode b_M_replaced 44 = .ok (.iconst 1, 1) := by decide +kernel
theorem d_M_replaced_45 : decode b_M_replaced 45 = .ok (.isub, 1) := by decide +kernel
theorem d_M_replaced_46 : decode b_M_replaced 46 = .ok (.istore 6, 2) := by decide +kernel
theorem d_M_replaced_48 : decode b_M_replaced 48 = .ok (.aload_n 0, 1) := by decide +kernel
theorem d_M_replaced_49 : decode b_M_replaced 49 = .ok (.getfield 55, 3) := by decide +kernel
theorem d_M_replaced_52 : decode b_M_replaced 52 = .ok (.iload 6, 2) := by decide +kernel
theorem d_M_replaced_54 : decode b_M_replaced 54 = .ok (.iaload, 1) := by decide +kernel
theorem d_M_replaced_55 : decode b_M_replaced 55 = .ok (.istore 7, 2) := by decide +kernel
theorem d_M_replaced_57 : decode b_M_replaced 57 = .ok (.iload 5, 2) := by decide +kernel
theorem d_M_replaced_59 : decode b_M_replaced 59 = .ok (.ifCond .ne 89, 3) := by decide +kernel
theorem d_M_replaced_62 : decode b_M_replaced 62 = .ok (.aload_n 0, 1) := by decide +kernel
theorem d_M_replaced_63 : decode b_M_replaced 63 = .ok (.getfield 70, 3) := by decide +kernel
theorem d_M_replaced_66 : decode b_M_replaced 66 = .ok (.iload 7, 2) := by decide +kernel
theorem d_M_replaced_68 : decode b_M_replaced 68 = .ok (.iaload, 1) := by decide +kernel
theorem d_M_replaced_69 : decode b_M_replaced 69 = .ok (.aload_n 0, 1) := by decide +kernel
theorem d_M_replaced_70 : decode b_M_replaced 70 = .ok (.getfield 167, 3) := by decide +kernel
theorem d_M_replaced_73 : decode b_M_replaced 73 = .ok (.if_icmp .ne 13, 3) := by decide +kernel
theorem d_M_replaced_76 : decode b_M_replaced 76 = .ok (.aload_n 0, 1) := by decide +kernel
theorem d_M_replaced_77 : decode b_M_replaced 77 = .ok (.getfield 67, 3) := by decide +kernel
theorem d_M_replaced_80 : decode b_M_replaced 80 = .ok (.iload 7, 2) := by decide +kernel
theorem d_M_replaced_82 : decode b_M_replaced 82 = .ok (.iaload, 1) := by decide +kernel
theorem d_M_replaced_83 : decode b_M_replaced 83 = .ok (.goto 10, 3) := by decide +kernel
theorem d_M_replaced_86 : decode b_M_replaced 86 = .ok (.aload_n 0, 1) := by decide +kernel
theorem d_M_replaced_87 : decode b_M_replaced 87 = .ok (.iload 7, 2) := by decide +kernel
theorem d_M_replaced_89 : decode b_M_replaced 89 = .ok (.iload_n 2, 1) := by decide +kernel
theorem d_M_replaced_90 : decode b_M_replaced 90 = .ok (.invokevirtual 195, 3) := by decide +kernel
theorem d_M_replaced_93 : decode b_M_replaced 93 = .ok (.istore 8, 2) := by decide +kernel
theorem d_M_replaced_95 : decode b_M_replaced 95 = .ok (.iload 8, 2) := by decide +kernel
theorem d_M_replaced_97 : decode b_M_replaced 97 = .ok (.iconst (-1), 1) := by decide +kernel
theorem d_M_replaced_98 : decode b_M_replaced 98 = .ok (.if_icmp .ne 10, 3) := by decide +kernel
theorem d_M_replaced_101 : decode b_M_replaced 101 = .ok (.aload_n 0, 1) := by decide +kernel
theorem d_M_replaced_102 : decode b_M_replaced 102 = .ok (.getfield 148, 3) := by decide +kernel
theorem d_M_replaced_105 : decode b_M_replaced 105 = .ok (.ifCond .eq 16, 3) := by decide +kernel
theorem d_M_replaced_108 : decode b_M_replaced 108 = .ok (.iload 8, 2) := by decide +kernel
theorem d_M_replaced_110 : decode b_M_replaced 110 = .ok (.istore 4, 2) := by decide +kernel
theorem d_M_replaced_112 : decode b_M_replaced 112 = .ok (.iconst 1, 1) := by decide +kernel
theorem d_M_replaced_113 : decode b_M_replaced 113 = .ok (.istore 5, 2) := by decide +kernel
theorem d_M_replaced_115 : decode b_M_replaced 115 = .ok (.iinc 3 (-1), 3) := by decide +kernel
theorem d_M_replaced_118 : decode b_M_replaced 118 = .ok (.goto 27, 3) := by decide +kernel
theorem d_M_replaced_121 : decode b_M_replaced 121 = .ok (.aload_n 0, 1) := by decide +kernel
theorem d_M_replaced_122 : decode b_M_replaced 122 = .ok (.getfield 58, 3) := by decide +kernel
theorem d_M_replaced_125 : decode b_M_replaced 125 = .ok (.iload 6, 2) := by decide +kernel
theorem d_M_replaced_127 : decode b_M_replaced 127 = .ok (.iconst 0, 1) := by decide +kernel
theorem d_M_replaced_128 : decode b_M_replaced 128 = .ok (.iastore, 1) := by decide +kernel
theorem d_M_replaced_129 : decode b_M_replaced 129 = .ok (.aload_n 0, 1) := by decide +kernel
theorem d_M_replaced_130 : decode b_M_replaced 130 = .ok (.getfield 55, 3) := by decide +kernel
theorem d_M_replaced_133 : decode b_M_replaced 133 = .ok (.iload_n 3, 1) := by decide +kernel
theorem d_M_replaced_134 : decode b_M_replaced 134 = .ok (.aload_n 0, 1) := by decide +kernel
theorem d_M_replaced_135 : decode b_M_replaced 135 = .ok (.iload 7, 2) := by decide +kernel
theorem d_M_replaced_137 : decode b_M_replaced 137 = .ok (.iconst 0, 1) := by decide +kernel
theorem d_M_replaced_138 : decode b_M_replaced 138 = .ok (.invokevirtual 199, 3) := by decide +kernel
theorem d_M_replaced_141 : decode b_M_replaced 141 = .ok (.iastore, 1) := by decide +kernel
theorem d_M_replaced_142 : decode b_M_replaced 142 = .ok (.iinc 3 1, 3) := by decide +kernel
theorem d_M_replaced_145 : decode b_M_replaced 145 = .ok (.goto 217, 3) := by decide +kernel
theorem d_M_replaced_148 : decode b_M_replaced 148 = .ok (.aload_n 0, 1) := by decide +kernel
theorem d_M_replaced_149 : decode b_M_replaced 149 = .ok (.getfield 27, 3) := by decide +kernel
theorem d_M_replaced_152 : decode b_M_replaced 152 = .ok (.iload 7, 2) := by decide +kernel
theorem d_M_replaced_154 : decode b_M_replaced 154 = .ok (.iaload, 1) := by decide +kernel
theorem d_M_replaced_155 : decode b_M_replaced 155 = .ok (.iconst 1, 1) := by decide +kernel
theorem d_M_replaced_156 : decode b_M_replaced 156 = .ok (.if_icmp .ne 63, 3) := by decide +kernel
theorem d_M_replaced_159 : decode b_M_replaced 159 = .ok (.aload_n 0, 1) := by decide +kernel
theorem d_M_replaced_160 : decode b_M_replaced 160 = .ok (.getfield 58, 3) := by decide +kernel
theorem d_M_replaced_163 : decode b_M_replaced 163 = .ok (.iload 6, 2) := by decide +kernel
theorem d_M_replaced_165 : decode b_M_replaced 165 = .ok (.iaload, 1) := by decide +kernel
theorem d_M_replaced_166 : decode b_M_replaced 166 = .ok (.ifCond .ne 53, 3) := by decide +kernel
theorem d_M_replaced_169 : decode b_M_replaced 169 = .ok (.aload_n 0, 1) := by decide +kernel
theorem d_M_replaced_170 : decode b_M_replaced 170 = .ok (.getfield 36, 3) := by decide +kernel
theorem d_M_replaced_173 : decode b_M_replaced 173 = .ok (.iload 7, 2) := by decide +kernel
theorem d_M_replaced_175 : decode b_M_replaced 175 = .ok (.iaload, 1) := by decide +kernel
theorem d_M_replaced_176 : decode b_M_replaced 176 = .ok (.iconst (-1), 1) := by decide +kernel
theorem d_M_replaced_177 : decode b_M_replaced 177 = .ok (.if_icmp .eq 42, 3) := by decide +kernel
theorem d_M_replaced_180 : decode b_M_replaced 180 = .ok (.aload_n 0, 1) := by decide +kernel
theorem d_M_replaced_181 : decode b_M_replaced 181 = .ok (.getfield 61, 3) := by decide +kernel
theorem d_M_replaced_184 : decode b_M_replaced 184 = .ok (.iload 6, 2) := by decide +kernel
theorem d_M_replaced_186 : decode b_M_replaced 186 = .ok (.iload 4, 2) := by decide +kernel
theorem d_M_replaced_188 : decode b_M_replaced 188 = .ok (.iastore, 1) := by decide +kernel
theorem d_M_replaced_189 : decode b_M_replaced 189 = .ok (.aload_n 0, 1) := by decide +kernel
theorem d_M_replaced_190 : decode b_M_replaced 190 = .ok (.getfield 58, 3) := by decide +kernel
theorem d_M_replaced_193 : decode b_M_replaced 193 = .ok (.iload 6, 2) := by decide +kernel
theorem d_M_replaced_195 : decode b_M_replaced 195 = .ok (.iconst 1, 1) := by decide +kernel
theorem d_M_replaced_196 : decode b_M_replaced 196 = .ok (.iastore, 1) := by decide +kernel
theorem d_M_replaced_197 : decode b_M_replaced 197 = .ok (.iconst 0, 1) := by decide +kernel
theorem d_M_replaced_198 : decode b_M_replaced 198 = .ok (.istore 5, 2) := by decide +kernel
theorem d_M_replaced_200 : decode b_M_replaced 200 = .ok (.aload_n 0, 1) := by decide +kernel
theorem d_M_replaced_201 : decode b_M_replaced 201 = .ok (.getfield 55, 3) := by decide +kernel
theorem d_M_replaced_204 : decode b_M_replaced 204 = .ok (.iload_n 3, 1) := by decide +kernel
theorem d_M_replaced_205 : decode b_M_replaced 205 = .ok (.aload_n 0, 1) := by decide +kernel
theorem d_M_replaced_206 : decode b_M_replaced 206 = .ok (.getfield 36, 3) := by decide +kernel
theorem d_M_replaced_209 : decode b_M_replaced 209 = .ok (.iload 7, 2) := by decide +kernel
theorem d_M_replaced_211 : decode b_M_replaced 211 = .ok (.iaload, 1) := by decide +kernel
theorem d_M_replaced_212 : decode b_M_replaced 212 = .ok (.iastore, 1) := by decide +kernel
theorem d_M_replaced_213 : decode b_M_replaced 213 = .ok (.iinc 3 1, 3) := by decide +kernel
theorem d_M_replaced_216 : decode b_M_replaced 216 = .ok (.goto 146, 3) := by decide +kernel
theorem d_M_replaced_219 : decode b_M_replaced 219 = .ok (.aload_n 0, 1) := by decide +kernel
theorem d_M_replaced_220 : decode b_M_replaced 220 = .ok (.getfield 27, 3) := by decide +kernel
theorem d_M_replaced_223 : decode b_M_replaced 223 = .ok (.iload 7, 2) := by decide +kernel
theorem d_M_replaced_225 : decode b_M_replaced 225 = .ok (.iaload, 1) := by decide +kernel
theorem d_M_replaced_226 : decode b_M_replaced 226 = .ok (.iconst 1, 1) := by decide +kernel
theorem d_M_replaced_227 : decode b_M_replaced 227 = .ok (.if_icmp .ne 58, 3) := by decide +kernel
theorem d_M_replaced_230 : decode b_M_replaced 230 = .ok (.aload_n 0, 1) := by decide +kernel
theorem d_M_replaced_231 : decode b_M_replaced 231 = .ok (.getfield 58, 3) := by decide +kernel
theorem d_M_replaced_234 : decode b_M_replaced 234 = .ok (.iload 6, 2) := by decide +kernel
theorem d_M_replaced_236 : decode b_M_replaced 236 = .ok (.iaload, 1) := by decide +kernel
theorem d_M_replaced_237 : decode b_M_replaced 237 = .ok (.iconst 1, 1) := by decide +kernel
theorem d_M_replaced_238 : decode b_M_replaced 238 = .ok (.if_icmp .ne 27, 3) := by decide +kernel
theorem d_M_replaced_241 : decode b_M_replaced 241 = .ok (.aload_n 0, 1) := by decide +kernel
theorem d_M_replaced_242 : decode b_M_replaced 242 = .ok (.iconst 1, 1) := by decide +kernel
theorem d_M_replaced_243 : decode b_M_replaced 243 = .ok (.aload_n 0, 1) := by decide +kernel
theorem d_M_replaced_244 : decode b_M_replaced 244 = .ok (.getfield 30, 3) := by decide +kernel
theorem d_M_replaced_247 : decode b_M_replaced 247 = .ok (.iload 7, 2) := by decide +kernel
theorem d_M_replaced_249 : decode b_M_replaced 249 = .ok (.iaload, 1) := by decide +kernel
theorem d_M_replaced_250 : decode b_M_replaced 250 = .ok (.aload_n 0, 1) := by decide +kernel
theorem d_M_replaced_251 : decode b_M_replaced 251 = .ok (.getfield 61, 3) := by decide +kernel
theorem d_M_replaced_254 : decode b_M_replaced 254 = .ok (.iload 6, 2) := by decide +kernel
theorem d_M_replaced_256 : decode b_M_replaced 256 = .ok (.iaload, 1) := by decide +kernel
theorem d_M_replaced_257 : decode b_M_replaced 257 = .ok (.iload 4, 2) := by decide +kernel
theorem d_M_replaced_259 : decode b_M_replaced 259 = .ok (.invokevirtual 155, 3) := by decide +kernel
theorem d_M_replaced_262 : decode b_M_replaced 262 = .ok (.goto 18, 3) := by decide +kernel
theorem d_M_replaced_265 : decode b_M_replaced 265 = .ok (.aload_n 0, 1) := by decide +kernel
theorem d_M_replaced_266 : decode b_M_replaced 266 = .ok (.iconst 1, 1) := by decide +kernel
theorem d_M_replaced_267 : decode b_M_replaced 267 = .ok (.aload_n 0, 1) := by decide +kernel
theorem d_M_replaced_268 : decode b_M_replaced 268 = .ok (.getfield 30, 3) := by decide +kernel
theorem d_M_replaced_271 : decode b_M_replaced 271 = .ok (.iload 7, 2) := by decide +kernel
theorem d_M_replaced_273 : decode b_M_replaced 273 = .ok (.iaload, 1) := by decide +kernel
theorem d_M_replaced_274 : decode b_M_replaced 274 = .ok (.iload 4, 2) := by decide +kernel
theorem d_M_replaced_276 : decode b_M_replaced 276 = .ok (.iconst (-1), 1) := by decide +kernel
theorem d_M_replaced_277 : decode b_M_replaced 277 = .ok (.invokevirtual 155, 3) := by decide +kernel
theorem d_M_replaced_280 : decode b_M_replaced 280 = .ok (.istore 4, 2) := by decide +kernel
theorem d_M_replaced_282 : decode b_M_replaced 282 = .ok (.goto 57, 3) := by decide +kernel
theorem d_M_replaced_285 : decode b_M_replaced 285 = .ok (.aload_n 0, 1) := by decide +kernel
theorem d_M_replaced_286 : decode b_M_replaced 286 = .ok (.getfield 27, 3) := by decide +kernel
theorem d_M_replaced_289 : decode b_M_replaced 289 = .ok (.iload 7, 2) := by decide +kernel
theorem d_M_replaced_291 : decode b_M_replaced 291 = .ok (.iaload, 1) := by decide +kernel
theorem d_M_replaced_292 : decode b_M_replaced 292 = .ok (.iconst 2, 1) := by decide +kernel
theorem d_M_replaced_293 : decode b_M_replaced 293 = .ok (.if_icmp .ne 23, 3) := by decide +kernel
theorem d_M_replaced_296 : decode b_M_replaced 296 = .ok (.aload_n 0, 1) := by decide +kernel
theorem d_M_replaced_297 : decode b_M_replaced 297 = .ok (.iconst 2, 1) := by decide +kernel
theorem d_M_replaced_298 : decode b_M_replaced 298 = .ok (.aload_n 0, 1) := by decide +kernel
theorem d_M_replaced_299 : decode b_M_replaced 299 = .ok (.getfield 30, 3) := by decide +kernel
theorem d_M_replaced_302 : decode b_M_replaced 302 = .ok (.iload 7, 2) := by decide +kernel
theorem d_M_replaced_304 : decode b_M_replaced 304 = .ok (.iaload, 1) := by decide +kernel
theorem d_M_replaced_305 : decode b_M_replaced 305 = .ok (.iload 4, 2) := by decide +kernel
theorem d_M_replaced_307 : decode b_M_replaced 307 = .ok (.iconst (-1), 1) := by decide +kernel
theorem d_M_replaced_308 : decode b_M_replaced 308 = .ok (.invokevirtual 155, 3) := by decide +kernel
theorem d_M_replaced_311 : decode b_M_replaced 311 = .ok (.istore 4, 2) := by decide +kernel
theorem d_M_replaced_313 : decode b_M_replaced 313 = .ok (.goto 26, 3) := by decide +kernel
theorem d_M_replaced_316 : decode b_M_replaced 316 = .ok (.aload_n 0, 1) := by decide +kernel
theorem d_M_replaced_317 : decode b_M_replaced 317 = .ok (.aload_n 0, 1) := by decide +kernel
theorem d_M_replaced_318 : decode b_M_replaced 318 = .ok (.getfield 27, 3) := by decide +kernel
theorem d_M_replaced_321 : decode b_M_replaced 321 = .ok (.iload 7, 2) := by decide +kernel
theorem d_M_replaced_323 : decode b_M_replaced 323 = .ok (.iaload, 1) := by decide +kernel
theorem d_M_replaced_324 : decode b_M_replaced 324 = .ok (.iload 4, 2) := by decide +kernel
theorem d_M_replaced_326 : decode b_M_replaced 326 = .ok (.aload_n 0, 1) := by decide +kernel
theorem d_M_replaced_327 : decode b_M_replaced 327 = .ok (.getfield 33, 3) := by decide +kernel
theorem d_M_replaced_330 : decode b_M_replaced 330 = .ok (.iload 7, 2) := by decide +kernel
theorem d_M_replaced_332 : decode b_M_replaced 332 = .ok (.iaload, 1) := by decide +kernel
theorem d_M_replaced_333 : decode b_M_replaced 333 = .ok (.iconst (-1), 1) := by decide +kernel
theorem d_M_replaced_334 : decode b_M_replaced 334 = .ok (.invokevirtual 155, 3) := by decide +kernel
theorem d_M_replaced_337 : decode b_M_replaced 337 = .ok (.istore 4, 2) := by decide +kernel
theorem d_M_replaced_339 : decode b_M_replaced 339 = .ok (.aload_n 0, 1) := by decide +kernel
theorem d_M_replaced_340 : decode b_M_replaced 340 = .ok (.getfield 67, 3) := by decide +kernel
theorem d_M_replaced_343 : decode b_M_replaced 343 = .ok (.iload 7, 2) := by decide +kernel
theorem d_M_replaced_345 : decode b_M_replaced 345 = .ok (.iload 4, 2) := by decide +kernel
theorem d_M_replaced_347 : decode b_M_replaced 347 = .ok (.iastore, 1) := by decide +kernel
theorem d_M_replaced_348 : decode b_M_replaced 348 = .ok (.aload_n 0, 1) := by decide +kernel
theorem d_M_replaced_349 : decode b_M_replaced 349 = .ok (.getfield 70, 3) := by decide +kernel
theorem d_M_replaced_352 : decode b_M_replaced 352 = .ok (.iload 7, 2) := by decide +kernel
theorem d_M_replaced_354 : decode b_M_replaced 354 = .ok (.aload_n 0, 1) := by decide +kernel
theorem d_M_replaced_355 : decode b_M_replaced 355 = .ok (.getfield 167, 3) := by decide +kernel
theorem d_M_replaced_358 : decode b_M_replaced 358 = .ok (.iastore, 1) := by decide +kernel
theorem d_M_replaced_359 : decode b_M_replaced 359 = .ok (.iinc 3 (-1), 3) := by decide +kernel
theorem d_M_replaced_362 : decode b_M_replaced 362 = .ok (.goto (-330), 3) := by decide +kernel
theorem d_M_replaced_365 : decode b_M_replaced 365 = .ok (.aload_n 0, 1) := by decide +kernel
theorem d_M_replaced_366 : decode b_M_replaced 366 = .ok (.getfield 148, 3) := by decide +kernel
theorem d_M_replaced_369 : decode b_M_replaced 369 = .ok (.ifCond .eq 7, 3) := by decide +kernel
theorem d_M_replaced_372 : decode b_M_replaced 372 = .ok (.iconst (-1), 1) := by decide +kernel
theorem d_M_replaced_373 : decode b_M_replaced 373 = .ok (.goto 5, 3) := by decide +kernel
theorem d_M_replaced_376 : decode b_M_replaced 376 = .ok (.iload 4, 2) := by decide +kernel
theorem d_M_replaced_378 : decode b_M_replaced 378 = .ok (.ireturn, 1) := by decide +kernel
