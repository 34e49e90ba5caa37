theorem d_M_instanceOf_0 : decode b_M_instanceOf 0 = .ok (.iconst 0, 1) := by decide +kernel
theorem d_M_instanceOf_1 : decode b_M_instanceOf 1 = .ok (.istore_n 2, 1) := by decide +kernel
theorem d_M_instanceOf_2 : decode b_M_instanceOf 2 = .ok (.iload_n 2, 1) := by decide +kernel
theorem d_M_instanceOf_3 : decode b_M_instanceOf 3 = .ok (.aload_n 0, 1) := by decide +kernel
theorem d_M_instanceOf_4 : decode b_M_instanceOf 4 = .ok (.getfield 267, 3) := by decide +kernel
theorem d_M_instanceOf_7 : decode b_M_instanceOf 7 = .ok (.if_icmp .ge 49, 3) := by decide +kernel
theorem d_M_instanceOf_10 : decode b_M_instanceOf 10 = .ok (.aload_n 0, 1) := by decide +kernel
theorem d_M_instanceOf_11 : decode b_M_instanceOf 11 = .ok (.getfield 106, 3) := by decide +kernel
theorem d_M_instanceOf_14 : decode b_M_instanceOf 14 = .ok (.iload_n 2, 1) := by decide +kernel
theorem d_M_instanceOf_15 : decode b_M_instanceOf 15 = .ok (.iaload, 1) := by decide +kernel
theorem d_M_instanceOf_16 : decode b_M_instanceOf 16 = .ok (.iload_n 1, 1) := by decide +kernel
theorem d_M_instanceOf_17 : decode b_M_instanceOf 17 = .ok (.if_icmp .ne 33, 3) := by decide +kernel
theorem d_M_instanceOf_20 : decode b_M_instanceOf 20 = .ok (.aload_n 0, 1) := by decide +kernel
theorem d_M_instanceOf_21 : decode b_M_instanceOf 21 = .ok (.getfield 103, 3) := by decide +kernel
theorem d_M_instanceOf_24 : decode b_M_instanceOf 24 = .ok (.iload_n 2, 1) := by decide +kernel
theorem d_M_instanceOf_25 : decode b_M_instanceOf 25 = .ok (.iaload, 1) := by decide +kernel
theorem d_M_instanceOf_26 : decode b_M_instanceOf 26 = .ok (.ifCond .ne 24, 3) := by decide +kernel
theorem d_M_instanceOf_29 : decode b_M_instanceOf 29 = .ok (.aload_n 0, 1) := by decide +kernel
theorem d_M_instanceOf_30 : decode b_M_instanceOf 30 = .ok (.getfield 42, 3) := by decide +kernel
theorem d_M_instanceOf_33 : decode b_M_instanceOf 33 = .ok (.aload_n 0, 1) := by decide +kernel
theorem d_M_instanceOf_34 : decode b_M_instanceOf 34 = .ok (.getfield 109, 3) := by decide +kernel
theorem d_M_instanceOf_37 : decode b_M_instanceOf 37 = .ok (.iload_n 2, 1) := by decide +kernel
theorem d_M_instanceOf_38 : decode b_M_instanceOf 38 = .ok (.iaload, 1) := by decide +kernel
theorem d_M_instanceOf_39 : decode b_M_instanceOf 39 = .ok (.baload, 1) := by decide +kernel
theorem d_M_instanceOf_40 : decode b_M_instanceOf 40 = .ok (.ifCond .eq 10, 3) := by decide +kernel
theorem d_M_instanceOf_43 : decode b_M_instanceOf 43 = .ok (.aload_n 0, 1) := by decide +kernel
theorem d_M_instanceOf_44 : decode b_M_instanceOf 44 = .ok (.getfield 109, 3) := by decide +kernel
theorem d_M_instanceOf_47 : decode b_M_instanceOf 47 = .ok (.iload_n 2, 1) := by decide +kernel
theorem d_M_instanceOf_48 : decode b_M_instanceOf 48 = .ok (.iaload, 1) := by decide +kernel
theorem d_M_instanceOf_49 : decode b_M_instanceOf 49 = .ok (.ireturn, 1) := by decide +kernel
theorem d_M_instanceOf_50 : decode b_M_instanceOf 50 = .ok (.iinc 2 1, 3) := by decide +kernel
theorem d_M_instanceOf_53 : decode b_M_instanceOf 53 = .ok (.goto (-51), 3) := by decide +kernel
theorem d_M_instanceOf_56 : decode b_M_instanceOf 56 = .ok (.iconst (-1), 1) := by decide +kernel
theorem d_M_instanceOf_57 : decode b_M_instanceOf 57 = .ok (.ireturn, 1) := by decide +kernel
theorem d_M_isLinked_0 : decode b_M_isLinked 0 = .ok (.iconst 0, 1) := by decide +kernel
theorem d_M_isLinked_1 : decode b_M_isLinked 1 = .ok (.istore_n 3, 1) := by decide +kernel
theorem d_M_isLinked_2 : decode b_M_isLinked 2 = .ok (.iload_n 3, 1) := by decide +kernel
theorem d_M_isLinked_3 : decode b_M_isLinked 3 = .ok (.aload_n 0, 1) := by decide +kernel
theorem d_M_isLinked_4 : decode b_M_isLinked 4 = .ok (.getfield 267, 3) := by decide +kernel
theorem d_M_isLinked_7 : decode b_M_isLinked 7 = .ok (.if_icmp .ge 59, 3) := by decide +kernel
theorem d_M_isLinked_10 : decode b_M_isLinked 10 = .ok (.aload_n 0, 1) := by decide +kernel
theorem d_M_isLinked_11 : decode b_M_isLinked 11 = .ok (.getfield 106, 3) := by decide +kernel
theorem d_M_isLinked_14 : decode b_M_isLinked 14 = .ok (.iload_n 3, 1) := by decide +kernel
theorem d_M_isLinked_15 : decode b_M_isLinked 15 = .ok (.iaload, 1) := by decide +kernel
theorem d_M_isLinked_16 : decode b_M_isLinked 16 = .ok (.iload_n 1, 1) := by decide +kernel
theorem d_M_isLinked_17 : decode b_M_isLinked 17 = .ok (.if_icmp .ne 17, 3) := by decide +kernel
theorem d_M_isLinked_20 : decode b_M_isLinked 20 = .ok (.aload_n 0, 1) := by decide +kernel
theorem d_M_isLinked_21 : decode b_M_isLinked 21 = .ok (.iload_n 2, 1) := by decide +kernel
theorem d_M_isLinked_22 : decode b_M_isLinked 22 = .ok (.aload_n 0, 1) := by decide +kernel
theorem d_M_isLinked_23 : decode b_M_isLinked 23 = .ok (.getfield 109, 3) := by decide +kernel
theorem d_M_isLinked_26 : decode b_M_isLinked 26 = .ok (.iload_n 3, 1) := by decide +kernel
theorem d_M_isLinked_27 : decode b_M_isLinked 27 = .ok (.iaload, 1) := by decide +kernel
theorem d_M_isLinked_28 : decode b_M_isLinked 28 = .ok (.invokevirtual 295, 3) := by decide +kernel
theorem d_M_isLinked_31 : decode b_M_isLinked 31 = .ok (.ifCond .ne 27, 3) := by decide +kernel
theorem d_M_isLinked_34 : decode b_M_isLinked 34 = .ok (.aload_n 0, 1) := by decide +kernel
theorem d_M_isLinked_35 : decode b_M_isLinked 35 = .ok (.getfield 106, 3) := by decide +kernel
theorem d_M_isLinked_38 : decode b_M_isLinked 38 = .ok (.iload_n 3, 1) := by decide +kernel
theorem d_M_isLinked_39 : decode b_M_isLinked 39 = .ok (.iaload, 1) := by decide +kernel
theorem d_M_isLinked_40 : decode b_M_isLinked 40 = .ok (.iload_n 2, 1) := by decide +kernel
theorem d_M_isLinked_41 : decode b_M_isLinked 41 = .ok (.if_icmp .ne 19, 3) := by decide +kernel
theorem d_M_isLinked_44 : decode b_M_isLinked 44 = .ok (.aload_n 0, 1) := by decide +kernel
theorem d_M_isLinked_45 : decode b_M_isLinked 45 = .ok (.iload_n 1, 1) := by decide +kernel
theorem d_M_isLinked_46 : decode b_M_isLinked 46 = .ok (.aload_n 0, 1) := by decide +kernel
theorem d_M_isLinked_47 : decode b_M_isLinked 47 = .ok (.getfield 109, 3) := by decide +kernel
theorem d_M_isLinked_50 : decode b_M_isLinked 50 = .ok (.iload_n 3, 1) := by decide +kernel
theorem d_M_isLinked_51 : decode b_M_isLinked 51 = .ok (.iaload, 1) := by decide +kernel
theorem d_M_isLinked_52 : decode b_M_isLinked 52 = .ok (.invokevirtual 295, 3) := by decide +kernel
theorem d_M_isLinked_55 : decode b_M_isLinked 55 = .ok (.ifCond .eq 5, 3) := by decide +kernel
theorem d_M_isLinked_58 : decode b_M_isLinked 58 = .ok (.iconst 1, 1) := by decide +kernel
theorem d_M_isLinked_59 : decode b_M_isLinked 59 = .ok (.ireturn, 1) := by decide +kernel
theorem d_M_isLinked_60 : decode b_M_isLinked 60 = .ok (.iinc 3 1, 3) := by decide +kernel
theorem d_M_isLinked_63 : decode b_M_isLinked 63 = .ok (.goto (-61), 3) := by decide +kernel
theorem d_M_isLinked_66 : decode b_M_isLinked 66 = .ok (.iconst 0, 1) := by decide +kernel
theorem d_M_isLinked_67 : decode b_M_isLinked 67 = .ok (.ireturn, 1) := by decide +kernel
theorem d_M_depends_0 : decode b_M_depends 0 = .ok (.iconst 0, 1) := by decide +kernel
theorem d_M_depends_1 : decode b_M_depends 1 = .ok (.istore_n 2, 1) := by decide +kernel
theorem d_M_depends_2 : decode b_M_depends 2 = .ok (.iload_n 2, 1) := by decide +kernel
theorem d_M_depends_3 : decode b_M_depends 3 = .ok (.bipush 12, 2) := by decide +kernel
theorem d_M_depends_5 : decode b_M_depends 5 = .ok (.if_icmp .ge 25, 3) := by decide +kernel
theorem d_M_depends_8 : decode b_M_depends 8 = .ok (.aload_n 0, 1) := by decide +kernel
theorem d_M_depends_9 : decode b_M_depends 9 = .ok (.getfield 133, 3) := by decide +kernel
theorem d_M_depends_12 : decode b_M_depends 12 = .ok (.iload_n 2, 1) := by decide +kernel
theorem d_M_depends_13 : decode b_M_depends 13 = .ok (.iload_n 2, 1) := by decide +kernel
theorem d_M_depends_14 : decode b_M_depends 14 = .ok (.iload_n 1, 1) := by decide +kernel
theorem d_M_depends_15 : decode b_M_depends 15 = .ok (.if_icmp .ne 7, 3) := by decide +kernel
theorem d_M_depends_18 : decode b_M_depends 18 = .ok (.iconst 1, 1) := by decide +kernel
theorem d_M_depends_19 : decode b_M_depends 19 = .ok (.goto 4, 3) := by decide +kernel
theorem d_M_depends_22 : decode b_M_depends 22 = .ok (.iconst 0, 1) := by decide +kernel
theorem d_M_depends_23 : decode b_M_depends 23 = .ok (.bastore, 1) := by decide +kernel
theorem d_M_depends_24 : decode b_M_depends 24 = .ok (.iinc 2 1, 3) := by decide +kernel
theorem d_M_depends_27 : decode b_M_depends 27 = .ok (.goto (-25), 3) := by decide +kernel
theorem d_M_depends_30 : decode b_M_depends 30 = .ok (.iconst 1, 1) := by decide +kernel
theorem d_M_depends_31 : decode b_M_depends 31 = .ok (.istore_n 2, 1) := by decide +kernel
theorem d_M_depends_32 : decode b_M_depends 32 = .ok (.iconst 1, 1) := by decide +kernel
theorem d_M_depends_33 : decode b_M_depends 33 = .ok (.istore_n 3, 1) := by decide +kernel
theorem d_M_depends_34 : decode b_M_depends 34 = .ok (.iload_n 3, 1) := by decide +kernel
theorem d_M_depends_35 : decode b_M_depends 35 = .ok (.ifCond .eq 98, 3) := by decide +kernel
theorem d_M_depends_38 : decode b_M_depends 38 = .ok (.iconst 0, 1) := by decide +kernel
theorem d_M_depends_39 : decode b_M_depends 39 = .ok (.istore_n 3, 1) := by decide +kernel
theorem d_M_depends_40 : decode b_M_depends 40 = .ok (.iconst 0, 1) := by decide +kernel
theorem d_M_depends_41 : decode b_M_depends 41 = .ok (.istore 4, 2) := by decide +kernel
theorem d_M_depends_43 : decode b_M_depends 43 = .ok (.iload 4, 2) := by decide +kernel
theorem d_M_depends_45 : decode b_M_depends 45 = .ok (.aload_n 0, 1) := by decide +kernel
theorem d_M_depends_46 : decode b_M_depends 46 = .ok (.getfield 192, 3) := by decide +kernel
theorem d_M_depends_49 : decode b_M_depends 49 = .ok (.if_icmp .ge 81, 3) := by decide +kernel
theorem d_M_depends_52 : decode b_M_depends 52 = .ok (.iconst 0, 1) := by decide +kernel
theorem d_M_depends_53 : decode b_M_depends 53 = .ok (.istore 5, 2) := by decide +kernel
theorem d_M_depends_55 : decode b_M_depends 55 = .ok (.iload 5, 2) := by decide +kernel
theorem d_M_depends_57 : decode b_M_depends 57 = .ok (.aload_n 0, 1) := by decide +kernel
theorem d_M_depends_58 : decode b_M_depends 58 = .ok (.getfield 192, 3) := by decide +kernel
theorem d_M_depends_61 : decode b_M_depends 61 = .ok (.if_icmp .ge 63, 3) := by decide +kernel
theorem d_M_depends_64 : decode b_M_depends 64 = .ok (.aload_n 0, 1) := by decide +kernel
theorem d_M_depends_65 : decode b_M_depends 65 = .ok (.getfield 133, 3) := by decide +kernel
theorem d_M_depends_68 : decode b_M_depends 68 = .ok (.iload 4, 2) := by decide +kernel
theorem d_M_depends_70 : decode b_M_depends 70 = .ok (.baload, 1) := by decide +kernel
theorem d_M_depends_71 : decode b_M_depends 71 = .ok (.ifCond .eq 47, 3) := by decide +kernel
theorem d_M_depends_74 : decode b_M_depends 74 = .ok (.aload_n 0, 1) := by decide +kernel
theorem d_M_depends_75 : decode b_M_depends 75 = .ok (.getfield 133, 3) := by decide +kernel
theorem d_M_depends_78 : decode b_M_depends 78 = .ok (.iload 5, 2) := by decide +kernel
theorem d_M_depends_80 : decode b_M_depends 80 = .ok (.baload, 1) := by decide +kernel
theorem d_M_depends_81 : decode b_M_depends 81 = .ok (.ifCond .ne 37, 3) := by decide +kernel
theorem d_M_depends_84 : decode b_M_depends 84 = .ok (.aload_n 0, 1) := by decide +kernel
theorem d_M_depends_85 : decode b_M_depends 85 = .ok (.getfield 130, 3) := by decide +kernel
theorem d_M_depends_88 : decode b_M_depends 88 = .ok (.iload 5, 2) := by decide +kernel
theorem d_M_depends_90 : decode b_M_depends 90 = .ok (.baload, 1) := by decide +kernel
theorem d_M_depends_91 : decode b_M_depends 91 = .ok (.ifCond .ne 27, 3) := by decide +kernel
theorem d_M_depends_94 : decode b_M_depends 94 = .ok (.aload_n 0, 1) := by decide +kernel
theorem d_M_depends_95 : decode b_M_depends 95 = .ok (.iload 4, 2) := by decide +kernel
theorem d_M_depends_97 : decode b_M_depends 97 = .ok (.iload 5, 2) := by decide +kernel
theorem d_M_depends_99 : decode b_M_depends 99 = .ok (.invokevirtual 319, 3) := by decide +kernel
theorem d_M_depends_102 : decode b_M_depends 102 = .ok (.ifCond .eq 16, 3) := by decide +kernel
theorem d_M_depends_105 : decode b_M_depends 105 = .ok (.aload_n 0, 1) := by decide +kernel
theorem d_M_depends_106 : decode b_M_depends 106 = .ok (.getfield 133, 3) := by decide +kernel
theorem d_M_depends_109 : decode b_M_depends 109 = .ok (.iload 5, 2) := by decide +kernel
theorem d_M_depends_111 : decode b_M_depends 111 = .ok (.iconst 1, 1) := by decide +kernel
theorem d_M_depends_112 : decode b_M_depends 112 = .ok (.bastore, 1) := by decide +kernel
theorem d_M_depends_113 : decode b_M_depends 113 = .ok (.iinc 2 1, 3) := by decide +kernel
theorem d_M_depends_116 : decode b_M_depends 116 = .ok (.iconst 1, 1) := by decide +kernel
theorem d_M_depends_117 : decode b_M_depends 117 = .ok (.istore_n 3, 1) := by decide +kernel
theorem d_M_depends_118 : decode b_M_depends 118 = .ok (.iinc 5 1, 3) := by decide +kernel
theorem d_M_depends_121 : decode b_M_depends 121 = .ok (.goto (-66), 3) := by decide +kernel
theorem d_M_depends_124 : decode b_M_depends 124 = .ok (.iinc 4 1, 3) := by decide +kernel
theorem d_M_depends_127 : decode b_M_depends 127 = .ok (.goto (-84), 3) := by decide +kernel
theorem d_M_depends_130 : decode b_M_depends 130 = .ok (.goto (-96), 3) := by decide +kernel
theorem d_M_depends_133 : decode b_M_depends 133 = .ok (.iload_n 2, 1) := by decide +kernel
theorem d_M_depends_134 : decode b_M_depends 134 = .ok (.ireturn, 1) := by decide +kernel
theorem d_M_resolve_0 : decode b_M_resolve 0 = .ok (.aload_n 0, 1) := by decide +kernel
theorem d_M_resolve_1 : decode b_M_resolve 1 = .ok (.getfield 301, 3) := by decide +kernel
theorem d_M_resolve_4 : decode b_M_resolve 4 = .ok (.ifCond .eq 5, 3) := by decide +kernel
theorem d_M_resolve_7 : decode b_M_resolve 7 = .ok (.iconst (-1), 1) := by decide +kernel
theorem d_M_resolve_8 : decode b_M_resolve 8 = .ok (.ireturn, 1) := by decide +kernel
theorem d_M_resolve_9 : decode b_M_resolve 9 = .ok (.aload_n 0, 1) := by decide +kernel
theorem d_M_resolve_10 : decode b_M_resolve 10 = .ok (.iconst (-1), 1) := by decide +kernel
theorem d_M_resolve_11 : decode b_M_resolve 11 = .ok (.invokevirtual 307, 3) := by decide +kernel
theorem d_M_resolve_14 : decode b_M_resolve 14 = .ok (.iconst 1, 1) := by decide +kernel
theorem d_M_resolve_15 : decode b_M_resolve 15 = .ok (.istore_n 1, 1) := by decide +kernel
theorem d_M_resolve_16 : decode b_M_resolve 16 = .ok (.iload_n 1, 1) := by decide +kernel
theorem d_M_resolve_17 : decode b_M_resolve 17 = .ok (.ifCond .eq 145, 3) := by decide +kernel
theorem d_M_resolve_20 : decode b_M_resolve 20 = .ok (.aload_n 0, 1) := by decide +kernel
theorem d_M_resolve_21 : decode b_M_resolve 21 = .ok (.getfield 148, 3) := by decide +kernel
theorem d_M_resolve_24 : decode b_M_resolve 24 = .ok (.ifCond .ne 138, 3) := by decide +kernel
theorem d_M_resolve_27 : decode b_M_resolve 27 = .ok (.iconst (-1), 1) := by decide +kernel
theorem d_M_resolve_28 : decode b_M_resolve 28 = .ok (.istore_n 2, 1) := by decide +kernel
theorem d_M_resolve_29 : decode b_M_resolve 29 = .ok (.bipush 99, 2) := by decide +kernel
theorem d_M_resolve_31 : decode b_M_resolve 31 = .ok (.istore_n 3, 1) := by decide +kernel
theorem d_M_resolve_32 : decode b_M_resolve 32 = .ok (.iconst 0, 1) := by decide +kernel
theorem d_M_resolve_33 : decode b_M_resolve 33 = .ok (.istore 4, 2) := by decide +kernel
theorem d_M_resolve_35 : decode b_M_resolve 35 = .ok (.iload 4, 2) := by decide +kernel
theorem d_M_resolve_37 : decode b_M_resolve 37 = .ok (.aload_n 0, 1) := by decide +kernel
theorem d_M_resolve_38 : decode b_M_resolve 38 = .ok (.getfield 192, 3) := by decide +kernel
theorem d_M_resolve_41 : decode b_M_resolve 41 = .ok (.if_icmp .ge 31, 3) := by decide +kernel
theorem d_M_resolve_44 : decode b_M_resolve 44 = .ok (.aload_n 0, 1) := by decide +kernel
theorem d_M_resolve_45 : decode b_M_resolve 45 = .ok (.getfield 130, 3) := by decide +kernel
theorem d_M_resolve_48 : decode b_M_resolve 48 = .ok (.iload 4, 2) := by decide +kernel
theorem d_M_resolve_50 : decode b_M_resolve 50 = .ok (.aload_n 0, 1) := by decide +kernel
theorem d_M_resolve_51 : decode b_M_resolve 51 = .ok (.iload 4, 2) := by decide +kernel
theorem d_M_resolve_53 : decode b_M_resolve 53 = .ok (.invokevirtual 322, 3) := by decide +kernel
theorem d_M_resolve_56 : decode b_M_resolve 56 = .ok (.iconst (-1), 1) := by decide +kernel
theorem d_M_resolve_57 : decode b_M_resolve 57 = .ok (.if_icmp .eq 7, 3) := by decide +kernel
theorem d_M_resolve_60 : decode b_M_resolve 60 = .ok (.iconst 1, 1) := by decide +kernel
theorem d_M_resolve_61 : decode b_M_resolve 61 = .ok (.goto 4, 3) := by decide +kernel
theorem d_M_resolve_64 : decode b_M_resolve 64 = .ok (.iconst 0, 1) := by decide +kernel
theorem d_M_resolve_65 : decode b_M_resolve 65 = .ok (.bastore, 1) := by decide +kernel
theorem d_M_resolve_66 : decode b_M_resolve 66 = .ok (.iinc 4 1, 3) := by decide +kernel
theorem d_M_resolve_69 : decode b_M_resolve 69 = .ok (.goto (-34), 3) := by decide +kernel
theorem d_M_resolve_72 : decode b_M_resolve 72 = .ok (.iconst 0, 1) := by decide +kernel
theorem d_M_resolve_73 : decode b_M_resolve 73 = .ok (.istore 4, 2) := by decide +kernel
theorem d_M_resolve_75 : decode b_M_resolve 75 = .ok (.iload 4, 2) := by decide +kernel
theorem d_M_resolve_77 : decode b_M_resolve 77 = .ok (.aload_n 0, 1) := by decide +kernel
theorem d_M_resolve_78 : decode b_M_resolve 78 = .ok (.getfield 192, 3) := by decide +kernel
theorem d_M_resolve_81 : decode b_M_resolve 81 = .ok (.if_icmp .ge 58, 3) := by decide +kernel
theorem d_M_resolve_84 : decode b_M_resolve 84 = .ok (.aload_n 0, 1) := by decide +kernel
theorem d_M_resolve_85 : decode b_M_resolve 85 = .ok (.getfield 130, 3) := by decide +kernel
theorem d_M_resolve_88 : decode b_M_resolve 88 = .ok (.iload 4, 2) := by decide +kernel
theorem d_M_resolve_90 : decode b_M_resolve 90 = .ok (.baload, 1) := by decide +kernel
theorem d_M_resolve_91 : decode b_M_resolve 91 = .ok (.ifCond .eq 8, 3) := by decide +kernel
theorem d_M_resolve_94 : decode b_M_resolve 94 = .ok (.bipush 99, 2) := by decide +kernel
theorem d_M_resolve_96 : decode b_M_resolve 96 = .ok (.goto 9, 3) := by decide +kernel
theorem d_M_resolve_99 : decode b_M_resolve 99 = .ok (.aload_n 0, 1) := by decide +kernel
theorem d_M_resolve_100 : decode b_M_resolve 100 = .ok (.iload 4, 2) := by decide +kernel
theorem d_M_resolve_102 : decode b_M_resolve 102 = .ok (.invokevirtual 325, 3) := by decide +kernel
theorem d_M_resolve_105 : decode b_M_resolve 105 = .ok (.istore 5, 2) := by decide +kernel
theorem d_M_resolve_107 : decode b_M_resolve 107 = .ok (.iload 5, 2) := by decide +kernel
theorem d_M_resolve_109 : decode b_M_resolve 109 = .ok (.iload_n 3, 1) := by decide +kernel
theorem d_M_resolve_110 : decode b_M_resolve 110 = .ok (.if_icmp .ge 8, 3) := by decide +kernel
theorem d_M_resolve_113 : decode b_M_resolve 113 = .ok (.iload 4, 2) := by decide +kernel
theorem d_M_resolve_115 : decode b_M_resolve 115 = .ok (.goto 4, 3) := by decide +kernel
theorem d_M_resolve_118 : decode b_M_resolve 118 = .ok (.iload_n 2, 1) := by decide +kernel
theorem d_M_resolve_119 : decode b_M_resolve 119 = .ok (.istore_n 2, 1) := by decide +kernel
theorem d_M_resolve_120 : decode b_M_resolve 120 = .ok (.iload 5, 2) := by decide +kernel
theorem d_M_resolve_122 : decode b_M_resolve 122 = .ok (.iload_n 3, 1) := by decide +kernel
theorem d_M_resolve_123 : decode b_M_resolve 123 = .ok (.if_icmp .ge 8, 3) := by decide +kernel
theorem d_M_resolve_126 : decode b_M_resolve 126 = .ok (.iload 5, 2) := by decide +kernel
theorem d_M_resolve_128 : decode b_M_resolve 128 = .ok (.goto 4, 3) := by decide +kernel
theorem d_M_resolve_131 : decode b_M_resolve 131 = .ok (.iload_n 3, 1) := by decide +kernel
theorem d_M_resolve_132 : decode b_M_resolve 132 = .ok (.istore_n 3, 1) := by decide +kernel
theorem d_M_resolve_133 : decode b_M_resolve 133 = .ok (.iinc 4 1, 3) := by decide +kernel
theorem d_M_resolve_136 : decode b_M_resolve 136 = .ok (.goto (-61), 3) := by decide +kernel
theorem d_M_resolve_139 : decode b_M_resolve 139 = .ok (.iload_n 2, 1) := by decide +kernel
theorem d_M_resolve_140 : decode b_M_resolve 140 = .ok (.iconst (-1), 1) := by decide +kernel
theorem d_M_resolve_141 : decode b_M_resolve 141 = .ok (.if_icmp .ne 6, 3) := by decide +kernel
theorem d_M_resolve_144 : decode b_M_resolve 144 = .ok (.goto 18, 3) := by decide +kernel
theorem d_M_resolve_147 : decode b_M_resolve 147 = .ok (.aload_n 0, 1) := by decide +kernel
theorem d_M_resolve_148 : decode b_M_resolve 148 = .ok (.iload_n 2, 1) := by decide +kernel
theorem d_M_resolve_149 : decode b_M_resolve 149 = .ok (.invokevirtual 325, 3) := by decide +kernel
theorem d_M_resolve_152 : decode b_M_resolve 152 = .ok (.istore 4, 2) := by decide +kernel
theorem d_M_resolve_154 : decode b_M_resolve 154 = .ok (.aload_n 0, 1) := by decide +kernel
theorem d_M_resolve_155 : decode b_M_resolve 155 = .ok (.invokevirtual 328, 3) := by decide +kernel
theorem d_M_resolve_158 : decode b_M_resolve 158 = .ok (.istore_n 1, 1) := by decide +kernel
theorem d_M_resolve_159 : decode b_M_resolve 159 = .ok (.goto (-143), 3) := by decide +kernel
theorem d_M_resolve_162 : decode b_M_resolve 162 = .ok (.aload_n 0, 1) := by decide +kernel
theorem d_M_resolve_163 : decode b_M_resolve 163 = .ok (.iload_n 1, 1) := by decide +kernel
theorem d_M_resolve_164 : decode b_M_resolve 164 = .ok (.iconst (-1), 1) := by decide +kernel
theorem d_M_resolve_165 : decode b_M_resolve 165 = .ok (.invokevirtual 315, 3) := by decide +kernel
theorem d_M_resolve_168 : decode b_M_resolve 168 = .ok (.aload_n 0, 1) := by decide +kernel
theorem d_M_resolve_169 : decode b_M_resolve 169 = .ok (.getfield 301, 3) := by decide +kernel
theorem d_M_resolve_172 : decode b_M_resolve 172 = .ok (.ifCond .ne 10, 3) := by decide +kernel
theorem d_M_resolve_175 : decode b_M_resolve 175 = .ok (.aload_n 0, 1) := by decide +kernel
theorem d_M_resolve_176 : decode b_M_resolve 176 = .ok (.getfield 192, 3) := by decide +kernel
theorem d_M_resolve_179 : decode b_M_resolve 179 = .ok (.goto 4, 3) := by decide +kernel
theorem d_M_resolve_182 : decode b_M_resolve 182 = .ok (.iconst (-1), 1) := by decide +kernel
theorem d_M_resolve_183 : decode b_M_resolve 183 = .ok (.ireturn, 1) := by decide +kernel
theorem d_M_chooseAll_0 : decode b_M_chooseAll 0 = .ok (.iconst 1, 1) := by decide +kernel
theorem d_M_chooseAll_1 : decode b_M_chooseAll 1 = .ok (.istore_n 1, 1) := by decide +kernel
theorem d_M_chooseAll_2 : decode b_M_chooseAll 2 = .ok (.iconst 0, 1) := by decide +kernel
theorem d_M_chooseAll_3 : decode b_M_chooseAll 3 = .ok (.istore_n 2, 1) := by decide +kernel
theorem d_M_chooseAll_4 : decode b_M_chooseAll 4 = .ok (.iload_n 2, 1) := by decide +kernel
theorem d_M_chooseAll_5 : decode b_M_chooseAll 5 = .ok (.aload_n 0, 1) := by decide +kernel
theorem d_M_chooseAll_6 : decode b_M_chooseAll 6 = .ok (.getfield 192, 3) := by decide +kernel
theorem d_M_chooseAll_9 : decode b_M_chooseAll 9 = .ok (.if_icmp .ge 62, 3) := by decide +kernel
theorem d_M_chooseAll_12 : decode b_M_chooseAll 12 = .ok (.iload_n 1, 1) := by decide +kernel
theorem d_M_chooseAll_13 : decode b_M_chooseAll 13 = .ok (.ifCond .eq 58, 3) := by decide +kernel
theorem d_M_chooseAll_16 : decode b_M_chooseAll 16 = .ok (.aload_n 0, 1) := by decide +kernel
theorem d_M_chooseAll_17 : decode b_M_chooseAll 17 = .ok (.getfield 136, 3) := by decide +kernel
theorem d_M_chooseAll_20 : decode b_M_chooseAll 20 = .ok (.iload_n 2, 1) := by decide +kernel
theorem d_M_chooseAll_21 : decode b_M_chooseAll 21 = .ok (.aload_n 0, 1) := by decide +kernel
theorem d_M_chooseAll_22 : decode b_M_chooseAll 22 = .ok (.getfield 133, 3) := by decide +kernel
theorem d_M_chooseAll_25 : decode b_M_chooseAll 25 = .ok (.iload_n 2, 1) := by decide +kernel
theorem d_M_chooseAll_26 : decode b_M_chooseAll 26 = .ok (.baload, 1) := by decide +kernel
theorem d_M_chooseAll_27 : decode b_M_chooseAll 27 = .ok (.ifCond .eq 11, 3) := by decide +kernel
theorem d_M_chooseAll_30 : decode b_M_chooseAll 30 = .ok (.aload_n 0, 1) := by decide +kernel
theorem d_M_chooseAll_31 : decode b_M_chooseAll 31 = .ok (.iload_n 2, 1) := by decide +kernel
theorem d_M_chooseAll_32 : decode b_M_chooseAll 32 = .ok (.invokevirtual 331, 3) := by decide +kernel
theorem d_M_chooseAll_35 : decode b_M_chooseAll 35 = .ok (.goto 4, 3) := by decide +kernel
theorem d_M_chooseAll_38 : decode b_M_chooseAll 38 = .ok (.iconst (-1), 1) := by decide +kernel
theorem d_M_chooseAll_39 : decode b_M_chooseAll 39 = .ok (.iastore, 1) := by decide +kernel
theorem d_M_chooseAll_40 : decode b_M_chooseAll 40 = .ok (.aload_n 0, 1) := by decide +kernel
theorem d_M_chooseAll_41 : decode b_M_chooseAll 41 = .ok (.getfield 133, 3) := by decide +kernel
theorem d_M_chooseAll_44 : decode b_M_chooseAll 44 = .ok (.iload_n 2, 1) := by decide +kernel
theorem d_M_chooseAll_45 : decode b_M_chooseAll 45 = .ok (.baload, 1) := by decide +kernel
theorem d_M_chooseAll_46 : decode b_M_chooseAll 46 = .ok (.ifCond .eq 13, 3) := by decide +kernel
theorem d_M_chooseAll_49 : decode b_M_chooseAll 49 = .ok (.aload_n 0, 1) := by decide +kernel
theorem d_M_chooseAll_50 : decode b_M_chooseAll 50 = .ok (.getfield 136, 3) := by decide +kernel
theorem d_M_chooseAll_53 : decode b_M_chooseAll 53 = .ok (.iload_n 2, 1) := by decide +kernel
theorem d_M_chooseAll_54 : decode b_M_chooseAll 54 = .ok (.iaload, 1) := by decide +kernel
theorem d_M_chooseAll_55 : decode b_M_chooseAll 55 = .ok (.iconst (-1), 1) := by decide +kernel
theorem d_M_chooseAll_56 : decode b_M_chooseAll 56 = .ok (.if_icmp .eq 7, 3) := by decide +kernel
theorem d_M_chooseAll_59 : decode b_M_chooseAll 59 = .ok (.iconst 1, 1) := by decide +kernel
theorem d_M_chooseAll_60 : decode b_M_chooseAll 60 = .ok (.goto 4, 3) := by decide +kernel
theorem d_M_chooseAll_63 : decode b_M_chooseAll 63 = .ok (.iconst 0, 1) := by decide +kernel
theorem d_M_chooseAll_64 : decode b_M_chooseAll 64 = .ok (.istore_n 1, 1) := by decide +kernel
theorem d_M_chooseAll_65 : decode b_M_chooseAll 65 = .ok (.iinc 2 1, 3) := by decide +kernel
theorem d_M_chooseAll_68 : decode b_M_chooseAll 68 = .ok (.goto (-64), 3) := by decide +kernel
theorem d_M_chooseAll_71 : decode b_M_chooseAll 71 = .ok (.iconst 0, 1) := by decide +kernel
theorem d_M_chooseAll_72 : decode b_M_chooseAll 72 = .ok (.istore_n 2, 1) := by decide +kernel
theorem d_M_chooseAll_73 : decode b_M_chooseAll 73 = .ok (.iload_n 2, 1) := by decide +kernel
theorem d_M_chooseAll_74 : decode b_M_chooseAll 74 = .ok (.aload_n 0, 1) := by decide +kernel
theorem d_M_chooseAll_75 : decode b_M_chooseAll 75 = .ok (.getfield 192, 3) := by decide +kernel
theorem d_M_chooseAll_78 : decode b_M_chooseAll 78 = .ok (.if_icmp .ge 58, 3) := by decide +kernel
theorem d_M_chooseAll_81 : decode b_M_chooseAll 81 = .ok (.iload_n 1, 1) := by decide +kernel
theorem d_M_chooseAll_82 : decode b_M_chooseAll 82 = .ok (.ifCond .eq 54, 3) := by decide +kernel
theorem d_M_chooseAll_85 : decode b_M_chooseAll 85 = .ok (.aload_n 0, 1) := by decide +kernel
theorem d_M_chooseAll_86 : decode b_M_chooseAll 86 = .ok (.getfield 133, 3) := by decide +kernel
theorem d_M_chooseAll_89 : decode b_M_chooseAll 89 = .ok (.iload_n 2, 1) := by decide +kernel
theorem d_M_chooseAll_90 : decode b_M_chooseAll 90 = .ok (.baload, 1) := by decide +kernel
theorem d_M_chooseAll_91 : decode b_M_chooseAll 91 = .ok (.ifCond .eq 39, 3) := by decide +kernel
theorem d_M_chooseAll_94 : decode b_M_chooseAll 94 = .ok (.aload_n 0, 1) := by decide +kernel
theorem d_M_chooseAll_95 : decode b_M_chooseAll 95 = .ok (.iconst 3, 1) := by decide +kernel
theorem d_M_chooseAll_96 : decode b_M_chooseAll 96 = .ok (.aload_n 0, 1) := by decide +kernel
theorem d_M_chooseAll_97 : decode b_M_chooseAll 97 = .ok (.bipush 7, 2) := by decide +kernel
theorem d_M_chooseAll_99 : decode b_M_chooseAll 99 = .ok (.iload_n 2, 1) := by decide +kernel
theorem d_M_chooseAll_100 : decode b_M_chooseAll 100 = .ok (.iconst (-1), 1) := by decide +kernel
theorem d_M_chooseAll_101 : decode b_M_chooseAll 101 = .ok (.iconst (-1), 1) := by decide +kernel
theorem d_M_chooseAll_102 : decode b_M_chooseAll 102 = .ok (.invokevirtual 155, 3) := by decide +kernel
theorem d_M_chooseAll_105 : decode b_M_chooseAll 105 = .ok (.aload_n 0, 1) := by decide +kernel
theorem d_M_chooseAll_106 : decode b_M_chooseAll 106 = .ok (.getfield 136, 3) := by decide +kernel
theorem d_M_chooseAll_109 : decode b_M_chooseAll 109 = .ok (.iload_n 2, 1) := by decide +kernel
theorem d_M_chooseAll_110 : decode b_M_chooseAll 110 = .ok (.iaload, 1) := by decide +kernel
theorem d_M_chooseAll_111 : decode b_M_chooseAll 111 = .ok (.invokevirtual 289, 3) := by decide +kernel
theorem d_M_chooseAll_114 : decode b_M_chooseAll 114 = .ok (.ifCond .eq 14, 3) := by decide +kernel
theorem d_M_chooseAll_117 : decode b_M_chooseAll 117 = .ok (.aload_n 0, 1) := by decide +kernel
theorem d_M_chooseAll_118 : decode b_M_chooseAll 118 = .ok (.invokevirtual 311, 3) := by decide +kernel
theorem d_M_chooseAll_121 : decode b_M_chooseAll 121 = .ok (.ifCond .eq 7, 3) := by decide +kernel
theorem d_M_chooseAll_124 : decode b_M_chooseAll 124 = .ok (.iconst 1, 1) := by decide +kernel
theorem d_M_chooseAll_125 : decode b_M_chooseAll 125 = .ok (.goto 4, 3) := by decide +kernel
theorem d_M_chooseAll_128 : decode b_M_chooseAll 128 = .ok (.iconst 0, 1) := by decide +kernel
theorem d_M_chooseAll_129 : decode b_M_chooseAll 129 = .ok (.istore_n 1, 1) := by decide +kernel
theorem d_M_chooseAll_130 : decode b_M_chooseAll 130 = .ok (.iinc 2 1, 3) := by decide +kernel
theorem d_M_chooseAll_133 : decode b_M_chooseAll 133 = .ok (.goto (-60), 3) := by decide +kernel
theorem d_M_chooseAll_136 : decode b_M_chooseAll 136 = .ok (.iload_n 1, 1) := by decide +kernel
theorem d_M_chooseAll_137 : decode b_M_chooseAll 137 = .ok (.ireturn, 1) := by decide +kernel
theorem d_M_collect_0 : decode b_M_collect 0 = .ok (.aload_n 0, 1) := by decide +kernel
theorem d_M_collect_1 : decode b_M_collect 1 = .ok (.iconst 0, 1) := by decide +kernel
theorem d_M_collect_2 : decode b_M_collect 2 = .ok (.putfield 334, 3) := by decide +kernel
theorem d_M_collect_5 : decode b_M_collect 5 = .ok (.iconst 0, 1) := by decide +kernel
theorem d_M_collect_6 : decode b_M_collect 6 = .ok (.istore_n 3, 1) := by decide +kernel
theorem d_M_collect_7 : decode b_M_collect 7 = .ok (.iload_n 3, 1) := by decide +kernel
theorem d_M_collect_8 : decode b_M_collect 8 = .ok (.aload_n 0, 1) := by decide +kernel
theorem d_M_collect_9 : decode b_M_collect 9 = .ok (.getfield 267, 3) := by decide +kernel
theorem d_M_collect_12 : decode b_M_collect 12 = .ok (.if_icmp .ge 68, 3) := by decide +kernel
theorem d_M_collect_15 : decode b_M_collect 15 = .ok (.aload_n 0, 1) := by decide +kernel
theorem d_M_collect_16 : decode b_M_collect 16 = .ok (.getfield 106, 3) := by decide +kernel
theorem d_M_collect_19 : decode b_M_collect 19 = .ok (.iload_n 3, 1) := by decide +kernel
theorem d_M_collect_20 : decode b_M_collect 20 = .ok (.iaload, 1) := by decide +kernel
theorem d_M_collect_21 : decode b_M_collect 21 = .ok (.iload_n 1, 1) := by decide +kernel
theorem d_M_collect_22 : decode b_M_collect 22 = .ok (.if_icmp .ne 52, 3) := by decide +kernel
theorem d_M_collect_25 : decode b_M_collect 25 = .ok (.aload_n 0, 1) := by decide +kernel
theorem d_M_collect_26 : decode b_M_collect 26 = .ok (.getfield 103, 3) := by decide +kernel
theorem d_M_collect_29 : decode b_M_collect 29 = .ok (.iload_n 3, 1) := by decide +kernel
theorem d_M_collect_30 : decode b_M_collect 30 = .ok (.iaload, 1) := by decide +kernel
theorem d_M_collect_31 : decode b_M_collect 31 = .ok (.iload_n 2, 1) := by decide +kernel
theorem d_M_collect_32 : decode b_M_collect 32 = .ok (.if_icmp .ne 42, 3) := by decide +kernel
theorem d_M_collect_35 : decode b_M_collect 35 = .ok (.aload_n 0, 1) := by decide +kernel
theorem d_M_collect_36 : decode b_M_collect 36 = .ok (.getfield 42, 3) := by decide +kernel
theorem d_M_collect_39 : decode b_M_collect 39 = .ok (.aload_n 0, 1) := by decide +kernel
theorem d_M_collect_40 : decode b_M_collect 40 = .ok (.getfield 109, 3) := by decide +kernel
theorem d_M_collect_43 : decode b_M_collect 43 = .ok (.iload_n 3, 1) := by decide +kernel
theorem d_M_collect_44 : decode b_M_collect 44 = .ok (.iaload, 1) := by decide +kernel
theorem d_M_collect_45 : decode b_M_collect 45 = .ok (.baload, 1) := by decide +kernel
theorem d_M_collect_46 : decode b_M_collect 46 = .ok (.ifCond .eq 28, 3) := by decide +kernel
theorem d_M_collect_49 : decode b_M_collect 49 = .ok (.aload_n 0, 1) := by decide +kernel
theorem d_M_collect_50 : decode b_M_collect 50 = .ok (.getfield 139, 3) := by decide +kernel
theorem d_M_collect_53 : decode b_M_collect 53 = .ok (.aload_n 0, 1) := by decide +kernel
theorem d_M_collect_54 : decode b_M_collect 54 = .ok (.getfield 334, 3) := by decide +kernel
theorem d_M_collect_57 : decode b_M_collect 57 = .ok (.aload_n 0, 1) := by decide +kernel
theorem d_M_collect_58 : decode b_M_collect 58 = .ok (.getfield 109, 3) := by decide +kernel
theorem d_M_collect_61 : decode b_M_collect 61 = .ok (.iload_n 3, 1) := by decide +kernel
theorem d_M_collect_62 : decode b_M_collect 62 = .ok (.iaload, 1) := by decide +kernel
theorem d_M_collect_63 : decode b_M_collect 63 = .ok (.iastore, 1) := by decide +kernel
theorem d_M_collect_64 : decode b_M_collect 64 = .ok (.aload_n 0, 1) := by decide +kernel
theorem d_M_collect_65 : decode b_M_collect 65 = .ok (.dup, 1) := by decide +kernel
theorem d_M_collect_66 : decode b_M_collect 66 = .ok (.getfield 334, 3) := by decide +kernel
theorem d_M_collect_69 : decode b_M_collect 69 = .ok (.iconst 1, 1) := by decide +kernel
theorem d_M_collect_70 : decode b_M_collect 70 = .ok (.iadd, 1) := by decide +kernel
theorem d_M_collect_71 : decode b_M_collect 71 = .ok (.putfield 334, 3) := by decide +kernel
theorem d_M_collect_74 : decode b_M_collect 74 = .ok (.iinc 3 1, 3) := by decide +kernel
theorem d_M_collect_77 : decode b_M_collect 77 = .ok (.goto (-70), 3) := by decide +kernel
theorem d_M_collect_80 : decode b_M_collect 80 = .ok (.return_, 1) := by decide +kernel
theorem d_M_choose_0 : decode b_M_choose 0 = .ok (.aload_n 0, 1) := by decide +kernel
theorem d_M_choose_1 : decode b_M_choose 1 = .ok (.iload_n 1, 1) := by decide +kernel
theorem d_M_choose_2 : decode b_M_choose 2 = .ok (.iconst 2, 1) := by decide +kernel
theorem d_M_choose_3 : decode b_M_choose 3 = .ok (.invokevirtual 337, 3) := by decide +kernel
theorem d_M_choose_6 : decode b_M_choose 6 = .ok (.aload_n 0, 1) := by decide +kernel
theorem d_M_choose_7 : decode b_M_choose 7 = .ok (.getfield 334, 3) := by decide +kernel
theorem d_M_choose_10 : decode b_M_choose 10 = .ok (.ifCond .le 8, 3) := by decide +kernel
theorem d_M_choose_13 : decode b_M_choose 13 = .ok (.aload_n 0, 1) := by decide +kernel
theorem d_M_choose_14 : decode b_M_choose 14 = .ok (.invokevirtual 341, 3) := by decide +kernel
theorem d_M_choose_17 : decode b_M_choose 17 = .ok (.ireturn, 1) := by decide +kernel
theorem d_M_choose_18 : decode b_M_choose 18 = .ok (.aload_n 0, 1) := by decide +kernel
theorem d_M_choose_19 : decode b_M_choose 19 = .ok (.iload_n 1, 1) := by decide +kernel
theorem d_M_choose_20 : decode b_M_choose 20 = .ok (.iconst 1, 1) := by decide +kernel
theorem d_M_choose_21 : decode b_M_choose 21 = .ok (.invokevirtual 337, 3) := by decide +kernel
theorem d_M_choose_24 : decode b_M_choose 24 = .ok (.aload_n 0, 1) := by decide +kernel
theorem d_M_choose_25 : decode b_M_choose 25 = .ok (.getfield 334, 3) := by decide +kernel
theorem d_M_choose_28 : decode b_M_choose 28 = .ok (.ifCond .le 11, 3) := by decide +kernel
theorem d_M_choose_31 : decode b_M_choose 31 = .ok (.aload_n 0, 1) := by decide +kernel
theorem d_M_choose_32 : decode b_M_choose 32 = .ok (.iconst 1, 1) := by decide +kernel
theorem d_M_choose_33 : decode b_M_choose 33 = .ok (.invokevirtual 345, 3) := by decide +kernel
theorem d_M_choose_36 : decode b_M_choose 36 = .ok (.goto 8, 3) := by decide +kernel
theorem d_M_choose_39 : decode b_M_choose 39 = .ok (.aload_n 0, 1) := by decide +kernel
theorem d_M_choose_40 : decode b_M_choose 40 = .ok (.iconst 0, 1) := by decide +kernel
theorem d_M_choose_41 : decode b_M_choose 41 = .ok (.invokevirtual 182, 3) := by decide +kernel
theorem d_M_choose_44 : decode b_M_choose 44 = .ok (.ireturn, 1) := by decide +kernel
theorem d_M_extreme_0 : decode b_M_extreme 0 = .ok (.iconst 0, 1) := by decide +kernel
theorem d_M_extreme_1 : decode b_M_extreme 1 = .ok (.istore_n 2, 1) := by decide +kernel
theorem d_M_extreme_2 : decode b_M_extreme 2 = .ok (.iload_n 2, 1) := by decide +kernel
theorem d_M_extreme_3 : decode b_M_extreme 3 = .ok (.aload_n 0, 1) := by decide +kernel
theorem d_M_extreme_4 : decode b_M_extreme 4 = .ok (.getfield 334, 3) := by decide +kernel
theorem d_M_extreme_7 : decode b_M_extreme 7 = .ok (.if_icmp .ge 113, 3) := by decide +kernel
theorem d_M_extreme_10 : decode b_M_extreme 10 = .ok (.iconst 1, 1) := by decide +kernel
theorem d_M_extreme_11 : decode b_M_extreme 11 = .ok (.istore_n 3, 1) := by decide +kernel
theorem d_M_extreme_12 : decode b_M_extreme 12 = .ok (.iconst 0, 1) := by decide +kernel
theorem d_M_extreme_13 : decode b_M_extreme 13 = .ok (.istore 4, 2) := by decide +kernel
theorem d_M_extreme_15 : decode b_M_extreme 15 = .ok (.iload 4, 2) := by decide +kernel
theorem d_M_extreme_17 : decode b_M_extreme 17 = .ok (.aload_n 0, 1) := by decide +kernel
theorem d_M_extreme_18 : decode b_M_extreme 18 = .ok (.getfield 334, 3) := by decide +kernel
theorem d_M_extreme_21 : decode b_M_extreme 21 = .ok (.if_icmp .ge 73, 3) := by decide +kernel
theorem d_M_extreme_24 : decode b_M_extreme 24 = .ok (.iload_n 3, 1) := by decide +kernel
theorem d_M_extreme_25 : decode b_M_extreme 25 = .ok (.ifCond .eq 69, 3) := by decide +kernel
theorem d_M_extreme_28 : decode b_M_extreme 28 = .ok (.iload_n 2, 1) := by decide +kernel
theorem d_M_extreme_29 : decode b_M_extreme 29 = .ok (.iload 4, 2) := by decide +kernel
theorem d_M_extreme_31 : decode b_M_extreme 31 = .ok (.if_icmp .eq 51, 3) := by decide +kernel
theorem d_M_extreme_34 : decode b_M_extreme 34 = .ok (.aload_n 0, 1) := by decide +kernel
theorem d_M_extreme_35 : decode b_M_extreme 35 = .ok (.iconst 1, 1) := by decide +kernel
theorem d_M_extreme_36 : decode b_M_extreme 36 = .ok (.iload_n 1, 1) := by decide +kernel
theorem d_M_extreme_37 : decode b_M_extreme 37 = .ok (.ifCond .eq 12, 3) := by decide +kernel
theorem d_M_extreme_40 : decode b_M_extreme 40 = .ok (.aload_n 0, 1) := by decide +kernel
theorem d_M_extreme_41 : decode b_M_extreme 41 = .ok (.getfield 139, 3) := by decide +kernel
theorem d_M_extreme_44 : decode b_M_extreme 44 = .ok (.iload_n 2, 1) := by decide +kernel
theorem d_M_extreme_45 : decode b_M_extreme 45 = .ok (.iaload, 1) := by decide +kernel
theorem d_M_extreme_46 : decode b_M_extreme 46 = .ok (.goto 10, 3) := by decide +kernel
theorem d_M_extreme_49 : decode b_M_extreme 49 = .ok (.aload_n 0, 1) := by decide +kernel
theorem d_M_extreme_50 : decode b_M_extreme 50 = .ok (.getfield 139, 3) := by decide +kernel
theorem d_M_extreme_53 : decode b_M_extreme 53 = .ok (.iload 4, 2) := by decide +kernel
theorem d_M_extreme_55 : decode b_M_extreme 55 = .ok (.iaload, 1) := by decide +kernel
theorem d_M_extreme_56 : decode b_M_extreme 56 = .ok (.iload_n 1, 1) := by decide +kernel
theorem d_M_extreme_57 : decode b_M_extreme 57 = .ok (.ifCond .eq 13, 3) := by decide +kernel
theorem d_M_extreme_60 : decode b_M_extreme 60 = .ok (.aload_n 0, 1) := by decide +kernel
theorem d_M_extreme_61 : decode b_M_extreme 61 = .ok (.getfield 139, 3) := by decide +kernel
theorem d_M_extreme_64 : decode b_M_extreme 64 = .ok (.iload 4, 2) := by decide +kernel
theorem d_M_extreme_66 : decode b_M_extreme 66 = .ok (.iaload, 1) := by decide +kernel
theorem d_M_extreme_67 : decode b_M_extreme 67 = .ok (.goto 9, 3) := by decide +kernel
theorem d_M_extreme_70 : decode b_M_extreme 70 = .ok (.aload_n 0, 1) := by decide +kernel
theorem d_M_extreme_71 : decode b_M_extreme 71 = .ok (.getfield 139, 3) := by decide +kernel
theorem d_M_extreme_74 : decode b_M_extreme 74 = .ok (.iload_n 2, 1) := by decide +kernel
theorem d_M_extreme_75 : decode b_M_extreme 75 = .ok (.iaload, 1) := by decide +kernel
theorem d_M_extreme_76 : decode b_M_extreme 76 = .ok (.invokevirtual 289, 3) := by decide +kernel
theorem d_M_extreme_79 : decode b_M_extreme 79 = .ok (.ifCond .eq 7, 3) := by decide +kernel
theorem d_M_extreme_82 : decode b_M_extreme 82 = .ok (.iconst 1, 1) := by decide +kernel
theorem d_M_extreme_83 : decode b_M_extreme 83 = .ok (.goto 4, 3) := by decide +kernel
theorem d_M_extreme_86 : decode b_M_extreme 86 = .ok (.iconst 0, 1) := by decide +kernel
theorem d_M_extreme_87 : decode b_M_extreme 87 = .ok (.istore_n 3, 1) := by decide +kernel
theorem d_M_extreme_88 : decode b_M_extreme 88 = .ok (.iinc 4 1, 3) := by decide +kernel
theorem d_M_extreme_91 : decode b_M_extreme 91 = .ok (.goto (-76), 3) := by decide +kernel
theorem d_M_extreme_94 : decode b_M_extreme 94 = .ok (.aload_n 0, 1) := by decide +kernel
theorem d_M_extreme_95 : decode b_M_extreme 95 = .ok (.getfield 148, 3) := by decide +kernel
theorem d_M_extreme_98 : decode b_M_extreme 98 = .ok (.ifCond .eq 5, 3) := by decide +kernel
theorem d_M_extreme_101 : decode b_M_extreme 101 = .ok (.iconst (-1), 1) := by decide +kernel
theorem d_M_extreme_102 : decode b_M_extreme 102 = .ok (.ireturn, 1) := by decide +kernel
theorem d_M_extreme_103 : decode b_M_extreme 103 = .ok (.iload_n 3, 1) := by decide +kernel
theorem d_M_extreme_104 : decode b_M_extreme 104 = .ok (.ifCond .eq 10, 3) := by decide +kernel
theorem d_M_extreme_107 : decode b_M_extreme 107 = .ok (.aload_n 0, 1) := by decide +kernel
theorem d_M_extreme_108 : decode b_M_extreme 108 = .ok (.getfield 139, 3) := by decide +kernel
theorem d_M_extreme_111 : decode b_M_extreme 111 = .ok (.iload_n 2, 1) := by decide +kernel
theorem d_M_extreme_112 : decode b_M_extreme 112 = .ok (.iaload, 1) := by decide +kernel
theorem d_M_extreme_113 : decode b_M_extreme 113 = .ok (.ireturn, 1) := by decide +kernel
theorem d_M_extreme_114 : decode b_M_extreme 114 = .ok (.iinc 2 1, 3) := by decide +kernel
theorem d_M_extreme_117 : decode b_M_extreme 117 = .ok (.goto (-115), 3) := by decide +kernel
theorem d_M_extreme_120 : decode b_M_extreme 120 = .ok (.iconst (-1), 1) := by decide +kernel
theorem d_M_extreme_121 : decode b_M_extreme 121 = .ok (.ireturn, 1) := by decide +kernel
theorem d_M_join_0 : decode b_M_join 0 = .ok (.aload_n 0, 1) := by decide +kernel
theorem d_M_join_1 : decode b_M_join 1 = .ok (.getfield 334, 3) := by decide +kernel
theorem d_M_join_4 : decode b_M_join 4 = .ok (.iconst 1, 1) := by decide +kernel
theorem d_M_join_5 : decode b_M_join 5 = .ok (.if_icmp .ne 12, 3) := by decide +kernel
theorem d_M_join_8 : decode b_M_join 8 = .ok (.aload_n 0, 1) := by decide +kernel
theorem d_M_join_9 : decode b_M_join 9 = .ok (.getfield 139, 3) := by decide +kernel
theorem d_M_join_12 : decode b_M_join 12 = .ok (.iconst 0, 1) := by decide +kernel
theorem d_M_join_13 : decode b_M_join 13 = .ok (.iaload, 1) := by decide +kernel
theorem d_M_join_14 : decode b_M_join 14 = .ok (.goto 8, 3) := by decide +kernel
theorem d_M_join_17 : decode b_M_join 17 = .ok (.aload_n 0, 1) := by decide +kernel
theorem d_M_join_18 : decode b_M_join 18 = .ok (.iconst 0, 1) := by decide +kernel
theorem d_M_join_19 : decode b_M_join 19 = .ok (.invokevirtual 345, 3) := by decide +kernel
theorem d_M_join_22 : decode b_M_join 22 = .ok (.istore_n 1, 1) := by decide +kernel
theorem d_M_join_23 : decode b_M_join 23 = .ok (.iload_n 1, 1) := by decide +kernel
theorem d_M_join_24 : decode b_M_join 24 = .ok (.iconst (-1), 1) := by decide +kernel
theorem d_M_join_25 : decode b_M_join 25 = .ok (.if_icmp .ne 10, 3) := by decide +kernel
theorem d_M_join_28 : decode b_M_join 28 = .ok (.aload_n 0, 1) := by decide +kernel
theorem d_M_join_29 : decode b_M_join 29 = .ok (.getfield 148, 3) := by decide +kernel
theorem d_M_join_32 : decode b_M_join 32 = .ok (.ifCond .eq 5, 3) := by decide +kernel
theorem d_M_join_35 : decode b_M_join 35 = .ok (.iload_n 1, 1) := by decide +kernel
theorem d_M_join_36 : decode b_M_join 36 = .ok (.ireturn, 1) := by decide +kernel
theorem d_M_join_37 : decode b_M_join 37 = .ok (.iconst 0, 1) := by decide +kernel
theorem d_M_join_38 : decode b_M_join 38 = .ok (.istore_n 2, 1) := by decide +kernel
theorem d_M_join_39 : decode b_M_join 39 = .ok (.iload_n 2, 1) := by decide +kernel
theorem d_M_join_40 : decode b_M_join 40 = .ok (.aload_n 0, 1) := by decide +kernel
theorem d_M_join_41 : decode b_M_join 41 = .ok (.getfield 23, 3) := by decide +kernel
theorem d_M_join_44 : decode b_M_join 44 = .ok (.if_icmp .ge 76, 3) := by decide +kernel
theorem d_M_join_47 : decode b_M_join 47 = .ok (.aload_n 0, 1) := by decide +kernel
theorem d_M_join_48 : decode b_M_join 48 = .ok (.getfield 142, 3) := by decide +kernel
theorem d_M_join_51 : decode b_M_join 51 = .ok (.iload_n 2, 1) := by decide +kernel
theorem d_M_join_52 : decode b_M_join 52 = .ok (.iconst 1, 1) := by decide +kernel
theorem d_M_join_53 : decode b_M_join 53 = .ok (.bastore, 1) := by decide +kernel
theorem d_M_join_54 : decode b_M_join 54 = .ok (.iconst 0, 1) := by decide +kernel
theorem d_M_join_55 : decode b_M_join 55 = .ok (.istore_n 3, 1) := by decide +kernel
theorem d_M_join_56 : decode b_M_join 56 = .ok (.iload_n 3, 1) := by decide +kernel
theorem d_M_join_57 : decode b_M_join 57 = .ok (.aload_n 0, 1) := by decide +kernel
theorem d_M_join_58 : decode b_M_join 58 = .ok (.getfield 334, 3) := by decide +kernel
theorem d_M_join_61 : decode b_M_join 61 = .ok (.if_icmp .ge 44, 3) := by decide +kernel
theorem d_M_join_64 : decode b_M_join 64 = .ok (.aload_n 0, 1) := by decide +kernel
theorem d_M_join_65 : decode b_M_join 65 = .ok (.getfield 142, 3) := by decide +kernel
theorem d_M_join_68 : decode b_M_join 68 = .ok (.iload_n 2, 1) := by decide +kernel
theorem d_M_join_69 : decode b_M_join 69 = .ok (.baload, 1) := by decide +kernel
theorem d_M_join_70 : decode b_M_join 70 = .ok (.ifCond .eq 35, 3) := by decide +kernel
theorem d_M_join_73 : decode b_M_join 73 = .ok (.aload_n 0, 1) := by decide +kernel
theorem d_M_join_74 : decode b_M_join 74 = .ok (.getfield 142, 3) := by decide +kernel
theorem d_M_join_77 : decode b_M_join 77 = .ok (.iload_n 2, 1) := by decide +kernel
theorem d_M_join_78 : decode b_M_join 78 = .ok (.aload_n 0, 1) := by decide +kernel
theorem d_M_join_79 : decode b_M_join 79 = .ok (.aload_n 0, 1) := by decide +kernel
theorem d_M_join_80 : decode b_M_join 80 = .ok (.getfield 139, 3) := by decide +kernel
theorem d_M_join_83 : decode b_M_join 83 = .ok (.iload_n 3, 1) := by decide +kernel
theorem d_M_join_84 : decode b_M_join 84 = .ok (.iaload, 1) := by decide +kernel
theorem d_M_join_85 : decode b_M_join 85 = .ok (.iload_n 2, 1) := by decide +kernel
theorem d_M_join_86 : decode b_M_join 86 = .ok (.invokevirtual 212, 3) := by decide +kernel
theorem d_M_join_89 : decode b_M_join 89 = .ok (.iconst (-1), 1) := by decide +kernel
theorem d_M_join_90 : decode b_M_join 90 = .ok (.if_icmp .eq 7, 3) := by decide +kernel
theorem d_M_join_93 : decode b_M_join 93 = .ok (.iconst 1, 1) := by decide +kernel
theorem d_M_join_94 : decode b_M_join 94 = .ok (.goto 4, 3) := by decide +kernel
theorem d_M_join_97 : decode b_M_join 97 = .ok (.iconst 0, 1) := by decide +kernel
theorem d_M_join_98 : decode b_M_join 98 = .ok (.bastore, 1) := by decide +kernel
theorem d_M_join_99 : decode b_M_join 99 = .ok (.iinc 3 1, 3) := by decide +kernel
theorem d_M_join_102 : decode b_M_join 102 = .ok (.goto (-46), 3) := by decide +kernel
theorem d_M_join_105 : decode b_M_join 105 = .ok (.aload_n 0, 1) := by decide +kernel
theorem d_M_join_106 : decode b_M_join 106 = .ok (.getfield 148, 3) := by decide +kernel
theorem d_M_join_109 : decode b_M_join 109 = .ok (.ifCond .eq 5, 3) := by decide +kernel
theorem d_M_join_112 : decode b_M_join 112 = .ok (.iconst (-1), 1) := by decide +kernel
theorem d_M_join_113 : decode b_M_join 113 = .ok (.ireturn, 1) := by decide +kernel
theorem d_M_join_114 : decode b_M_join 114 = .ok (.iinc 2 1, 3) := by decide +kernel
theorem d_M_join_117 : decode b_M_join 117 = .ok (.goto (-78), 3) := by decide +kernel
theorem d_M_join_120 : decode b_M_join 120 = .ok (.iconst (-1), 1) := by decide +kernel
theorem d_M_join_121 : decode b_M_join 121 = .ok (.istore_n 2, 1) := by decide +kernel
theorem d_M_join_122 : decode b_M_join 122 = .ok (.iconst 0, 1) := by decide +kernel
theorem d_M_join_123 : decode b_M_join 123 = .ok (.istore_n 3, 1) := by decide +kernel
theorem d_M_join_124 : decode b_M_join 124 = .ok (.iload_n 3, 1) := by decide +kernel
theorem d_M_join_125 : decode b_M_join 125 = .ok (.aload_n 0, 1) := by decide +kernel
theorem d_M_join_126 : decode b_M_join 126 = .ok (.getfield 23, 3) := by decide +kernel
theorem d_M_join_129 : decode b_M_join 129 = .ok (.if_icmp .ge 103, 3) := by decide +kernel
theorem d_M_join_132 : decode b_M_join 132 = .ok (.iload_n 2, 1) := by decide +kernel
theorem d_M_join_133 : decode b_M_join 133 = .ok (.iconst (-1), 1) := by decide +kernel
theorem d_M_join_134 : decode b_M_join 134 = .ok (.if_icmp .ne 98, 3) := by decide +kernel
theorem d_M_join_137 : decode b_M_join 137 = .ok (.aload_n 0, 1) := by decide +kernel
theorem d_M_join_138 : decode b_M_join 138 = .ok (.getfield 142, 3) := by decide +kernel
theorem d_M_join_141 : decode b_M_join 141 = .ok (.iload_n 3, 1) := by decide +kernel
theorem d_M_join_142 : decode b_M_join 142 = .ok (.baload, 1) := by decide +kernel
theorem d_M_join_143 : decode b_M_join 143 = .ok (.istore 4, 2) := by decide +kernel
theorem d_M_join_145 : decode b_M_join 145 = .ok (.iconst 0, 1) := by decide +kernel
theorem d_M_join_146 : decode b_M_join 146 = .ok (.istore 5, 2) := by decide +kernel
theorem d_M_join_148 : decode b_M_join 148 = .ok (.iload 5, 2) := by decide +kernel
theorem d_M_join_150 : decode b_M_join 150 = .ok (.aload_n 0, 1) := by decide +kernel
theorem d_M_join_151 : decode b_M_join 151 = .ok (.getfield 23, 3) := by decide +kernel
theorem d_M_join_154 : decode b_M_join 154 = .ok (.if_icmp .ge 52, 3) := by decide +kernel
theorem d_M_join_157 : decode b_M_join 157 = .ok (.iload 4, 2) := by decide +kernel
theorem d_M_join_159 : decode b_M_join 159 = .ok (.ifCond .eq 47, 3) := by decide +kernel
theorem d_M_join_162 : decode b_M_join 162 = .ok (.iload 5, 2) := by decide +kernel
theorem d_M_join_164 : decode b_M_join 164 = .ok (.iload_n 3, 1) := by decide +kernel
theorem d_M_join_165 : decode b_M_join 165 = .ok (.if_icmp .eq 28, 3) := by decide +kernel
theorem d_M_join_168 : decode b_M_join 168 = .ok (.aload_n 0, 1) := by decide +kernel
theorem d_M_join_169 : decode b_M_join 169 = .ok (.getfield 142, 3) := by decide +kernel
theorem d_M_join_172 : decode b_M_join 172 = .ok (.iload 5, 2) := by decide +kernel
theorem d_M_join_174 : decode b_M_join 174 = .ok (.baload, 1) := by decide +kernel
theorem d_M_join_175 : decode b_M_join 175 = .ok (.ifCond .eq 18, 3) := by decide +kernel
theorem d_M_join_178 : decode b_M_join 178 = .ok (.aload_n 0, 1) := by decide +kernel
theorem d_M_join_179 : decode b_M_join 179 = .ok (.aload_n 0, 1) := by decide +kernel
theorem d_M_join_180 : decode b_M_join 180 = .ok (.iload 5, 2) := by decide +kernel
theorem d_M_join_182 : decode b_M_join 182 = .ok (.invokevirtual 182, 3) := by decide +kernel
theorem d_M_join_185 : decode b_M_join 185 = .ok (.iload_n 3, 1) := by decide +kernel
theorem d_M_join_186 : decode b_M_join 186 = .ok (.invokevirtual 212, 3) := by decide +kernel
theorem d_M_join_189 : decode b_M_join 189 = .ok (.iconst (-1), 1) := by decide +kernel
theorem d_M_join_190 : decode b_M_join 190 = .ok (.if_icmp .ne 7, 3) := by decide +kernel
theorem d_M_join_193 : decode b_M_join 193 = .ok (.iconst 1, 1) := by decide +kernel
theorem d_M_join_194 : decode b_M_join 194 = .ok (.goto 4, 3) := by decide +kernel
theorem d_M_join_197 : decode b_M_join 197 = .ok (.iconst 0, 1) := by decide +kernel
theorem d_M_join_198 : decode b_M_join 198 = .ok (.istore 4, 2) := by decide +kernel
theorem d_M_join_200 : decode b_M_join 200 = .ok (.iinc 5 1, 3) := by decide +kernel
theorem d_M_join_203 : decode b_M_join 203 = .ok (.goto (-55), 3) := by decide +kernel
theorem d_M_join_206 : decode b_M_join 206 = .ok (.aload_n 0, 1) := by decide +kernel
theorem d_M_join_207 : decode b_M_join 207 = .ok (.getfield 148, 3) := by decide +kernel
theorem d_M_join_210 : decode b_M_join 210 = .ok (.ifCond .eq 5, 3) := by decide +kernel
theorem d_M_join_213 : decode b_M_join 213 = .ok (.iconst (-1), 1) := by decide +kernel
theorem d_M_join_214 : decode b_M_join 214 = .ok (.ireturn, 1) := by decide +kernel
theorem d_M_join_215 : decode b_M_join 215 = .ok (.iload 4, 2) := by decide +kernel
theorem d_M_join_217 : decode b_M_join 217 = .ok (.ifCond .eq 7, 3) := by decide +kernel
theorem d_M_join_220 : decode b_M_join 220 = .ok (.iload_n 3, 1) := by decide +kernel
theorem d_M_join_221 : decode b_M_join 221 = .ok (.goto 4, 3) := by decide +kernel
theorem d_M_join_224 : decode b_M_join 224 = .ok (.iload_n 2, 1) := by decide +kernel
theorem d_M_join_225 : decode b_M_join 225 = .ok (.istore_n 2, 1) := by decide +kernel
theorem d_M_join_226 : decode b_M_join 226 = .ok (.iinc 3 1, 3) := by decide +kernel
theorem d_M_join_229 : decode b_M_join 229 = .ok (.goto (-105), 3) := by decide +kernel
theorem d_M_join_232 : decode b_M_join 232 = .ok (.aload_n 0, 1) := by decide +kernel
theorem d_M_join_233 : decode b_M_join 233 = .ok (.iload_n 2, 1) := by decide +kernel
theorem d_M_join_234 : decode b_M_join 234 = .ok (.invokevirtual 349, 3) := by decide +kernel
theorem d_M_join_237 : decode b_M_join 237 = .ok (.ireturn, 1) := by decide +kernel
