theorem d_Bounds_init_0 : decode b_Bounds_init 0 = .ok (.aload_n 0, 1) := by decide +kernel
theorem d_Bounds_init_1 : decode b_Bounds_init 1 = .ok (.invokespecial 3, 3) := by decide +kernel
theorem d_Bounds_init_4 : decode b_Bounds_init 4 = .ok (.aload_n 0, 1) := by decide +kernel
theorem d_Bounds_init_5 : decode b_Bounds_init 5 = .ok (.sipush 200, 3) := by decide +kernel
theorem d_Bounds_init_8 : decode b_Bounds_init 8 = .ok (.newarray .int, 2) := by decide +kernel
theorem d_Bounds_init_10 : decode b_Bounds_init 10 = .ok (.putfield 9, 3) := by decide +kernel
theorem d_Bounds_init_13 : decode b_Bounds_init 13 = .ok (.aload_n 0, 1) := by decide +kernel
theorem d_Bounds_init_14 : decode b_Bounds_init 14 = .ok (.sipush 200, 3) := by decide +kernel
theorem d_Bounds_init_17 : decode b_Bounds_init 17 = .ok (.newarray .int, 2) := by decide +kernel
theorem d_Bounds_init_19 : decode b_Bounds_init 19 = .ok (.putfield 15, 3) := by decide +kernel
theorem d_Bounds_init_22 : decode b_Bounds_init 22 = .ok (.aload_n 0, 1) := by decide +kernel
theorem d_Bounds_init_23 : decode b_Bounds_init 23 = .ok (.sipush 200, 3) := by decide +kernel
theorem d_Bounds_init_26 : decode b_Bounds_init 26 = .ok (.newarray .int, 2) := by decide +kernel
theorem d_Bounds_init_28 : decode b_Bounds_init 28 = .ok (.putfield 18, 3) := by decide +kernel
theorem d_Bounds_init_31 : decode b_Bounds_init 31 = .ok (.aload_n 0, 1) := by decide +kernel
theorem d_Bounds_init_32 : decode b_Bounds_init 32 = .ok (.sipush 200, 3) := by decide +kernel
theorem d_Bounds_init_35 : decode b_Bounds_init 35 = .ok (.newarray .int, 2) := by decide +kernel
theorem d_Bounds_init_37 : decode b_Bounds_init 37 = .ok (.putfield 21, 3) := by decide +kernel
theorem d_Bounds_init_40 : decode b_Bounds_init 40 = .ok (.return_, 1) := by decide +kernel
theorem d_Bounds_has_0 : decode b_Bounds_has 0 = .ok (.iload_n 1, 1) := by decide +kernel
theorem d_Bounds_has_1 : decode b_Bounds_has 1 = .ok (.ifCond .lt 15, 3) := by decide +kernel
theorem d_Bounds_has_4 : decode b_Bounds_has 4 = .ok (.iload_n 1, 1) := by decide +kernel
theorem d_Bounds_has_5 : decode b_Bounds_has 5 = .ok (.aload_n 0, 1) := by decide +kernel
theorem d_Bounds_has_6 : decode b_Bounds_has 6 = .ok (.getfield 24, 3) := by decide +kernel
theorem d_Bounds_has_9 : decode b_Bounds_has 9 = .ok (.if_icmp .ge 7, 3) := by decide +kernel
theorem d_Bounds_has_12 : decode b_Bounds_has 12 = .ok (.iconst 1, 1) := by decide +kernel
theorem d_Bounds_has_13 : decode b_Bounds_has 13 = .ok (.goto 4, 3) := by decide +kernel
theorem d_Bounds_has_16 : decode b_Bounds_has 16 = .ok (.iconst 0, 1) := by decide +kernel
theorem d_Bounds_has_17 : decode b_Bounds_has 17 = .ok (.ireturn, 1) := by decide +kernel
theorem d_Bounds_sortOf_0 : decode b_Bounds_sortOf 0 = .ok (.iload_n 1, 1) := by decide +kernel
theorem d_Bounds_sortOf_1 : decode b_Bounds_sortOf 1 = .ok (.ifCond .lt 20, 3) := by decide +kernel
theorem d_Bounds_sortOf_4 : decode b_Bounds_sortOf 4 = .ok (.iload_n 1, 1) := by decide +kernel
theorem d_Bounds_sortOf_5 : decode b_Bounds_sortOf 5 = .ok (.aload_n 0, 1) := by decide +kernel
theorem d_Bounds_sortOf_6 : decode b_Bounds_sortOf 6 = .ok (.getfield 24, 3) := by decide +kernel
theorem d_Bounds_sortOf_9 : decode b_Bounds_sortOf 9 = .ok (.if_icmp .ge 12, 3) := by decide +kernel
theorem d_Bounds_sortOf_12 : decode b_Bounds_sortOf 12 = .ok (.aload_n 0, 1) := by decide +kernel
theorem d_Bounds_sortOf_13 : decode b_Bounds_sortOf 13 = .ok (.getfield 9, 3) := by decide +kernel
theorem d_Bounds_sortOf_16 : decode b_Bounds_sortOf 16 = .ok (.iload_n 1, 1) := by decide +kernel
theorem d_Bounds_sortOf_17 : decode b_Bounds_sortOf 17 = .ok (.iaload, 1) := by decide +kernel
theorem d_Bounds_sortOf_18 : decode b_Bounds_sortOf 18 = .ok (.goto 4, 3) := by decide +kernel
theorem d_Bounds_sortOf_21 : decode b_Bounds_sortOf 21 = .ok (.iconst (-1), 1) := by decide +kernel
theorem d_Bounds_sortOf_22 : decode b_Bounds_sortOf 22 = .ok (.ireturn, 1) := by decide +kernel
theorem d_Bounds_variableOf_0 : decode b_Bounds_variableOf 0 = .ok (.iload_n 1, 1) := by decide +kernel
theorem d_Bounds_variableOf_1 : decode b_Bounds_variableOf 1 = .ok (.ifCond .lt 20, 3) := by decide +kernel
theorem d_Bounds_variableOf_4 : decode b_Bounds_variableOf 4 = .ok (.iload_n 1, 1) := by decide +kernel
theorem d_Bounds_variableOf_5 : decode b_Bounds_variableOf 5 = .ok (.aload_n 0, 1) := by decide +kernel
theorem d_Bounds_variableOf_6 : decode b_Bounds_variableOf 6 = .ok (.getfield 24, 3) := by decide +kernel
theorem d_Bounds_variableOf_9 : decode b_Bounds_variableOf 9 = .ok (.if_icmp .ge 12, 3) := by decide +kernel
theorem d_Bounds_variableOf_12 : decode b_Bounds_variableOf 12 = .ok (.aload_n 0, 1) := by decide +kernel
theorem d_Bounds_variableOf_13 : decode b_Bounds_variableOf 13 = .ok (.getfield 15, 3) := by decide +kernel
theorem d_Bounds_variableOf_16 : decode b_Bounds_variableOf 16 = .ok (.iload_n 1, 1) := by decide +kernel
theorem d_Bounds_variableOf_17 : decode b_Bounds_variableOf 17 = .ok (.iaload, 1) := by decide +kernel
theorem d_Bounds_variableOf_18 : decode b_Bounds_variableOf 18 = .ok (.goto 4, 3) := by decide +kernel
theorem d_Bounds_variableOf_21 : decode b_Bounds_variableOf 21 = .ok (.iconst (-1), 1) := by decide +kernel
theorem d_Bounds_variableOf_22 : decode b_Bounds_variableOf 22 = .ok (.ireturn, 1) := by decide +kernel
theorem d_Bounds_typeOf_0 : decode b_Bounds_typeOf 0 = .ok (.iload_n 1, 1) := by decide +kernel
theorem d_Bounds_typeOf_1 : decode b_Bounds_typeOf 1 = .ok (.ifCond .lt 20, 3) := by decide +kernel
theorem d_Bounds_typeOf_4 : decode b_Bounds_typeOf 4 = .ok (.iload_n 1, 1) := by decide +kernel
theorem d_Bounds_typeOf_5 : decode b_Bounds_typeOf 5 = .ok (.aload_n 0, 1) := by decide +kernel
theorem d_Bounds_typeOf_6 : decode b_Bounds_typeOf 6 = .ok (.getfield 24, 3) := by decide +kernel
theorem d_Bounds_typeOf_9 : decode b_Bounds_typeOf 9 = .ok (.if_icmp .ge 12, 3) := by decide +kernel
theorem d_Bounds_typeOf_12 : decode b_Bounds_typeOf 12 = .ok (.aload_n 0, 1) := by decide +kernel
theorem d_Bounds_typeOf_13 : decode b_Bounds_typeOf 13 = .ok (.getfield 18, 3) := by decide +kernel
theorem d_Bounds_typeOf_16 : decode b_Bounds_typeOf 16 = .ok (.iload_n 1, 1) := by decide +kernel
theorem d_Bounds_typeOf_17 : decode b_Bounds_typeOf 17 = .ok (.iaload, 1) := by decide +kernel
theorem d_Bounds_typeOf_18 : decode b_Bounds_typeOf 18 = .ok (.goto 4, 3) := by decide +kernel
theorem d_Bounds_typeOf_21 : decode b_Bounds_typeOf 21 = .ok (.iconst (-1), 1) := by decide +kernel
theorem d_Bounds_typeOf_22 : decode b_Bounds_typeOf 22 = .ok (.ireturn, 1) := by decide +kernel
theorem d_Bounds_originOf_0 : decode b_Bounds_originOf 0 = .ok (.iload_n 1, 1) := by decide +kernel
theorem d_Bounds_originOf_1 : decode b_Bounds_originOf 1 = .ok (.ifCond .lt 20, 3) := by decide +kernel
theorem d_Bounds_originOf_4 : decode b_Bounds_originOf 4 = .ok (.iload_n 1, 1) := by decide +kernel
theorem d_Bounds_originOf_5 : decode b_Bounds_originOf 5 = .ok (.aload_n 0, 1) := by decide +kernel
theorem d_Bounds_originOf_6 : decode b_Bounds_originOf 6 = .ok (.getfield 24, 3) := by decide +kernel
theorem d_Bounds_originOf_9 : decode b_Bounds_originOf 9 = .ok (.if_icmp .ge 12, 3) := by decide +kernel
theorem d_Bounds_originOf_12 : decode b_Bounds_originOf 12 = .ok (.aload_n 0, 1) := by decide +kernel
theorem d_Bounds_originOf_13 : decode b_Bounds_originOf 13 = .ok (.getfield 21, 3) := by decide +kernel
theorem d_Bounds_originOf_16 : decode b_Bounds_originOf 16 = .ok (.iload_n 1, 1) := by decide +kernel
theorem d_Bounds_originOf_17 : decode b_Bounds_originOf 17 = .ok (.iaload, 1) := by decide +kernel
theorem d_Bounds_originOf_18 : decode b_Bounds_originOf 18 = .ok (.goto 4, 3) := by decide +kernel
theorem d_Bounds_originOf_21 : decode b_Bounds_originOf 21 = .ok (.iconst (-1), 1) := by decide +kernel
theorem d_Bounds_originOf_22 : decode b_Bounds_originOf 22 = .ok (.ireturn, 1) := by decide +kernel
theorem d_Bounds_add_0 : decode b_Bounds_add 0 = .ok (.iconst 0, 1) := by decide +kernel
theorem d_Bounds_add_1 : decode b_Bounds_add 1 = .ok (.istore 5, 2) := by decide +kernel
theorem d_Bounds_add_3 : decode b_Bounds_add 3 = .ok (.iload 5, 2) := by decide +kernel
theorem d_Bounds_add_5 : decode b_Bounds_add 5 = .ok (.aload_n 0, 1) := by decide +kernel
theorem d_Bounds_add_6 : decode b_Bounds_add 6 = .ok (.getfield 24, 3) := by decide +kernel
theorem d_Bounds_add_9 : decode b_Bounds_add 9 = .ok (.if_icmp .ge 44, 3) := by decide +kernel
theorem d_Bounds_add_12 : decode b_Bounds_add 12 = .ok (.aload_n 0, 1) := by decide +kernel
theorem d_Bounds_add_13 : decode b_Bounds_add 13 = .ok (.getfield 9, 3) := by decide +kernel
theorem d_Bounds_add_16 : decode b_Bounds_add 16 = .ok (.iload 5, 2) := by decide +kernel
theorem d_Bounds_add_18 : decode b_Bounds_add 18 = .ok (.iaload, 1) := by decide +kernel
theorem d_Bounds_add_19 : decode b_Bounds_add 19 = .ok (.iload_n 1, 1) := by decide +kernel
theorem d_Bounds_add_20 : decode b_Bounds_add 20 = .ok (.if_icmp .ne 27, 3) := by decide +kernel
theorem d_Bounds_add_23 : decode b_Bounds_add 23 = .ok (.aload_n 0, 1) := by decide +kernel
theorem d_Bounds_add_24 : decode b_Bounds_add 24 = .ok (.getfield 15, 3) := by decide +kernel
theorem d_Bounds_add_27 : decode b_Bounds_add 27 = .ok (.iload 5, 2) := by decide +kernel
theorem d_Bounds_add_29 : decode b_Bounds_add 29 = .ok (.iaload, 1) := by decide +kernel
theorem d_Bounds_add_30 : decode b_Bounds_add 30 = .ok (.iload_n 2, 1) := by decide +kernel
theorem d_Bounds_add_31 : decode b_Bounds_add 31 = .ok (.if_icmp .ne 16, 3) := by decide +kernel
theorem d_Bounds_add_34 : decode b_Bounds_add 34 = .ok (.aload_n 0, 1) := by decide +kernel
theorem d_Bounds_add_35 : decode b_Bounds_add 35 = .ok (.getfield 18, 3) := by decide +kernel
theorem d_Bounds_add_38 : decode b_Bounds_add 38 = .ok (.iload 5, 2) := by decide +kernel
theorem d_Bounds_add_40 : decode b_Bounds_add 40 = .ok (.iaload, 1) := by decide +kernel
theorem d_Bounds_add_41 : decode b_Bounds_add 41 = .ok (.iload_n 3, 1) := by decide +kernel
theorem d_Bounds_add_42 : decode b_Bounds_add 42 = .ok (.if_icmp .ne 5, 3) := by decide +kernel
theorem d_Bounds_add_45 : decode b_Bounds_add 45 = .ok (.iconst 1, 1) := by decide +kernel
theorem d_Bounds_add_46 : decode b_Bounds_add 46 = .ok (.ireturn, 1) := by decide +kernel
theorem d_Bounds_add_47 : decode b_Bounds_add 47 = .ok (.iinc 5 1, 3) := by decide +kernel
theorem d_Bounds_add_50 : decode b_Bounds_add 50 = .ok (.goto (-47), 3) := by decide +kernel
theorem d_Bounds_add_53 : decode b_Bounds_add 53 = .ok (.aload_n 0, 1) := by decide +kernel
theorem d_Bounds_add_54 : decode b_Bounds_add 54 = .ok (.getfield 24, 3) := by decide +kernel
theorem d_Bounds_add_57 : decode b_Bounds_add 57 = .ok (.ifCond .lt 13, 3) := by decide +kernel
theorem d_Bounds_add_60 : decode b_Bounds_add 60 = .ok (.aload_n 0, 1) := by decide +kernel
theorem d_Bounds_add_61 : decode b_Bounds_add 61 = .ok (.getfield 24, 3) := by decide +kernel
theorem d_Bounds_add_64 : decode b_Bounds_add 64 = .ok (.sipush 200, 3) := by decide +kernel
theorem d_Bounds_add_67 : decode b_Bounds_add 67 = .ok (.if_icmp .lt 6, 3) := by decide +kernel
theorem d_Bounds_add_70 : decode b_Bounds_add 70 = .ok (.bipush (-3), 2) := by decide +kernel
theorem d_Bounds_add_72 : decode b_Bounds_add 72 = .ok (.ireturn, 1) := by decide +kernel
theorem d_Bounds_add_73 : decode b_Bounds_add 73 = .ok (.aload_n 0, 1) := by decide +kernel
theorem d_Bounds_add_74 : decode b_Bounds_add 74 = .ok (.getfield 9, 3) := by decide +kernel
theorem d_Bounds_add_77 : decode b_Bounds_add 77 = .ok (.aload_n 0, 1) := by decide +kernel
theorem d_Bounds_add_78 : decode b_Bounds_add 78 = .ok (.getfield 24, 3) := by decide +kernel
theorem d_Bounds_add_81 : decode b_Bounds_add 81 = .ok (.iload_n 1, 1) := by decide +kernel
theorem d_Bounds_add_82 : decode b_Bounds_add 82 = .ok (.iastore, 1) := by decide +kernel
theorem d_Bounds_add_83 : decode b_Bounds_add 83 = .ok (.aload_n 0, 1) := by decide +kernel
theorem d_Bounds_add_84 : decode b_Bounds_add 84 = .ok (.getfield 15, 3) := by decide +kernel
theorem d_Bounds_add_87 : decode b_Bounds_add 87 = .ok (.aload_n 0, 1) := by decide +kernel
theorem d_Bounds_add_88 : decode b_Bounds_add 88 = .ok (.getfield 24, 3) := by decide +kernel
theorem d_Bounds_add_91 : decode b_Bounds_add 91 = .ok (.iload_n 2, 1) := by decide +kernel
theorem d_Bounds_add_92 : decode b_Bounds_add 92 = .ok (.iastore, 1) := by decide +kernel
theorem d_Bounds_add_93 : decode b_Bounds_add 93 = .ok (.aload_n 0, 1) := by decide +kernel
theorem d_Bounds_add_94 : decode b_Bounds_add 94 = .ok (.getfield 18, 3) := by decide +kernel
theorem d_Bounds_add_97 : decode b_Bounds_add 97 = .ok (.aload_n 0, 1) := by decide +kernel
theorem d_Bounds_add_98 : decode b_Bounds_add 98 = .ok (.getfield 24, 3) := by decide +kernel
theorem d_Bounds_add_101 : decode b_Bounds_add 101 = .ok (.iload_n 3, 1) := by decide +kernel
theorem d_Bounds_add_102 : decode b_Bounds_add 102 = .ok (.iastore, 1) := by decide +kernel
theorem d_Bounds_add_103 : decode b_Bounds_add 103 = .ok (.aload_n 0, 1) := by decide +kernel
theorem d_Bounds_add_104 : decode b_Bounds_add 104 = .ok (.getfield 21, 3) := by decide +kernel
theorem d_Bounds_add_107 : decode b_Bounds_add 107 = .ok (.aload_n 0, 1) := by decide +kernel
theorem d_Bounds_add_108 : decode b_Bounds_add 108 = .ok (.getfield 24, 3) := by decide +kernel
theorem d_Bounds_add_111 : decode b_Bounds_add 111 = .ok (.iload 4, 2) := by decide +kernel
theorem d_Bounds_add_113 : decode b_Bounds_add 113 = .ok (.iastore, 1) := by decide +kernel
theorem d_Bounds_add_114 : decode b_Bounds_add 114 = .ok (.aload_n 0, 1) := by decide +kernel
theorem d_Bounds_add_115 : decode b_Bounds_add 115 = .ok (.dup, 1) := by decide +kernel
theorem d_Bounds_add_116 : decode b_Bounds_add 116 = .ok (.getfield 24, 3) := by decide +kernel
theorem d_Bounds_add_119 : decode b_Bounds_add 119 = .ok (.iconst 1, 1) := by decide +kernel
theorem d_Bounds_add_120 : decode b_Bounds_add 120 = .ok (.iadd, 1) := by decide +kernel
theorem d_Bounds_add_121 : decode b_Bounds_add 121 = .ok (.putfield 24, 3) := by decide +kernel
theorem d_Bounds_add_124 : decode b_Bounds_add 124 = .ok (.iconst 1, 1) := by decide +kernel
theorem d_Bounds_add_125 : decode b_Bounds_add 125 = .ok (.ireturn, 1) := by decide +kernel
theorem d_Bounds_settledAs_0 : decode b_Bounds_settledAs 0 = .ok (.iconst 0, 1) := by decide +kernel
theorem d_Bounds_settledAs_1 : decode b_Bounds_settledAs 1 = .ok (.istore_n 3, 1) := by decide +kernel
theorem d_Bounds_settledAs_2 : decode b_Bounds_settledAs 2 = .ok (.iload_n 3, 1) := by decide +kernel
theorem d_Bounds_settledAs_3 : decode b_Bounds_settledAs 3 = .ok (.aload_n 0, 1) := by decide +kernel
theorem d_Bounds_settledAs_4 : decode b_Bounds_settledAs 4 = .ok (.getfield 24, 3) := by decide +kernel
theorem d_Bounds_settledAs_7 : decode b_Bounds_settledAs 7 = .ok (.if_icmp .ge 48, 3) := by decide +kernel
theorem d_Bounds_settledAs_10 : decode b_Bounds_settledAs 10 = .ok (.aload_n 0, 1) := by decide +kernel
theorem d_Bounds_settledAs_11 : decode b_Bounds_settledAs 11 = .ok (.getfield 9, 3) := by decide +kernel
theorem d_Bounds_settledAs_14 : decode b_Bounds_settledAs 14 = .ok (.iload_n 3, 1) := by decide +kernel
theorem d_Bounds_settledAs_15 : decode b_Bounds_settledAs 15 = .ok (.iaload, 1) := by decide +kernel
theorem d_Bounds_settledAs_16 : decode b_Bounds_settledAs 16 = .ok (.ifCond .ne 33, 3) := by decide +kernel
theorem d_Bounds_settledAs_19 : decode b_Bounds_settledAs 19 = .ok (.aload_n 0, 1) := by decide +kernel
theorem d_Bounds_settledAs_20 : decode b_Bounds_settledAs 20 = .ok (.getfield 15, 3) := by decide +kernel
theorem d_Bounds_settledAs_23 : decode b_Bounds_settledAs 23 = .ok (.iload_n 3, 1) := by decide +kernel
theorem d_Bounds_settledAs_24 : decode b_Bounds_settledAs 24 = .ok (.iaload, 1) := by decide +kernel
theorem d_Bounds_settledAs_25 : decode b_Bounds_settledAs 25 = .ok (.iload_n 1, 1) := by decide +kernel
theorem d_Bounds_settledAs_26 : decode b_Bounds_settledAs 26 = .ok (.if_icmp .ne 23, 3) := by decide +kernel
theorem d_Bounds_settledAs_29 : decode b_Bounds_settledAs 29 = .ok (.aload_n 2, 1) := by decide +kernel
theorem d_Bounds_settledAs_30 : decode b_Bounds_settledAs 30 = .ok (.aload_n 0, 1) := by decide +kernel
theorem d_Bounds_settledAs_31 : decode b_Bounds_settledAs 31 = .ok (.getfield 18, 3) := by decide +kernel
theorem d_Bounds_settledAs_34 : decode b_Bounds_settledAs 34 = .ok (.iload_n 3, 1) := by decide +kernel
theorem d_Bounds_settledAs_35 : decode b_Bounds_settledAs 35 = .ok (.iaload, 1) := by decide +kernel
theorem d_Bounds_settledAs_36 : decode b_Bounds_settledAs 36 = .ok (.invokevirtual 28, 3) := by decide +kernel
theorem d_Bounds_settledAs_39 : decode b_Bounds_settledAs 39 = .ok (.ifCond .eq 10, 3) := by decide +kernel
theorem d_Bounds_settledAs_42 : decode b_Bounds_settledAs 42 = .ok (.aload_n 0, 1) := by decide +kernel
theorem d_Bounds_settledAs_43 : decode b_Bounds_settledAs 43 = .ok (.getfield 18, 3) := by decide +kernel
theorem d_Bounds_settledAs_46 : decode b_Bounds_settledAs 46 = .ok (.iload_n 3, 1) := by decide +kernel
theorem d_Bounds_settledAs_47 : decode b_Bounds_settledAs 47 = .ok (.iaload, 1) := by decide +kernel
theorem d_Bounds_settledAs_48 : decode b_Bounds_settledAs 48 = .ok (.ireturn, 1) := by decide +kernel
theorem d_Bounds_settledAs_49 : decode b_Bounds_settledAs 49 = .ok (.iinc 3 1, 3) := by decide +kernel
theorem d_Bounds_settledAs_52 : decode b_Bounds_settledAs 52 = .ok (.goto (-50), 3) := by decide +kernel
theorem d_Bounds_settledAs_55 : decode b_Bounds_settledAs 55 = .ok (.iconst (-1), 1) := by decide +kernel
theorem d_Bounds_settledAs_56 : decode b_Bounds_settledAs 56 = .ok (.ireturn, 1) := by decide +kernel
theorem d_Classes_init_0 : decode b_Classes_init 0 = .ok (.aload_n 0, 1) := by decide +kernel
theorem d_Classes_init_1 : decode b_Classes_init 1 = .ok (.invokespecial 3, 3) := by decide +kernel
theorem d_Classes_init_4 : decode b_Classes_init 4 = .ok (.aload_n 0, 1) := by decide +kernel
theorem d_Classes_init_5 : decode b_Classes_init 5 = .ok (.bipush 40, 2) := by decide +kernel
theorem d_Classes_init_7 : decode b_Classes_init 7 = .ok (.newarray .int, 2) := by decide +kernel
theorem d_Classes_init_9 : decode b_Classes_init 9 = .ok (.putfield 9, 3) := by decide +kernel
theorem d_Classes_init_12 : decode b_Classes_init 12 = .ok (.aload_n 0, 1) := by decide +kernel
theorem d_Classes_init_13 : decode b_Classes_init 13 = .ok (.bipush 40, 2) := by decide +kernel
theorem d_Classes_init_15 : decode b_Classes_init 15 = .ok (.newarray .int, 2) := by decide +kernel
theorem d_Classes_init_17 : decode b_Classes_init 17 = .ok (.putfield 15, 3) := by decide +kernel
theorem d_Classes_init_20 : decode b_Classes_init 20 = .ok (.aload_n 0, 1) := by decide +kernel
theorem d_Classes_init_21 : decode b_Classes_init 21 = .ok (.bipush 120, 2) := by decide +kernel
theorem d_Classes_init_23 : decode b_Classes_init 23 = .ok (.newarray .int, 2) := by decide +kernel
theorem d_Classes_init_25 : decode b_Classes_init 25 = .ok (.putfield 18, 3) := by decide +kernel
theorem d_Classes_init_28 : decode b_Classes_init 28 = .ok (.aload_n 0, 1) := by decide +kernel
theorem d_Classes_init_29 : decode b_Classes_init 29 = .ok (.bipush 120, 2) := by decide +kernel
theorem d_Classes_init_31 : decode b_Classes_init 31 = .ok (.newarray .int, 2) := by decide +kernel
theorem d_Classes_init_33 : decode b_Classes_init 33 = .ok (.putfield 21, 3) := by decide +kernel
theorem d_Classes_init_36 : decode b_Classes_init 36 = .ok (.aload_n 0, 1) := by decide +kernel
theorem d_Classes_init_37 : decode b_Classes_init 37 = .ok (.bipush 40, 2) := by decide +kernel
theorem d_Classes_init_39 : decode b_Classes_init 39 = .ok (.newarray .long, 2) := by decide +kernel
theorem d_Classes_init_41 : decode b_Classes_init 41 = .ok (.putfield 24, 3) := by decide +kernel
theorem d_Classes_init_44 : decode b_Classes_init 44 = .ok (.aload_n 0, 1) := by decide +kernel
theorem d_Classes_init_45 : decode b_Classes_init 45 = .ok (.bipush 9, 2) := by decide +kernel
theorem d_Classes_init_47 : decode b_Classes_init 47 = .ok (.putfield 28, 3) := by decide +kernel
theorem d_Classes_init_50 : decode b_Classes_init 50 = .ok (.iconst 0, 1) := by decide +kernel
theorem d_Classes_init_51 : decode b_Classes_init 51 = .ok (.istore_n 1, 1) := by decide +kernel
theorem d_Classes_init_52 : decode b_Classes_init 52 = .ok (.iload_n 1, 1) := by decide +kernel
theorem d_Classes_init_53 : decode b_Classes_init 53 = .ok (.bipush 9, 2) := by decide +kernel
theorem d_Classes_init_55 : decode b_Classes_init 55 = .ok (.if_icmp .ge 18, 3) := by decide +kernel
theorem d_Classes_init_58 : decode b_Classes_init 58 = .ok (.aload_n 0, 1) := by decide +kernel
theorem d_Classes_init_59 : decode b_Classes_init 59 = .ok (.getfield 24, 3) := by decide +kernel
theorem d_Classes_init_62 : decode b_Classes_init 62 = .ok (.iload_n 1, 1) := by decide +kernel
theorem d_Classes_init_63 : decode b_Classes_init 63 = .ok (.lconst 1, 1) := by decide +kernel
theorem d_Classes_init_64 : decode b_Classes_init 64 = .ok (.iload_n 1, 1) := by decide +kernel
theorem d_Classes_init_65 : decode b_Classes_init 65 = .ok (.lshl, 1) := by decide +kernel
theorem d_Classes_init_66 : decode b_Classes_init 66 = .ok (.lastore, 1) := by decide +kernel
theorem d_Classes_init_67 : decode b_Classes_init 67 = .ok (.iinc 1 1, 3) := by decide +kernel
theorem d_Classes_init_70 : decode b_Classes_init 70 = .ok (.goto (-18), 3) := by decide +kernel
theorem d_Classes_init_73 : decode b_Classes_init 73 = .ok (.return_, 1) := by decide +kernel
theorem d_Classes_has_0 : decode b_Classes_has 0 = .ok (.iload_n 1, 1) := by decide +kernel
theorem d_Classes_has_1 : decode b_Classes_has 1 = .ok (.ifCond .lt 15, 3) := by decide +kernel
theorem d_Classes_has_4 : decode b_Classes_has 4 = .ok (.iload_n 1, 1) := by decide +kernel
theorem d_Classes_has_5 : decode b_Classes_has 5 = .ok (.aload_n 0, 1) := by decide +kernel
theorem d_Classes_has_6 : decode b_Classes_has 6 = .ok (.getfield 28, 3) := by decide +kernel
theorem d_Classes_has_9 : decode b_Classes_has 9 = .ok (.if_icmp .ge 7, 3) := by decide +kernel
theorem d_Classes_has_12 : decode b_Classes_has 12 = .ok (.iconst 1, 1) := by decide +kernel
theorem d_Classes_has_13 : decode b_Classes_has 13 = .ok (.goto 4, 3) := by decide +kernel
theorem d_Classes_has_16 : decode b_Classes_has 16 = .ok (.iconst 0, 1) := by decide +kernel
theorem d_Classes_has_17 : decode b_Classes_has 17 = .ok (.ireturn, 1) := by decide +kernel
theorem d_Classes_add_0 : decode b_Classes_add 0 = .ok (.aload_n 0, 1) := by decide +kernel
theorem d_Classes_add_1 : decode b_Classes_add 1 = .ok (.getfield 28, 3) := by decide +kernel
theorem d_Classes_add_4 : decode b_Classes_add 4 = .ok (.ifCond .lt 12, 3) := by decide +kernel
theorem d_Classes_add_7 : decode b_Classes_add 7 = .ok (.aload_n 0, 1) := by decide +kernel
theorem d_Classes_add_8 : decode b_Classes_add 8 = .ok (.getfield 28, 3) := by decide +kernel
theorem d_Classes_add_11 : decode b_Classes_add 11 = .ok (.bipush 40, 2) := by decide +kernel
theorem d_Classes_add_13 : decode b_Classes_add 13 = .ok (.if_icmp .lt 6, 3) := by decide +kernel
theorem d_Classes_add_16 : decode b_Classes_add 16 = .ok (.bipush (-3), 2) := by decide +kernel
theorem d_Classes_add_18 : decode b_Classes_add 18 = .ok (.ireturn, 1) := by decide +kernel
theorem d_Classes_add_19 : decode b_Classes_add 19 = .ok (.aload_n 0, 1) := by decide +kernel
theorem d_Classes_add_20 : decode b_Classes_add 20 = .ok (.getfield 9, 3) := by decide +kernel
theorem d_Classes_add_23 : decode b_Classes_add 23 = .ok (.aload_n 0, 1) := by decide +kernel
theorem d_Classes_add_24 : decode b_Classes_add 24 = .ok (.getfield 28, 3) := by decide +kernel
theorem d_Classes_add_27 : decode b_Classes_add 27 = .ok (.iload_n 1, 1) := by decide +kernel
theorem d_Classes_add_28 : decode b_Classes_add 28 = .ok (.iastore, 1) := by decide +kernel
theorem d_Classes_add_29 : decode b_Classes_add 29 = .ok (.aload_n 0, 1) := by decide +kernel
theorem d_Classes_add_30 : decode b_Classes_add 30 = .ok (.getfield 24, 3) := by decide +kernel
theorem d_Classes_add_33 : decode b_Classes_add 33 = .ok (.aload_n 0, 1) := by decide +kernel
theorem d_Classes_add_34 : decode b_Classes_add 34 = .ok (.getfield 28, 3) := by decide +kernel
theorem d_Classes_add_37 : decode b_Classes_add 37 = .ok (.lconst 1, 1) := by decide +kernel
theorem d_Classes_add_38 : decode b_Classes_add 38 = .ok (.aload_n 0, 1) := by decide +kernel
theorem d_Classes_add_39 : decode b_Classes_add 39 = .ok (.getfield 28, 3) := by decide +kernel
theorem d_Classes_add_42 : decode b_Classes_add 42 = .ok (.lshl, 1) := by decide +kernel
theorem d_Classes_add_43 : decode b_Classes_add 43 = .ok (.lastore, 1) := by decide +kernel
theorem d_Classes_add_44 : decode b_Classes_add 44 = .ok (.aload_n 0, 1) := by decide +kernel
theorem d_Classes_add_45 : decode b_Classes_add 45 = .ok (.dup, 1) := by decide +kernel
theorem d_Classes_add_46 : decode b_Classes_add 46 = .ok (.getfield 28, 3) := by decide +kernel
theorem d_Classes_add_49 : decode b_Classes_add 49 = .ok (.iconst 1, 1) := by decide +kernel
theorem d_Classes_add_50 : decode b_Classes_add 50 = .ok (.iadd, 1) := by decide +kernel
theorem d_Classes_add_51 : decode b_Classes_add 51 = .ok (.putfield 28, 3) := by decide +kernel
theorem d_Classes_add_54 : decode b_Classes_add 54 = .ok (.aload_n 0, 1) := by decide +kernel
theorem d_Classes_add_55 : decode b_Classes_add 55 = .ok (.getfield 28, 3) := by decide +kernel
theorem d_Classes_add_58 : decode b_Classes_add 58 = .ok (.iconst 1, 1) := by decide +kernel
theorem d_Classes_add_59 : decode b_Classes_add 59 = .ok (.isub, 1) := by decide +kernel
theorem d_Classes_add_60 : decode b_Classes_add 60 = .ok (.ireturn, 1) := by decide +kernel
theorem d_Classes_parametersOf_0 : decode b_Classes_parametersOf 0 = .ok (.aload_n 0, 1) := by decide +kernel
theorem d_Classes_parametersOf_1 : decode b_Classes_parametersOf 1 = .ok (.iload_n 1, 1) := by decide +kernel
theorem d_Classes_parametersOf_2 : decode b_Classes_parametersOf 2 = .ok (.invokevirtual 32, 3) := by decide +kernel
theorem d_Classes_parametersOf_5 : decode b_Classes_parametersOf 5 = .ok (.ifCond .eq 12, 3) := by decide +kernel
theorem d_Classes_parametersOf_8 : decode b_Classes_parametersOf 8 = .ok (.aload_n 0, 1) := by decide +kernel
theorem d_Classes_parametersOf_9 : decode b_Classes_parametersOf 9 = .ok (.getfield 9, 3) := by decide +kernel
theorem d_Classes_parametersOf_12 : decode b_Classes_parametersOf 12 = .ok (.iload_n 1, 1) := by decide +kernel
theorem d_Classes_parametersOf_13 : decode b_Classes_parametersOf 13 = .ok (.iaload, 1) := by decide +kernel
theorem d_Classes_parametersOf_14 : decode b_Classes_parametersOf 14 = .ok (.goto 4, 3) := by decide +kernel
theorem d_Classes_parametersOf_17 : decode b_Classes_parametersOf 17 = .ok (.iconst 0, 1) := by decide +kernel
theorem d_Classes_parametersOf_18 : decode b_Classes_parametersOf 18 = .ok (.ireturn, 1) := by decide +kernel
theorem d_Classes_addParent_0 : decode b_Classes_addParent 0 = .ok (.aload_n 0, 1) := by decide +kernel
theorem d_Classes_addParent_1 : decode b_Classes_addParent 1 = .ok (.iload_n 1, 1) := by decide +kernel
theorem d_Classes_addParent_2 : decode b_Classes_addParent 2 = .ok (.invokevirtual 32, 3) := by decide +kernel
theorem d_Classes_addParent_5 : decode b_Classes_addParent 5 = .ok (.ifCond .eq 11, 3) := by decide +kernel
theorem d_Classes_addParent_8 : decode b_Classes_addParent 8 = .ok (.aload_n 0, 1) := by decide +kernel
theorem d_Classes_addParent_9 : decode b_Classes_addParent 9 = .ok (.iload_n 3, 1) := by decide +kernel
theorem d_Classes_addParent_10 : decode b_Classes_addParent 10 = .ok (.invokevirtual 32, 3) := by decide +kernel
theorem d_Classes_addParent_13 : decode b_Classes_addParent 13 = .ok (.ifCond .ne 6, 3) := by decide +kernel
theorem d_Classes_addParent_16 : decode b_Classes_addParent 16 = .ok (.bipush (-2), 2) := by decide +kernel
theorem d_Classes_addParent_18 : decode b_Classes_addParent 18 = .ok (.ireturn, 1) := by decide +kernel
theorem d_Classes_addParent_19 : decode b_Classes_addParent 19 = .ok (.aload_n 0, 1) := by decide +kernel
theorem d_Classes_addParent_20 : decode b_Classes_addParent 20 = .ok (.getfield 15, 3) := by decide +kernel
theorem d_Classes_addParent_23 : decode b_Classes_addParent 23 = .ok (.iload_n 1, 1) := by decide +kernel
theorem d_Classes_addParent_24 : decode b_Classes_addParent 24 = .ok (.iaload, 1) := by decide +kernel
theorem d_Classes_addParent_25 : decode b_Classes_addParent 25 = .ok (.istore 4, 2) := by decide +kernel
theorem d_Classes_addParent_27 : decode b_Classes_addParent 27 = .ok (.iload 4, 2) := by decide +kernel
theorem d_Classes_addParent_29 : decode b_Classes_addParent 29 = .ok (.ifCond .lt 9, 3) := by decide +kernel
theorem d_Classes_addParent_32 : decode b_Classes_addParent 32 = .ok (.iload 4, 2) := by decide +kernel
theorem d_Classes_addParent_34 : decode b_Classes_addParent 34 = .ok (.iconst 3, 1) := by decide +kernel
theorem d_Classes_addParent_35 : decode b_Classes_addParent 35 = .ok (.if_icmp .lt 6, 3) := by decide +kernel
theorem d_Classes_addParent_38 : decode b_Classes_addParent 38 = .ok (.bipush (-3), 2) := by decide +kernel
theorem d_Classes_addParent_40 : decode b_Classes_addParent 40 = .ok (.ireturn, 1) := by decide +kernel
theorem d_Classes_addParent_41 : decode b_Classes_addParent 41 = .ok (.aload_n 0, 1) := by decide +kernel
theorem d_Classes_addParent_42 : decode b_Classes_addParent 42 = .ok (.getfield 18, 3) := by decide +kernel
theorem d_Classes_addParent_45 : decode b_Classes_addParent 45 = .ok (.iload_n 1, 1) := by decide +kernel
theorem d_Classes_addParent_46 : decode b_Classes_addParent 46 = .ok (.iconst 3, 1) := by decide +kernel
theorem d_Classes_addParent_47 : decode b_Classes_addParent 47 = .ok (.imul, 1) := by decide +kernel
theorem d_Classes_addParent_48 : decode b_Classes_addParent 48 = .ok (.iload 4, 2) := by decide +kernel
theorem d_Classes_addParent_50 : decode b_Classes_addParent 50 = .ok (.iadd, 1) := by decide +kernel
theorem d_Classes_addParent_51 : decode b_Classes_addParent 51 = .ok (.iload_n 2, 1) := by decide +kernel
theorem d_Classes_addParent_52 : decode b_Classes_addParent 52 = .ok (.iastore, 1) := by decide +kernel
theorem d_Classes_addParent_53 : decode b_Classes_addParent 53 = .ok (.aload_n 0, 1) := by decide +kernel
theorem d_Classes_addParent_54 : decode b_Classes_addParent 54 = .ok (.getfield 21, 3) := by decide +kernel
theorem d_Classes_addParent_57 : decode b_Classes_addParent 57 = .ok (.iload_n 1, 1) := by decide +kernel
theorem d_Classes_addParent_58 : decode b_Classes_addParent 58 = .ok (.iconst 3, 1) := by decide +kernel
theorem d_Classes_addParent_59 : decode b_Classes_addParent 59 = .ok (.imul, 1) := by decide +kernel
theorem d_Classes_addParent_60 : decode b_Classes_addParent 60 = .ok (.iload 4, 2) := by decide +kernel
theorem d_Classes_addParent_62 : decode b_Classes_addParent 62 = .ok (.iadd, 1) := by decide +kernel
theorem d_Classes_addParent_63 : decode b_Classes_addParent 63 = .ok (.iload_n 3, 1) := by decide +kernel
theorem d_Classes_addParent_64 : decode b_Classes_addParent 64 = .ok (.iastore, 1) := by decide +kernel
theorem d_Classes_addParent_65 : decode b_Classes_addParent 65 = .ok (.aload_n 0, 1) := by decide +kernel
theorem d_Classes_addParent_66 : decode b_Classes_addParent 66 = .ok (.getfield 15, 3) := by decide +kernel
theorem d_Classes_addParent_69 : decode b_Classes_addParent 69 = .ok (.iload_n 1, 1) := by decide +kernel
theorem d_Classes_addParent_70 : decode b_Classes_addParent 70 = .ok (.iload 4, 2) := by decide +kernel
theorem d_Classes_addParent_72 : decode b_Classes_addParent 72 = .ok (.iconst 1, 1) := by decide +kernel
theorem d_Classes_addParent_73 : decode b_Classes_addParent 73 = .ok (.iadd, 1) := by decide +kernel
theorem d_Classes_addParent_74 : decode b_Classes_addParent 74 = .ok (.iastore, 1) := by decide +kernel
theorem d_Classes_addParent_75 : decode b_Classes_addParent 75 = .ok (.aload_n 0, 1) := by decide +kernel
theorem d_Classes_addParent_76 : decode b_Classes_addParent 76 = .ok (.invokevirtual 36, 3) := by decide +kernel
theorem d_Classes_addParent_79 : decode b_Classes_addParent 79 = .ok (.iload 4, 2) := by decide +kernel
theorem d_Classes_addParent_81 : decode b_Classes_addParent 81 = .ok (.iconst 1, 1) := by decide +kernel
theorem d_Classes_addParent_82 : decode b_Classes_addParent 82 = .ok (.iadd, 1) := by decide +kernel
theorem d_Classes_addParent_83 : decode b_Classes_addParent 83 = .ok (.ireturn, 1) := by decide +kernel
theorem d_Classes_renewReach_0 : decode b_Classes_renewReach 0 = .ok (.bipush 9, 2) := by decide +kernel
theorem d_Classes_renewReach_2 : decode b_Classes_renewReach 2 = .ok (.istore_n 1, 1) := by decide +kernel
theorem d_Classes_renewReach_3 : decode b_Classes_renewReach 3 = .ok (.iload_n 1, 1) := by decide +kernel
theorem d_Classes_renewReach_4 : decode b_Classes_renewReach 4 = .ok (.aload_n 0, 1) := by decide +kernel
theorem d_Classes_renewReach_5 : decode b_Classes_renewReach 5 = .ok (.getfield 28, 3) := by decide +kernel
theorem d_Classes_renewReach_8 : decode b_Classes_renewReach 8 = .ok (.if_icmp .ge 78, 3) := by decide +kernel
theorem d_Classes_renewReach_11 : decode b_Classes_renewReach 11 = .ok (.lconst 1, 1) := by decide +kernel
theorem d_Classes_renewReach_12 : decode b_Classes_renewReach 12 = .ok (.iload_n 1, 1) := by decide +kernel
theorem d_Classes_renewReach_13 : decode b_Classes_renewReach 13 = .ok (.lshl, 1) := by decide +kernel
theorem d_Classes_renewReach_14 : decode b_Classes_renewReach 14 = .ok (.lstore_n 2, 1) := by decide +kernel
theorem d_Classes_renewReach_15 : decode b_Classes_renewReach 15 = .ok (.iconst 0, 1) := by decide +kernel
theorem d_Classes_renewReach_16 : decode b_Classes_renewReach 16 = .ok (.istore 4, 2) := by decide +kernel
theorem d_Classes_renewReach_18 : decode b_Classes_renewReach 18 = .ok (.iload 4, 2) := by decide +kernel
theorem d_Classes_renewReach_20 : decode b_Classes_renewReach 20 = .ok (.aload_n 0, 1) := by decide +kernel
theorem d_Classes_renewReach_21 : decode b_Classes_renewReach 21 = .ok (.getfield 15, 3) := by decide +kernel
theorem d_Classes_renewReach_24 : decode b_Classes_renewReach 24 = .ok (.iload_n 1, 1) := by decide +kernel
theorem d_Classes_renewReach_25 : decode b_Classes_renewReach 25 = .ok (.iaload, 1) := by decide +kernel
theorem d_Classes_renewReach_26 : decode b_Classes_renewReach 26 = .ok (.if_icmp .ge 47, 3) := by decide +kernel
theorem d_Classes_renewReach_29 : decode b_Classes_renewReach 29 = .ok (.iload 4, 2) := by decide +kernel
theorem d_Classes_renewReach_31 : decode b_Classes_renewReach 31 = .ok (.iconst 3, 1) := by decide +kernel
theorem d_Classes_renewReach_32 : decode b_Classes_renewReach 32 = .ok (.if_icmp .ge 41, 3) := by decide +kernel
theorem d_Classes_renewReach_35 : decode b_Classes_renewReach 35 = .ok (.aload_n 0, 1) := by decide +kernel
theorem d_Classes_renewReach_36 : decode b_Classes_renewReach 36 = .ok (.getfield 21, 3) := by decide +kernel
theorem d_Classes_renewReach_39 : decode b_Classes_renewReach 39 = .ok (.iload_n 1, 1) := by decide +kernel
theorem d_Classes_renewReach_40 : decode b_Classes_renewReach 40 = .ok (.iconst 3, 1) := by decide +kernel
theorem d_Classes_renewReach_41 : decode b_Classes_renewReach 41 = .ok (.imul, 1) := by decide +kernel
theorem d_Classes_renewReach_42 : decode b_Classes_renewReach 42 = .ok (.iload 4, 2) := by decide +kernel
theorem d_Classes_renewReach_44 : decode b_Classes_renewReach 44 = .ok (.iadd, 1) := by decide +kernel
theorem d_Classes_renewReach_45 : decode b_Classes_renewReach 45 = .ok (.iaload, 1) := by decide +kernel
theorem d_Classes_renewReach_46 : decode b_Classes_renewReach 46 = .ok (.istore 5, 2) := by decide +kernel
theorem d_Classes_renewReach_48 : decode b_Classes_renewReach 48 = .ok (.aload_n 0, 1) := by decide +kernel
theorem d_Classes_renewReach_49 : decode b_Classes_renewReach 49 = .ok (.iload 5, 2) := by decide +kernel
theorem d_Classes_renewReach_51 : decode b_Classes_renewReach 51 = .ok (.invokevirtual 32, 3) := by decide +kernel
theorem d_Classes_renewReach_54 : decode b_Classes_renewReach 54 = .ok (.ifCond .eq 13, 3) := by decide +kernel
theorem d_Classes_renewReach_57 : decode b_Classes_renewReach 57 = .ok (.lload_n 2, 1) := by decide +kernel
theorem d_Classes_renewReach_58 : decode b_Classes_renewReach 58 = .ok (.aload_n 0, 1) := by decide +kernel
theorem d_Classes_renewReach_59 : decode b_Classes_renewReach 59 = .ok (.getfield 24, 3) := by decide +kernel
theorem d_Classes_renewReach_62 : decode b_Classes_renewReach 62 = .ok (.iload 5, 2) := by decide +kernel
theorem d_Classes_renewReach_64 : decode b_Classes_renewReach 64 = .ok (.laload, 1) := by decide +kernel
theorem d_Classes_renewReach_65 : decode b_Classes_renewReach 65 = .ok (.lor, 1) := by decide +kernel
theorem d_Classes_renewReach_66 : decode b_Classes_renewReach 66 = .ok (.lstore_n 2, 1) := by decide +kernel
theorem d_Classes_renewReach_67 : decode b_Classes_renewReach 67 = .ok (.iinc 4 1, 3) := by decide +kernel
theorem d_Classes_renewReach_70 : decode b_Classes_renewReach 70 = .ok (.goto (-52), 3) := by decide +kernel
theorem d_Classes_renewReach_73 : decode b_Classes_renewReach 73 = .ok (.aload_n 0, 1) := by decide +kernel
theorem d_Classes_renewReach_74 : decode b_Classes_renewReach 74 = .ok (.getfield 24, 3) := by decide +kernel
theorem d_Classes_renewReach_77 : decode b_Classes_renewReach 77 = .ok (.iload_n 1, 1) := by decide +kernel
theorem d_Classes_renewReach_78 : decode b_Classes_renewReach 78 = .ok (.lload_n 2, 1) := by decide +kernel
theorem d_Classes_renewReach_79 : decode b_Classes_renewReach 79 = .ok (.lastore, 1) := by decide +kernel
theorem d_Classes_renewReach_80 : decode b_Classes_renewReach 80 = .ok (.iinc 1 1, 3) := by decide +kernel
theorem d_Classes_renewReach_83 : decode b_Classes_renewReach 83 = .ok (.goto (-80), 3) := by decide +kernel
theorem d_Classes_renewReach_86 : decode b_Classes_renewReach 86 = .ok (.return_, 1) := by decide +kernel
theorem d_Classes_reaches_0 : decode b_Classes_reaches 0 = .ok (.aload_n 0, 1) := by decide +kernel
theorem d_Classes_reaches_1 : decode b_Classes_reaches 1 = .ok (.iload_n 1, 1) := by decide +kernel
theorem d_Classes_reaches_2 : decode b_Classes_reaches 2 = .ok (.invokevirtual 32, 3) := by decide +kernel
theorem d_Classes_reaches_5 : decode b_Classes_reaches 5 = .ok (.ifCond .eq 30, 3) := by decide +kernel
theorem d_Classes_reaches_8 : decode b_Classes_reaches 8 = .ok (.aload_n 0, 1) := by decide +kernel
theorem d_Classes_reaches_9 : decode b_Classes_reaches 9 = .ok (.iload_n 2, 1) := by decide +kernel
theorem d_Classes_reaches_10 : decode b_Classes_reaches 10 = .ok (.invokevirtual 32, 3) := by decide +kernel
theorem d_Classes_reaches_13 : decode b_Classes_reaches 13 = .ok (.ifCond .eq 22, 3) := by decide +kernel
theorem d_Classes_reaches_16 : decode b_Classes_reaches 16 = .ok (.aload_n 0, 1) := by decide +kernel
theorem d_Classes_reaches_17 : decode b_Classes_reaches 17 = .ok (.getfield 24, 3) := by decide +kernel
theorem d_Classes_reaches_20 : decode b_Classes_reaches 20 = .ok (.iload_n 1, 1) := by decide +kernel
theorem d_Classes_reaches_21 : decode b_Classes_reaches 21 = .ok (.laload, 1) := by decide +kernel
theorem d_Classes_reaches_22 : decode b_Classes_reaches 22 = .ok (.iload_n 2, 1) := by decide +kernel
theorem d_Classes_reaches_23 : decode b_Classes_reaches 23 = .ok (.lshr, 1) := by decide +kernel
theorem d_Classes_reaches_24 : decode b_Classes_reaches 24 = .ok (.lconst 1, 1) := by decide +kernel
theorem d_Classes_reaches_25 : decode b_Classes_reaches 25 = .ok (.land, 1) := by decide +kernel
theorem d_Classes_reaches_26 : decode b_Classes_reaches 26 = .ok (.lconst 0, 1) := by decide +kernel
theorem d_Classes_reaches_27 : decode b_Classes_reaches 27 = .ok (.lcmp, 1) := by decide +kernel
theorem d_Classes_reaches_28 : decode b_Classes_reaches 28 = .ok (.ifCond .eq 7, 3) := by decide +kernel
theorem d_Classes_reaches_31 : decode b_Classes_reaches 31 = .ok (.iconst 1, 1) := by decide +kernel
theorem d_Classes_reaches_32 : decode b_Classes_reaches 32 = .ok (.goto 4, 3) := by decide +kernel
theorem d_Classes_reaches_35 : decode b_Classes_reaches 35 = .ok (.iconst 0, 1) := by decide +kernel
theorem d_Classes_reaches_36 : decode b_Classes_reaches 36 = .ok (.ireturn, 1) := by decide +kernel
theorem d_Classes_parentTowards_0 : decode b_Classes_parentTowards 0 = .ok (.aload_n 0, 1) := by decide +kernel
theorem d_Classes_parentTowards_1 : decode b_Classes_parentTowards 1 = .ok (.iload_n 1, 1) := by decide +kernel
theorem d_Classes_parentTowards_2 : decode b_Classes_parentTowards 2 = .ok (.invokevirtual 32, 3) := by decide +kernel
theorem d_Classes_parentTowards_5 : decode b_Classes_parentTowards 5 = .ok (.ifCond .ne 5, 3) := by decide +kernel
theorem d_Classes_parentTowards_8 : decode b_Classes_parentTowards 8 = .ok (.iconst (-1), 1) := by decide +kernel
theorem d_Classes_parentTowards_9 : decode b_Classes_parentTowards 9 = .ok (.ireturn, 1) := by decide +kernel
theorem d_Classes_parentTowards_10 : decode b_Classes_parentTowards 10 = .ok (.iconst 0, 1) := by decide +kernel
theorem d_Classes_parentTowards_11 : decode b_Classes_parentTowards 11 = .ok (.istore_n 3, 1) := by decide +kernel
theorem d_Classes_parentTowards_12 : decode b_Classes_parentTowards 12 = .ok (.iload_n 3, 1) := by decide +kernel
theorem d_Classes_parentTowards_13 : decode b_Classes_parentTowards 13 = .ok (.aload_n 0, 1) := by decide +kernel
theorem d_Classes_parentTowards_14 : decode b_Classes_parentTowards 14 = .ok (.getfield 15, 3) := by decide +kernel
theorem d_Classes_parentTowards_17 : decode b_Classes_parentTowards 17 = .ok (.iload_n 1, 1) := by decide +kernel
theorem d_Classes_parentTowards_18 : decode b_Classes_parentTowards 18 = .ok (.iaload, 1) := by decide +kernel
theorem d_Classes_parentTowards_19 : decode b_Classes_parentTowards 19 = .ok (.if_icmp .ge 62, 3) := by decide +kernel
theorem d_Classes_parentTowards_22 : decode b_Classes_parentTowards 22 = .ok (.iload_n 3, 1) := by decide +kernel
theorem d_Classes_parentTowards_23 : decode b_Classes_parentTowards 23 = .ok (.iconst 3, 1) := by decide +kernel
theorem d_Classes_parentTowards_24 : decode b_Classes_parentTowards 24 = .ok (.if_icmp .ge 57, 3) := by decide +kernel
theorem d_Classes_parentTowards_27 : decode b_Classes_parentTowards 27 = .ok (.aload_n 0, 1) := by decide +kernel
theorem d_Classes_parentTowards_28 : decode b_Classes_parentTowards 28 = .ok (.getfield 21, 3) := by decide +kernel
theorem d_Classes_parentTowards_31 : decode b_Classes_parentTowards 31 = .ok (.iload_n 1, 1) := by decide +kernel
theorem d_Classes_parentTowards_32 : decode b_Classes_parentTowards 32 = .ok (.iconst 3, 1) := by decide +kernel
theorem d_Classes_parentTowards_33 : decode b_Classes_parentTowards 33 = .ok (.imul, 1) := by decide +kernel
theorem d_Classes_parentTowards_34 : decode b_Classes_parentTowards 34 = .ok (.iload_n 3, 1) := by decide +kernel
theorem d_Classes_parentTowards_35 : decode b_Classes_parentTowards 35 = .ok (.iadd, 1) := by decide +kernel
theorem d_Classes_parentTowards_36 : decode b_Classes_parentTowards 36 = .ok (.iaload, 1) := by decide +kernel
theorem d_Classes_parentTowards_37 : decode b_Classes_parentTowards 37 = .ok (.istore 4, 2) := by decide +kernel
theorem d_Classes_parentTowards_39 : decode b_Classes_parentTowards 39 = .ok (.aload_n 0, 1) := by decide +kernel
theorem d_Classes_parentTowards_40 : decode b_Classes_parentTowards 40 = .ok (.iload 4, 2) := by decide +kernel
theorem d_Classes_parentTowards_42 : decode b_Classes_parentTowards 42 = .ok (.invokevirtual 32, 3) := by decide +kernel
theorem d_Classes_parentTowards_45 : decode b_Classes_parentTowards 45 = .ok (.ifCond .eq 30, 3) := by decide +kernel
theorem d_Classes_parentTowards_48 : decode b_Classes_parentTowards 48 = .ok (.aload_n 0, 1) := by decide +kernel
theorem d_Classes_parentTowards_49 : decode b_Classes_parentTowards 49 = .ok (.getfield 24, 3) := by decide +kernel
theorem d_Classes_parentTowards_52 : decode b_Classes_parentTowards 52 = .ok (.iload 4, 2) := by decide +kernel
theorem d_Classes_parentTowards_54 : decode b_Classes_parentTowards 54 = .ok (.laload, 1) := by decide +kernel
theorem d_Classes_parentTowards_55 : decode b_Classes_parentTowards 55 = .ok (.iload_n 2, 1) := by decide +kernel
theorem d_Classes_parentTowards_56 : decode b_Classes_parentTowards 56 = .ok (.lshr, 1) := by decide +kernel
theorem d_Classes_parentTowards_57 : decode b_Classes_parentTowards 57 = .ok (.lconst 1, 1) := by decide +kernel
theorem d_Classes_parentTowards_58 : decode b_Classes_parentTowards 58 = .ok (.land, 1) := by decide +kernel
theorem d_Classes_parentTowards_59 : decode b_Classes_parentTowards 59 = .ok (.lconst 0, 1) := by decide +kernel
theorem d_Classes_parentTowards_60 : decode b_Classes_parentTowards 60 = .ok (.lcmp, 1) := by decide +kernel
theorem d_Classes_parentTowards_61 : decode b_Classes_parentTowards 61 = .ok (.ifCond .eq 14, 3) := by decide +kernel
theorem d_Classes_parentTowards_64 : decode b_Classes_parentTowards 64 = .ok (.aload_n 0, 1) := by decide +kernel
theorem d_Classes_parentTowards_65 : decode b_Classes_parentTowards 65 = .ok (.getfield 18, 3) := by decide +kernel
theorem d_Classes_parentTowards_68 : decode b_Classes_parentTowards 68 = .ok (.iload_n 1, 1) := by decide +kernel
theorem d_Classes_parentTowards_69 : decode b_Classes_parentTowards 69 = .ok (.iconst 3, 1) := by decide +kernel
theorem d_Classes_parentTowards_70 : decode b_Classes_parentTowards 70 = .ok (.imul, 1) := by decide +kernel
theorem d_Classes_parentTowards_71 : decode b_Classes_parentTowards 71 = .ok (.iload_n 3, 1) := by decide +kernel
theorem d_Classes_parentTowards_72 : decode b_Classes_parentTowards 72 = .ok (.iadd, 1) := by decide +kernel
theorem d_Classes_parentTowards_73 : decode b_Classes_parentTowards 73 = .ok (.iaload, 1) := by decide +kernel
theorem d_Classes_parentTowards_74 : decode b_Classes_parentTowards 74 = .ok (.ireturn, 1) := by decide +kernel
theorem d_Classes_parentTowards_75 : decode b_Classes_parentTowards 75 = .ok (.iinc 3 1, 3) := by decide +kernel
theorem d_Classes_parentTowards_78 : decode b_Classes_parentTowards 78 = .ok (.goto (-66), 3) := by decide +kernel
theorem d_Classes_parentTowards_81 : decode b_Classes_parentTowards 81 = .ok (.iconst (-1), 1) := by decide +kernel
theorem d_Classes_parentTowards_82 : decode b_Classes_parentTowards 82 = .ok (.ireturn, 1) := by decide +kernel
theorem d_Exchange_init_0 : decode b_Exchange_init 0 = .ok (.aload_n 0, 1) := by decide +kernel
theorem d_Exchange_init_1 : decode b_Exchange_init 1 = .ok (.invokespecial 3, 3) := by decide +kernel
theorem d_Exchange_init_4 : decode b_Exchange_init 4 = .ok (.aload_n 0, 1) := by decide +kernel
theorem d_Exchange_init_5 : decode b_Exchange_init 5 = .ok (.bipush 12, 2) := by decide +kernel
theorem d_Exchange_init_7 : decode b_Exchange_init 7 = .ok (.newarray .int, 2) := by decide +kernel
theorem d_Exchange_init_9 : decode b_Exchange_init 9 = .ok (.putfield 9, 3) := by decide +kernel
theorem d_Exchange_init_12 : decode b_Exchange_init 12 = .ok (.aload_n 0, 1) := by decide +kernel
theorem d_Exchange_init_13 : decode b_Exchange_init 13 = .ok (.sipush 500, 3) := by decide +kernel
theorem d_Exchange_init_16 : decode b_Exchange_init 16 = .ok (.newarray .int, 2) := by decide +kernel
theorem d_Exchange_init_18 : decode b_Exchange_init 18 = .ok (.putfield 15, 3) := by decide +kernel
theorem d_Exchange_init_21 : decode b_Exchange_init 21 = .ok (.aload_n 0, 1) := by decide +kernel
theorem d_Exchange_init_22 : decode b_Exchange_init 22 = .ok (.sipush 500, 3) := by decide +kernel
theorem d_Exchange_init_25 : decode b_Exchange_init 25 = .ok (.newarray .int, 2) := by decide +kernel
theorem d_Exchange_init_27 : decode b_Exchange_init 27 = .ok (.putfield 18, 3) := by decide +kernel
theorem d_Exchange_init_30 : decode b_Exchange_init 30 = .ok (.aload_n 0, 1) := by decide +kernel
theorem d_Exchange_init_31 : decode b_Exchange_init 31 = .ok (.aload_n 1, 1) := by decide +kernel
theorem d_Exchange_init_32 : decode b_Exchange_init 32 = .ok (.putfield 21, 3) := by decide +kernel
theorem d_Exchange_init_35 : decode b_Exchange_init 35 = .ok (.aload_n 0, 1) := by decide +kernel
theorem d_Exchange_init_36 : decode b_Exchange_init 36 = .ok (.iconst (-1), 1) := by decide +kernel
theorem d_Exchange_init_37 : decode b_Exchange_init 37 = .ok (.putfield 25, 3) := by decide +kernel
theorem d_Exchange_init_40 : decode b_Exchange_init 40 = .ok (.return_, 1) := by decide +kernel
theorem d_Exchange_forVariables_0 : decode b_Exchange_forVariables 0 = .ok (.aload_n 0, 1) := by decide +kernel
theorem d_Exchange_forVariables_1 : decode b_Exchange_forVariables 1 = .ok (.dup, 1) := by decide +kernel
theorem d_Exchange_forVariables_2 : decode b_Exchange_forVariables 2 = .ok (.getfield 29, 3) := by decide +kernel
theorem d_Exchange_forVariables_5 : decode b_Exchange_forVariables 5 = .ok (.iconst 1, 1) := by decide +kernel
theorem d_Exchange_forVariables_6 : decode b_Exchange_forVariables 6 = .ok (.iadd, 1) := by decide +kernel
theorem d_Exchange_forVariables_7 : decode b_Exchange_forVariables 7 = .ok (.putfield 29, 3) := by decide +kernel
theorem d_Exchange_forVariables_10 : decode b_Exchange_forVariables 10 = .ok (.aload_n 0, 1) := by decide +kernel
theorem d_Exchange_forVariables_11 : decode b_Exchange_forVariables 11 = .ok (.iconst 0, 1) := by decide +kernel
theorem d_Exchange_forVariables_12 : decode b_Exchange_forVariables 12 = .ok (.putfield 32, 3) := by decide +kernel
theorem d_Exchange_forVariables_15 : decode b_Exchange_forVariables 15 = .ok (.aload_n 0, 1) := by decide +kernel
theorem d_Exchange_forVariables_16 : decode b_Exchange_forVariables 16 = .ok (.iconst (-1), 1) := by decide +kernel
theorem d_Exchange_forVariables_17 : decode b_Exchange_forVariables 17 = .ok (.putfield 25, 3) := by decide +kernel
theorem d_Exchange_forVariables_20 : decode b_Exchange_forVariables 20 = .ok (.return_, 1) := by decide +kernel
theorem d_Exchange_setInstead_0 : decode b_Exchange_setInstead 0 = .ok (.iload_n 1, 1) := by decide +kernel
theorem d_Exchange_setInstead_1 : decode b_Exchange_setInstead 1 = .ok (.ifCond .lt 9, 3) := by decide +kernel
theorem d_Exchange_setInstead_4 : decode b_Exchange_setInstead 4 = .ok (.iload_n 1, 1) := by decide +kernel
theorem d_Exchange_setInstead_5 : decode b_Exchange_setInstead 5 = .ok (.bipush 12, 2) := by decide +kernel
theorem d_Exchange_setInstead_7 : decode b_Exchange_setInstead 7 = .ok (.if_icmp .lt 4, 3) := by decide +kernel
theorem d_Exchange_setInstead_10 : decode b_Exchange_setInstead 10 = .ok (.return_, 1) := by decide +kernel
theorem d_Exchange_setInstead_11 : decode b_Exchange_setInstead 11 = .ok (.aload_n 0, 1) := by decide +kernel
theorem d_Exchange_setInstead_12 : decode b_Exchange_setInstead 12 = .ok (.getfield 9, 3) := by decide +kernel
theorem d_Exchange_setInstead_15 : decode b_Exchange_setInstead 15 = .ok (.iload_n 1, 1) := by decide +kernel
theorem d_Exchange_setInstead_16 : decode b_Exchange_setInstead 16 = .ok (.iload_n 2, 1) := by decide +kernel
theorem d_Exchange_setInstead_17 : decode b_Exchange_setInstead 17 = .ok (.iastore, 1) := by decide +kernel
theorem d_Exchange_setInstead_18 : decode b_Exchange_setInstead 18 = .ok (.aload_n 0, 1) := by decide +kernel
theorem d_Exchange_setInstead_19 : decode b_Exchange_setInstead 19 = .ok (.dup, 1) := by decide +kernel
theorem d_Exchange_setInstead_20 : decode b_Exchange_setInstead 20 = .ok (.getfield 32, 3) := by decide +kernel
theorem d_Exchange_setInstead_23 : decode b_Exchange_setInstead 23 = .ok (.iconst 1, 1) := by decide +kernel
theorem d_Exchange_setInstead_24 : decode b_Exchange_setInstead 24 = .ok (.iload_n 1, 1) := by decide +kernel
theorem d_Exchange_setInstead_25 : decode b_Exchange_setInstead 25 = .ok (.ishl, 1) := by decide +kernel
theorem d_Exchange_setInstead_26 : decode b_Exchange_setInstead 26 = .ok (.ior, 1) := by decide +kernel
theorem d_Exchange_setInstead_27 : decode b_Exchange_setInstead 27 = .ok (.putfield 32, 3) := by decide +kernel
theorem d_Exchange_setInstead_30 : decode b_Exchange_setInstead 30 = .ok (.return_, 1) := by decide +kernel
theorem d_Exchange_forArguments_0 : decode b_Exchange_forArguments 0 = .ok (.aload_n 0, 1) := by decide +kernel
theorem d_Exchange_forArguments_1 : decode b_Exchange_forArguments 1 = .ok (.dup, 1) := by decide +kernel
theorem d_Exchange_forArguments_2 : decode b_Exchange_forArguments 2 = .ok (.getfield 29, 3) := by decide +kernel
theorem d_Exchange_forArguments_5 : decode b_Exchange_forArguments 5 = .ok (.iconst 1, 1) := by decide +kernel
theorem d_Exchange_forArguments_6 : decode b_Exchange_forArguments 6 = .ok (.iadd, 1) := by decide +kernel
theorem d_Exchange_forArguments_7 : decode b_Exchange_forArguments 7 = .ok (.putfield 29, 3) := by decide +kernel
theorem d_Exchange_forArguments_10 : decode b_Exchange_forArguments 10 = .ok (.aload_n 0, 1) := by decide +kernel
theorem d_Exchange_forArguments_11 : decode b_Exchange_forArguments 11 = .ok (.iconst 0, 1) := by decide +kernel
theorem d_Exchange_forArguments_12 : decode b_Exchange_forArguments 12 = .ok (.putfield 32, 3) := by decide +kernel
theorem d_Exchange_forArguments_15 : decode b_Exchange_forArguments 15 = .ok (.aload_n 0, 1) := by decide +kernel
theorem d_Exchange_forArguments_16 : decode b_Exchange_forArguments 16 = .ok (.iload_n 1, 1) := by decide +kernel
theorem d_Exchange_forArguments_17 : decode b_Exchange_forArguments 17 = .ok (.putfield 25, 3) := by decide +kernel
theorem d_Exchange_forArguments_20 : decode b_Exchange_forArguments 20 = .ok (.return_, 1) := by decide +kernel
