theorem d_Resolver_isAboveAll_0 : decode b_Resolver_isAboveAll 0 = .ok (.iconst 0, 1) := by decide +kernel
theorem d_Resolver_isAboveAll_1 : decode b_Resolver_isAboveAll 1 = .ok (.istore_n 2, 1) := by decide +kernel
theorem d_Resolver_isAboveAll_2 : decode b_Resolver_isAboveAll 2 = .ok (.iload_n 2, 1) := by decide +kernel
theorem d_Resolver_isAboveAll_3 : decode b_Resolver_isAboveAll 3 = .ok (.aload_n 0, 1) := by decide +kernel
theorem d_Resolver_isAboveAll_4 : decode b_Resolver_isAboveAll 4 = .ok (.getfield 81, 3) := by decide +kernel
theorem d_Resolver_isAboveAll_7 : decode b_Resolver_isAboveAll 7 = .ok (.if_icmp .ge 39, 3) := by decide +kernel
theorem d_Resolver_isAboveAll_10 : decode b_Resolver_isAboveAll 10 = .ok (.aload_n 0, 1) := by decide +kernel
theorem d_Resolver_isAboveAll_11 : decode b_Resolver_isAboveAll 11 = .ok (.getfield 33, 3) := by decide +kernel
theorem d_Resolver_isAboveAll_14 : decode b_Resolver_isAboveAll 14 = .ok (.aload_n 0, 1) := by decide +kernel
theorem d_Resolver_isAboveAll_15 : decode b_Resolver_isAboveAll 15 = .ok (.getfield 9, 3) := by decide +kernel
theorem d_Resolver_isAboveAll_18 : decode b_Resolver_isAboveAll 18 = .ok (.iload_n 2, 1) := by decide +kernel
theorem d_Resolver_isAboveAll_19 : decode b_Resolver_isAboveAll 19 = .ok (.iaload, 1) := by decide +kernel
theorem d_Resolver_isAboveAll_20 : decode b_Resolver_isAboveAll 20 = .ok (.iload_n 1, 1) := by decide +kernel
theorem d_Resolver_isAboveAll_21 : decode b_Resolver_isAboveAll 21 = .ok (.invokevirtual 124, 3) := by decide +kernel
theorem d_Resolver_isAboveAll_24 : decode b_Resolver_isAboveAll 24 = .ok (.istore_n 3, 1) := by decide +kernel
theorem d_Resolver_isAboveAll_25 : decode b_Resolver_isAboveAll 25 = .ok (.iload_n 3, 1) := by decide +kernel
theorem d_Resolver_isAboveAll_26 : decode b_Resolver_isAboveAll 26 = .ok (.bipush (-3), 2) := by decide +kernel
theorem d_Resolver_isAboveAll_28 : decode b_Resolver_isAboveAll 28 = .ok (.if_icmp .ne 6, 3) := by decide +kernel
theorem d_Resolver_isAboveAll_31 : decode b_Resolver_isAboveAll 31 = .ok (.bipush (-3), 2) := by decide +kernel
theorem d_Resolver_isAboveAll_33 : decode b_Resolver_isAboveAll 33 = .ok (.ireturn, 1) := by decide +kernel
theorem d_Resolver_isAboveAll_34 : decode b_Resolver_isAboveAll 34 = .ok (.iload_n 3, 1) := by decide +kernel
theorem d_Resolver_isAboveAll_35 : decode b_Resolver_isAboveAll 35 = .ok (.ifCond .ge 5, 3) := by decide +kernel
theorem d_Resolver_isAboveAll_38 : decode b_Resolver_isAboveAll 38 = .ok (.iconst 0, 1) := by decide +kernel
theorem d_Resolver_isAboveAll_39 : decode b_Resolver_isAboveAll 39 = .ok (.ireturn, 1) := by decide +kernel
theorem d_Resolver_isAboveAll_40 : decode b_Resolver_isAboveAll 40 = .ok (.iinc 2 1, 3) := by decide +kernel
theorem d_Resolver_isAboveAll_43 : decode b_Resolver_isAboveAll 43 = .ok (.goto (-41), 3) := by decide +kernel
theorem d_Resolver_isAboveAll_46 : decode b_Resolver_isAboveAll 46 = .ok (.iconst 1, 1) := by decide +kernel
theorem d_Resolver_isAboveAll_47 : decode b_Resolver_isAboveAll 47 = .ok (.ireturn, 1) := by decide +kernel
theorem d_Resolver_isAboveAnother_0 : decode b_Resolver_isAboveAnother 0 = .ok (.iconst 0, 1) := by decide +kernel
theorem d_Resolver_isAboveAnother_1 : decode b_Resolver_isAboveAnother 1 = .ok (.istore 4, 2) := by decide +kernel
theorem d_Resolver_isAboveAnother_3 : decode b_Resolver_isAboveAnother 3 = .ok (.iload 4, 2) := by decide +kernel
theorem d_Resolver_isAboveAnother_5 : decode b_Resolver_isAboveAnother 5 = .ok (.aload_n 0, 1) := by decide +kernel
theorem d_Resolver_isAboveAnother_6 : decode b_Resolver_isAboveAnother 6 = .ok (.getfield 21, 3) := by decide +kernel
theorem d_Resolver_isAboveAnother_9 : decode b_Resolver_isAboveAnother 9 = .ok (.getfield 111, 3) := by decide +kernel
theorem d_Resolver_isAboveAnother_12 : decode b_Resolver_isAboveAnother 12 = .ok (.if_icmp .ge 82, 3) := by decide +kernel
theorem d_Resolver_isAboveAnother_15 : decode b_Resolver_isAboveAnother 15 = .ok (.iload 4, 2) := by decide +kernel
theorem d_Resolver_isAboveAnother_17 : decode b_Resolver_isAboveAnother 17 = .ok (.iload_n 1, 1) := by decide +kernel
theorem d_Resolver_isAboveAnother_18 : decode b_Resolver_isAboveAnother 18 = .ok (.if_icmp .eq 70, 3) := by decide +kernel
theorem d_Resolver_isAboveAnother_21 : decode b_Resolver_isAboveAnother 21 = .ok (.lload_n 2, 1) := by decide +kernel
theorem d_Resolver_isAboveAnother_22 : decode b_Resolver_isAboveAnother 22 = .ok (.iload 4, 2) := by decide +kernel
theorem d_Resolver_isAboveAnother_24 : decode b_Resolver_isAboveAnother 24 = .ok (.lshr, 1) := by decide +kernel
theorem d_Resolver_isAboveAnother_25 : decode b_Resolver_isAboveAnother 25 = .ok (.lconst 1, 1) := by decide +kernel
theorem d_Resolver_isAboveAnother_26 : decode b_Resolver_isAboveAnother 26 = .ok (.land, 1) := by decide +kernel
theorem d_Resolver_isAboveAnother_27 : decode b_Resolver_isAboveAnother 27 = .ok (.lconst 0, 1) := by decide +kernel
theorem d_Resolver_isAboveAnother_28 : decode b_Resolver_isAboveAnother 28 = .ok (.lcmp, 1) := by decide +kernel
theorem d_Resolver_isAboveAnother_29 : decode b_Resolver_isAboveAnother 29 = .ok (.ifCond .ne 6, 3) := by decide +kernel
theorem d_Resolver_isAboveAnother_32 : decode b_Resolver_isAboveAnother 32 = .ok (.goto 56, 3) := by decide +kernel
theorem d_Resolver_isAboveAnother_35 : decode b_Resolver_isAboveAnother 35 = .ok (.aload_n 0, 1) := by decide +kernel
theorem d_Resolver_isAboveAnother_36 : decode b_Resolver_isAboveAnother 36 = .ok (.getfield 25, 3) := by decide +kernel
theorem d_Resolver_isAboveAnother_39 : decode b_Resolver_isAboveAnother 39 = .ok (.iconst 0, 1) := by decide +kernel
theorem d_Resolver_isAboveAnother_40 : decode b_Resolver_isAboveAnother 40 = .ok (.iload 4, 2) := by decide +kernel
theorem d_Resolver_isAboveAnother_42 : decode b_Resolver_isAboveAnother 42 = .ok (.iconst (-1), 1) := by decide +kernel
theorem d_Resolver_isAboveAnother_43 : decode b_Resolver_isAboveAnother 43 = .ok (.iconst (-1), 1) := by decide +kernel
theorem d_Resolver_isAboveAnother_44 : decode b_Resolver_isAboveAnother 44 = .ok (.invokevirtual 91, 3) := by decide +kernel
theorem d_Resolver_isAboveAnother_47 : decode b_Resolver_isAboveAnother 47 = .ok (.istore 5, 2) := by decide +kernel
theorem d_Resolver_isAboveAnother_49 : decode b_Resolver_isAboveAnother 49 = .ok (.iload 5, 2) := by decide +kernel
theorem d_Resolver_isAboveAnother_51 : decode b_Resolver_isAboveAnother 51 = .ok (.ifCond .ge 8, 3) := by decide +kernel
theorem d_Resolver_isAboveAnother_54 : decode b_Resolver_isAboveAnother 54 = .ok (.bipush (-3), 2) := by decide +kernel
theorem d_Resolver_isAboveAnother_56 : decode b_Resolver_isAboveAnother 56 = .ok (.goto 13, 3) := by decide +kernel
theorem d_Resolver_isAboveAnother_59 : decode b_Resolver_isAboveAnother 59 = .ok (.aload_n 0, 1) := by decide +kernel
theorem d_Resolver_isAboveAnother_60 : decode b_Resolver_isAboveAnother 60 = .ok (.getfield 33, 3) := by decide +kernel
theorem d_Resolver_isAboveAnother_63 : decode b_Resolver_isAboveAnother 63 = .ok (.iload 5, 2) := by decide +kernel
theorem d_Resolver_isAboveAnother_65 : decode b_Resolver_isAboveAnother 65 = .ok (.iload_n 1, 1) := by decide +kernel
theorem d_Resolver_isAboveAnother_66 : decode b_Resolver_isAboveAnother 66 = .ok (.invokevirtual 124, 3) := by decide +kernel
theorem d_Resolver_isAboveAnother_69 : decode b_Resolver_isAboveAnother 69 = .ok (.istore 6, 2) := by decide +kernel
theorem d_Resolver_isAboveAnother_71 : decode b_Resolver_isAboveAnother 71 = .ok (.iload 6, 2) := by decide +kernel
theorem d_Resolver_isAboveAnother_73 : decode b_Resolver_isAboveAnother 73 = .ok (.bipush (-3), 2) := by decide +kernel
theorem d_Resolver_isAboveAnother_75 : decode b_Resolver_isAboveAnother 75 = .ok (.if_icmp .ne 6, 3) := by decide +kernel
theorem d_Resolver_isAboveAnother_78 : decode b_Resolver_isAboveAnother 78 = .ok (.bipush (-3), 2) := by decide +kernel
theorem d_Resolver_isAboveAnother_80 : decode b_Resolver_isAboveAnother 80 = .ok (.ireturn, 1) := by decide +kernel
theorem d_Resolver_isAboveAnother_81 : decode b_Resolver_isAboveAnother 81 = .ok (.iload 6, 2) := by decide +kernel
theorem d_Resolver_isAboveAnother_83 : decode b_Resolver_isAboveAnother 83 = .ok (.ifCond .lt 5, 3) := by decide +kernel
theorem d_Resolver_isAboveAnother_86 : decode b_Resolver_isAboveAnother 86 = .ok (.iconst 1, 1) := by decide +kernel
theorem d_Resolver_isAboveAnother_87 : decode b_Resolver_isAboveAnother 87 = .ok (.ireturn, 1) := by decide +kernel
theorem d_Resolver_isAboveAnother_88 : decode b_Resolver_isAboveAnother 88 = .ok (.iinc 4 1, 3) := by decide +kernel
theorem d_Resolver_isAboveAnother_91 : decode b_Resolver_isAboveAnother 91 = .ok (.goto (-88), 3) := by decide +kernel
theorem d_Resolver_isAboveAnother_94 : decode b_Resolver_isAboveAnother 94 = .ok (.iconst 0, 1) := by decide +kernel
theorem d_Resolver_isAboveAnother_95 : decode b_Resolver_isAboveAnother 95 = .ok (.ireturn, 1) := by decide +kernel
theorem d_Resolver_joinAs_0 : decode b_Resolver_joinAs 0 = .ok (.iconst 0, 1) := by decide +kernel
theorem d_Resolver_joinAs_1 : decode b_Resolver_joinAs 1 = .ok (.istore_n 2, 1) := by decide +kernel
theorem d_Resolver_joinAs_2 : decode b_Resolver_joinAs 2 = .ok (.iload_n 2, 1) := by decide +kernel
theorem d_Resolver_joinAs_3 : decode b_Resolver_joinAs 3 = .ok (.aload_n 0, 1) := by decide +kernel
theorem d_Resolver_joinAs_4 : decode b_Resolver_joinAs 4 = .ok (.getfield 81, 3) := by decide +kernel
theorem d_Resolver_joinAs_7 : decode b_Resolver_joinAs 7 = .ok (.if_icmp .ge 57, 3) := by decide +kernel
theorem d_Resolver_joinAs_10 : decode b_Resolver_joinAs 10 = .ok (.aload_n 0, 1) := by decide +kernel
theorem d_Resolver_joinAs_11 : decode b_Resolver_joinAs 11 = .ok (.getfield 33, 3) := by decide +kernel
theorem d_Resolver_joinAs_14 : decode b_Resolver_joinAs 14 = .ok (.aload_n 0, 1) := by decide +kernel
theorem d_Resolver_joinAs_15 : decode b_Resolver_joinAs 15 = .ok (.getfield 9, 3) := by decide +kernel
theorem d_Resolver_joinAs_18 : decode b_Resolver_joinAs 18 = .ok (.iload_n 2, 1) := by decide +kernel
theorem d_Resolver_joinAs_19 : decode b_Resolver_joinAs 19 = .ok (.iaload, 1) := by decide +kernel
theorem d_Resolver_joinAs_20 : decode b_Resolver_joinAs 20 = .ok (.iload_n 1, 1) := by decide +kernel
theorem d_Resolver_joinAs_21 : decode b_Resolver_joinAs 21 = .ok (.invokevirtual 124, 3) := by decide +kernel
theorem d_Resolver_joinAs_24 : decode b_Resolver_joinAs 24 = .ok (.istore_n 3, 1) := by decide +kernel
theorem d_Resolver_joinAs_25 : decode b_Resolver_joinAs 25 = .ok (.iload_n 3, 1) := by decide +kernel
theorem d_Resolver_joinAs_26 : decode b_Resolver_joinAs 26 = .ok (.bipush (-3), 2) := by decide +kernel
theorem d_Resolver_joinAs_28 : decode b_Resolver_joinAs 28 = .ok (.if_icmp .ne 6, 3) := by decide +kernel
theorem d_Resolver_joinAs_31 : decode b_Resolver_joinAs 31 = .ok (.bipush (-3), 2) := by decide +kernel
theorem d_Resolver_joinAs_33 : decode b_Resolver_joinAs 33 = .ok (.ireturn, 1) := by decide +kernel
theorem d_Resolver_joinAs_34 : decode b_Resolver_joinAs 34 = .ok (.aload_n 0, 1) := by decide +kernel
theorem d_Resolver_joinAs_35 : decode b_Resolver_joinAs 35 = .ok (.getfield 25, 3) := by decide +kernel
theorem d_Resolver_joinAs_38 : decode b_Resolver_joinAs 38 = .ok (.iload_n 3, 1) := by decide +kernel
theorem d_Resolver_joinAs_39 : decode b_Resolver_joinAs 39 = .ok (.invokevirtual 128, 3) := by decide +kernel
theorem d_Resolver_joinAs_42 : decode b_Resolver_joinAs 42 = .ok (.iconst 1, 1) := by decide +kernel
theorem d_Resolver_joinAs_43 : decode b_Resolver_joinAs 43 = .ok (.if_icmp .eq 15, 3) := by decide +kernel
theorem d_Resolver_joinAs_46 : decode b_Resolver_joinAs 46 = .ok (.aload_n 0, 1) := by decide +kernel
theorem d_Resolver_joinAs_47 : decode b_Resolver_joinAs 47 = .ok (.getfield 25, 3) := by decide +kernel
theorem d_Resolver_joinAs_50 : decode b_Resolver_joinAs 50 = .ok (.iconst 0, 1) := by decide +kernel
theorem d_Resolver_joinAs_51 : decode b_Resolver_joinAs 51 = .ok (.iload_n 1, 1) := by decide +kernel
theorem d_Resolver_joinAs_52 : decode b_Resolver_joinAs 52 = .ok (.iconst (-1), 1) := by decide +kernel
theorem d_Resolver_joinAs_53 : decode b_Resolver_joinAs 53 = .ok (.iconst (-1), 1) := by decide +kernel
theorem d_Resolver_joinAs_54 : decode b_Resolver_joinAs 54 = .ok (.invokevirtual 91, 3) := by decide +kernel
theorem d_Resolver_joinAs_57 : decode b_Resolver_joinAs 57 = .ok (.ireturn, 1) := by decide +kernel
theorem d_Resolver_joinAs_58 : decode b_Resolver_joinAs 58 = .ok (.iinc 2 1, 3) := by decide +kernel
theorem d_Resolver_joinAs_61 : decode b_Resolver_joinAs 61 = .ok (.goto (-59), 3) := by decide +kernel
theorem d_Resolver_joinAs_64 : decode b_Resolver_joinAs 64 = .ok (.aload_n 0, 1) := by decide +kernel
theorem d_Resolver_joinAs_65 : decode b_Resolver_joinAs 65 = .ok (.iload_n 1, 1) := by decide +kernel
theorem d_Resolver_joinAs_66 : decode b_Resolver_joinAs 66 = .ok (.iconst 0, 1) := by decide +kernel
theorem d_Resolver_joinAs_67 : decode b_Resolver_joinAs 67 = .ok (.invokevirtual 131, 3) := by decide +kernel
theorem d_Resolver_joinAs_70 : decode b_Resolver_joinAs 70 = .ok (.istore_n 2, 1) := by decide +kernel
theorem d_Resolver_joinAs_71 : decode b_Resolver_joinAs 71 = .ok (.aload_n 0, 1) := by decide +kernel
theorem d_Resolver_joinAs_72 : decode b_Resolver_joinAs 72 = .ok (.getfield 21, 3) := by decide +kernel
theorem d_Resolver_joinAs_75 : decode b_Resolver_joinAs 75 = .ok (.iload_n 1, 1) := by decide +kernel
theorem d_Resolver_joinAs_76 : decode b_Resolver_joinAs 76 = .ok (.invokevirtual 134, 3) := by decide +kernel
theorem d_Resolver_joinAs_79 : decode b_Resolver_joinAs 79 = .ok (.iconst 1, 1) := by decide +kernel
theorem d_Resolver_joinAs_80 : decode b_Resolver_joinAs 80 = .ok (.if_icmp .le 12, 3) := by decide +kernel
theorem d_Resolver_joinAs_83 : decode b_Resolver_joinAs 83 = .ok (.aload_n 0, 1) := by decide +kernel
theorem d_Resolver_joinAs_84 : decode b_Resolver_joinAs 84 = .ok (.iload_n 1, 1) := by decide +kernel
theorem d_Resolver_joinAs_85 : decode b_Resolver_joinAs 85 = .ok (.iconst 1, 1) := by decide +kernel
theorem d_Resolver_joinAs_86 : decode b_Resolver_joinAs 86 = .ok (.invokevirtual 131, 3) := by decide +kernel
theorem d_Resolver_joinAs_89 : decode b_Resolver_joinAs 89 = .ok (.goto 4, 3) := by decide +kernel
theorem d_Resolver_joinAs_92 : decode b_Resolver_joinAs 92 = .ok (.iconst (-1), 1) := by decide +kernel
theorem d_Resolver_joinAs_93 : decode b_Resolver_joinAs 93 = .ok (.istore_n 3, 1) := by decide +kernel
theorem d_Resolver_joinAs_94 : decode b_Resolver_joinAs 94 = .ok (.iload_n 2, 1) := by decide +kernel
theorem d_Resolver_joinAs_95 : decode b_Resolver_joinAs 95 = .ok (.bipush (-3), 2) := by decide +kernel
theorem d_Resolver_joinAs_97 : decode b_Resolver_joinAs 97 = .ok (.if_icmp .eq 9, 3) := by decide +kernel
theorem d_Resolver_joinAs_100 : decode b_Resolver_joinAs 100 = .ok (.iload_n 3, 1) := by decide +kernel
theorem d_Resolver_joinAs_101 : decode b_Resolver_joinAs 101 = .ok (.bipush (-3), 2) := by decide +kernel
theorem d_Resolver_joinAs_103 : decode b_Resolver_joinAs 103 = .ok (.if_icmp .ne 8, 3) := by decide +kernel
theorem d_Resolver_joinAs_106 : decode b_Resolver_joinAs 106 = .ok (.bipush (-3), 2) := by decide +kernel
theorem d_Resolver_joinAs_108 : decode b_Resolver_joinAs 108 = .ok (.goto 14, 3) := by decide +kernel
theorem d_Resolver_joinAs_111 : decode b_Resolver_joinAs 111 = .ok (.aload_n 0, 1) := by decide +kernel
theorem d_Resolver_joinAs_112 : decode b_Resolver_joinAs 112 = .ok (.getfield 25, 3) := by decide +kernel
theorem d_Resolver_joinAs_115 : decode b_Resolver_joinAs 115 = .ok (.iconst 1, 1) := by decide +kernel
theorem d_Resolver_joinAs_116 : decode b_Resolver_joinAs 116 = .ok (.iload_n 1, 1) := by decide +kernel
theorem d_Resolver_joinAs_117 : decode b_Resolver_joinAs 117 = .ok (.iload_n 2, 1) := by decide +kernel
theorem d_Resolver_joinAs_118 : decode b_Resolver_joinAs 118 = .ok (.iload_n 3, 1) := by decide +kernel
theorem d_Resolver_joinAs_119 : decode b_Resolver_joinAs 119 = .ok (.invokevirtual 91, 3) := by decide +kernel
theorem d_Resolver_joinAs_122 : decode b_Resolver_joinAs 122 = .ok (.ireturn, 1) := by decide +kernel
theorem d_Resolver_sharedArgument_0 : decode b_Resolver_sharedArgument 0 = .ok (.iconst (-1), 1) := by decide +kernel
theorem d_Resolver_sharedArgument_1 : decode b_Resolver_sharedArgument 1 = .ok (.istore_n 3, 1) := by decide +kernel
theorem d_Resolver_sharedArgument_2 : decode b_Resolver_sharedArgument 2 = .ok (.iconst 0, 1) := by decide +kernel
theorem d_Resolver_sharedArgument_3 : decode b_Resolver_sharedArgument 3 = .ok (.istore 4, 2) := by decide +kernel
theorem d_Resolver_sharedArgument_5 : decode b_Resolver_sharedArgument 5 = .ok (.iload 4, 2) := by decide +kernel
theorem d_Resolver_sharedArgument_7 : decode b_Resolver_sharedArgument 7 = .ok (.aload_n 0, 1) := by decide +kernel
theorem d_Resolver_sharedArgument_8 : decode b_Resolver_sharedArgument 8 = .ok (.getfield 81, 3) := by decide +kernel
theorem d_Resolver_sharedArgument_11 : decode b_Resolver_sharedArgument 11 = .ok (.if_icmp .ge 60, 3) := by decide +kernel
theorem d_Resolver_sharedArgument_14 : decode b_Resolver_sharedArgument 14 = .ok (.aload_n 0, 1) := by decide +kernel
theorem d_Resolver_sharedArgument_15 : decode b_Resolver_sharedArgument 15 = .ok (.getfield 25, 3) := by decide +kernel
theorem d_Resolver_sharedArgument_18 : decode b_Resolver_sharedArgument 18 = .ok (.aload_n 0, 1) := by decide +kernel
theorem d_Resolver_sharedArgument_19 : decode b_Resolver_sharedArgument 19 = .ok (.getfield 33, 3) := by decide +kernel
theorem d_Resolver_sharedArgument_22 : decode b_Resolver_sharedArgument 22 = .ok (.aload_n 0, 1) := by decide +kernel
theorem d_Resolver_sharedArgument_23 : decode b_Resolver_sharedArgument 23 = .ok (.getfield 9, 3) := by decide +kernel
theorem d_Resolver_sharedArgument_26 : decode b_Resolver_sharedArgument 26 = .ok (.iload 4, 2) := by decide +kernel
theorem d_Resolver_sharedArgument_28 : decode b_Resolver_sharedArgument 28 = .ok (.iaload, 1) := by decide +kernel
theorem d_Resolver_sharedArgument_29 : decode b_Resolver_sharedArgument 29 = .ok (.iload_n 1, 1) := by decide +kernel
theorem d_Resolver_sharedArgument_30 : decode b_Resolver_sharedArgument 30 = .ok (.invokevirtual 124, 3) := by decide +kernel
theorem d_Resolver_sharedArgument_33 : decode b_Resolver_sharedArgument 33 = .ok (.iload_n 2, 1) := by decide +kernel
theorem d_Resolver_sharedArgument_34 : decode b_Resolver_sharedArgument 34 = .ok (.invokevirtual 137, 3) := by decide +kernel
theorem d_Resolver_sharedArgument_37 : decode b_Resolver_sharedArgument 37 = .ok (.istore 5, 2) := by decide +kernel
theorem d_Resolver_sharedArgument_39 : decode b_Resolver_sharedArgument 39 = .ok (.iload 4, 2) := by decide +kernel
theorem d_Resolver_sharedArgument_41 : decode b_Resolver_sharedArgument 41 = .ok (.ifCond .le 21, 3) := by decide +kernel
theorem d_Resolver_sharedArgument_44 : decode b_Resolver_sharedArgument 44 = .ok (.iload 5, 2) := by decide +kernel
theorem d_Resolver_sharedArgument_46 : decode b_Resolver_sharedArgument 46 = .ok (.iload_n 3, 1) := by decide +kernel
theorem d_Resolver_sharedArgument_47 : decode b_Resolver_sharedArgument 47 = .ok (.if_icmp .eq 15, 3) := by decide +kernel
theorem d_Resolver_sharedArgument_50 : decode b_Resolver_sharedArgument 50 = .ok (.aload_n 0, 1) := by decide +kernel
theorem d_Resolver_sharedArgument_51 : decode b_Resolver_sharedArgument 51 = .ok (.getfield 25, 3) := by decide +kernel
theorem d_Resolver_sharedArgument_54 : decode b_Resolver_sharedArgument 54 = .ok (.iconst 2, 1) := by decide +kernel
theorem d_Resolver_sharedArgument_55 : decode b_Resolver_sharedArgument 55 = .ok (.iconst 0, 1) := by decide +kernel
theorem d_Resolver_sharedArgument_56 : decode b_Resolver_sharedArgument 56 = .ok (.iconst (-1), 1) := by decide +kernel
theorem d_Resolver_sharedArgument_57 : decode b_Resolver_sharedArgument 57 = .ok (.iconst (-1), 1) := by decide +kernel
theorem d_Resolver_sharedArgument_58 : decode b_Resolver_sharedArgument 58 = .ok (.invokevirtual 91, 3) := by decide +kernel
theorem d_Resolver_sharedArgument_61 : decode b_Resolver_sharedArgument 61 = .ok (.ireturn, 1) := by decide +kernel
theorem d_Resolver_sharedArgument_62 : decode b_Resolver_sharedArgument 62 = .ok (.iload 5, 2) := by decide +kernel
theorem d_Resolver_sharedArgument_64 : decode b_Resolver_sharedArgument 64 = .ok (.istore_n 3, 1) := by decide +kernel
theorem d_Resolver_sharedArgument_65 : decode b_Resolver_sharedArgument 65 = .ok (.iinc 4 1, 3) := by decide +kernel
theorem d_Resolver_sharedArgument_68 : decode b_Resolver_sharedArgument 68 = .ok (.goto (-63), 3) := by decide +kernel
theorem d_Resolver_sharedArgument_71 : decode b_Resolver_sharedArgument 71 = .ok (.iload_n 3, 1) := by decide +kernel
theorem d_Resolver_sharedArgument_72 : decode b_Resolver_sharedArgument 72 = .ok (.ireturn, 1) := by decide +kernel
theorem d_Told_init_0 : decode b_Told_init 0 = .ok (.aload_n 0, 1) := by decide +kernel
theorem d_Told_init_1 : decode b_Told_init 1 = .ok (.invokespecial 3, 3) := by decide +kernel
theorem d_Told_init_4 : decode b_Told_init 4 = .ok (.aload_n 0, 1) := by decide +kernel
theorem d_Told_init_5 : decode b_Told_init 5 = .ok (.bipush 60, 2) := by decide +kernel
theorem d_Told_init_7 : decode b_Told_init 7 = .ok (.newarray .int, 2) := by decide +kernel
theorem d_Told_init_9 : decode b_Told_init 9 = .ok (.putfield 9, 3) := by decide +kernel
theorem d_Told_init_12 : decode b_Told_init 12 = .ok (.aload_n 0, 1) := by decide +kernel
theorem d_Told_init_13 : decode b_Told_init 13 = .ok (.bipush 60, 2) := by decide +kernel
theorem d_Told_init_15 : decode b_Told_init 15 = .ok (.newarray .int, 2) := by decide +kernel
theorem d_Told_init_17 : decode b_Told_init 17 = .ok (.putfield 15, 3) := by decide +kernel
theorem d_Told_init_20 : decode b_Told_init 20 = .ok (.aload_n 0, 1) := by decide +kernel
theorem d_Told_init_21 : decode b_Told_init 21 = .ok (.bipush 60, 2) := by decide +kernel
theorem d_Told_init_23 : decode b_Told_init 23 = .ok (.newarray .int, 2) := by decide +kernel
theorem d_Told_init_25 : decode b_Told_init 25 = .ok (.putfield 18, 3) := by decide +kernel
theorem d_Told_init_28 : decode b_Told_init 28 = .ok (.aload_n 0, 1) := by decide +kernel
theorem d_Told_init_29 : decode b_Told_init 29 = .ok (.bipush 60, 2) := by decide +kernel
theorem d_Told_init_31 : decode b_Told_init 31 = .ok (.newarray .boolean, 2) := by decide +kernel
theorem d_Told_init_33 : decode b_Told_init 33 = .ok (.putfield 21, 3) := by decide +kernel
theorem d_Told_init_36 : decode b_Told_init 36 = .ok (.return_, 1) := by decide +kernel
theorem d_Told_has_0 : decode b_Told_has 0 = .ok (.iload_n 1, 1) := by decide +kernel
theorem d_Told_has_1 : decode b_Told_has 1 = .ok (.ifCond .lt 15, 3) := by decide +kernel
theorem d_Told_has_4 : decode b_Told_has 4 = .ok (.iload_n 1, 1) := by decide +kernel
theorem d_Told_has_5 : decode b_Told_has 5 = .ok (.aload_n 0, 1) := by decide +kernel
theorem d_Told_has_6 : decode b_Told_has 6 = .ok (.getfield 25, 3) := by decide +kernel
theorem d_Told_has_9 : decode b_Told_has 9 = .ok (.if_icmp .ge 7, 3) := by decide +kernel
theorem d_Told_has_12 : decode b_Told_has 12 = .ok (.iconst 1, 1) := by decide +kernel
theorem d_Told_has_13 : decode b_Told_has 13 = .ok (.goto 4, 3) := by decide +kernel
theorem d_Told_has_16 : decode b_Told_has 16 = .ok (.iconst 0, 1) := by decide +kernel
theorem d_Told_has_17 : decode b_Told_has 17 = .ok (.ireturn, 1) := by decide +kernel
theorem d_Told_hasRoom_0 : decode b_Told_hasRoom 0 = .ok (.aload_n 0, 1) := by decide +kernel
theorem d_Told_hasRoom_1 : decode b_Told_hasRoom 1 = .ok (.getfield 25, 3) := by decide +kernel
theorem d_Told_hasRoom_4 : decode b_Told_hasRoom 4 = .ok (.ifCond .lt 16, 3) := by decide +kernel
theorem d_Told_hasRoom_7 : decode b_Told_hasRoom 7 = .ok (.aload_n 0, 1) := by decide +kernel
theorem d_Told_hasRoom_8 : decode b_Told_hasRoom 8 = .ok (.getfield 25, 3) := by decide +kernel
theorem d_Told_hasRoom_11 : decode b_Told_hasRoom 11 = .ok (.bipush 60, 2) := by decide +kernel
theorem d_Told_hasRoom_13 : decode b_Told_hasRoom 13 = .ok (.if_icmp .ge 7, 3) := by decide +kernel
theorem d_Told_hasRoom_16 : decode b_Told_hasRoom 16 = .ok (.iconst 1, 1) := by decide +kernel
theorem d_Told_hasRoom_17 : decode b_Told_hasRoom 17 = .ok (.goto 4, 3) := by decide +kernel
theorem d_Told_hasRoom_20 : decode b_Told_hasRoom 20 = .ok (.iconst 0, 1) := by decide +kernel
theorem d_Told_hasRoom_21 : decode b_Told_hasRoom 21 = .ok (.ireturn, 1) := by decide +kernel
theorem d_Told_add_0 : decode b_Told_add 0 = .ok (.aload_n 0, 1) := by decide +kernel
theorem d_Told_add_1 : decode b_Told_add 1 = .ok (.invokevirtual 29, 3) := by decide +kernel
theorem d_Told_add_4 : decode b_Told_add 4 = .ok (.ifCond .ne 5, 3) := by decide +kernel
theorem d_Told_add_7 : decode b_Told_add 7 = .ok (.iconst (-1), 1) := by decide +kernel
theorem d_Told_add_8 : decode b_Told_add 8 = .ok (.ireturn, 1) := by decide +kernel
theorem d_Told_add_9 : decode b_Told_add 9 = .ok (.aload_n 0, 1) := by decide +kernel
theorem d_Told_add_10 : decode b_Told_add 10 = .ok (.getfield 9, 3) := by decide +kernel
theorem d_Told_add_13 : decode b_Told_add 13 = .ok (.aload_n 0, 1) := by decide +kernel
theorem d_Told_add_14 : decode b_Told_add 14 = .ok (.getfield 25, 3) := by decide +kernel
theorem d_Told_add_17 : decode b_Told_add 17 = .ok (.iload_n 1, 1) := by decide +kernel
theorem d_Told_add_18 : decode b_Told_add 18 = .ok (.iastore, 1) := by decide +kernel
theorem d_Told_add_19 : decode b_Told_add 19 = .ok (.aload_n 0, 1) := by decide +kernel
theorem d_Told_add_20 : decode b_Told_add 20 = .ok (.getfield 15, 3) := by decide +kernel
theorem d_Told_add_23 : decode b_Told_add 23 = .ok (.aload_n 0, 1) := by decide +kernel
theorem d_Told_add_24 : decode b_Told_add 24 = .ok (.getfield 25, 3) := by decide +kernel
theorem d_Told_add_27 : decode b_Told_add 27 = .ok (.iload_n 2, 1) := by decide +kernel
theorem d_Told_add_28 : decode b_Told_add 28 = .ok (.iastore, 1) := by decide +kernel
theorem d_Told_add_29 : decode b_Told_add 29 = .ok (.aload_n 0, 1) := by decide +kernel
theorem d_Told_add_30 : decode b_Told_add 30 = .ok (.getfield 18, 3) := by decide +kernel
theorem d_Told_add_33 : decode b_Told_add 33 = .ok (.aload_n 0, 1) := by decide +kernel
theorem d_Told_add_34 : decode b_Told_add 34 = .ok (.getfield 25, 3) := by decide +kernel
theorem d_Told_add_37 : decode b_Told_add 37 = .ok (.iload_n 3, 1) := by decide +kernel
theorem d_Told_add_38 : decode b_Told_add 38 = .ok (.iastore, 1) := by decide +kernel
theorem d_Told_add_39 : decode b_Told_add 39 = .ok (.aload_n 0, 1) := by decide +kernel
theorem d_Told_add_40 : decode b_Told_add 40 = .ok (.getfield 21, 3) := by decide +kernel
theorem d_Told_add_43 : decode b_Told_add 43 = .ok (.aload_n 0, 1) := by decide +kernel
theorem d_Told_add_44 : decode b_Told_add 44 = .ok (.getfield 25, 3) := by decide +kernel
theorem d_Told_add_47 : decode b_Told_add 47 = .ok (.iconst 0, 1) := by decide +kernel
theorem d_Told_add_48 : decode b_Told_add 48 = .ok (.bastore, 1) := by decide +kernel
theorem d_Told_add_49 : decode b_Told_add 49 = .ok (.aload_n 0, 1) := by decide +kernel
theorem d_Told_add_50 : decode b_Told_add 50 = .ok (.dup, 1) := by decide +kernel
theorem d_Told_add_51 : decode b_Told_add 51 = .ok (.getfield 25, 3) := by decide +kernel
theorem d_Told_add_54 : decode b_Told_add 54 = .ok (.iconst 1, 1) := by decide +kernel
theorem d_Told_add_55 : decode b_Told_add 55 = .ok (.iadd, 1) := by decide +kernel
theorem d_Told_add_56 : decode b_Told_add 56 = .ok (.putfield 25, 3) := by decide +kernel
theorem d_Told_add_59 : decode b_Told_add 59 = .ok (.aload_n 0, 1) := by decide +kernel
theorem d_Told_add_60 : decode b_Told_add 60 = .ok (.getfield 25, 3) := by decide +kernel
theorem d_Told_add_63 : decode b_Told_add 63 = .ok (.iconst 1, 1) := by decide +kernel
theorem d_Told_add_64 : decode b_Told_add 64 = .ok (.isub, 1) := by decide +kernel
theorem d_Told_add_65 : decode b_Told_add 65 = .ok (.ireturn, 1) := by decide +kernel
theorem d_Told_sortOf_0 : decode b_Told_sortOf 0 = .ok (.aload_n 0, 1) := by decide +kernel
theorem d_Told_sortOf_1 : decode b_Told_sortOf 1 = .ok (.iload_n 1, 1) := by decide +kernel
theorem d_Told_sortOf_2 : decode b_Told_sortOf 2 = .ok (.invokevirtual 33, 3) := by decide +kernel
theorem d_Told_sortOf_5 : decode b_Told_sortOf 5 = .ok (.ifCond .eq 12, 3) := by decide +kernel
theorem d_Told_sortOf_8 : decode b_Told_sortOf 8 = .ok (.aload_n 0, 1) := by decide +kernel
theorem d_Told_sortOf_9 : decode b_Told_sortOf 9 = .ok (.getfield 9, 3) := by decide +kernel
theorem d_Told_sortOf_12 : decode b_Told_sortOf 12 = .ok (.iload_n 1, 1) := by decide +kernel
theorem d_Told_sortOf_13 : decode b_Told_sortOf 13 = .ok (.iaload, 1) := by decide +kernel
theorem d_Told_sortOf_14 : decode b_Told_sortOf 14 = .ok (.goto 4, 3) := by decide +kernel
theorem d_Told_sortOf_17 : decode b_Told_sortOf 17 = .ok (.iconst (-1), 1) := by decide +kernel
theorem d_Told_sortOf_18 : decode b_Told_sortOf 18 = .ok (.ireturn, 1) := by decide +kernel
theorem d_Told_leftOf_0 : decode b_Told_leftOf 0 = .ok (.aload_n 0, 1) := by decide +kernel
theorem d_Told_leftOf_1 : decode b_Told_leftOf 1 = .ok (.iload_n 1, 1) := by decide +kernel
theorem d_Told_leftOf_2 : decode b_Told_leftOf 2 = .ok (.invokevirtual 33, 3) := by decide +kernel
theorem d_Told_leftOf_5 : decode b_Told_leftOf 5 = .ok (.ifCond .eq 12, 3) := by decide +kernel
theorem d_Told_leftOf_8 : decode b_Told_leftOf 8 = .ok (.aload_n 0, 1) := by decide +kernel
theorem d_Told_leftOf_9 : decode b_Told_leftOf 9 = .ok (.getfield 15, 3) := by decide +kernel
theorem d_Told_leftOf_12 : decode b_Told_leftOf 12 = .ok (.iload_n 1, 1) := by decide +kernel
theorem d_Told_leftOf_13 : decode b_Told_leftOf 13 = .ok (.iaload, 1) := by decide +kernel
theorem d_Told_leftOf_14 : decode b_Told_leftOf 14 = .ok (.goto 4, 3) := by decide +kernel
theorem d_Told_leftOf_17 : decode b_Told_leftOf 17 = .ok (.iconst (-1), 1) := by decide +kernel
theorem d_Told_leftOf_18 : decode b_Told_leftOf 18 = .ok (.ireturn, 1) := by decide +kernel
theorem d_Told_rightOf_0 : decode b_Told_rightOf 0 = .ok (.aload_n 0, 1) := by decide +kernel
theorem d_Told_rightOf_1 : decode b_Told_rightOf 1 = .ok (.iload_n 1, 1) := by decide +kernel
theorem d_Told_rightOf_2 : decode b_Told_rightOf 2 = .ok (.invokevirtual 33, 3) := by decide +kernel
theorem d_Told_rightOf_5 : decode b_Told_rightOf 5 = .ok (.ifCond .eq 12, 3) := by decide +kernel
theorem d_Told_rightOf_8 : decode b_Told_rightOf 8 = .ok (.aload_n 0, 1) := by decide +kernel
theorem d_Told_rightOf_9 : decode b_Told_rightOf 9 = .ok (.getfield 18, 3) := by decide +kernel
theorem d_Told_rightOf_12 : decode b_Told_rightOf 12 = .ok (.iload_n 1, 1) := by decide +kernel
theorem d_Told_rightOf_13 : decode b_Told_rightOf 13 = .ok (.iaload, 1) := by decide +kernel
theorem d_Told_rightOf_14 : decode b_Told_rightOf 14 = .ok (.goto 4, 3) := by decide +kernel
theorem d_Told_rightOf_17 : decode b_Told_rightOf 17 = .ok (.iconst (-1), 1) := by decide +kernel
theorem d_Told_rightOf_18 : decode b_Told_rightOf 18 = .ok (.ireturn, 1) := by decide +kernel
theorem d_Told_markUnchecked_0 : decode b_Told_markUnchecked 0 = .ok (.aload_n 0, 1) := by decide +kernel
theorem d_Told_markUnchecked_1 : decode b_Told_markUnchecked 1 = .ok (.iload_n 1, 1) := by decide +kernel
theorem d_Told_markUnchecked_2 : decode b_Told_markUnchecked 2 = .ok (.invokevirtual 33, 3) := by decide +kernel
theorem d_Told_markUnchecked_5 : decode b_Told_markUnchecked 5 = .ok (.ifCond .eq 10, 3) := by decide +kernel
theorem d_Told_markUnchecked_8 : decode b_Told_markUnchecked 8 = .ok (.aload_n 0, 1) := by decide +kernel
theorem d_Told_markUnchecked_9 : decode b_Told_markUnchecked 9 = .ok (.getfield 21, 3) := by decide +kernel
theorem d_Told_markUnchecked_12 : decode b_Told_markUnchecked 12 = .ok (.iload_n 1, 1) := by decide +kernel
theorem d_Told_markUnchecked_13 : decode b_Told_markUnchecked 13 = .ok (.iconst 1, 1) := by decide +kernel
theorem d_Told_markUnchecked_14 : decode b_Told_markUnchecked 14 = .ok (.bastore, 1) := by decide +kernel
theorem d_Told_markUnchecked_15 : decode b_Told_markUnchecked 15 = .ok (.return_, 1) := by decide +kernel
theorem d_Told_isUnchecked_0 : decode b_Told_isUnchecked 0 = .ok (.aload_n 0, 1) := by decide +kernel
theorem d_Told_isUnchecked_1 : decode b_Told_isUnchecked 1 = .ok (.iload_n 1, 1) := by decide +kernel
theorem d_Told_isUnchecked_2 : decode b_Told_isUnchecked 2 = .ok (.invokevirtual 33, 3) := by decide +kernel
theorem d_Told_isUnchecked_5 : decode b_Told_isUnchecked 5 = .ok (.ifCond .eq 16, 3) := by decide +kernel
theorem d_Told_isUnchecked_8 : decode b_Told_isUnchecked 8 = .ok (.aload_n 0, 1) := by decide +kernel
theorem d_Told_isUnchecked_9 : decode b_Told_isUnchecked 9 = .ok (.getfield 21, 3) := by decide +kernel
theorem d_Told_isUnchecked_12 : decode b_Told_isUnchecked 12 = .ok (.iload_n 1, 1) := by decide +kernel
theorem d_Told_isUnchecked_13 : decode b_Told_isUnchecked 13 = .ok (.baload, 1) := by decide +kernel
theorem d_Told_isUnchecked_14 : decode b_Told_isUnchecked 14 = .ok (.ifCond .eq 7, 3) := by decide +kernel
theorem d_Told_isUnchecked_17 : decode b_Told_isUnchecked 17 = .ok (.iconst 1, 1) := by decide +kernel
theorem d_Told_isUnchecked_18 : decode b_Told_isUnchecked 18 = .ok (.goto 4, 3) := by decide +kernel
theorem d_Told_isUnchecked_21 : decode b_Told_isUnchecked 21 = .ok (.iconst 0, 1) := by decide +kernel
theorem d_Told_isUnchecked_22 : decode b_Told_isUnchecked 22 = .ok (.ireturn, 1) := by decide +kernel
theorem d_Types_init_0 : decode b_Types_init 0 = .ok (.aload_n 0, 1) := by decide +kernel
theorem d_Types_init_1 : decode b_Types_init 1 = .ok (.invokespecial 3, 3) := by decide +kernel
theorem d_Types_init_4 : decode b_Types_init 4 = .ok (.aload_n 0, 1) := by decide +kernel
theorem d_Types_init_5 : decode b_Types_init 5 = .ok (.sipush 500, 3) := by decide +kernel
theorem d_Types_init_8 : decode b_Types_init 8 = .ok (.newarray .int, 2) := by decide +kernel
theorem d_Types_init_10 : decode b_Types_init 10 = .ok (.putfield 9, 3) := by decide +kernel
theorem d_Types_init_13 : decode b_Types_init 13 = .ok (.aload_n 0, 1) := by decide +kernel
theorem d_Types_init_14 : decode b_Types_init 14 = .ok (.sipush 500, 3) := by decide +kernel
theorem d_Types_init_17 : decode b_Types_init 17 = .ok (.newarray .int, 2) := by decide +kernel
theorem d_Types_init_19 : decode b_Types_init 19 = .ok (.putfield 15, 3) := by decide +kernel
theorem d_Types_init_22 : decode b_Types_init 22 = .ok (.aload_n 0, 1) := by decide +kernel
theorem d_Types_init_23 : decode b_Types_init 23 = .ok (.sipush 500, 3) := by decide +kernel
theorem d_Types_init_26 : decode b_Types_init 26 = .ok (.newarray .int, 2) := by decide +kernel
theorem d_Types_init_28 : decode b_Types_init 28 = .ok (.putfield 18, 3) := by decide +kernel
theorem d_Types_init_31 : decode b_Types_init 31 = .ok (.aload_n 0, 1) := by decide +kernel
theorem d_Types_init_32 : decode b_Types_init 32 = .ok (.sipush 500, 3) := by decide +kernel
theorem d_Types_init_35 : decode b_Types_init 35 = .ok (.newarray .int, 2) := by decide +kernel
theorem d_Types_init_37 : decode b_Types_init 37 = .ok (.putfield 21, 3) := by decide +kernel
theorem d_Types_init_40 : decode b_Types_init 40 = .ok (.aload_n 0, 1) := by decide +kernel
theorem d_Types_init_41 : decode b_Types_init 41 = .ok (.sipush 500, 3) := by decide +kernel
theorem d_Types_init_44 : decode b_Types_init 44 = .ok (.newarray .int, 2) := by decide +kernel
theorem d_Types_init_46 : decode b_Types_init 46 = .ok (.putfield 24, 3) := by decide +kernel
theorem d_Types_init_49 : decode b_Types_init 49 = .ok (.aload_n 0, 1) := by decide +kernel
theorem d_Types_init_50 : decode b_Types_init 50 = .ok (.sipush 500, 3) := by decide +kernel
theorem d_Types_init_53 : decode b_Types_init 53 = .ok (.newarray .int, 2) := by decide +kernel
theorem d_Types_init_55 : decode b_Types_init 55 = .ok (.putfield 27, 3) := by decide +kernel
theorem d_Types_init_58 : decode b_Types_init 58 = .ok (.aload_n 0, 1) := by decide +kernel
theorem d_Types_init_59 : decode b_Types_init 59 = .ok (.sipush 500, 3) := by decide +kernel
theorem d_Types_init_62 : decode b_Types_init 62 = .ok (.newarray .int, 2) := by decide +kernel
theorem d_Types_init_64 : decode b_Types_init 64 = .ok (.putfield 30, 3) := by decide +kernel
theorem d_Types_init_67 : decode b_Types_init 67 = .ok (.aload_n 0, 1) := by decide +kernel
theorem d_Types_init_68 : decode b_Types_init 68 = .ok (.sipush 500, 3) := by decide +kernel
theorem d_Types_init_71 : decode b_Types_init 71 = .ok (.newarray .long, 2) := by decide +kernel
theorem d_Types_init_73 : decode b_Types_init 73 = .ok (.putfield 33, 3) := by decide +kernel
theorem d_Types_init_76 : decode b_Types_init 76 = .ok (.aload_n 0, 1) := by decide +kernel
theorem d_Types_init_77 : decode b_Types_init 77 = .ok (.sipush 500, 3) := by decide +kernel
theorem d_Types_init_80 : decode b_Types_init 80 = .ok (.newarray .long, 2) := by decide +kernel
theorem d_Types_init_82 : decode b_Types_init 82 = .ok (.putfield 37, 3) := by decide +kernel
theorem d_Types_init_85 : decode b_Types_init 85 = .ok (.aload_n 0, 1) := by decide +kernel
theorem d_Types_init_86 : decode b_Types_init 86 = .ok (.sipush 128, 3) := by decide +kernel
theorem d_Types_init_89 : decode b_Types_init 89 = .ok (.newarray .int, 2) := by decide +kernel
theorem d_Types_init_91 : decode b_Types_init 91 = .ok (.putfield 40, 3) := by decide +kernel
theorem d_Types_init_94 : decode b_Types_init 94 = .ok (.aload_n 0, 1) := by decide +kernel
theorem d_Types_init_95 : decode b_Types_init 95 = .ok (.sipush 500, 3) := by decide +kernel
theorem d_Types_init_98 : decode b_Types_init 98 = .ok (.newarray .int, 2) := by decide +kernel
theorem d_Types_init_100 : decode b_Types_init 100 = .ok (.putfield 43, 3) := by decide +kernel
theorem d_Types_init_103 : decode b_Types_init 103 = .ok (.aload_n 0, 1) := by decide +kernel
theorem d_Types_init_104 : decode b_Types_init 104 = .ok (.getfield 40, 3) := by decide +kernel
theorem d_Types_init_107 : decode b_Types_init 107 = .ok (.iconst (-1), 1) := by decide +kernel
theorem d_Types_init_108 : decode b_Types_init 108 = .ok (.invokestatic 46, 3) := by decide +kernel
theorem d_Types_init_111 : decode b_Types_init 111 = .ok (.return_, 1) := by decide +kernel
theorem d_Types_has_0 : decode b_Types_has 0 = .ok (.iload_n 1, 1) := by decide +kernel
theorem d_Types_has_1 : decode b_Types_has 1 = .ok (.ifCond .lt 15, 3) := by decide +kernel
theorem d_Types_has_4 : decode b_Types_has 4 = .ok (.iload_n 1, 1) := by decide +kernel
theorem d_Types_has_5 : decode b_Types_has 5 = .ok (.aload_n 0, 1) := by decide +kernel
theorem d_Types_has_6 : decode b_Types_has 6 = .ok (.getfield 52, 3) := by decide +kernel
theorem d_Types_has_9 : decode b_Types_has 9 = .ok (.if_icmp .ge 7, 3) := by decide +kernel
theorem d_Types_has_12 : decode b_Types_has 12 = .ok (.iconst 1, 1) := by decide +kernel
theorem d_Types_has_13 : decode b_Types_has 13 = .ok (.goto 4, 3) := by decide +kernel
theorem d_Types_has_16 : decode b_Types_has 16 = .ok (.iconst 0, 1) := by decide +kernel
theorem d_Types_has_17 : decode b_Types_has 17 = .ok (.ireturn, 1) := by decide +kernel
theorem d_Types_kindOf_0 : decode b_Types_kindOf 0 = .ok (.iload_n 1, 1) := by decide +kernel
theorem d_Types_kindOf_1 : decode b_Types_kindOf 1 = .ok (.ifCond .lt 20, 3) := by decide +kernel
theorem d_Types_kindOf_4 : decode b_Types_kindOf 4 = .ok (.iload_n 1, 1) := by decide +kernel
theorem d_Types_kindOf_5 : decode b_Types_kindOf 5 = .ok (.aload_n 0, 1) := by decide +kernel
theorem d_Types_kindOf_6 : decode b_Types_kindOf 6 = .ok (.getfield 52, 3) := by decide +kernel
theorem d_Types_kindOf_9 : decode b_Types_kindOf 9 = .ok (.if_icmp .ge 12, 3) := by decide +kernel
theorem d_Types_kindOf_12 : decode b_Types_kindOf 12 = .ok (.aload_n 0, 1) := by decide +kernel
theorem d_Types_kindOf_13 : decode b_Types_kindOf 13 = .ok (.getfield 9, 3) := by decide +kernel
theorem d_Types_kindOf_16 : decode b_Types_kindOf 16 = .ok (.iload_n 1, 1) := by decide +kernel
theorem d_Types_kindOf_17 : decode b_Types_kindOf 17 = .ok (.iaload, 1) := by decide +kernel
theorem d_Types_kindOf_18 : decode b_Types_kindOf 18 = .ok (.goto 4, 3) := by decide +kernel
theorem d_Types_kindOf_21 : decode b_Types_kindOf 21 = .ok (.iconst (-1), 1) := by decide +kernel
theorem d_Types_kindOf_22 : decode b_Types_kindOf 22 = .ok (.ireturn, 1) := by decide +kernel
theorem d_Types_firstOf_0 : decode b_Types_firstOf 0 = .ok (.iload_n 1, 1) := by decide +kernel
theorem d_Types_firstOf_1 : decode b_Types_firstOf 1 = .ok (.ifCond .lt 20, 3) := by decide +kernel
theorem d_Types_firstOf_4 : decode b_Types_firstOf 4 = .ok (.iload_n 1, 1) := by decide +kernel
theorem d_Types_firstOf_5 : decode b_Types_firstOf 5 = .ok (.aload_n 0, 1) := by decide +kernel
theorem d_Types_firstOf_6 : decode b_Types_firstOf 6 = .ok (.getfield 52, 3) := by decide +kernel
theorem d_Types_firstOf_9 : decode b_Types_firstOf 9 = .ok (.if_icmp .ge 12, 3) := by decide +kernel
theorem d_Types_firstOf_12 : decode b_Types_firstOf 12 = .ok (.aload_n 0, 1) := by decide +kernel
theorem d_Types_firstOf_13 : decode b_Types_firstOf 13 = .ok (.getfield 15, 3) := by decide +kernel
theorem d_Types_firstOf_16 : decode b_Types_firstOf 16 = .ok (.iload_n 1, 1) := by decide +kernel
theorem d_Types_firstOf_17 : decode b_Types_firstOf 17 = .ok (.iaload, 1) := by decide +kernel
theorem d_Types_firstOf_18 : decode b_Types_firstOf 18 = .ok (.goto 4, 3) := by decide +kernel
theorem d_Types_firstOf_21 : decode b_Types_firstOf 21 = .ok (.iconst (-1), 1) := by decide +kernel
theorem d_Types_firstOf_22 : decode b_Types_firstOf 22 = .ok (.ireturn, 1) := by decide +kernel
theorem d_Types_secondOf_0 : decode b_Types_secondOf 0 = .ok (.iload_n 1, 1) := by decide +kernel
theorem d_Types_secondOf_1 : decode b_Types_secondOf 1 = .ok (.ifCond .lt 20, 3) := by decide +kernel
theorem d_Types_secondOf_4 : decode b_Types_secondOf 4 = .ok (.iload_n 1, 1) := by decide +kernel
theorem d_Types_secondOf_5 : decode b_Types_secondOf 5 = .ok (.aload_n 0, 1) := by decide +kernel
theorem d_Types_secondOf_6 : decode b_Types_secondOf 6 = .ok (.getfield 52, 3) := by decide +kernel
theorem d_Types_secondOf_9 : decode b_Types_secondOf 9 = .ok (.if_icmp .ge 12, 3) := by decide +kernel
theorem d_Types_secondOf_12 : decode b_Types_secondOf 12 = .ok (.aload_n 0, 1) := by decide +kernel
theorem d_Types_secondOf_13 : decode b_Types_secondOf 13 = .ok (.getfield 18, 3) := by decide +kernel
theorem d_Types_secondOf_16 : decode b_Types_secondOf 16 = .ok (.iload_n 1, 1) := by decide +kernel
theorem d_Types_secondOf_17 : decode b_Types_secondOf 17 = .ok (.iaload, 1) := by decide +kernel
theorem d_Types_secondOf_18 : decode b_Types_secondOf 18 = .ok (.goto 4, 3) := by decide +kernel
theorem d_Types_secondOf_21 : decode b_Types_secondOf 21 = .ok (.iconst (-1), 1) := by decide +kernel
theorem d_Types_secondOf_22 : decode b_Types_secondOf 22 = .ok (.ireturn, 1) := by decide +kernel
theorem d_Types_thirdOf_0 : decode b_Types_thirdOf 0 = .ok (.iload_n 1, 1) := by decide +kernel
theorem d_Types_thirdOf_1 : decode b_Types_thirdOf 1 = .ok (.ifCond .lt 20, 3) := by decide +kernel
theorem d_Types_thirdOf_4 : decode b_Types_thirdOf 4 = .ok (.iload_n 1, 1) := by decide +kernel
theorem d_Types_thirdOf_5 : decode b_Types_thirdOf 5 = .ok (.aload_n 0, 1) := by decide +kernel
theorem d_Types_thirdOf_6 : decode b_Types_thirdOf 6 = .ok (.getfield 52, 3) := by decide +kernel
theorem d_Types_thirdOf_9 : decode b_Types_thirdOf 9 = .ok (.if_icmp .ge 12, 3) := by decide +kernel
theorem d_Types_thirdOf_12 : decode b_Types_thirdOf 12 = .ok (.aload_n 0, 1) := by decide +kernel
theorem d_Types_thirdOf_13 : decode b_Types_thirdOf 13 = .ok (.getfield 21, 3) := by decide +kernel
theorem d_Types_thirdOf_16 : decode b_Types_thirdOf 16 = .ok (.iload_n 1, 1) := by decide +kernel
theorem d_Types_thirdOf_17 : decode b_Types_thirdOf 17 = .ok (.iaload, 1) := by decide +kernel
theorem d_Types_thirdOf_18 : decode b_Types_thirdOf 18 = .ok (.goto 4, 3) := by decide +kernel
theorem d_Types_thirdOf_21 : decode b_Types_thirdOf 21 = .ok (.iconst (-1), 1) := by decide +kernel
theorem d_Types_thirdOf_22 : decode b_Types_thirdOf 22 = .ok (.ireturn, 1) := by decide +kernel
theorem d_Types_depthOf_0 : decode b_Types_depthOf 0 = .ok (.iload_n 1, 1) := by decide +kernel
theorem d_Types_depthOf_1 : decode b_Types_depthOf 1 = .ok (.ifCond .lt 20, 3) := by decide +kernel
theorem d_Types_depthOf_4 : decode b_Types_depthOf 4 = .ok (.iload_n 1, 1) := by decide +kernel
theorem d_Types_depthOf_5 : decode b_Types_depthOf 5 = .ok (.aload_n 0, 1) := by decide +kernel
theorem d_Types_depthOf_6 : decode b_Types_depthOf 6 = .ok (.getfield 52, 3) := by decide +kernel
theorem d_Types_depthOf_9 : decode b_Types_depthOf 9 = .ok (.if_icmp .ge 12, 3) := by decide +kernel
theorem d_Types_depthOf_12 : decode b_Types_depthOf 12 = .ok (.aload_n 0, 1) := by decide +kernel
theorem d_Types_depthOf_13 : decode b_Types_depthOf 13 = .ok (.getfield 24, 3) := by decide +kernel
theorem d_Types_depthOf_16 : decode b_Types_depthOf 16 = .ok (.iload_n 1, 1) := by decide +kernel
theorem d_Types_depthOf_17 : decode b_Types_depthOf 17 = .ok (.iaload, 1) := by decide +kernel
theorem d_Types_depthOf_18 : decode b_Types_depthOf 18 = .ok (.goto 4, 3) := by decide +kernel
theorem d_Types_depthOf_21 : decode b_Types_depthOf 21 = .ok (.iconst (-1), 1) := by decide +kernel
theorem d_Types_depthOf_22 : decode b_Types_depthOf 22 = .ok (.ireturn, 1) := by decide +kernel
theorem d_Types_variablesIn_0 : decode b_Types_variablesIn 0 = .ok (.iload_n 1, 1) := by decide +kernel
theorem d_Types_variablesIn_1 : decode b_Types_variablesIn 1 = .ok (.ifCond .lt 20, 3) := by decide +kernel
theorem d_Types_variablesIn_4 : decode b_Types_variablesIn 4 = .ok (.iload_n 1, 1) := by decide +kernel
theorem d_Types_variablesIn_5 : decode b_Types_variablesIn 5 = .ok (.aload_n 0, 1) := by decide +kernel
theorem d_Types_variablesIn_6 : decode b_Types_variablesIn 6 = .ok (.getfield 52, 3) := by decide +kernel
theorem d_Types_variablesIn_9 : decode b_Types_variablesIn 9 = .ok (.if_icmp .ge 12, 3) := by decide +kernel
theorem d_Types_variablesIn_12 : decode b_Types_variablesIn 12 = .ok (.aload_n 0, 1) := by decide +kernel
theorem d_Types_variablesIn_13 : decode b_Types_variablesIn 13 = .ok (.getfield 30, 3) := by decide +kernel
theorem d_Types_variablesIn_16 : decode b_Types_variablesIn 16 = .ok (.iload_n 1, 1) := by decide +kernel
theorem d_Types_variablesIn_17 : decode b_Types_variablesIn 17 = .ok (.iaload, 1) := by decide +kernel
theorem d_Types_variablesIn_18 : decode b_Types_variablesIn 18 = .ok (.goto 4, 3) := by decide +kernel
theorem d_Types_variablesIn_21 : decode b_Types_variablesIn 21 = .ok (.iconst 0, 1) := by decide +kernel
theorem d_Types_variablesIn_22 : decode b_Types_variablesIn 22 = .ok (.ireturn, 1) := by decide +kernel
theorem d_Types_isProper_0 : decode b_Types_isProper 0 = .ok (.iload_n 1, 1) := by decide +kernel
theorem d_Types_isProper_1 : decode b_Types_isProper 1 = .ok (.ifCond .lt 24, 3) := by decide +kernel
theorem d_Types_isProper_4 : decode b_Types_isProper 4 = .ok (.iload_n 1, 1) := by decide +kernel
theorem d_Types_isProper_5 : decode b_Types_isProper 5 = .ok (.aload_n 0, 1) := by decide +kernel
theorem d_Types_isProper_6 : decode b_Types_isProper 6 = .ok (.getfield 52, 3) := by decide +kernel
theorem d_Types_isProper_9 : decode b_Types_isProper 9 = .ok (.if_icmp .ge 16, 3) := by decide +kernel
theorem d_Types_isProper_12 : decode b_Types_isProper 12 = .ok (.aload_n 0, 1) := by decide +kernel
theorem d_Types_isProper_13 : decode b_Types_isProper 13 = .ok (.getfield 30, 3) := by decide +kernel
theorem d_Types_isProper_16 : decode b_Types_isProper 16 = .ok (.iload_n 1, 1) := by decide +kernel
theorem d_Types_isProper_17 : decode b_Types_isProper 17 = .ok (.iaload, 1) := by decide +kernel
theorem d_Types_isProper_18 : decode b_Types_isProper 18 = .ok (.ifCond .ne 7, 3) := by decide +kernel
theorem d_Types_isProper_21 : decode b_Types_isProper 21 = .ok (.iconst 1, 1) := by decide +kernel
theorem d_Types_isProper_22 : decode b_Types_isProper 22 = .ok (.goto 4, 3) := by decide +kernel
theorem d_Types_isProper_25 : decode b_Types_isProper 25 = .ok (.iconst 0, 1) := by decide +kernel
theorem d_Types_isProper_26 : decode b_Types_isProper 26 = .ok (.ireturn, 1) := by decide +kernel
theorem d_Types_hasInIt_0 : decode b_Types_hasInIt 0 = .ok (.iload_n 1, 1) := by decide +kernel
theorem d_Types_hasInIt_1 : decode b_Types_hasInIt 1 = .ok (.ifCond .lt 28, 3) := by decide +kernel
theorem d_Types_hasInIt_4 : decode b_Types_hasInIt 4 = .ok (.iload_n 1, 1) := by decide +kernel
theorem d_Types_hasInIt_5 : decode b_Types_hasInIt 5 = .ok (.aload_n 0, 1) := by decide +kernel
theorem d_Types_hasInIt_6 : decode b_Types_hasInIt 6 = .ok (.getfield 52, 3) := by decide +kernel
theorem d_Types_hasInIt_9 : decode b_Types_hasInIt 9 = .ok (.if_icmp .ge 20, 3) := by decide +kernel
theorem d_Types_hasInIt_12 : decode b_Types_hasInIt 12 = .ok (.aload_n 0, 1) := by decide +kernel
theorem d_Types_hasInIt_13 : decode b_Types_hasInIt 13 = .ok (.getfield 27, 3) := by decide +kernel
theorem d_Types_hasInIt_16 : decode b_Types_hasInIt 16 = .ok (.iload_n 1, 1) := by decide +kernel
theorem d_Types_hasInIt_17 : decode b_Types_hasInIt 17 = .ok (.iaload, 1) := by decide +kernel
theorem d_Types_hasInIt_18 : decode b_Types_hasInIt 18 = .ok (.iload_n 2, 1) := by decide +kernel
theorem d_Types_hasInIt_19 : decode b_Types_hasInIt 19 = .ok (.ishr, 1) := by decide +kernel
theorem d_Types_hasInIt_20 : decode b_Types_hasInIt 20 = .ok (.iconst 1, 1) := by decide +kernel
theorem d_Types_hasInIt_21 : decode b_Types_hasInIt 21 = .ok (.iand, 1) := by decide +kernel
theorem d_Types_hasInIt_22 : decode b_Types_hasInIt 22 = .ok (.ifCond .eq 7, 3) := by decide +kernel
theorem d_Types_hasInIt_25 : decode b_Types_hasInIt 25 = .ok (.iconst 1, 1) := by decide +kernel
theorem d_Types_hasInIt_26 : decode b_Types_hasInIt 26 = .ok (.goto 4, 3) := by decide +kernel
theorem d_Types_hasInIt_29 : decode b_Types_hasInIt 29 = .ok (.iconst 0, 1) := by decide +kernel
theorem d_Types_hasInIt_30 : decode b_Types_hasInIt 30 = .ok (.ireturn, 1) := by decide +kernel
theorem d_Types_ownersIn_0 : decode b_Types_ownersIn 0 = .ok (.iload_n 1, 1) := by decide +kernel
theorem d_Types_ownersIn_1 : decode b_Types_ownersIn 1 = .ok (.ifCond .lt 11, 3) := by decide +kernel
theorem d_Types_ownersIn_4 : decode b_Types_ownersIn 4 = .ok (.iload_n 1, 1) := by decide +kernel
theorem d_Types_ownersIn_5 : decode b_Types_ownersIn 5 = .ok (.aload_n 0, 1) := by decide +kernel
theorem d_Types_ownersIn_6 : decode b_Types_ownersIn 6 = .ok (.getfield 52, 3) := by decide +kernel
theorem d_Types_ownersIn_9 : decode b_Types_ownersIn 9 = .ok (.if_icmp .lt 5, 3) := by decide +kernel
theorem d_Types_ownersIn_12 : decode b_Types_ownersIn 12 = .ok (.lconst 0, 1) := by decide +kernel
theorem d_Types_ownersIn_13 : decode b_Types_ownersIn 13 = .ok (.lreturn, 1) := by decide +kernel
theorem d_Types_ownersIn_14 : decode b_Types_ownersIn 14 = .ok (.iload_n 2, 1) := by decide +kernel
theorem d_Types_ownersIn_15 : decode b_Types_ownersIn 15 = .ok (.ifCond .ge 12, 3) := by decide +kernel
theorem d_Types_ownersIn_18 : decode b_Types_ownersIn 18 = .ok (.aload_n 0, 1) := by decide +kernel
theorem d_Types_ownersIn_19 : decode b_Types_ownersIn 19 = .ok (.getfield 33, 3) := by decide +kernel
theorem d_Types_ownersIn_22 : decode b_Types_ownersIn 22 = .ok (.iload_n 1, 1) := by decide +kernel
theorem d_Types_ownersIn_23 : decode b_Types_ownersIn 23 = .ok (.laload, 1) := by decide +kernel
theorem d_Types_ownersIn_24 : decode b_Types_ownersIn 24 = .ok (.goto 17, 3) := by decide +kernel
theorem d_Types_ownersIn_27 : decode b_Types_ownersIn 27 = .ok (.aload_n 0, 1) := by decide +kernel
theorem d_Types_ownersIn_28 : decode b_Types_ownersIn 28 = .ok (.getfield 33, 3) := by decide +kernel
theorem d_Types_ownersIn_31 : decode b_Types_ownersIn 31 = .ok (.iload_n 1, 1) := by decide +kernel
theorem d_Types_ownersIn_32 : decode b_Types_ownersIn 32 = .ok (.laload, 1) := by decide +kernel
theorem d_Types_ownersIn_33 : decode b_Types_ownersIn 33 = .ok (.lconst 1, 1) := by decide +kernel
theorem d_Types_ownersIn_34 : decode b_Types_ownersIn 34 = .ok (.iload_n 2, 1) := by decide +kernel
theorem d_Types_ownersIn_35 : decode b_Types_ownersIn 35 = .ok (.lshl, 1) := by decide +kernel
theorem d_Types_ownersIn_36 : decode b_Types_ownersIn 36 = .ok (.ldc2_w 56, 3) := by decide +kernel
theorem d_Types_ownersIn_39 : decode b_Types_ownersIn 39 = .ok (.lxor, 1) := by decide +kernel
theorem d_Types_ownersIn_40 : decode b_Types_ownersIn 40 = .ok (.land, 1) := by decide +kernel
theorem d_Types_ownersIn_41 : decode b_Types_ownersIn 41 = .ok (.lreturn, 1) := by decide +kernel
theorem d_Types_isOfClassesBefore_0 : decode b_Types_isOfClassesBefore 0 = .ok (.iload_n 1, 1) := by decide +kernel
theorem d_Types_isOfClassesBefore_1 : decode b_Types_isOfClassesBefore 1 = .ok (.ifCond .lt 38, 3) := by decide +kernel
theorem d_Types_isOfClassesBefore_4 : decode b_Types_isOfClassesBefore 4 = .ok (.iload_n 1, 1) := by decide +kernel
theorem d_Types_isOfClassesBefore_5 : decode b_Types_isOfClassesBefore 5 = .ok (.aload_n 0, 1) := by decide +kernel
theorem d_Types_isOfClassesBefore_6 : decode b_Types_isOfClassesBefore 6 = .ok (.getfield 52, 3) := by decide +kernel
theorem d_Types_isOfClassesBefore_9 : decode b_Types_isOfClassesBefore 9 = .ok (.if_icmp .ge 30, 3) := by decide +kernel
theorem d_Types_isOfClassesBefore_12 : decode b_Types_isOfClassesBefore 12 = .ok (.iload_n 2, 1) := by decide +kernel
theorem d_Types_isOfClassesBefore_13 : decode b_Types_isOfClassesBefore 13 = .ok (.ifCond .lt 26, 3) := by decide +kernel
theorem d_Types_isOfClassesBefore_16 : decode b_Types_isOfClassesBefore 16 = .ok (.iload_n 2, 1) := by decide +kernel
theorem d_Types_isOfClassesBefore_17 : decode b_Types_isOfClassesBefore 17 = .ok (.bipush 40, 2) := by decide +kernel
theorem d_Types_isOfClassesBefore_19 : decode b_Types_isOfClassesBefore 19 = .ok (.if_icmp .ge 20, 3) := by decide +kernel
theorem d_Types_isOfClassesBefore_22 : decode b_Types_isOfClassesBefore 22 = .ok (.aload_n 0, 1) := by decide +kernel
theorem d_Types_isOfClassesBefore_23 : decode b_Types_isOfClassesBefore 23 = .ok (.getfield 37, 3) := by decide +kernel
theorem d_Types_isOfClassesBefore_26 : decode b_Types_isOfClassesBefore 26 = .ok (.iload_n 1, 1) := by decide +kernel
theorem d_Types_isOfClassesBefore_27 : decode b_Types_isOfClassesBefore 27 = .ok (.laload, 1) := by decide +kernel
theorem d_Types_isOfClassesBefore_28 : decode b_Types_isOfClassesBefore 28 = .ok (.iload_n 2, 1) := by decide +kernel
theorem d_Types_isOfClassesBefore_29 : decode b_Types_isOfClassesBefore 29 = .ok (.lshr, 1) := by decide +kernel
theorem d_Types_isOfClassesBefore_30 : decode b_Types_isOfClassesBefore 30 = .ok (.lconst 0, 1) := by decide +kernel
theorem d_Types_isOfClassesBefore_31 : decode b_Types_isOfClassesBefore 31 = .ok (.lcmp, 1) := by decide +kernel
theorem d_Types_isOfClassesBefore_32 : decode b_Types_isOfClassesBefore 32 = .ok (.ifCond .ne 7, 3) := by decide +kernel
theorem d_Types_isOfClassesBefore_35 : decode b_Types_isOfClassesBefore 35 = .ok (.iconst 1, 1) := by decide +kernel
theorem d_Types_isOfClassesBefore_36 : decode b_Types_isOfClassesBefore 36 = .ok (.goto 4, 3) := by decide +kernel
theorem d_Types_isOfClassesBefore_39 : decode b_Types_isOfClassesBefore 39 = .ok (.iconst 0, 1) := by decide +kernel
theorem d_Types_isOfClassesBefore_40 : decode b_Types_isOfClassesBefore 40 = .ok (.ireturn, 1) := by decide +kernel
theorem d_Types_argumentOf_0 : decode b_Types_argumentOf 0 = .ok (.iload_n 1, 1) := by decide +kernel
theorem d_Types_argumentOf_1 : decode b_Types_argumentOf 1 = .ok (.ifCond .lt 11, 3) := by decide +kernel
theorem d_Types_argumentOf_4 : decode b_Types_argumentOf 4 = .ok (.iload_n 1, 1) := by decide +kernel
theorem d_Types_argumentOf_5 : decode b_Types_argumentOf 5 = .ok (.aload_n 0, 1) := by decide +kernel
theorem d_Types_argumentOf_6 : decode b_Types_argumentOf 6 = .ok (.getfield 52, 3) := by decide +kernel
theorem d_Types_argumentOf_9 : decode b_Types_argumentOf 9 = .ok (.if_icmp .lt 5, 3) := by decide +kernel
theorem d_Types_argumentOf_12 : decode b_Types_argumentOf 12 = .ok (.iconst (-1), 1) := by decide +kernel
theorem d_Types_argumentOf_13 : decode b_Types_argumentOf 13 = .ok (.ireturn, 1) := by decide +kernel
theorem d_Types_argumentOf_14 : decode b_Types_argumentOf 14 = .ok (.iload_n 2, 1) := by decide +kernel
theorem d_Types_argumentOf_15 : decode b_Types_argumentOf 15 = .ok (.ifCond .ne 12, 3) := by decide +kernel
theorem d_Types_argumentOf_18 : decode b_Types_argumentOf 18 = .ok (.aload_n 0, 1) := by decide +kernel
theorem d_Types_argumentOf_19 : decode b_Types_argumentOf 19 = .ok (.getfield 18, 3) := by decide +kernel
theorem d_Types_argumentOf_22 : decode b_Types_argumentOf 22 = .ok (.iload_n 1, 1) := by decide +kernel
theorem d_Types_argumentOf_23 : decode b_Types_argumentOf 23 = .ok (.iaload, 1) := by decide +kernel
theorem d_Types_argumentOf_24 : decode b_Types_argumentOf 24 = .ok (.goto 9, 3) := by decide +kernel
theorem d_Types_argumentOf_27 : decode b_Types_argumentOf 27 = .ok (.aload_n 0, 1) := by decide +kernel
theorem d_Types_argumentOf_28 : decode b_Types_argumentOf 28 = .ok (.getfield 21, 3) := by decide +kernel
theorem d_Types_argumentOf_31 : decode b_Types_argumentOf 31 = .ok (.iload_n 1, 1) := by decide +kernel
theorem d_Types_argumentOf_32 : decode b_Types_argumentOf 32 = .ok (.iaload, 1) := by decide +kernel
theorem d_Types_argumentOf_33 : decode b_Types_argumentOf 33 = .ok (.ireturn, 1) := by decide +kernel
theorem d_Types_classOf_0 : decode b_Types_classOf 0 = .ok (.iload_n 1, 1) := by decide +kernel
theorem d_Types_classOf_1 : decode b_Types_classOf 1 = .ok (.ifCond .lt 11, 3) := by decide +kernel
theorem d_Types_classOf_4 : decode b_Types_classOf 4 = .ok (.iload_n 1, 1) := by decide +kernel
theorem d_Types_classOf_5 : decode b_Types_classOf 5 = .ok (.aload_n 0, 1) := by decide +kernel
theorem d_Types_classOf_6 : decode b_Types_classOf 6 = .ok (.getfield 52, 3) := by decide +kernel
theorem d_Types_classOf_9 : decode b_Types_classOf 9 = .ok (.if_icmp .lt 5, 3) := by decide +kernel
theorem d_Types_classOf_12 : decode b_Types_classOf 12 = .ok (.iconst (-1), 1) := by decide +kernel
theorem d_Types_classOf_13 : decode b_Types_classOf 13 = .ok (.ireturn, 1) := by decide +kernel
theorem d_Types_classOf_14 : decode b_Types_classOf 14 = .ok (.aload_n 0, 1) := by decide +kernel
theorem d_Types_classOf_15 : decode b_Types_classOf 15 = .ok (.getfield 9, 3) := by decide +kernel
theorem d_Types_classOf_18 : decode b_Types_classOf 18 = .ok (.iload_n 1, 1) := by decide +kernel
theorem d_Types_classOf_19 : decode b_Types_classOf 19 = .ok (.iaload, 1) := by decide +kernel
theorem d_Types_classOf_20 : decode b_Types_classOf 20 = .ok (.ifCond .eq 13, 3) := by decide +kernel
theorem d_Types_classOf_23 : decode b_Types_classOf 23 = .ok (.aload_n 0, 1) := by decide +kernel
theorem d_Types_classOf_24 : decode b_Types_classOf 24 = .ok (.getfield 9, 3) := by decide +kernel
theorem d_Types_classOf_27 : decode b_Types_classOf 27 = .ok (.iload_n 1, 1) := by decide +kernel
theorem d_Types_classOf_28 : decode b_Types_classOf 28 = .ok (.iaload, 1) := by decide +kernel
theorem d_Types_classOf_29 : decode b_Types_classOf 29 = .ok (.iconst 1, 1) := by decide +kernel
theorem d_Types_classOf_30 : decode b_Types_classOf 30 = .ok (.if_icmp .ne 12, 3) := by decide +kernel
theorem d_Types_classOf_33 : decode b_Types_classOf 33 = .ok (.aload_n 0, 1) := by decide +kernel
theorem d_Types_classOf_34 : decode b_Types_classOf 34 = .ok (.getfield 15, 3) := by decide +kernel
theorem d_Types_classOf_37 : decode b_Types_classOf 37 = .ok (.iload_n 1, 1) := by decide +kernel
theorem d_Types_classOf_38 : decode b_Types_classOf 38 = .ok (.iaload, 1) := by decide +kernel
theorem d_Types_classOf_39 : decode b_Types_classOf 39 = .ok (.goto 4, 3) := by decide +kernel
theorem d_Types_classOf_42 : decode b_Types_classOf 42 = .ok (.iconst (-1), 1) := by decide +kernel
theorem d_Types_classOf_43 : decode b_Types_classOf 43 = .ok (.ireturn, 1) := by decide +kernel
theorem d_Types_captureBound_0 : decode b_Types_captureBound 0 = .ok (.iload_n 1, 1) := by decide +kernel
theorem d_Types_captureBound_1 : decode b_Types_captureBound 1 = .ok (.ifCond .lt 22, 3) := by decide +kernel
theorem d_Types_captureBound_4 : decode b_Types_captureBound 4 = .ok (.iload_n 1, 1) := by decide +kernel
theorem d_Types_captureBound_5 : decode b_Types_captureBound 5 = .ok (.aload_n 0, 1) := by decide +kernel
theorem d_Types_captureBound_6 : decode b_Types_captureBound 6 = .ok (.getfield 52, 3) := by decide +kernel
theorem d_Types_captureBound_9 : decode b_Types_captureBound 9 = .ok (.if_icmp .ge 14, 3) := by decide +kernel
theorem d_Types_captureBound_12 : decode b_Types_captureBound 12 = .ok (.aload_n 0, 1) := by decide +kernel
theorem d_Types_captureBound_13 : decode b_Types_captureBound 13 = .ok (.getfield 9, 3) := by decide +kernel
theorem d_Types_captureBound_16 : decode b_Types_captureBound 16 = .ok (.iload_n 1, 1) := by decide +kernel
theorem d_Types_captureBound_17 : decode b_Types_captureBound 17 = .ok (.iaload, 1) := by decide +kernel
theorem d_Types_captureBound_18 : decode b_Types_captureBound 18 = .ok (.bipush 8, 2) := by decide +kernel
theorem d_Types_captureBound_20 : decode b_Types_captureBound 20 = .ok (.if_icmp .eq 5, 3) := by decide +kernel
theorem d_Types_captureBound_23 : decode b_Types_captureBound 23 = .ok (.iconst (-1), 1) := by decide +kernel
theorem d_Types_captureBound_24 : decode b_Types_captureBound 24 = .ok (.ireturn, 1) := by decide +kernel
theorem d_Types_captureBound_25 : decode b_Types_captureBound 25 = .ok (.aload_n 0, 1) := by decide +kernel
theorem d_Types_captureBound_26 : decode b_Types_captureBound 26 = .ok (.aload_n 0, 1) := by decide +kernel
theorem d_Types_captureBound_27 : decode b_Types_captureBound 27 = .ok (.getfield 15, 3) := by decide +kernel
theorem d_Types_captureBound_30 : decode b_Types_captureBound 30 = .ok (.iload_n 1, 1) := by decide +kernel
theorem d_Types_captureBound_31 : decode b_Types_captureBound 31 = .ok (.iaload, 1) := by decide +kernel
theorem d_Types_captureBound_32 : decode b_Types_captureBound 32 = .ok (.aload_n 0, 1) := by decide +kernel
theorem d_Types_captureBound_33 : decode b_Types_captureBound 33 = .ok (.getfield 18, 3) := by decide +kernel
theorem d_Types_captureBound_36 : decode b_Types_captureBound 36 = .ok (.iload_n 1, 1) := by decide +kernel
theorem d_Types_captureBound_37 : decode b_Types_captureBound 37 = .ok (.iaload, 1) := by decide +kernel
theorem d_Types_captureBound_38 : decode b_Types_captureBound 38 = .ok (.invokevirtual 58, 3) := by decide +kernel
theorem d_Types_captureBound_41 : decode b_Types_captureBound 41 = .ok (.istore_n 3, 1) := by decide +kernel
theorem d_Types_captureBound_42 : decode b_Types_captureBound 42 = .ok (.aload_n 0, 1) := by decide +kernel
theorem d_Types_captureBound_43 : decode b_Types_captureBound 43 = .ok (.iload_n 3, 1) := by decide +kernel
theorem d_Types_captureBound_44 : decode b_Types_captureBound 44 = .ok (.invokevirtual 62, 3) := by decide +kernel
theorem d_Types_captureBound_47 : decode b_Types_captureBound 47 = .ok (.iload_n 2, 1) := by decide +kernel
theorem d_Types_captureBound_48 : decode b_Types_captureBound 48 = .ok (.if_icmp .ne 11, 3) := by decide +kernel
theorem d_Types_captureBound_51 : decode b_Types_captureBound 51 = .ok (.aload_n 0, 1) := by decide +kernel
theorem d_Types_captureBound_52 : decode b_Types_captureBound 52 = .ok (.iload_n 3, 1) := by decide +kernel
theorem d_Types_captureBound_53 : decode b_Types_captureBound 53 = .ok (.invokevirtual 66, 3) := by decide +kernel
theorem d_Types_captureBound_56 : decode b_Types_captureBound 56 = .ok (.goto 4, 3) := by decide +kernel
theorem d_Types_captureBound_59 : decode b_Types_captureBound 59 = .ok (.iconst (-1), 1) := by decide +kernel
theorem d_Types_captureBound_60 : decode b_Types_captureBound 60 = .ok (.ireturn, 1) := by decide +kernel
