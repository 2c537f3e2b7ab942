theorem dn_C_holdVerdict_0 : decode cn_C_holdVerdict 0 = .ok (.iload_n 2, 1) := by decide +kernel
theorem dn_C_holdVerdict_1 : decode cn_C_holdVerdict 1 = .ok (.ifCond .lt 9, 3) := by decide +kernel
theorem dn_C_holdVerdict_4 : decode cn_C_holdVerdict 4 = .ok (.iload_n 2, 1) := by decide +kernel
theorem dn_C_holdVerdict_5 : decode cn_C_holdVerdict 5 = .ok (.bipush 7, 2) := by decide +kernel
theorem dn_C_holdVerdict_7 : decode cn_C_holdVerdict 7 = .ok (.if_icmp .le 5, 3) := by decide +kernel
theorem dn_C_holdVerdict_10 : decode cn_C_holdVerdict 10 = .ok (.iconst (-1), 1) := by decide +kernel
theorem dn_C_holdVerdict_11 : decode cn_C_holdVerdict 11 = .ok (.ireturn, 1) := by decide +kernel
theorem dn_C_holdVerdict_12 : decode cn_C_holdVerdict 12 = .ok (.aload_n 0, 1) := by decide +kernel
theorem dn_C_holdVerdict_13 : decode cn_C_holdVerdict 13 = .ok (.iload_n 1, 1) := by decide +kernel
theorem dn_C_holdVerdict_14 : decode cn_C_holdVerdict 14 = .ok (.invokevirtual 35, 3) := by decide +kernel
theorem dn_C_holdVerdict_17 : decode cn_C_holdVerdict 17 = .ok (.ifCond .ne 6, 3) := by decide +kernel
theorem dn_C_holdVerdict_20 : decode cn_C_holdVerdict 20 = .ok (.bipush (-2), 2) := by decide +kernel
theorem dn_C_holdVerdict_22 : decode cn_C_holdVerdict 22 = .ok (.ireturn, 1) := by decide +kernel
theorem dn_C_holdVerdict_23 : decode cn_C_holdVerdict 23 = .ok (.aload_n 0, 1) := by decide +kernel
theorem dn_C_holdVerdict_24 : decode cn_C_holdVerdict 24 = .ok (.getfield 9, 3) := by decide +kernel
theorem dn_C_holdVerdict_27 : decode cn_C_holdVerdict 27 = .ok (.iload_n 1, 1) := by decide +kernel
theorem dn_C_holdVerdict_28 : decode cn_C_holdVerdict 28 = .ok (.iaload, 1) := by decide +kernel
theorem dn_C_holdVerdict_29 : decode cn_C_holdVerdict 29 = .ok (.iconst 1, 1) := by decide +kernel
theorem dn_C_holdVerdict_30 : decode cn_C_holdVerdict 30 = .ok (.if_icmp .eq 6, 3) := by decide +kernel
theorem dn_C_holdVerdict_33 : decode cn_C_holdVerdict 33 = .ok (.bipush (-3), 2) := by decide +kernel
theorem dn_C_holdVerdict_35 : decode cn_C_holdVerdict 35 = .ok (.ireturn, 1) := by decide +kernel
theorem dn_C_holdVerdict_36 : decode cn_C_holdVerdict 36 = .ok (.aload_n 0, 1) := by decide +kernel
theorem dn_C_holdVerdict_37 : decode cn_C_holdVerdict 37 = .ok (.getfield 18, 3) := by decide +kernel
theorem dn_C_holdVerdict_40 : decode cn_C_holdVerdict 40 = .ok (.iload_n 1, 1) := by decide +kernel
theorem dn_C_holdVerdict_41 : decode cn_C_holdVerdict 41 = .ok (.iaload, 1) := by decide +kernel
theorem dn_C_holdVerdict_42 : decode cn_C_holdVerdict 42 = .ok (.iconst 1, 1) := by decide +kernel
theorem dn_C_holdVerdict_43 : decode cn_C_holdVerdict 43 = .ok (.iload_n 2, 1) := by decide +kernel
theorem dn_C_holdVerdict_44 : decode cn_C_holdVerdict 44 = .ok (.ishl, 1) := by decide +kernel
theorem dn_C_holdVerdict_45 : decode cn_C_holdVerdict 45 = .ok (.iand, 1) := by decide +kernel
theorem dn_C_holdVerdict_46 : decode cn_C_holdVerdict 46 = .ok (.ifCond .eq 7, 3) := by decide +kernel
theorem dn_C_holdVerdict_49 : decode cn_C_holdVerdict 49 = .ok (.iconst 1, 1) := by decide +kernel
theorem dn_C_holdVerdict_50 : decode cn_C_holdVerdict 50 = .ok (.goto 4, 3) := by decide +kernel
theorem dn_C_holdVerdict_53 : decode cn_C_holdVerdict 53 = .ok (.iconst 0, 1) := by decide +kernel
theorem dn_C_holdVerdict_54 : decode cn_C_holdVerdict 54 = .ok (.istore 4, 2) := by decide +kernel
theorem dn_C_holdVerdict_56 : decode cn_C_holdVerdict 56 = .ok (.iload 4, 2) := by decide +kernel
theorem dn_C_holdVerdict_58 : decode cn_C_holdVerdict 58 = .ok (.iload_n 3, 1) := by decide +kernel
theorem dn_C_holdVerdict_59 : decode cn_C_holdVerdict 59 = .ok (.if_icmp .ne 8, 3) := by decide +kernel
theorem dn_C_holdVerdict_62 : decode cn_C_holdVerdict 62 = .ok (.bipush (-5), 2) := by decide +kernel
theorem dn_C_holdVerdict_64 : decode cn_C_holdVerdict 64 = .ok (.goto 4, 3) := by decide +kernel
theorem dn_C_holdVerdict_67 : decode cn_C_holdVerdict 67 = .ok (.iconst 0, 1) := by decide +kernel
theorem dn_C_holdVerdict_68 : decode cn_C_holdVerdict 68 = .ok (.ireturn, 1) := by decide +kernel
theorem dn_C_endVerdict_0 : decode cn_C_endVerdict 0 = .ok (.aload_n 0, 1) := by decide +kernel
theorem dn_C_endVerdict_1 : decode cn_C_endVerdict 1 = .ok (.iload_n 1, 1) := by decide +kernel
theorem dn_C_endVerdict_2 : decode cn_C_endVerdict 2 = .ok (.invokevirtual 35, 3) := by decide +kernel
theorem dn_C_endVerdict_5 : decode cn_C_endVerdict 5 = .ok (.ifCond .ne 6, 3) := by decide +kernel
theorem dn_C_endVerdict_8 : decode cn_C_endVerdict 8 = .ok (.bipush (-2), 2) := by decide +kernel
theorem dn_C_endVerdict_10 : decode cn_C_endVerdict 10 = .ok (.ireturn, 1) := by decide +kernel
theorem dn_C_endVerdict_11 : decode cn_C_endVerdict 11 = .ok (.iload_n 2, 1) := by decide +kernel
theorem dn_C_endVerdict_12 : decode cn_C_endVerdict 12 = .ok (.ifCond .eq 6, 3) := by decide +kernel
theorem dn_C_endVerdict_15 : decode cn_C_endVerdict 15 = .ok (.bipush (-3), 2) := by decide +kernel
theorem dn_C_endVerdict_17 : decode cn_C_endVerdict 17 = .ok (.ireturn, 1) := by decide +kernel
theorem dn_C_endVerdict_18 : decode cn_C_endVerdict 18 = .ok (.aload_n 0, 1) := by decide +kernel
theorem dn_C_endVerdict_19 : decode cn_C_endVerdict 19 = .ok (.getfield 18, 3) := by decide +kernel
theorem dn_C_endVerdict_22 : decode cn_C_endVerdict 22 = .ok (.iload_n 1, 1) := by decide +kernel
theorem dn_C_endVerdict_23 : decode cn_C_endVerdict 23 = .ok (.iaload, 1) := by decide +kernel
theorem dn_C_endVerdict_24 : decode cn_C_endVerdict 24 = .ok (.ifCond .eq 6, 3) := by decide +kernel
theorem dn_C_endVerdict_27 : decode cn_C_endVerdict 27 = .ok (.bipush (-6), 2) := by decide +kernel
theorem dn_C_endVerdict_29 : decode cn_C_endVerdict 29 = .ok (.ireturn, 1) := by decide +kernel
theorem dn_C_endVerdict_30 : decode cn_C_endVerdict 30 = .ok (.iload_n 3, 1) := by decide +kernel
theorem dn_C_endVerdict_31 : decode cn_C_endVerdict 31 = .ok (.aload_n 0, 1) := by decide +kernel
theorem dn_C_endVerdict_32 : decode cn_C_endVerdict 32 = .ok (.getfield 15, 3) := by decide +kernel
theorem dn_C_endVerdict_35 : decode cn_C_endVerdict 35 = .ok (.iload_n 1, 1) := by decide +kernel
theorem dn_C_endVerdict_36 : decode cn_C_endVerdict 36 = .ok (.iaload, 1) := by decide +kernel
theorem dn_C_endVerdict_37 : decode cn_C_endVerdict 37 = .ok (.if_icmp .ge 8, 3) := by decide +kernel
theorem dn_C_endVerdict_40 : decode cn_C_endVerdict 40 = .ok (.bipush (-7), 2) := by decide +kernel
theorem dn_C_endVerdict_42 : decode cn_C_endVerdict 42 = .ok (.goto 4, 3) := by decide +kernel
theorem dn_C_endVerdict_45 : decode cn_C_endVerdict 45 = .ok (.iconst 0, 1) := by decide +kernel
theorem dn_C_endVerdict_46 : decode cn_C_endVerdict 46 = .ok (.ireturn, 1) := by decide +kernel
theorem dn_C_verdictOfKind_0 : decode cn_C_verdictOfKind 0 = .ok (.iload_n 1, 1) := by decide +kernel
theorem dn_C_verdictOfKind_1 : decode cn_C_verdictOfKind 1 = .ok (.tableswitch 114 1 6 #[39, 47, 54, 62, 70, 92], 39) := by decide +kernel
theorem dn_C_verdictOfKind_40 : decode cn_C_verdictOfKind 40 = .ok (.aload_n 0, 1) := by decide +kernel
theorem dn_C_verdictOfKind_41 : decode cn_C_verdictOfKind 41 = .ok (.iload_n 3, 1) := by decide +kernel
theorem dn_C_verdictOfKind_42 : decode cn_C_verdictOfKind 42 = .ok (.iload 4, 2) := by decide +kernel
theorem dn_C_verdictOfKind_44 : decode cn_C_verdictOfKind 44 = .ok (.invokevirtual 43, 3) := by decide +kernel
theorem dn_C_verdictOfKind_47 : decode cn_C_verdictOfKind 47 = .ok (.ireturn, 1) := by decide +kernel
theorem dn_C_verdictOfKind_48 : decode cn_C_verdictOfKind 48 = .ok (.aload_n 0, 1) := by decide +kernel
theorem dn_C_verdictOfKind_49 : decode cn_C_verdictOfKind 49 = .ok (.iload_n 2, 1) := by decide +kernel
theorem dn_C_verdictOfKind_50 : decode cn_C_verdictOfKind 50 = .ok (.iload_n 3, 1) := by decide +kernel
theorem dn_C_verdictOfKind_51 : decode cn_C_verdictOfKind 51 = .ok (.invokevirtual 47, 3) := by decide +kernel
theorem dn_C_verdictOfKind_54 : decode cn_C_verdictOfKind 54 = .ok (.ireturn, 1) := by decide +kernel
theorem dn_C_verdictOfKind_55 : decode cn_C_verdictOfKind 55 = .ok (.aload_n 0, 1) := by decide +kernel
theorem dn_C_verdictOfKind_56 : decode cn_C_verdictOfKind 56 = .ok (.iload_n 2, 1) := by decide +kernel
theorem dn_C_verdictOfKind_57 : decode cn_C_verdictOfKind 57 = .ok (.iload_n 3, 1) := by decide +kernel
theorem dn_C_verdictOfKind_58 : decode cn_C_verdictOfKind 58 = .ok (.iconst 1, 1) := by decide +kernel
theorem dn_C_verdictOfKind_59 : decode cn_C_verdictOfKind 59 = .ok (.invokevirtual 50, 3) := by decide +kernel
theorem dn_C_verdictOfKind_62 : decode cn_C_verdictOfKind 62 = .ok (.ireturn, 1) := by decide +kernel
theorem dn_C_verdictOfKind_63 : decode cn_C_verdictOfKind 63 = .ok (.aload_n 0, 1) := by decide +kernel
theorem dn_C_verdictOfKind_64 : decode cn_C_verdictOfKind 64 = .ok (.iload_n 2, 1) := by decide +kernel
theorem dn_C_verdictOfKind_65 : decode cn_C_verdictOfKind 65 = .ok (.iload_n 3, 1) := by decide +kernel
theorem dn_C_verdictOfKind_66 : decode cn_C_verdictOfKind 66 = .ok (.iconst 0, 1) := by decide +kernel
theorem dn_C_verdictOfKind_67 : decode cn_C_verdictOfKind 67 = .ok (.invokevirtual 50, 3) := by decide +kernel
theorem dn_C_verdictOfKind_70 : decode cn_C_verdictOfKind 70 = .ok (.ireturn, 1) := by decide +kernel
theorem dn_C_verdictOfKind_71 : decode cn_C_verdictOfKind 71 = .ok (.aload_n 0, 1) := by decide +kernel
theorem dn_C_verdictOfKind_72 : decode cn_C_verdictOfKind 72 = .ok (.iload_n 2, 1) := by decide +kernel
theorem dn_C_verdictOfKind_73 : decode cn_C_verdictOfKind 73 = .ok (.aload_n 0, 1) := by decide +kernel
theorem dn_C_verdictOfKind_74 : decode cn_C_verdictOfKind 74 = .ok (.iload_n 2, 1) := by decide +kernel
theorem dn_C_verdictOfKind_75 : decode cn_C_verdictOfKind 75 = .ok (.invokevirtual 31, 3) := by decide +kernel
theorem dn_C_verdictOfKind_78 : decode cn_C_verdictOfKind 78 = .ok (.iconst 1, 1) := by decide +kernel
theorem dn_C_verdictOfKind_79 : decode cn_C_verdictOfKind 79 = .ok (.if_icmp .eq 7, 3) := by decide +kernel
theorem dn_C_verdictOfKind_82 : decode cn_C_verdictOfKind 82 = .ok (.iconst 1, 1) := by decide +kernel
theorem dn_C_verdictOfKind_83 : decode cn_C_verdictOfKind 83 = .ok (.goto 4, 3) := by decide +kernel
theorem dn_C_verdictOfKind_86 : decode cn_C_verdictOfKind 86 = .ok (.iconst 0, 1) := by decide +kernel
theorem dn_C_verdictOfKind_87 : decode cn_C_verdictOfKind 87 = .ok (.iload 4, 2) := by decide +kernel
theorem dn_C_verdictOfKind_89 : decode cn_C_verdictOfKind 89 = .ok (.invokevirtual 54, 3) := by decide +kernel
theorem dn_C_verdictOfKind_92 : decode cn_C_verdictOfKind 92 = .ok (.ireturn, 1) := by decide +kernel
theorem dn_C_verdictOfKind_93 : decode cn_C_verdictOfKind 93 = .ok (.aload_n 0, 1) := by decide +kernel
theorem dn_C_verdictOfKind_94 : decode cn_C_verdictOfKind 94 = .ok (.iload_n 2, 1) := by decide +kernel
theorem dn_C_verdictOfKind_95 : decode cn_C_verdictOfKind 95 = .ok (.aload_n 0, 1) := by decide +kernel
theorem dn_C_verdictOfKind_96 : decode cn_C_verdictOfKind 96 = .ok (.iload_n 2, 1) := by decide +kernel
theorem dn_C_verdictOfKind_97 : decode cn_C_verdictOfKind 97 = .ok (.invokevirtual 31, 3) := by decide +kernel
theorem dn_C_verdictOfKind_100 : decode cn_C_verdictOfKind 100 = .ok (.iconst 3, 1) := by decide +kernel
theorem dn_C_verdictOfKind_101 : decode cn_C_verdictOfKind 101 = .ok (.if_icmp .ne 7, 3) := by decide +kernel
theorem dn_C_verdictOfKind_104 : decode cn_C_verdictOfKind 104 = .ok (.iconst 1, 1) := by decide +kernel
theorem dn_C_verdictOfKind_105 : decode cn_C_verdictOfKind 105 = .ok (.goto 4, 3) := by decide +kernel
theorem dn_C_verdictOfKind_108 : decode cn_C_verdictOfKind 108 = .ok (.iconst 0, 1) := by decide +kernel
theorem dn_C_verdictOfKind_109 : decode cn_C_verdictOfKind 109 = .ok (.iload 4, 2) := by decide +kernel
theorem dn_C_verdictOfKind_111 : decode cn_C_verdictOfKind 111 = .ok (.invokevirtual 54, 3) := by decide +kernel
theorem dn_C_verdictOfKind_114 : decode cn_C_verdictOfKind 114 = .ok (.ireturn, 1) := by decide +kernel
theorem dn_C_verdictOfKind_115 : decode cn_C_verdictOfKind 115 = .ok (.iconst (-1), 1) := by decide +kernel
theorem dn_C_verdictOfKind_116 : decode cn_C_verdictOfKind 116 = .ok (.ireturn, 1) := by decide +kernel
theorem dn_C_verdict_0 : decode cn_C_verdict 0 = .ok (.aload_n 0, 1) := by decide +kernel
theorem dn_C_verdict_1 : decode cn_C_verdict 1 = .ok (.iload_n 1, 1) := by decide +kernel
theorem dn_C_verdict_2 : decode cn_C_verdict 2 = .ok (.iload_n 2, 1) := by decide +kernel
theorem dn_C_verdict_3 : decode cn_C_verdict 3 = .ok (.iload_n 3, 1) := by decide +kernel
theorem dn_C_verdict_4 : decode cn_C_verdict 4 = .ok (.iload 4, 2) := by decide +kernel
theorem dn_C_verdict_6 : decode cn_C_verdict 6 = .ok (.invokevirtual 39, 3) := by decide +kernel
theorem dn_C_verdict_9 : decode cn_C_verdict 9 = .ok (.istore 5, 2) := by decide +kernel
theorem dn_C_verdict_11 : decode cn_C_verdict 11 = .ok (.iload 5, 2) := by decide +kernel
theorem dn_C_verdict_13 : decode cn_C_verdict 13 = .ok (.ifCond .ne 15, 3) := by decide +kernel
theorem dn_C_verdict_16 : decode cn_C_verdict 16 = .ok (.aload_n 0, 1) := by decide +kernel
theorem dn_C_verdict_17 : decode cn_C_verdict 17 = .ok (.getfield 28, 3) := by decide +kernel
theorem dn_C_verdict_20 : decode cn_C_verdict 20 = .ok (.bipush 40, 2) := by decide +kernel
theorem dn_C_verdict_22 : decode cn_C_verdict 22 = .ok (.if_icmp .lt 6, 3) := by decide +kernel
theorem dn_C_verdict_25 : decode cn_C_verdict 25 = .ok (.bipush (-8), 2) := by decide +kernel
theorem dn_C_verdict_27 : decode cn_C_verdict 27 = .ok (.ireturn, 1) := by decide +kernel
theorem dn_C_verdict_28 : decode cn_C_verdict 28 = .ok (.iload 5, 2) := by decide +kernel
theorem dn_C_verdict_30 : decode cn_C_verdict 30 = .ok (.ireturn, 1) := by decide +kernel
theorem dn_C_addObject_0 : decode cn_C_addObject 0 = .ok (.aload_n 0, 1) := by decide +kernel
theorem dn_C_addObject_1 : decode cn_C_addObject 1 = .ok (.getfield 24, 3) := by decide +kernel
theorem dn_C_addObject_4 : decode cn_C_addObject 4 = .ok (.bipush 12, 2) := by decide +kernel
theorem dn_C_addObject_6 : decode cn_C_addObject 6 = .ok (.if_icmp .lt 4, 3) := by decide +kernel
theorem dn_C_addObject_9 : decode cn_C_addObject 9 = .ok (.return_, 1) := by decide +kernel
theorem dn_C_addObject_10 : decode cn_C_addObject 10 = .ok (.aload_n 0, 1) := by decide +kernel
theorem dn_C_addObject_11 : decode cn_C_addObject 11 = .ok (.dup, 1) := by decide +kernel
theorem dn_C_addObject_12 : decode cn_C_addObject 12 = .ok (.getfield 24, 3) := by decide +kernel
theorem dn_C_addObject_15 : decode cn_C_addObject 15 = .ok (.iconst 1, 1) := by decide +kernel
theorem dn_C_addObject_16 : decode cn_C_addObject 16 = .ok (.iadd, 1) := by decide +kernel
theorem dn_C_addObject_17 : decode cn_C_addObject 17 = .ok (.putfield 24, 3) := by decide +kernel
theorem dn_C_addObject_20 : decode cn_C_addObject 20 = .ok (.aload_n 0, 1) := by decide +kernel
theorem dn_C_addObject_21 : decode cn_C_addObject 21 = .ok (.getfield 9, 3) := by decide +kernel
theorem dn_C_addObject_24 : decode cn_C_addObject 24 = .ok (.aload_n 0, 1) := by decide +kernel
theorem dn_C_addObject_25 : decode cn_C_addObject 25 = .ok (.getfield 24, 3) := by decide +kernel
theorem dn_C_addObject_28 : decode cn_C_addObject 28 = .ok (.iconst 1, 1) := by decide +kernel
theorem dn_C_addObject_29 : decode cn_C_addObject 29 = .ok (.iastore, 1) := by decide +kernel
theorem dn_C_addObject_30 : decode cn_C_addObject 30 = .ok (.aload_n 0, 1) := by decide +kernel
theorem dn_C_addObject_31 : decode cn_C_addObject 31 = .ok (.getfield 15, 3) := by decide +kernel
theorem dn_C_addObject_34 : decode cn_C_addObject 34 = .ok (.aload_n 0, 1) := by decide +kernel
theorem dn_C_addObject_35 : decode cn_C_addObject 35 = .ok (.getfield 24, 3) := by decide +kernel
theorem dn_C_addObject_38 : decode cn_C_addObject 38 = .ok (.iload_n 1, 1) := by decide +kernel
theorem dn_C_addObject_39 : decode cn_C_addObject 39 = .ok (.iastore, 1) := by decide +kernel
theorem dn_C_addObject_40 : decode cn_C_addObject 40 = .ok (.aload_n 0, 1) := by decide +kernel
theorem dn_C_addObject_41 : decode cn_C_addObject 41 = .ok (.getfield 18, 3) := by decide +kernel
theorem dn_C_addObject_44 : decode cn_C_addObject 44 = .ok (.aload_n 0, 1) := by decide +kernel
theorem dn_C_addObject_45 : decode cn_C_addObject 45 = .ok (.getfield 24, 3) := by decide +kernel
theorem dn_C_addObject_48 : decode cn_C_addObject 48 = .ok (.iconst 0, 1) := by decide +kernel
theorem dn_C_addObject_49 : decode cn_C_addObject 49 = .ok (.iastore, 1) := by decide +kernel
theorem dn_C_addObject_50 : decode cn_C_addObject 50 = .ok (.aload_n 0, 1) := by decide +kernel
theorem dn_C_addObject_51 : decode cn_C_addObject 51 = .ok (.getfield 21, 3) := by decide +kernel
theorem dn_C_addObject_54 : decode cn_C_addObject 54 = .ok (.aload_n 0, 1) := by decide +kernel
theorem dn_C_addObject_55 : decode cn_C_addObject 55 = .ok (.getfield 24, 3) := by decide +kernel
theorem dn_C_addObject_58 : decode cn_C_addObject 58 = .ok (.aload_n 0, 1) := by decide +kernel
theorem dn_C_addObject_59 : decode cn_C_addObject 59 = .ok (.getfield 28, 3) := by decide +kernel
theorem dn_C_addObject_62 : decode cn_C_addObject 62 = .ok (.iastore, 1) := by decide +kernel
theorem dn_C_addObject_63 : decode cn_C_addObject 63 = .ok (.return_, 1) := by decide +kernel
theorem dn_C_changeObject_0 : decode cn_C_changeObject 0 = .ok (.iload_n 1, 1) := by decide +kernel
theorem dn_C_changeObject_1 : decode cn_C_changeObject 1 = .ok (.tableswitch 97 2 6 #[35, 45, 60, 77, 87], 35) := by decide +kernel
theorem dn_C_changeObject_36 : decode cn_C_changeObject 36 = .ok (.aload_n 0, 1) := by decide +kernel
theorem dn_C_changeObject_37 : decode cn_C_changeObject 37 = .ok (.getfield 15, 3) := by decide +kernel
theorem dn_C_changeObject_40 : decode cn_C_changeObject 40 = .ok (.iload_n 2, 1) := by decide +kernel
theorem dn_C_changeObject_41 : decode cn_C_changeObject 41 = .ok (.iload_n 3, 1) := by decide +kernel
theorem dn_C_changeObject_42 : decode cn_C_changeObject 42 = .ok (.iastore, 1) := by decide +kernel
theorem dn_C_changeObject_43 : decode cn_C_changeObject 43 = .ok (.goto 55, 3) := by decide +kernel
theorem dn_C_changeObject_46 : decode cn_C_changeObject 46 = .ok (.aload_n 0, 1) := by decide +kernel
theorem dn_C_changeObject_47 : decode cn_C_changeObject 47 = .ok (.getfield 18, 3) := by decide +kernel
theorem dn_C_changeObject_50 : decode cn_C_changeObject 50 = .ok (.iload_n 2, 1) := by decide +kernel
theorem dn_C_changeObject_51 : decode cn_C_changeObject 51 = .ok (.dup2, 1) := by decide +kernel
theorem dn_C_changeObject_52 : decode cn_C_changeObject 52 = .ok (.iaload, 1) := by decide +kernel
theorem dn_C_changeObject_53 : decode cn_C_changeObject 53 = .ok (.iconst 1, 1) := by decide +kernel
theorem dn_C_changeObject_54 : decode cn_C_changeObject 54 = .ok (.iload_n 3, 1) := by decide +kernel
theorem dn_C_changeObject_55 : decode cn_C_changeObject 55 = .ok (.ishl, 1) := by decide +kernel
theorem dn_C_changeObject_56 : decode cn_C_changeObject 56 = .ok (.ior, 1) := by decide +kernel
theorem dn_C_changeObject_57 : decode cn_C_changeObject 57 = .ok (.iastore, 1) := by decide +kernel
theorem dn_C_changeObject_58 : decode cn_C_changeObject 58 = .ok (.goto 40, 3) := by decide +kernel
theorem dn_C_changeObject_61 : decode cn_C_changeObject 61 = .ok (.aload_n 0, 1) := by decide +kernel
theorem dn_C_changeObject_62 : decode cn_C_changeObject 62 = .ok (.getfield 18, 3) := by decide +kernel
theorem dn_C_changeObject_65 : decode cn_C_changeObject 65 = .ok (.iload_n 2, 1) := by decide +kernel
theorem dn_C_changeObject_66 : decode cn_C_changeObject 66 = .ok (.dup2, 1) := by decide +kernel
theorem dn_C_changeObject_67 : decode cn_C_changeObject 67 = .ok (.iaload, 1) := by decide +kernel
theorem dn_C_changeObject_68 : decode cn_C_changeObject 68 = .ok (.iconst 1, 1) := by decide +kernel
theorem dn_C_changeObject_69 : decode cn_C_changeObject 69 = .ok (.iload_n 3, 1) := by decide +kernel
theorem dn_C_changeObject_70 : decode cn_C_changeObject 70 = .ok (.ishl, 1) := by decide +kernel
theorem dn_C_changeObject_71 : decode cn_C_changeObject 71 = .ok (.iconst (-1), 1) := by decide +kernel
theorem dn_C_changeObject_72 : decode cn_C_changeObject 72 = .ok (.ixor, 1) := by decide +kernel
theorem dn_C_changeObject_73 : decode cn_C_changeObject 73 = .ok (.iand, 1) := by decide +kernel
theorem dn_C_changeObject_74 : decode cn_C_changeObject 74 = .ok (.iastore, 1) := by decide +kernel
theorem dn_C_changeObject_75 : decode cn_C_changeObject 75 = .ok (.goto 23, 3) := by decide +kernel
theorem dn_C_changeObject_78 : decode cn_C_changeObject 78 = .ok (.aload_n 0, 1) := by decide +kernel
theorem dn_C_changeObject_79 : decode cn_C_changeObject 79 = .ok (.getfield 9, 3) := by decide +kernel
theorem dn_C_changeObject_82 : decode cn_C_changeObject 82 = .ok (.iload_n 2, 1) := by decide +kernel
theorem dn_C_changeObject_83 : decode cn_C_changeObject 83 = .ok (.iconst 2, 1) := by decide +kernel
theorem dn_C_changeObject_84 : decode cn_C_changeObject 84 = .ok (.iastore, 1) := by decide +kernel
theorem dn_C_changeObject_85 : decode cn_C_changeObject 85 = .ok (.goto 13, 3) := by decide +kernel
theorem dn_C_changeObject_88 : decode cn_C_changeObject 88 = .ok (.aload_n 0, 1) := by decide +kernel
theorem dn_C_changeObject_89 : decode cn_C_changeObject 89 = .ok (.getfield 9, 3) := by decide +kernel
theorem dn_C_changeObject_92 : decode cn_C_changeObject 92 = .ok (.iload_n 2, 1) := by decide +kernel
theorem dn_C_changeObject_93 : decode cn_C_changeObject 93 = .ok (.iconst 3, 1) := by decide +kernel
theorem dn_C_changeObject_94 : decode cn_C_changeObject 94 = .ok (.iastore, 1) := by decide +kernel
theorem dn_C_changeObject_95 : decode cn_C_changeObject 95 = .ok (.goto 3, 3) := by decide +kernel
theorem dn_C_changeObject_98 : decode cn_C_changeObject 98 = .ok (.return_, 1) := by decide +kernel
theorem dn_C_enter_0 : decode cn_C_enter 0 = .ok (.iload_n 1, 1) := by decide +kernel
theorem dn_C_enter_1 : decode cn_C_enter 1 = .ok (.iconst 1, 1) := by decide +kernel
theorem dn_C_enter_2 : decode cn_C_enter 2 = .ok (.if_icmp .ne 11, 3) := by decide +kernel
theorem dn_C_enter_5 : decode cn_C_enter 5 = .ok (.aload_n 0, 1) := by decide +kernel
theorem dn_C_enter_6 : decode cn_C_enter 6 = .ok (.iload_n 3, 1) := by decide +kernel
theorem dn_C_enter_7 : decode cn_C_enter 7 = .ok (.invokevirtual 62, 3) := by decide +kernel
theorem dn_C_enter_10 : decode cn_C_enter 10 = .ok (.goto 18, 3) := by decide +kernel
theorem dn_C_enter_13 : decode cn_C_enter 13 = .ok (.aload_n 0, 1) := by decide +kernel
theorem dn_C_enter_14 : decode cn_C_enter 14 = .ok (.iload_n 2, 1) := by decide +kernel
theorem dn_C_enter_15 : decode cn_C_enter 15 = .ok (.invokevirtual 35, 3) := by decide +kernel
theorem dn_C_enter_18 : decode cn_C_enter 18 = .ok (.ifCond .eq 10, 3) := by decide +kernel
theorem dn_C_enter_21 : decode cn_C_enter 21 = .ok (.aload_n 0, 1) := by decide +kernel
theorem dn_C_enter_22 : decode cn_C_enter 22 = .ok (.iload_n 1, 1) := by decide +kernel
theorem dn_C_enter_23 : decode cn_C_enter 23 = .ok (.iload_n 2, 1) := by decide +kernel
theorem dn_C_enter_24 : decode cn_C_enter 24 = .ok (.iload_n 3, 1) := by decide +kernel
theorem dn_C_enter_25 : decode cn_C_enter 25 = .ok (.invokevirtual 66, 3) := by decide +kernel
theorem dn_C_enter_28 : decode cn_C_enter 28 = .ok (.aload_n 0, 1) := by decide +kernel
theorem dn_C_enter_29 : decode cn_C_enter 29 = .ok (.dup, 1) := by decide +kernel
theorem dn_C_enter_30 : decode cn_C_enter 30 = .ok (.getfield 28, 3) := by decide +kernel
theorem dn_C_enter_33 : decode cn_C_enter 33 = .ok (.iconst 1, 1) := by decide +kernel
theorem dn_C_enter_34 : decode cn_C_enter 34 = .ok (.iadd, 1) := by decide +kernel
theorem dn_C_enter_35 : decode cn_C_enter 35 = .ok (.putfield 28, 3) := by decide +kernel
theorem dn_C_enter_38 : decode cn_C_enter 38 = .ok (.return_, 1) := by decide +kernel
theorem dn_C_isTimely_0 : decode cn_C_isTimely 0 = .ok (.aload_n 0, 1) := by decide +kernel
theorem dn_C_isTimely_1 : decode cn_C_isTimely 1 = .ok (.iload_n 1, 1) := by decide +kernel
theorem dn_C_isTimely_2 : decode cn_C_isTimely 2 = .ok (.iconst 5, 1) := by decide +kernel
theorem dn_C_isTimely_3 : decode cn_C_isTimely 3 = .ok (.invokevirtual 76, 3) := by decide +kernel
theorem dn_C_isTimely_6 : decode cn_C_isTimely 6 = .ok (.istore_n 3, 1) := by decide +kernel
theorem dn_C_isTimely_7 : decode cn_C_isTimely 7 = .ok (.iload_n 1, 1) := by decide +kernel
theorem dn_C_isTimely_8 : decode cn_C_isTimely 8 = .ok (.ifCond .ne 7, 3) := by decide +kernel
theorem dn_C_isTimely_11 : decode cn_C_isTimely 11 = .ok (.iconst 0, 1) := by decide +kernel
theorem dn_C_isTimely_12 : decode cn_C_isTimely 12 = .ok (.goto 11, 3) := by decide +kernel
theorem dn_C_isTimely_15 : decode cn_C_isTimely 15 = .ok (.aload_n 0, 1) := by decide +kernel
theorem dn_C_isTimely_16 : decode cn_C_isTimely 16 = .ok (.iload_n 1, 1) := by decide +kernel
theorem dn_C_isTimely_17 : decode cn_C_isTimely 17 = .ok (.iconst 1, 1) := by decide +kernel
theorem dn_C_isTimely_18 : decode cn_C_isTimely 18 = .ok (.isub, 1) := by decide +kernel
theorem dn_C_isTimely_19 : decode cn_C_isTimely 19 = .ok (.iconst 5, 1) := by decide +kernel
theorem dn_C_isTimely_20 : decode cn_C_isTimely 20 = .ok (.invokevirtual 76, 3) := by decide +kernel
theorem dn_C_isTimely_23 : decode cn_C_isTimely 23 = .ok (.istore 4, 2) := by decide +kernel
theorem dn_C_isTimely_25 : decode cn_C_isTimely 25 = .ok (.iload 4, 2) := by decide +kernel
theorem dn_C_isTimely_27 : decode cn_C_isTimely 27 = .ok (.iload_n 3, 1) := by decide +kernel
theorem dn_C_isTimely_28 : decode cn_C_isTimely 28 = .ok (.if_icmp .gt 12, 3) := by decide +kernel
theorem dn_C_isTimely_31 : decode cn_C_isTimely 31 = .ok (.iload_n 3, 1) := by decide +kernel
theorem dn_C_isTimely_32 : decode cn_C_isTimely 32 = .ok (.iload_n 2, 1) := by decide +kernel
theorem dn_C_isTimely_33 : decode cn_C_isTimely 33 = .ok (.if_icmp .gt 7, 3) := by decide +kernel
theorem dn_C_isTimely_36 : decode cn_C_isTimely 36 = .ok (.iconst 1, 1) := by decide +kernel
theorem dn_C_isTimely_37 : decode cn_C_isTimely 37 = .ok (.goto 4, 3) := by decide +kernel
theorem dn_C_isTimely_40 : decode cn_C_isTimely 40 = .ok (.iconst 0, 1) := by decide +kernel
theorem dn_C_isTimely_41 : decode cn_C_isTimely 41 = .ok (.ireturn, 1) := by decide +kernel
theorem dn_C_isWellFormed_0 : decode cn_C_isWellFormed 0 = .ok (.aload_n 1, 1) := by decide +kernel
theorem dn_C_isWellFormed_1 : decode cn_C_isWellFormed 1 = .ok (.iload_n 2, 1) := by decide +kernel
theorem dn_C_isWellFormed_2 : decode cn_C_isWellFormed 2 = .ok (.iconst 0, 1) := by decide +kernel
theorem dn_C_isWellFormed_3 : decode cn_C_isWellFormed 3 = .ok (.invokevirtual 76, 3) := by decide +kernel
theorem dn_C_isWellFormed_6 : decode cn_C_isWellFormed 6 = .ok (.istore_n 3, 1) := by decide +kernel
theorem dn_C_isWellFormed_7 : decode cn_C_isWellFormed 7 = .ok (.iload_n 3, 1) := by decide +kernel
theorem dn_C_isWellFormed_8 : decode cn_C_isWellFormed 8 = .ok (.iconst 1, 1) := by decide +kernel
theorem dn_C_isWellFormed_9 : decode cn_C_isWellFormed 9 = .ok (.if_icmp .ne 22, 3) := by decide +kernel
theorem dn_C_isWellFormed_12 : decode cn_C_isWellFormed 12 = .ok (.aload_n 1, 1) := by decide +kernel
theorem dn_C_isWellFormed_13 : decode cn_C_isWellFormed 13 = .ok (.iload_n 2, 1) := by decide +kernel
theorem dn_C_isWellFormed_14 : decode cn_C_isWellFormed 14 = .ok (.iconst 1, 1) := by decide +kernel
theorem dn_C_isWellFormed_15 : decode cn_C_isWellFormed 15 = .ok (.invokevirtual 76, 3) := by decide +kernel
theorem dn_C_isWellFormed_18 : decode cn_C_isWellFormed 18 = .ok (.aload_n 0, 1) := by decide +kernel
theorem dn_C_isWellFormed_19 : decode cn_C_isWellFormed 19 = .ok (.invokevirtual 95, 3) := by decide +kernel
theorem dn_C_isWellFormed_22 : decode cn_C_isWellFormed 22 = .ok (.if_icmp .ne 7, 3) := by decide +kernel
theorem dn_C_isWellFormed_25 : decode cn_C_isWellFormed 25 = .ok (.iconst 1, 1) := by decide +kernel
theorem dn_C_isWellFormed_26 : decode cn_C_isWellFormed 26 = .ok (.goto 4, 3) := by decide +kernel
theorem dn_C_isWellFormed_29 : decode cn_C_isWellFormed 29 = .ok (.iconst 0, 1) := by decide +kernel
theorem dn_C_isWellFormed_30 : decode cn_C_isWellFormed 30 = .ok (.ireturn, 1) := by decide +kernel
theorem dn_C_isWellFormed_31 : decode cn_C_isWellFormed 31 = .ok (.aload_n 1, 1) := by decide +kernel
theorem dn_C_isWellFormed_32 : decode cn_C_isWellFormed 32 = .ok (.iload_n 2, 1) := by decide +kernel
theorem dn_C_isWellFormed_33 : decode cn_C_isWellFormed 33 = .ok (.iconst 3, 1) := by decide +kernel
theorem dn_C_isWellFormed_34 : decode cn_C_isWellFormed 34 = .ok (.invokevirtual 76, 3) := by decide +kernel
theorem dn_C_isWellFormed_37 : decode cn_C_isWellFormed 37 = .ok (.ifCond .ne 12, 3) := by decide +kernel
theorem dn_C_isWellFormed_40 : decode cn_C_isWellFormed 40 = .ok (.aload_n 1, 1) := by decide +kernel
theorem dn_C_isWellFormed_41 : decode cn_C_isWellFormed 41 = .ok (.iload_n 2, 1) := by decide +kernel
theorem dn_C_isWellFormed_42 : decode cn_C_isWellFormed 42 = .ok (.iconst 4, 1) := by decide +kernel
theorem dn_C_isWellFormed_43 : decode cn_C_isWellFormed 43 = .ok (.invokevirtual 76, 3) := by decide +kernel
theorem dn_C_isWellFormed_46 : decode cn_C_isWellFormed 46 = .ok (.ifCond .eq 5, 3) := by decide +kernel
theorem dn_C_isWellFormed_49 : decode cn_C_isWellFormed 49 = .ok (.iconst 0, 1) := by decide +kernel
theorem dn_C_isWellFormed_50 : decode cn_C_isWellFormed 50 = .ok (.ireturn, 1) := by decide +kernel
theorem dn_C_isWellFormed_51 : decode cn_C_isWellFormed 51 = .ok (.iload_n 3, 1) := by decide +kernel
theorem dn_C_isWellFormed_52 : decode cn_C_isWellFormed 52 = .ok (.iconst 5, 1) := by decide +kernel
theorem dn_C_isWellFormed_53 : decode cn_C_isWellFormed 53 = .ok (.if_icmp .eq 9, 3) := by decide +kernel
theorem dn_C_isWellFormed_56 : decode cn_C_isWellFormed 56 = .ok (.iload_n 3, 1) := by decide +kernel
theorem dn_C_isWellFormed_57 : decode cn_C_isWellFormed 57 = .ok (.bipush 6, 2) := by decide +kernel
theorem dn_C_isWellFormed_59 : decode cn_C_isWellFormed 59 = .ok (.if_icmp .ne 7, 3) := by decide +kernel
theorem dn_C_isWellFormed_62 : decode cn_C_isWellFormed 62 = .ok (.iconst 1, 1) := by decide +kernel
theorem dn_C_isWellFormed_63 : decode cn_C_isWellFormed 63 = .ok (.goto 4, 3) := by decide +kernel
theorem dn_C_isWellFormed_66 : decode cn_C_isWellFormed 66 = .ok (.iconst 0, 1) := by decide +kernel
theorem dn_C_isWellFormed_67 : decode cn_C_isWellFormed 67 = .ok (.istore 4, 2) := by decide +kernel
theorem dn_C_isWellFormed_69 : decode cn_C_isWellFormed 69 = .ok (.iload 4, 2) := by decide +kernel
theorem dn_C_isWellFormed_71 : decode cn_C_isWellFormed 71 = .ok (.ifCond .eq 12, 3) := by decide +kernel
theorem dn_C_isWellFormed_74 : decode cn_C_isWellFormed 74 = .ok (.aload_n 1, 1) := by decide +kernel
theorem dn_C_isWellFormed_75 : decode cn_C_isWellFormed 75 = .ok (.iload_n 2, 1) := by decide +kernel
theorem dn_C_isWellFormed_76 : decode cn_C_isWellFormed 76 = .ok (.iconst 2, 1) := by decide +kernel
theorem dn_C_isWellFormed_77 : decode cn_C_isWellFormed 77 = .ok (.invokevirtual 76, 3) := by decide +kernel
theorem dn_C_isWellFormed_80 : decode cn_C_isWellFormed 80 = .ok (.ifCond .ne 7, 3) := by decide +kernel
theorem dn_C_isWellFormed_83 : decode cn_C_isWellFormed 83 = .ok (.iconst 1, 1) := by decide +kernel
theorem dn_C_isWellFormed_84 : decode cn_C_isWellFormed 84 = .ok (.goto 4, 3) := by decide +kernel
theorem dn_C_isWellFormed_87 : decode cn_C_isWellFormed 87 = .ok (.iconst 0, 1) := by decide +kernel
theorem dn_C_isWellFormed_88 : decode cn_C_isWellFormed 88 = .ok (.ireturn, 1) := by decide +kernel
theorem dn_C_isSoundNext_0 : decode cn_C_isSoundNext 0 = .ok (.aload_n 1, 1) := by decide +kernel
theorem dn_C_isSoundNext_1 : decode cn_C_isSoundNext 1 = .ok (.iload_n 2, 1) := by decide +kernel
theorem dn_C_isSoundNext_2 : decode cn_C_isSoundNext 2 = .ok (.invokevirtual 82, 3) := by decide +kernel
theorem dn_C_isSoundNext_5 : decode cn_C_isSoundNext 5 = .ok (.ifCond .eq 56, 3) := by decide +kernel
theorem dn_C_isSoundNext_8 : decode cn_C_isSoundNext 8 = .ok (.aload_n 1, 1) := by decide +kernel
theorem dn_C_isSoundNext_9 : decode cn_C_isSoundNext 9 = .ok (.iload_n 2, 1) := by decide +kernel
theorem dn_C_isSoundNext_10 : decode cn_C_isSoundNext 10 = .ok (.iload_n 3, 1) := by decide +kernel
theorem dn_C_isSoundNext_11 : decode cn_C_isSoundNext 11 = .ok (.invokestatic 85, 3) := by decide +kernel
theorem dn_C_isSoundNext_14 : decode cn_C_isSoundNext 14 = .ok (.ifCond .eq 47, 3) := by decide +kernel
theorem dn_C_isSoundNext_17 : decode cn_C_isSoundNext 17 = .ok (.aload_n 0, 1) := by decide +kernel
theorem dn_C_isSoundNext_18 : decode cn_C_isSoundNext 18 = .ok (.aload_n 1, 1) := by decide +kernel
theorem dn_C_isSoundNext_19 : decode cn_C_isSoundNext 19 = .ok (.iload_n 2, 1) := by decide +kernel
theorem dn_C_isSoundNext_20 : decode cn_C_isSoundNext 20 = .ok (.invokevirtual 88, 3) := by decide +kernel
theorem dn_C_isSoundNext_23 : decode cn_C_isSoundNext 23 = .ok (.ifCond .eq 38, 3) := by decide +kernel
theorem dn_C_isSoundNext_26 : decode cn_C_isSoundNext 26 = .ok (.aload_n 0, 1) := by decide +kernel
theorem dn_C_isSoundNext_27 : decode cn_C_isSoundNext 27 = .ok (.aload_n 1, 1) := by decide +kernel
theorem dn_C_isSoundNext_28 : decode cn_C_isSoundNext 28 = .ok (.iload_n 2, 1) := by decide +kernel
theorem dn_C_isSoundNext_29 : decode cn_C_isSoundNext 29 = .ok (.iconst 0, 1) := by decide +kernel
theorem dn_C_isSoundNext_30 : decode cn_C_isSoundNext 30 = .ok (.invokevirtual 76, 3) := by decide +kernel
theorem dn_C_isSoundNext_33 : decode cn_C_isSoundNext 33 = .ok (.aload_n 1, 1) := by decide +kernel
theorem dn_C_isSoundNext_34 : decode cn_C_isSoundNext 34 = .ok (.iload_n 2, 1) := by decide +kernel
theorem dn_C_isSoundNext_35 : decode cn_C_isSoundNext 35 = .ok (.iconst 1, 1) := by decide +kernel
theorem dn_C_isSoundNext_36 : decode cn_C_isSoundNext 36 = .ok (.invokevirtual 76, 3) := by decide +kernel
theorem dn_C_isSoundNext_39 : decode cn_C_isSoundNext 39 = .ok (.aload_n 1, 1) := by decide +kernel
theorem dn_C_isSoundNext_40 : decode cn_C_isSoundNext 40 = .ok (.iload_n 2, 1) := by decide +kernel
theorem dn_C_isSoundNext_41 : decode cn_C_isSoundNext 41 = .ok (.iconst 2, 1) := by decide +kernel
theorem dn_C_isSoundNext_42 : decode cn_C_isSoundNext 42 = .ok (.invokevirtual 76, 3) := by decide +kernel
theorem dn_C_isSoundNext_45 : decode cn_C_isSoundNext 45 = .ok (.aload_n 1, 1) := by decide +kernel
theorem dn_C_isSoundNext_46 : decode cn_C_isSoundNext 46 = .ok (.iload_n 2, 1) := by decide +kernel
theorem dn_C_isSoundNext_47 : decode cn_C_isSoundNext 47 = .ok (.iconst 5, 1) := by decide +kernel
theorem dn_C_isSoundNext_48 : decode cn_C_isSoundNext 48 = .ok (.invokevirtual 76, 3) := by decide +kernel
theorem dn_C_isSoundNext_51 : decode cn_C_isSoundNext 51 = .ok (.invokevirtual 92, 3) := by decide +kernel
theorem dn_C_isSoundNext_54 : decode cn_C_isSoundNext 54 = .ok (.ifCond .ne 7, 3) := by decide +kernel
theorem dn_C_isSoundNext_57 : decode cn_C_isSoundNext 57 = .ok (.iconst 1, 1) := by decide +kernel
theorem dn_C_isSoundNext_58 : decode cn_C_isSoundNext 58 = .ok (.goto 4, 3) := by decide +kernel
theorem dn_C_isSoundNext_61 : decode cn_C_isSoundNext 61 = .ok (.iconst 0, 1) := by decide +kernel
theorem dn_C_isSoundNext_62 : decode cn_C_isSoundNext 62 = .ok (.ireturn, 1) := by decide +kernel
theorem dn_C_replay_0 : decode cn_C_replay 0 = .ok (.aload_n 0, 1) := by decide +kernel
theorem dn_C_replay_1 : decode cn_C_replay 1 = .ok (.iconst 0, 1) := by decide +kernel
theorem dn_C_replay_2 : decode cn_C_replay 2 = .ok (.putfield 24, 3) := by decide +kernel
theorem dn_C_replay_5 : decode cn_C_replay 5 = .ok (.aload_n 0, 1) := by decide +kernel
theorem dn_C_replay_6 : decode cn_C_replay 6 = .ok (.iconst 0, 1) := by decide +kernel
theorem dn_C_replay_7 : decode cn_C_replay 7 = .ok (.putfield 28, 3) := by decide +kernel
theorem dn_C_replay_10 : decode cn_C_replay 10 = .ok (.iconst 0, 1) := by decide +kernel
theorem dn_C_replay_11 : decode cn_C_replay 11 = .ok (.istore_n 3, 1) := by decide +kernel
theorem dn_C_replay_12 : decode cn_C_replay 12 = .ok (.iload_n 3, 1) := by decide +kernel
theorem dn_C_replay_13 : decode cn_C_replay 13 = .ok (.bipush 40, 2) := by decide +kernel
theorem dn_C_replay_15 : decode cn_C_replay 15 = .ok (.if_icmp .ge 42, 3) := by decide +kernel
theorem dn_C_replay_18 : decode cn_C_replay 18 = .ok (.aload_n 0, 1) := by decide +kernel
theorem dn_C_replay_19 : decode cn_C_replay 19 = .ok (.aload_n 1, 1) := by decide +kernel
theorem dn_C_replay_20 : decode cn_C_replay 20 = .ok (.iload_n 3, 1) := by decide +kernel
theorem dn_C_replay_21 : decode cn_C_replay 21 = .ok (.iload_n 2, 1) := by decide +kernel
theorem dn_C_replay_22 : decode cn_C_replay 22 = .ok (.invokevirtual 70, 3) := by decide +kernel
theorem dn_C_replay_25 : decode cn_C_replay 25 = .ok (.ifCond .ne 4, 3) := by decide +kernel
theorem dn_C_replay_28 : decode cn_C_replay 28 = .ok (.return_, 1) := by decide +kernel
theorem dn_C_replay_29 : decode cn_C_replay 29 = .ok (.aload_n 0, 1) := by decide +kernel
theorem dn_C_replay_30 : decode cn_C_replay 30 = .ok (.aload_n 1, 1) := by decide +kernel
theorem dn_C_replay_31 : decode cn_C_replay 31 = .ok (.iload_n 3, 1) := by decide +kernel
theorem dn_C_replay_32 : decode cn_C_replay 32 = .ok (.iconst 0, 1) := by decide +kernel
theorem dn_C_replay_33 : decode cn_C_replay 33 = .ok (.invokevirtual 76, 3) := by decide +kernel
theorem dn_C_replay_36 : decode cn_C_replay 36 = .ok (.aload_n 1, 1) := by decide +kernel
theorem dn_C_replay_37 : decode cn_C_replay 37 = .ok (.iload_n 3, 1) := by decide +kernel
theorem dn_C_replay_38 : decode cn_C_replay 38 = .ok (.iconst 1, 1) := by decide +kernel
theorem dn_C_replay_39 : decode cn_C_replay 39 = .ok (.invokevirtual 76, 3) := by decide +kernel
theorem dn_C_replay_42 : decode cn_C_replay 42 = .ok (.aload_n 1, 1) := by decide +kernel
theorem dn_C_replay_43 : decode cn_C_replay 43 = .ok (.iload_n 3, 1) := by decide +kernel
theorem dn_C_replay_44 : decode cn_C_replay 44 = .ok (.iconst 2, 1) := by decide +kernel
theorem dn_C_replay_45 : decode cn_C_replay 45 = .ok (.invokevirtual 76, 3) := by decide +kernel
theorem dn_C_replay_48 : decode cn_C_replay 48 = .ok (.invokevirtual 79, 3) := by decide +kernel
theorem dn_C_replay_51 : decode cn_C_replay 51 = .ok (.iinc 3 1, 3) := by decide +kernel
theorem dn_C_replay_54 : decode cn_C_replay 54 = .ok (.goto (-42), 3) := by decide +kernel
theorem dn_C_replay_57 : decode cn_C_replay 57 = .ok (.return_, 1) := by decide +kernel

set_option maxRecDepth 100000 in
set_option maxHeartbeats 4000000 in
theorem c_C_holdVerdict3 (l : Launch) (dC : Nat → ClassId) (dI : Nat → Nat → Nat) (cI cZ : ClassId) (a0 a1 a2 a3 a4 : Nat) (K : ct_T) (en : Nat) (ho : K.1 ≤ 12) (hG : ∀ j, 1 ≤ j → j ≤ K.1 → ∃ g, g < 256 ∧ K.2.2.2.1 j = nI g) (id v t : Int32) : gc_I l yn_C_holdVerdict (gw yn_C_holdVerdict cn_C_holdVerdict 5 (some .int)) (rm_ 1 21) (dC, dI) vwCl (gT cI cZ) [.ref a0, .int id, .int v, .int 1] [(a0, .inr (0, [.ref a1, .ref a2, .ref a3, .ref a4, .int (nI K.1), .int (nI en)])), (a1, .inl (cI, 13, .inl K.2.1)), (a2, .inl (cI, 13, .inl K.2.2.1)), (a3, .inl (cI, 13, .inl K.2.2.2.1)), (a4, .inl (cI, 13, .inl K.2.2.2.2))] (fun r (_ : Unit) => r = ct_ruC K 3 id v t) (fun _ => [(a0, .inr (0, [.ref a1, .ref a2, .ref a3, .ref a4, .int (nI K.1), .int (nI en)])), (a1, .inl (cI, 13, .inl K.2.1)), (a2, .inl (cI, 13, .inl K.2.2.1)), (a3, .inl (cI, 13, .inl K.2.2.2.1)), (a4, .inl (cI, 13, .inl K.2.2.2.2))]) := by
  refine gc_I_of (cc := cn_C_holdVerdict) (maxL := 5) (ty := .int) (by decide) rfl (Nat.le_of_ble_eq_true rfl) ?_
  intro pp ee ss mm ar be me cd A Q ls H0 H locs hx hb hml hown hts hK hP hD hS hA hl hret
  have hw : ∀ w ∈ gw_T, w.before ar ss = true := fun w h => hts w (List.mem_cons_of_mem _ h)
  have hl : lv_has ls 5 [(0, .ref a0), (1, .int id), (2, .int v), (3, .int 1)] := hl
  refine lv_iload_n hx hb dn_C_holdVerdict_0 rfl (lv_at hl 2 rfl) ?_
  refine lv_if_lt (tgt := 10) hx hb dn_C_holdVerdict_1 (by decide) (fun h1 => ?_) (fun h1 => ?_)
  · skip
    refine lv_iconst (v := (-1)) hx hb dn_C_holdVerdict_10 (by decide) ?_
    exact hret (-1) () _ _ _ _ (ruh_bad (Or.inl rfl) (by first | exact Or.inl h1 | exact Or.inr (Int32.not_le.mp h7))) rfl hP hD hS dn_C_holdVerdict_11
  · skip
    refine lv_iload_n hx hb dn_C_holdVerdict_4 rfl (lv_at hl 2 rfl) ?_
    refine lv_bipush (v := 7) hx hb dn_C_holdVerdict_5 (by decide) ?_
    refine lv_icmp_le (tgt := 12) hx hb dn_C_holdVerdict_7 (by decide) (fun h7 => ?_) (fun h7 => ?_)
    · skip
      refine lv_aload_n hx hb dn_C_holdVerdict_12 rfl (lv_at hl 0 rfl) ?_
      refine lv_iload_n hx hb dn_C_holdVerdict_13 rfl (lv_at hl 1 rfl) ?_
      refine gc_vi (pre := []) (wc := [(a0, .inr (0, [.ref a1, .ref a2, .ref a3, .ref a4, .int (nI K.1), .int (nI en)])), (a1, .inl (cI, 13, .inl K.2.1)), (a2, .inl (cI, 13, .inl K.2.2.1)), (a3, .inl (cI, 13, .inl K.2.2.2.1)), (a4, .inl (cI, 13, .inl K.2.2.2.2))]) (po := []) (As := [.int id]) (rest := []) ⟨hx, hb, hml, hown, hw⟩ (c_C_isThere l dC dI cI cZ a0 a1 a2 a3 a4 K en (by omega) id) (gw_cV 1 hw mw_158 mw_159 mw_160 mw_3 mw_161 hd_C_isThere ⟨Nat.le_of_ble_eq_true rfl, Nat.le_of_ble_eq_true rfl⟩) (ci := 0) rfl rfl rfl hK hP hD hS hA rfl hl.1 rfl (Nat.le_of_ble_eq_true rfl) dn_C_holdVerdict_14 ⟨Nat.zero_le _, Nat.zero_le _⟩ (fun r14 u14 H locs hc14 hP hD hS => ?_)
      have hP : va_P (dC, dI) vwCl [(a0, .inr (0, [.ref a1, .ref a2, .ref a3, .ref a4, .int (nI K.1), .int (nI en)])), (a1, .inl (cI, 13, .inl K.2.1)), (a2, .inl (cI, 13, .inl K.2.2.1)), (a3, .inl (cI, 13, .inl K.2.2.2.1)), (a4, .inl (cI, 13, .inl K.2.2.2.2))] H := hP
      have hD : va_D A [(a0, .inr (0, [.ref a1, .ref a2, .ref a3, .ref a4, .int (nI K.1), .int (nI en)])), (a1, .inl (cI, 13, .inl K.2.1)), (a2, .inl (cI, 13, .inl K.2.2.1)), (a3, .inl (cI, 13, .inl K.2.2.2.1)), (a4, .inl (cI, 13, .inl K.2.2.2.2))] := hD
      rcases hc14 with ⟨rfl, j14, j14a, j14b, rfl⟩ | ⟨rfl, hno14⟩
      · skip
        refine lv_if_ne (tgt := 23) hx hb dn_C_holdVerdict_17 (by decide) (fun _ => ?_) (fun h => absurd h (by decide))
        refine lv_aload_n hx hb dn_C_holdVerdict_23 rfl (lv_at hl 0 rfl) ?_
        refine va_get (D := (dC, dI)) (ci := 0) (v := .ref a1) (C := rn_C) (T := tn_C) (N := 6) hx hb hw ml_C hown hK hP 0 rfl rfl 0 (by decide) (hw _ mw_37) (fun _ h9 => h9) rfl dn_C_holdVerdict_24 ?_
        refine lv_iload_n hx hb dn_C_holdVerdict_27 rfl (lv_at hl 1 rfl) ?_
        refine gr_iald hx hb hK hP 1 0 rfl rfl j14 rfl (by omega) (by decide) dn_C_holdVerdict_28 ?_
        refine lv_iconst (v := 1) hx hb dn_C_holdVerdict_29 (by decide) ?_
        refine lv_icmp_eq (tgt := 36) hx hb dn_C_holdVerdict_30 (by decide) (fun h30 => ?_) (fun h30 => ?_)
        · skip
          refine lv_aload_n hx hb dn_C_holdVerdict_36 rfl (lv_at hl 0 rfl) ?_
          refine va_get (D := (dC, dI)) (ci := 0) (v := .ref a3) (C := rn_C) (T := tn_C) (N := 6) hx hb hw ml_C hown hK hP 0 rfl rfl 2 (by decide) (hw _ mw_39) (fun _ h9 => h9) rfl dn_C_holdVerdict_37 ?_
          refine lv_iload_n hx hb dn_C_holdVerdict_40 rfl (lv_at hl 1 rfl) ?_
          refine gr_iald hx hb hK hP 3 0 rfl rfl j14 rfl (by omega) (by decide) dn_C_holdVerdict_41 ?_
          refine lv_iconst (v := 1) hx hb dn_C_holdVerdict_42 (by decide) ?_
          refine lv_iload_n hx hb dn_C_holdVerdict_43 rfl (lv_at hl 2 rfl) ?_
          refine lv_ishl hx hb dn_C_holdVerdict_44 ?_
          refine lv_iand hx hb dn_C_holdVerdict_45 ?_
          refine lv_if_eq (tgt := 53) hx hb dn_C_holdVerdict_46 (by decide) (fun h46 => ?_) (fun h46 => ?_)
          · skip
            refine lv_iconst (v := 0) hx hb dn_C_holdVerdict_53 (by decide) ?_
            refine lv_istore (lv' := [(4, .int 0), (0, .ref a0), (1, .int (nI j14)), (2, .int v), (3, .int 1)]) hx hb dn_C_holdVerdict_54 hl (by decide) rfl (fun ls hl => ?_)
            refine lv_iload hx hb dn_C_holdVerdict_56 (lv_at hl 0 rfl) ?_
            refine lv_iload_n hx hb dn_C_holdVerdict_58 rfl (lv_at hl 4 rfl) ?_
            refine lv_icmp_ne (tgt := 67) hx hb dn_C_holdVerdict_59 (by decide) (fun _ => ?_) (fun h => absurd h (by decide))
            refine lv_iconst (v := 0) hx hb dn_C_holdVerdict_67 (by decide) ?_
            exact hret 0 () _ _ _ _ (ruh_ok (Or.inl rfl) (fun q => q.elim h1 (Int32.not_lt.mpr h7)) j14a j14b ho h30 (fun q => (ct_hasB (hG _ j14a j14b) (fun q => q.elim h1 (Int32.not_lt.mpr h7))).1 (q.2 rfl) h46)) rfl hP hD hS dn_C_holdVerdict_68
          · skip
            refine lv_iconst (v := 1) hx hb dn_C_holdVerdict_49 (by decide) ?_
            refine lv_goto (tgt := 54) hx hb dn_C_holdVerdict_50 (by decide) ?_
            refine lv_istore (lv' := [(4, .int 1), (0, .ref a0), (1, .int (nI j14)), (2, .int v), (3, .int 1)]) hx hb dn_C_holdVerdict_54 hl (by decide) rfl (fun ls hl => ?_)
            refine lv_iload hx hb dn_C_holdVerdict_56 (lv_at hl 0 rfl) ?_
            refine lv_iload_n hx hb dn_C_holdVerdict_58 rfl (lv_at hl 4 rfl) ?_
            refine lv_icmp_ne (tgt := 67) hx hb dn_C_holdVerdict_59 (by decide) (fun h => absurd h (by decide)) (fun _ => ?_)
            refine lv_bipush (v := (-5)) hx hb dn_C_holdVerdict_62 (by decide) ?_
            refine lv_goto (tgt := 68) hx hb dn_C_holdVerdict_64 (by decide) ?_
            exact hret (-5) () _ _ _ _ (ruh_same (Or.inl rfl) (fun q => q.elim h1 (Int32.not_lt.mpr h7)) j14a j14b ho h30 ⟨fun _ => rfl, fun _ => (ct_hasB (hG _ j14a j14b) (fun q => q.elim h1 (Int32.not_lt.mpr h7))).2 h46⟩) rfl hP hD hS dn_C_holdVerdict_68
        · skip
          refine lv_bipush (v := (-3)) hx hb dn_C_holdVerdict_33 (by decide) ?_
          exact hret (-3) () _ _ _ _ (ruh_gone (Or.inl rfl) (fun q => q.elim h1 (Int32.not_lt.mpr h7)) j14a j14b ho h30) rfl hP hD hS dn_C_holdVerdict_35
      · skip
        refine lv_if_ne (tgt := 23) hx hb dn_C_holdVerdict_17 (by decide) (fun h => absurd h (by decide)) (fun _ => ?_)
        refine lv_bipush (v := (-2)) hx hb dn_C_holdVerdict_20 (by decide) ?_
        exact hret (-2) () _ _ _ _ (ruh_abs (Or.inl rfl) (fun q => q.elim h1 (Int32.not_lt.mpr h7)) hno14) rfl hP hD hS dn_C_holdVerdict_22
    · skip
      refine lv_iconst (v := (-1)) hx hb dn_C_holdVerdict_10 (by decide) ?_
      exact hret (-1) () _ _ _ _ (ruh_bad (Or.inl rfl) (by first | exact Or.inl h1 | exact Or.inr (Int32.not_le.mp h7))) rfl hP hD hS dn_C_holdVerdict_11

set_option maxRecDepth 100000 in
set_option maxHeartbeats 4000000 in
theorem c_C_holdVerdict4 (l : Launch) (dC : Nat → ClassId) (dI : Nat → Nat → Nat) (cI cZ : ClassId) (a0 a1 a2 a3 a4 : Nat) (K : ct_T) (en : Nat) (ho : K.1 ≤ 12) (hG : ∀ j, 1 ≤ j → j ≤ K.1 → ∃ g, g < 256 ∧ K.2.2.2.1 j = nI g) (id v t : Int32) : gc_I l yn_C_holdVerdict (gw yn_C_holdVerdict cn_C_holdVerdict 5 (some .int)) (rm_ 1 21) (dC, dI) vwCl (gT cI cZ) [.ref a0, .int id, .int v, .int 0] [(a0, .inr (0, [.ref a1, .ref a2, .ref a3, .ref a4, .int (nI K.1), .int (nI en)])), (a1, .inl (cI, 13, .inl K.2.1)), (a2, .inl (cI, 13, .inl K.2.2.1)), (a3, .inl (cI, 13, .inl K.2.2.2.1)), (a4, .inl (cI, 13, .inl K.2.2.2.2))] (fun r (_ : Unit) => r = ct_ruC K 4 id v t) (fun _ => [(a0, .inr (0, [.ref a1, .ref a2, .ref a3, .ref a4, .int (nI K.1), .int (nI en)])), (a1, .inl (cI, 13, .inl K.2.1)), (a2, .inl (cI, 13, .inl K.2.2.1)), (a3, .inl (cI, 13, .inl K.2.2.2.1)), (a4, .inl (cI, 13, .inl K.2.2.2.2))]) := by
  refine gc_I_of (cc := cn_C_holdVerdict) (maxL := 5) (ty := .int) (by decide) rfl (Nat.le_of_ble_eq_true rfl) ?_
  intro pp ee ss mm ar be me cd A Q ls H0 H locs hx hb hml hown hts hK hP hD hS hA hl hret
  have hw : ∀ w ∈ gw_T, w.before ar ss = true := fun w h => hts w (List.mem_cons_of_mem _ h)
  have hl : lv_has ls 5 [(0, .ref a0), (1, .int id), (2, .int v), (3, .int 0)] := hl
  refine lv_iload_n hx hb dn_C_holdVerdict_0 rfl (lv_at hl 2 rfl) ?_
  refine lv_if_lt (tgt := 10) hx hb dn_C_holdVerdict_1 (by decide) (fun h1 => ?_) (fun h1 => ?_)
  · skip
    refine lv_iconst (v := (-1)) hx hb dn_C_holdVerdict_10 (by decide) ?_
    exact hret (-1) () _ _ _ _ (ruh_bad (Or.inr rfl) (by first | exact Or.inl h1 | exact Or.inr (Int32.not_le.mp h7))) rfl hP hD hS dn_C_holdVerdict_11
  · skip
    refine lv_iload_n hx hb dn_C_holdVerdict_4 rfl (lv_at hl 2 rfl) ?_
    refine lv_bipush (v := 7) hx hb dn_C_holdVerdict_5 (by decide) ?_
    refine lv_icmp_le (tgt := 12) hx hb dn_C_holdVerdict_7 (by decide) (fun h7 => ?_) (fun h7 => ?_)
    · skip
      refine lv_aload_n hx hb dn_C_holdVerdict_12 rfl (lv_at hl 0 rfl) ?_
      refine lv_iload_n hx hb dn_C_holdVerdict_13 rfl (lv_at hl 1 rfl) ?_
      refine gc_vi (pre := []) (wc := [(a0, .inr (0, [.ref a1, .ref a2, .ref a3, .ref a4, .int (nI K.1), .int (nI en)])), (a1, .inl (cI, 13, .inl K.2.1)), (a2, .inl (cI, 13, .inl K.2.2.1)), (a3, .inl (cI, 13, .inl K.2.2.2.1)), (a4, .inl (cI, 13, .inl K.2.2.2.2))]) (po := []) (As := [.int id]) (rest := []) ⟨hx, hb, hml, hown, hw⟩ (c_C_isThere l dC dI cI cZ a0 a1 a2 a3 a4 K en (by omega) id) (gw_cV 1 hw mw_158 mw_159 mw_160 mw_3 mw_161 hd_C_isThere ⟨Nat.le_of_ble_eq_true rfl, Nat.le_of_ble_eq_true rfl⟩) (ci := 0) rfl rfl rfl hK hP hD hS hA rfl hl.1 rfl (Nat.le_of_ble_eq_true rfl) dn_C_holdVerdict_14 ⟨Nat.zero_le _, Nat.zero_le _⟩ (fun r14 u14 H locs hc14 hP hD hS => ?_)
      have hP : va_P (dC, dI) vwCl [(a0, .inr (0, [.ref a1, .ref a2, .ref a3, .ref a4, .int (nI K.1), .int (nI en)])), (a1, .inl (cI, 13, .inl K.2.1)), (a2, .inl (cI, 13, .inl K.2.2.1)), (a3, .inl (cI, 13, .inl K.2.2.2.1)), (a4, .inl (cI, 13, .inl K.2.2.2.2))] H := hP
      have hD : va_D A [(a0, .inr (0, [.ref a1, .ref a2, .ref a3, .ref a4, .int (nI K.1), .int (nI en)])), (a1, .inl (cI, 13, .inl K.2.1)), (a2, .inl (cI, 13, .inl K.2.2.1)), (a3, .inl (cI, 13, .inl K.2.2.2.1)), (a4, .inl (cI, 13, .inl K.2.2.2.2))] := hD
      rcases hc14 with ⟨rfl, j14, j14a, j14b, rfl⟩ | ⟨rfl, hno14⟩
      · skip
        refine lv_if_ne (tgt := 23) hx hb dn_C_holdVerdict_17 (by decide) (fun _ => ?_) (fun h => absurd h (by decide))
        refine lv_aload_n hx hb dn_C_holdVerdict_23 rfl (lv_at hl 0 rfl) ?_
        refine va_get (D := (dC, dI)) (ci := 0) (v := .ref a1) (C := rn_C) (T := tn_C) (N := 6) hx hb hw ml_C hown hK hP 0 rfl rfl 0 (by decide) (hw _ mw_37) (fun _ h9 => h9) rfl dn_C_holdVerdict_24 ?_
        refine lv_iload_n hx hb dn_C_holdVerdict_27 rfl (lv_at hl 1 rfl) ?_
        refine gr_iald hx hb hK hP 1 0 rfl rfl j14 rfl (by omega) (by decide) dn_C_holdVerdict_28 ?_
        refine lv_iconst (v := 1) hx hb dn_C_holdVerdict_29 (by decide) ?_
        refine lv_icmp_eq (tgt := 36) hx hb dn_C_holdVerdict_30 (by decide) (fun h30 => ?_) (fun h30 => ?_)
        · skip
          refine lv_aload_n hx hb dn_C_holdVerdict_36 rfl (lv_at hl 0 rfl) ?_
          refine va_get (D := (dC, dI)) (ci := 0) (v := .ref a3) (C := rn_C) (T := tn_C) (N := 6) hx hb hw ml_C hown hK hP 0 rfl rfl 2 (by decide) (hw _ mw_39) (fun _ h9 => h9) rfl dn_C_holdVerdict_37 ?_
          refine lv_iload_n hx hb dn_C_holdVerdict_40 rfl (lv_at hl 1 rfl) ?_
          refine gr_iald hx hb hK hP 3 0 rfl rfl j14 rfl (by omega) (by decide) dn_C_holdVerdict_41 ?_
          refine lv_iconst (v := 1) hx hb dn_C_holdVerdict_42 (by decide) ?_
          refine lv_iload_n hx hb dn_C_holdVerdict_43 rfl (lv_at hl 2 rfl) ?_
          refine lv_ishl hx hb dn_C_holdVerdict_44 ?_
          refine lv_iand hx hb dn_C_holdVerdict_45 ?_
          refine lv_if_eq (tgt := 53) hx hb dn_C_holdVerdict_46 (by decide) (fun h46 => ?_) (fun h46 => ?_)
          · skip
            refine lv_iconst (v := 0) hx hb dn_C_holdVerdict_53 (by decide) ?_
            refine lv_istore (lv' := [(4, .int 0), (0, .ref a0), (1, .int (nI j14)), (2, .int v), (3, .int 0)]) hx hb dn_C_holdVerdict_54 hl (by decide) rfl (fun ls hl => ?_)
            refine lv_iload hx hb dn_C_holdVerdict_56 (lv_at hl 0 rfl) ?_
            refine lv_iload_n hx hb dn_C_holdVerdict_58 rfl (lv_at hl 4 rfl) ?_
            refine lv_icmp_ne (tgt := 67) hx hb dn_C_holdVerdict_59 (by decide) (fun h => absurd h (by decide)) (fun _ => ?_)
            refine lv_bipush (v := (-5)) hx hb dn_C_holdVerdict_62 (by decide) ?_
            refine lv_goto (tgt := 68) hx hb dn_C_holdVerdict_64 (by decide) ?_
            exact hret (-5) () _ _ _ _ (ruh_same (Or.inr rfl) (fun q => q.elim h1 (Int32.not_lt.mpr h7)) j14a j14b ho h30 ⟨fun q => absurd h46 ((ct_hasB (hG _ j14a j14b) (fun q => q.elim h1 (Int32.not_lt.mpr h7))).1 q), fun q => absurd q (by decide)⟩) rfl hP hD hS dn_C_holdVerdict_68
          · skip
            refine lv_iconst (v := 1) hx hb dn_C_holdVerdict_49 (by decide) ?_
            refine lv_goto (tgt := 54) hx hb dn_C_holdVerdict_50 (by decide) ?_
            refine lv_istore (lv' := [(4, .int 1), (0, .ref a0), (1, .int (nI j14)), (2, .int v), (3, .int 0)]) hx hb dn_C_holdVerdict_54 hl (by decide) rfl (fun ls hl => ?_)
            refine lv_iload hx hb dn_C_holdVerdict_56 (lv_at hl 0 rfl) ?_
            refine lv_iload_n hx hb dn_C_holdVerdict_58 rfl (lv_at hl 4 rfl) ?_
            refine lv_icmp_ne (tgt := 67) hx hb dn_C_holdVerdict_59 (by decide) (fun _ => ?_) (fun h => absurd h (by decide))
            refine lv_iconst (v := 0) hx hb dn_C_holdVerdict_67 (by decide) ?_
            exact hret 0 () _ _ _ _ (ruh_ok (Or.inr rfl) (fun q => q.elim h1 (Int32.not_lt.mpr h7)) j14a j14b ho h30 (fun q => absurd (q.1 ((ct_hasB (hG _ j14a j14b) (fun q => q.elim h1 (Int32.not_lt.mpr h7))).2 h46)) (by decide))) rfl hP hD hS dn_C_holdVerdict_68
        · skip
          refine lv_bipush (v := (-3)) hx hb dn_C_holdVerdict_33 (by decide) ?_
          exact hret (-3) () _ _ _ _ (ruh_gone (Or.inr rfl) (fun q => q.elim h1 (Int32.not_lt.mpr h7)) j14a j14b ho h30) rfl hP hD hS dn_C_holdVerdict_35
      · skip
        refine lv_if_ne (tgt := 23) hx hb dn_C_holdVerdict_17 (by decide) (fun h => absurd h (by decide)) (fun _ => ?_)
        refine lv_bipush (v := (-2)) hx hb dn_C_holdVerdict_20 (by decide) ?_
        exact hret (-2) () _ _ _ _ (ruh_abs (Or.inr rfl) (fun q => q.elim h1 (Int32.not_lt.mpr h7)) hno14) rfl hP hD hS dn_C_holdVerdict_22
    · skip
      refine lv_iconst (v := (-1)) hx hb dn_C_holdVerdict_10 (by decide) ?_
      exact hret (-1) () _ _ _ _ (ruh_bad (Or.inr rfl) (by first | exact Or.inl h1 | exact Or.inr (Int32.not_le.mp h7))) rfl hP hD hS dn_C_holdVerdict_11

set_option maxRecDepth 100000 in
set_option maxHeartbeats 4000000 in
theorem c_C_endVerdict0 (l : Launch) (dC : Nat → ClassId) (dI : Nat → Nat → Nat) (cI cZ : ClassId) (a0 a1 a2 a3 a4 : Nat) (K : ct_T) (en : Nat) (ho : K.1 ≤ 12) (id t : Int32) : gc_I l yn_C_endVerdict (gw yn_C_endVerdict cn_C_endVerdict 4 (some .int)) (rm_ 1 21) (dC, dI) vwCl (gT cI cZ) [.ref a0, .int id, .int 0, .int t] [(a0, .inr (0, [.ref a1, .ref a2, .ref a3, .ref a4, .int (nI K.1), .int (nI en)])), (a1, .inl (cI, 13, .inl K.2.1)), (a2, .inl (cI, 13, .inl K.2.2.1)), (a3, .inl (cI, 13, .inl K.2.2.2.1)), (a4, .inl (cI, 13, .inl K.2.2.2.2))] (fun r (_ : Unit) => r = ct_ev K id 0 t) (fun _ => [(a0, .inr (0, [.ref a1, .ref a2, .ref a3, .ref a4, .int (nI K.1), .int (nI en)])), (a1, .inl (cI, 13, .inl K.2.1)), (a2, .inl (cI, 13, .inl K.2.2.1)), (a3, .inl (cI, 13, .inl K.2.2.2.1)), (a4, .inl (cI, 13, .inl K.2.2.2.2))]) := by
  refine gc_I_of (cc := cn_C_endVerdict) (maxL := 4) (ty := .int) (by decide) rfl (Nat.le_of_ble_eq_true rfl) ?_
  intro pp ee ss mm ar be me cd A Q ls H0 H locs hx hb hml hown hts hK hP hD hS hA hl hret
  have hw : ∀ w ∈ gw_T, w.before ar ss = true := fun w h => hts w (List.mem_cons_of_mem _ h)
  have hl : lv_has ls 4 [(0, .ref a0), (1, .int id), (2, .int 0), (3, .int t)] := hl
  refine lv_aload_n hx hb dn_C_endVerdict_0 rfl (lv_at hl 0 rfl) ?_
  refine lv_iload_n hx hb dn_C_endVerdict_1 rfl (lv_at hl 1 rfl) ?_
  refine gc_vi (pre := []) (wc := [(a0, .inr (0, [.ref a1, .ref a2, .ref a3, .ref a4, .int (nI K.1), .int (nI en)])), (a1, .inl (cI, 13, .inl K.2.1)), (a2, .inl (cI, 13, .inl K.2.2.1)), (a3, .inl (cI, 13, .inl K.2.2.2.1)), (a4, .inl (cI, 13, .inl K.2.2.2.2))]) (po := []) (As := [.int id]) (rest := []) ⟨hx, hb, hml, hown, hw⟩ (c_C_isThere l dC dI cI cZ a0 a1 a2 a3 a4 K en (by omega) id) (gw_cV 1 hw mw_158 mw_159 mw_160 mw_3 mw_161 hd_C_isThere ⟨Nat.le_of_ble_eq_true rfl, Nat.le_of_ble_eq_true rfl⟩) (ci := 0) rfl rfl rfl hK hP hD hS hA rfl hl.1 rfl (Nat.le_of_ble_eq_true rfl) dn_C_endVerdict_2 ⟨Nat.zero_le _, Nat.zero_le _⟩ (fun r2 u2 H locs hc2 hP hD hS => ?_)
  have hP : va_P (dC, dI) vwCl [(a0, .inr (0, [.ref a1, .ref a2, .ref a3, .ref a4, .int (nI K.1), .int (nI en)])), (a1, .inl (cI, 13, .inl K.2.1)), (a2, .inl (cI, 13, .inl K.2.2.1)), (a3, .inl (cI, 13, .inl K.2.2.2.1)), (a4, .inl (cI, 13, .inl K.2.2.2.2))] H := hP
  have hD : va_D A [(a0, .inr (0, [.ref a1, .ref a2, .ref a3, .ref a4, .int (nI K.1), .int (nI en)])), (a1, .inl (cI, 13, .inl K.2.1)), (a2, .inl (cI, 13, .inl K.2.2.1)), (a3, .inl (cI, 13, .inl K.2.2.2.1)), (a4, .inl (cI, 13, .inl K.2.2.2.2))] := hD
  rcases hc2 with ⟨rfl, j2, j2a, j2b, rfl⟩ | ⟨rfl, hno2⟩
  · skip
    refine lv_if_ne (tgt := 11) hx hb dn_C_endVerdict_5 (by decide) (fun _ => ?_) (fun h => absurd h (by decide))
    refine lv_iload_n hx hb dn_C_endVerdict_11 rfl (lv_at hl 2 rfl) ?_
    refine lv_if_eq (tgt := 18) hx hb dn_C_endVerdict_12 (by decide) (fun _ => ?_) (fun h => absurd h (by decide))
    refine lv_aload_n hx hb dn_C_endVerdict_18 rfl (lv_at hl 0 rfl) ?_
    refine va_get (D := (dC, dI)) (ci := 0) (v := .ref a3) (C := rn_C) (T := tn_C) (N := 6) hx hb hw ml_C hown hK hP 0 rfl rfl 2 (by decide) (hw _ mw_39) (fun _ h9 => h9) rfl dn_C_endVerdict_19 ?_
    refine lv_iload_n hx hb dn_C_endVerdict_22 rfl (lv_at hl 1 rfl) ?_
    refine gr_iald hx hb hK hP 3 0 rfl rfl j2 rfl (by omega) (by decide) dn_C_endVerdict_23 ?_
    refine lv_if_eq (tgt := 30) hx hb dn_C_endVerdict_24 (by decide) (fun h24 => ?_) (fun h24 => ?_)
    · skip
      refine lv_iload_n hx hb dn_C_endVerdict_30 rfl (lv_at hl 3 rfl) ?_
      refine lv_aload_n hx hb dn_C_endVerdict_31 rfl (lv_at hl 0 rfl) ?_
      refine va_get (D := (dC, dI)) (ci := 0) (v := .ref a2) (C := rn_C) (T := tn_C) (N := 6) hx hb hw ml_C hown hK hP 0 rfl rfl 1 (by decide) (hw _ mw_38) (fun _ h9 => h9) rfl dn_C_endVerdict_32 ?_
      refine lv_iload_n hx hb dn_C_endVerdict_35 rfl (lv_at hl 1 rfl) ?_
      refine gr_iald hx hb hK hP 2 0 rfl rfl j2 rfl (by omega) (by decide) dn_C_endVerdict_36 ?_
      refine lv_icmp_ge (tgt := 45) hx hb dn_C_endVerdict_37 (by decide) (fun h37 => ?_) (fun h37 => ?_)
      · skip
        refine lv_iconst (v := 0) hx hb dn_C_endVerdict_45 (by decide) ?_
        exact hret 0 () _ _ _ _ (ev_ok (by decide) h24 (Int32.not_lt.mpr h37) j2a j2b ho) rfl hP hD hS dn_C_endVerdict_46
      · skip
        refine lv_bipush (v := (-7)) hx hb dn_C_endVerdict_40 (by decide) ?_
        refine lv_goto (tgt := 46) hx hb dn_C_endVerdict_42 (by decide) ?_
        exact hret (-7) () _ _ _ _ (ev_early (by decide) h24 (Int32.not_le.mp h37) j2a j2b ho) rfl hP hD hS dn_C_endVerdict_46
    · skip
      refine lv_bipush (v := (-6)) hx hb dn_C_endVerdict_27 (by decide) ?_
      exact hret (-6) () _ _ _ _ (ev_held (by decide) h24 j2a j2b ho) rfl hP hD hS dn_C_endVerdict_29
  · skip
    refine lv_if_ne (tgt := 11) hx hb dn_C_endVerdict_5 (by decide) (fun h => absurd h (by decide)) (fun _ => ?_)
    refine lv_bipush (v := (-2)) hx hb dn_C_endVerdict_8 (by decide) ?_
    exact hret (-2) () _ _ _ _ (ev_abs hno2) rfl hP hD hS dn_C_endVerdict_10

set_option maxRecDepth 100000 in
set_option maxHeartbeats 4000000 in
theorem c_C_endVerdict1 (l : Launch) (dC : Nat → ClassId) (dI : Nat → Nat → Nat) (cI cZ : ClassId) (a0 a1 a2 a3 a4 : Nat) (K : ct_T) (en : Nat) (ho : K.1 ≤ 12) (id t : Int32) : gc_I l yn_C_endVerdict (gw yn_C_endVerdict cn_C_endVerdict 4 (some .int)) (rm_ 1 21) (dC, dI) vwCl (gT cI cZ) [.ref a0, .int id, .int 1, .int t] [(a0, .inr (0, [.ref a1, .ref a2, .ref a3, .ref a4, .int (nI K.1), .int (nI en)])), (a1, .inl (cI, 13, .inl K.2.1)), (a2, .inl (cI, 13, .inl K.2.2.1)), (a3, .inl (cI, 13, .inl K.2.2.2.1)), (a4, .inl (cI, 13, .inl K.2.2.2.2))] (fun r (_ : Unit) => r = ct_ev K id 1 t) (fun _ => [(a0, .inr (0, [.ref a1, .ref a2, .ref a3, .ref a4, .int (nI K.1), .int (nI en)])), (a1, .inl (cI, 13, .inl K.2.1)), (a2, .inl (cI, 13, .inl K.2.2.1)), (a3, .inl (cI, 13, .inl K.2.2.2.1)), (a4, .inl (cI, 13, .inl K.2.2.2.2))]) := by
  refine gc_I_of (cc := cn_C_endVerdict) (maxL := 4) (ty := .int) (by decide) rfl (Nat.le_of_ble_eq_true rfl) ?_
  intro pp ee ss mm ar be me cd A Q ls H0 H locs hx hb hml hown hts hK hP hD hS hA hl hret
  have hw : ∀ w ∈ gw_T, w.before ar ss = true := fun w h => hts w (List.mem_cons_of_mem _ h)
  have hl : lv_has ls 4 [(0, .ref a0), (1, .int id), (2, .int 1), (3, .int t)] := hl
  refine lv_aload_n hx hb dn_C_endVerdict_0 rfl (lv_at hl 0 rfl) ?_
  refine lv_iload_n hx hb dn_C_endVerdict_1 rfl (lv_at hl 1 rfl) ?_
  refine gc_vi (pre := []) (wc := [(a0, .inr (0, [.ref a1, .ref a2, .ref a3, .ref a4, .int (nI K.1), .int (nI en)])), (a1, .inl (cI, 13, .inl K.2.1)), (a2, .inl (cI, 13, .inl K.2.2.1)), (a3, .inl (cI, 13, .inl K.2.2.2.1)), (a4, .inl (cI, 13, .inl K.2.2.2.2))]) (po := []) (As := [.int id]) (rest := []) ⟨hx, hb, hml, hown, hw⟩ (c_C_isThere l dC dI cI cZ a0 a1 a2 a3 a4 K en (by omega) id) (gw_cV 1 hw mw_158 mw_159 mw_160 mw_3 mw_161 hd_C_isThere ⟨Nat.le_of_ble_eq_true rfl, Nat.le_of_ble_eq_true rfl⟩) (ci := 0) rfl rfl rfl hK hP hD hS hA rfl hl.1 rfl (Nat.le_of_ble_eq_true rfl) dn_C_endVerdict_2 ⟨Nat.zero_le _, Nat.zero_le _⟩ (fun r2 u2 H locs hc2 hP hD hS => ?_)
  have hP : va_P (dC, dI) vwCl [(a0, .inr (0, [.ref a1, .ref a2, .ref a3, .ref a4, .int (nI K.1), .int (nI en)])), (a1, .inl (cI, 13, .inl K.2.1)), (a2, .inl (cI, 13, .inl K.2.2.1)), (a3, .inl (cI, 13, .inl K.2.2.2.1)), (a4, .inl (cI, 13, .inl K.2.2.2.2))] H := hP
  have hD : va_D A [(a0, .inr (0, [.ref a1, .ref a2, .ref a3, .ref a4, .int (nI K.1), .int (nI en)])), (a1, .inl (cI, 13, .inl K.2.1)), (a2, .inl (cI, 13, .inl K.2.2.1)), (a3, .inl (cI, 13, .inl K.2.2.2.1)), (a4, .inl (cI, 13, .inl K.2.2.2.2))] := hD
  rcases hc2 with ⟨rfl, j2, j2a, j2b, rfl⟩ | ⟨rfl, hno2⟩
  · skip
    refine lv_if_ne (tgt := 11) hx hb dn_C_endVerdict_5 (by decide) (fun _ => ?_) (fun h => absurd h (by decide))
    refine lv_iload_n hx hb dn_C_endVerdict_11 rfl (lv_at hl 2 rfl) ?_
    refine lv_if_eq (tgt := 18) hx hb dn_C_endVerdict_12 (by decide) (fun h => absurd h (by decide)) (fun _ => ?_)
    refine lv_bipush (v := (-3)) hx hb dn_C_endVerdict_15 (by decide) ?_
    exact hret (-3) () _ _ _ _ (ev_gone rfl j2a j2b ho) rfl hP hD hS dn_C_endVerdict_17
  · skip
    refine lv_if_ne (tgt := 11) hx hb dn_C_endVerdict_5 (by decide) (fun h => absurd h (by decide)) (fun _ => ?_)
    refine lv_bipush (v := (-2)) hx hb dn_C_endVerdict_8 (by decide) ?_
    exact hret (-2) () _ _ _ _ (ev_abs hno2) rfl hP hD hS dn_C_endVerdict_10

set_option maxRecDepth 100000 in
set_option maxHeartbeats 4000000 in
theorem c_C_verdictOfKind (l : Launch) (dC : Nat → ClassId) (dI : Nat → Nat → Nat) (cI cZ : ClassId) (a0 a1 a2 a3 a4 : Nat) (K : ct_T) (en : Nat) (ho : K.1 ≤ 12) (hG : ∀ j, 1 ≤ j → j ≤ K.1 → ∃ g, g < 256 ∧ K.2.2.2.1 j = nI g) (kind id v t : Int32) : gc_I l yn_C_verdictOfKind (gw yn_C_verdictOfKind cn_C_verdictOfKind 5 (some .int)) (rm_ 2 45) (dC, dI) vwCl (gT cI cZ) [.ref a0, .int kind, .int id, .int v, .int t] [(a0, .inr (0, [.ref a1, .ref a2, .ref a3, .ref a4, .int (nI K.1), .int (nI en)])), (a1, .inl (cI, 13, .inl K.2.1)), (a2, .inl (cI, 13, .inl K.2.2.1)), (a3, .inl (cI, 13, .inl K.2.2.2.1)), (a4, .inl (cI, 13, .inl K.2.2.2.2))] (fun r (_ : Unit) => r = ct_vk K kind id v t) (fun _ => [(a0, .inr (0, [.ref a1, .ref a2, .ref a3, .ref a4, .int (nI K.1), .int (nI en)])), (a1, .inl (cI, 13, .inl K.2.1)), (a2, .inl (cI, 13, .inl K.2.2.1)), (a3, .inl (cI, 13, .inl K.2.2.2.1)), (a4, .inl (cI, 13, .inl K.2.2.2.2))]) := by
  refine gc_I_of (cc := cn_C_verdictOfKind) (maxL := 5) (ty := .int) (by decide) rfl (Nat.le_of_ble_eq_true rfl) ?_
  intro pp ee ss mm ar be me cd A Q ls H0 H locs hx hb hml hown hts hK hP hD hS hA hl hret
  have hw : ∀ w ∈ gw_T, w.before ar ss = true := fun w h => hts w (List.mem_cons_of_mem _ h)
  have hl : lv_has ls 5 [(0, .ref a0), (1, .int kind), (2, .int id), (3, .int v), (4, .int t)] := hl
  refine lv_iload_n hx hb dn_C_verdictOfKind_0 rfl (lv_at hl 1 rfl) ?_
  rcases sw_1_6 kind with rfl | rfl | rfl | rfl | rfl | rfl | h1
  · skip
    refine lv_tableIn (off := 39) (tgt := 40) hx hb dn_C_verdictOfKind_1 (by decide) (by decide) rfl (by decide) ?_
    refine lv_aload_n hx hb dn_C_verdictOfKind_40 rfl (lv_at hl 0 rfl) ?_
    refine lv_iload_n hx hb dn_C_verdictOfKind_41 rfl (lv_at hl 3 rfl) ?_
    refine lv_iload hx hb dn_C_verdictOfKind_42 (lv_at hl 4 rfl) ?_
    refine gc_vi (pre := []) (wc := [(a0, .inr (0, [.ref a1, .ref a2, .ref a3, .ref a4, .int (nI K.1), .int (nI en)])), (a1, .inl (cI, 13, .inl K.2.1)), (a2, .inl (cI, 13, .inl K.2.2.1)), (a3, .inl (cI, 13, .inl K.2.2.2.1)), (a4, .inl (cI, 13, .inl K.2.2.2.2))]) (po := []) (As := [.int v, .int t]) (rest := []) ⟨hx, hb, hml, hown, hw⟩ (c_C_putVerdict l dC dI cI cZ a0 a1 a2 a3 a4 K en (by omega) id v t) (gw_cV 2 hw mw_146 mw_148 mv_2 mw_3 mw_149 hd_C_putVerdict ⟨Nat.le_of_ble_eq_true rfl, Nat.le_of_ble_eq_true rfl⟩) (ci := 0) rfl rfl rfl hK hP hD hS hA rfl hl.1 rfl (Nat.le_of_ble_eq_true rfl) dn_C_verdictOfKind_44 ⟨Nat.zero_le _, Nat.zero_le _⟩ (fun r44 u44 H locs hc44 hP hD hS => ?_)
    subst hc44
    have hP : va_P (dC, dI) vwCl [(a0, .inr (0, [.ref a1, .ref a2, .ref a3, .ref a4, .int (nI K.1), .int (nI en)])), (a1, .inl (cI, 13, .inl K.2.1)), (a2, .inl (cI, 13, .inl K.2.2.1)), (a3, .inl (cI, 13, .inl K.2.2.2.1)), (a4, .inl (cI, 13, .inl K.2.2.2.2))] H := hP
    have hD : va_D A [(a0, .inr (0, [.ref a1, .ref a2, .ref a3, .ref a4, .int (nI K.1), .int (nI en)])), (a1, .inl (cI, 13, .inl K.2.1)), (a2, .inl (cI, 13, .inl K.2.2.1)), (a3, .inl (cI, 13, .inl K.2.2.2.1)), (a4, .inl (cI, 13, .inl K.2.2.2.2))] := hD
    exact hret (ct_ruC K 1 id v t) () _ _ _ _ (by unfold ct_vk; rw [if_pos ⟨by decide, by decide⟩]) rfl hP hD hS dn_C_verdictOfKind_47
  · skip
    refine lv_tableIn (off := 47) (tgt := 48) hx hb dn_C_verdictOfKind_1 (by decide) (by decide) rfl (by decide) ?_
    refine lv_aload_n hx hb dn_C_verdictOfKind_48 rfl (lv_at hl 0 rfl) ?_
    refine lv_iload_n hx hb dn_C_verdictOfKind_49 rfl (lv_at hl 2 rfl) ?_
    refine lv_iload_n hx hb dn_C_verdictOfKind_50 rfl (lv_at hl 3 rfl) ?_
    refine gc_vi (pre := []) (wc := [(a0, .inr (0, [.ref a1, .ref a2, .ref a3, .ref a4, .int (nI K.1), .int (nI en)])), (a1, .inl (cI, 13, .inl K.2.1)), (a2, .inl (cI, 13, .inl K.2.2.1)), (a3, .inl (cI, 13, .inl K.2.2.2.1)), (a4, .inl (cI, 13, .inl K.2.2.2.2))]) (po := []) (As := [.int id, .int v]) (rest := []) ⟨hx, hb, hml, hown, hw⟩ (c_C_extendVerdict l dC dI cI cZ a0 a1 a2 a3 a4 K en (by omega) id v t) (gw_cV 2 hw mw_154 mw_156 mv_3 mw_3 mw_157 hd_C_extendVerdict ⟨Nat.le_of_ble_eq_true rfl, Nat.le_of_ble_eq_true rfl⟩) (ci := 0) rfl rfl rfl hK hP hD hS hA rfl hl.1 rfl (Nat.le_of_ble_eq_true rfl) dn_C_verdictOfKind_51 ⟨Nat.zero_le _, Nat.zero_le _⟩ (fun r51 u51 H locs hc51 hP hD hS => ?_)
    subst hc51
    have hP : va_P (dC, dI) vwCl [(a0, .inr (0, [.ref a1, .ref a2, .ref a3, .ref a4, .int (nI K.1), .int (nI en)])), (a1, .inl (cI, 13, .inl K.2.1)), (a2, .inl (cI, 13, .inl K.2.2.1)), (a3, .inl (cI, 13, .inl K.2.2.2.1)), (a4, .inl (cI, 13, .inl K.2.2.2.2))] H := hP
    have hD : va_D A [(a0, .inr (0, [.ref a1, .ref a2, .ref a3, .ref a4, .int (nI K.1), .int (nI en)])), (a1, .inl (cI, 13, .inl K.2.1)), (a2, .inl (cI, 13, .inl K.2.2.1)), (a3, .inl (cI, 13, .inl K.2.2.2.1)), (a4, .inl (cI, 13, .inl K.2.2.2.2))] := hD
    exact hret (ct_ruC K 2 id v t) () _ _ _ _ (by unfold ct_vk; rw [if_pos ⟨by decide, by decide⟩]) rfl hP hD hS dn_C_verdictOfKind_54
  · skip
    refine lv_tableIn (off := 54) (tgt := 55) hx hb dn_C_verdictOfKind_1 (by decide) (by decide) rfl (by decide) ?_
    refine lv_aload_n hx hb dn_C_verdictOfKind_55 rfl (lv_at hl 0 rfl) ?_
    refine lv_iload_n hx hb dn_C_verdictOfKind_56 rfl (lv_at hl 2 rfl) ?_
    refine lv_iload_n hx hb dn_C_verdictOfKind_57 rfl (lv_at hl 3 rfl) ?_
    refine lv_iconst (v := 1) hx hb dn_C_verdictOfKind_58 (by decide) ?_
    refine gc_vi (pre := []) (wc := [(a0, .inr (0, [.ref a1, .ref a2, .ref a3, .ref a4, .int (nI K.1), .int (nI en)])), (a1, .inl (cI, 13, .inl K.2.1)), (a2, .inl (cI, 13, .inl K.2.2.1)), (a3, .inl (cI, 13, .inl K.2.2.2.1)), (a4, .inl (cI, 13, .inl K.2.2.2.2))]) (po := []) (As := [.int id, .int v, .int 1]) (rest := []) ⟨hx, hb, hml, hown, hw⟩ (c_C_holdVerdict3 l dC dI cI cZ a0 a1 a2 a3 a4 K en (by omega) hG id v t) (gw_cV 3 hw mw_162 mw_164 mv_4 mw_3 mw_165 hd_C_holdVerdict ⟨Nat.le_of_ble_eq_true rfl, Nat.le_of_ble_eq_true rfl⟩) (ci := 0) rfl rfl rfl hK hP hD hS hA rfl hl.1 rfl (Nat.le_of_ble_eq_true rfl) dn_C_verdictOfKind_59 ⟨Nat.zero_le _, Nat.zero_le _⟩ (fun r59 u59 H locs hc59 hP hD hS => ?_)
    subst hc59
    have hP : va_P (dC, dI) vwCl [(a0, .inr (0, [.ref a1, .ref a2, .ref a3, .ref a4, .int (nI K.1), .int (nI en)])), (a1, .inl (cI, 13, .inl K.2.1)), (a2, .inl (cI, 13, .inl K.2.2.1)), (a3, .inl (cI, 13, .inl K.2.2.2.1)), (a4, .inl (cI, 13, .inl K.2.2.2.2))] H := hP
    have hD : va_D A [(a0, .inr (0, [.ref a1, .ref a2, .ref a3, .ref a4, .int (nI K.1), .int (nI en)])), (a1, .inl (cI, 13, .inl K.2.1)), (a2, .inl (cI, 13, .inl K.2.2.1)), (a3, .inl (cI, 13, .inl K.2.2.2.1)), (a4, .inl (cI, 13, .inl K.2.2.2.2))] := hD
    exact hret (ct_ruC K 3 id v t) () _ _ _ _ (by unfold ct_vk; rw [if_pos ⟨by decide, by decide⟩]) rfl hP hD hS dn_C_verdictOfKind_62
  · skip
    refine lv_tableIn (off := 62) (tgt := 63) hx hb dn_C_verdictOfKind_1 (by decide) (by decide) rfl (by decide) ?_
    refine lv_aload_n hx hb dn_C_verdictOfKind_63 rfl (lv_at hl 0 rfl) ?_
    refine lv_iload_n hx hb dn_C_verdictOfKind_64 rfl (lv_at hl 2 rfl) ?_
    refine lv_iload_n hx hb dn_C_verdictOfKind_65 rfl (lv_at hl 3 rfl) ?_
    refine lv_iconst (v := 0) hx hb dn_C_verdictOfKind_66 (by decide) ?_
    refine gc_vi (pre := []) (wc := [(a0, .inr (0, [.ref a1, .ref a2, .ref a3, .ref a4, .int (nI K.1), .int (nI en)])), (a1, .inl (cI, 13, .inl K.2.1)), (a2, .inl (cI, 13, .inl K.2.2.1)), (a3, .inl (cI, 13, .inl K.2.2.2.1)), (a4, .inl (cI, 13, .inl K.2.2.2.2))]) (po := []) (As := [.int id, .int v, .int 0]) (rest := []) ⟨hx, hb, hml, hown, hw⟩ (c_C_holdVerdict4 l dC dI cI cZ a0 a1 a2 a3 a4 K en (by omega) hG id v t) (gw_cV 3 hw mw_162 mw_164 mv_4 mw_3 mw_165 hd_C_holdVerdict ⟨Nat.le_of_ble_eq_true rfl, Nat.le_of_ble_eq_true rfl⟩) (ci := 0) rfl rfl rfl hK hP hD hS hA rfl hl.1 rfl (Nat.le_of_ble_eq_true rfl) dn_C_verdictOfKind_67 ⟨Nat.zero_le _, Nat.zero_le _⟩ (fun r67 u67 H locs hc67 hP hD hS => ?_)
    subst hc67
    have hP : va_P (dC, dI) vwCl [(a0, .inr (0, [.ref a1, .ref a2, .ref a3, .ref a4, .int (nI K.1), .int (nI en)])), (a1, .inl (cI, 13, .inl K.2.1)), (a2, .inl (cI, 13, .inl K.2.2.1)), (a3, .inl (cI, 13, .inl K.2.2.2.1)), (a4, .inl (cI, 13, .inl K.2.2.2.2))] H := hP
    have hD : va_D A [(a0, .inr (0, [.ref a1, .ref a2, .ref a3, .ref a4, .int (nI K.1), .int (nI en)])), (a1, .inl (cI, 13, .inl K.2.1)), (a2, .inl (cI, 13, .inl K.2.2.1)), (a3, .inl (cI, 13, .inl K.2.2.2.1)), (a4, .inl (cI, 13, .inl K.2.2.2.2))] := hD
    exact hret (ct_ruC K 4 id v t) () _ _ _ _ (by unfold ct_vk; rw [if_pos ⟨by decide, by decide⟩]) rfl hP hD hS dn_C_verdictOfKind_70
  · skip
    refine lv_tableIn (off := 70) (tgt := 71) hx hb dn_C_verdictOfKind_1 (by decide) (by decide) rfl (by decide) ?_
    refine lv_aload_n hx hb dn_C_verdictOfKind_71 rfl (lv_at hl 0 rfl) ?_
    refine lv_iload_n hx hb dn_C_verdictOfKind_72 rfl (lv_at hl 2 rfl) ?_
    refine lv_aload_n hx hb dn_C_verdictOfKind_73 rfl (lv_at hl 0 rfl) ?_
    refine lv_iload_n hx hb dn_C_verdictOfKind_74 rfl (lv_at hl 2 rfl) ?_
    refine gc_vi (pre := []) (wc := [(a0, .inr (0, [.ref a1, .ref a2, .ref a3, .ref a4, .int (nI K.1), .int (nI en)])), (a1, .inl (cI, 13, .inl K.2.1)), (a2, .inl (cI, 13, .inl K.2.2.1)), (a3, .inl (cI, 13, .inl K.2.2.2.1)), (a4, .inl (cI, 13, .inl K.2.2.2.2))]) (po := []) (As := [.int id]) (rest := [.int id, .ref a0]) ⟨hx, hb, hml, hown, hw⟩ (c_C_stateOf l dC dI cI cZ a0 a1 a2 a3 a4 K en (by omega) id) (gw_cV 1 hw mw_166 mw_167 mw_168 mw_3 mw_169 hd_C_stateOf ⟨Nat.le_of_ble_eq_true rfl, Nat.le_of_ble_eq_true rfl⟩) (ci := 0) rfl rfl rfl hK hP hD hS hA rfl hl.1 rfl (Nat.le_of_ble_eq_true rfl) dn_C_verdictOfKind_75 ⟨Nat.zero_le _, Nat.zero_le _⟩ (fun r75 u75 H locs hc75 hP hD hS => ?_)
    subst hc75
    have hP : va_P (dC, dI) vwCl [(a0, .inr (0, [.ref a1, .ref a2, .ref a3, .ref a4, .int (nI K.1), .int (nI en)])), (a1, .inl (cI, 13, .inl K.2.1)), (a2, .inl (cI, 13, .inl K.2.2.1)), (a3, .inl (cI, 13, .inl K.2.2.2.1)), (a4, .inl (cI, 13, .inl K.2.2.2.2))] H := hP
    have hD : va_D A [(a0, .inr (0, [.ref a1, .ref a2, .ref a3, .ref a4, .int (nI K.1), .int (nI en)])), (a1, .inl (cI, 13, .inl K.2.1)), (a2, .inl (cI, 13, .inl K.2.2.1)), (a3, .inl (cI, 13, .inl K.2.2.2.1)), (a4, .inl (cI, 13, .inl K.2.2.2.2))] := hD
    refine lv_iconst (v := 1) hx hb dn_C_verdictOfKind_78 (by decide) ?_
    refine lv_icmp_eq (tgt := 86) hx hb dn_C_verdictOfKind_79 (by decide) (fun h79 => ?_) (fun h79 => ?_)
    · skip
      refine lv_iconst (v := 0) hx hb dn_C_verdictOfKind_86 (by decide) ?_
      refine lv_iload hx hb dn_C_verdictOfKind_87 (lv_at hl 4 rfl) ?_
      refine gc_vi (pre := []) (wc := [(a0, .inr (0, [.ref a1, .ref a2, .ref a3, .ref a4, .int (nI K.1), .int (nI en)])), (a1, .inl (cI, 13, .inl K.2.1)), (a2, .inl (cI, 13, .inl K.2.2.1)), (a3, .inl (cI, 13, .inl K.2.2.2.1)), (a4, .inl (cI, 13, .inl K.2.2.2.2))]) (po := []) (As := [.int id, .int 0, .int t]) (rest := []) ⟨hx, hb, hml, hown, hw⟩ (c_C_endVerdict0 l dC dI cI cZ a0 a1 a2 a3 a4 K en (by omega) id t) (gw_cV 3 hw mw_170 mw_172 mv_5 mw_3 mw_173 hd_C_endVerdict ⟨Nat.le_of_ble_eq_true rfl, Nat.le_of_ble_eq_true rfl⟩) (ci := 0) rfl rfl rfl hK hP hD hS hA rfl hl.1 rfl (Nat.le_of_ble_eq_true rfl) dn_C_verdictOfKind_89 ⟨Nat.zero_le _, Nat.zero_le _⟩ (fun r89 u89 H locs hc89 hP hD hS => ?_)
      subst hc89
      have hP : va_P (dC, dI) vwCl [(a0, .inr (0, [.ref a1, .ref a2, .ref a3, .ref a4, .int (nI K.1), .int (nI en)])), (a1, .inl (cI, 13, .inl K.2.1)), (a2, .inl (cI, 13, .inl K.2.2.1)), (a3, .inl (cI, 13, .inl K.2.2.2.1)), (a4, .inl (cI, 13, .inl K.2.2.2.2))] H := hP
      have hD : va_D A [(a0, .inr (0, [.ref a1, .ref a2, .ref a3, .ref a4, .int (nI K.1), .int (nI en)])), (a1, .inl (cI, 13, .inl K.2.1)), (a2, .inl (cI, 13, .inl K.2.2.1)), (a3, .inl (cI, 13, .inl K.2.2.2.1)), (a4, .inl (cI, 13, .inl K.2.2.2.2))] := hD
      exact hret (ct_ev K id 0 t) () _ _ _ _ (by unfold ct_vk; rw [if_pos ⟨by decide, by decide⟩]; exact ev_ru5 ho (by first | rw [if_pos h79] | rw [if_neg h79])) rfl hP hD hS dn_C_verdictOfKind_92
    · skip
      refine lv_iconst (v := 1) hx hb dn_C_verdictOfKind_82 (by decide) ?_
      refine lv_goto (tgt := 87) hx hb dn_C_verdictOfKind_83 (by decide) ?_
      refine lv_iload hx hb dn_C_verdictOfKind_87 (lv_at hl 4 rfl) ?_
      refine gc_vi (pre := []) (wc := [(a0, .inr (0, [.ref a1, .ref a2, .ref a3, .ref a4, .int (nI K.1), .int (nI en)])), (a1, .inl (cI, 13, .inl K.2.1)), (a2, .inl (cI, 13, .inl K.2.2.1)), (a3, .inl (cI, 13, .inl K.2.2.2.1)), (a4, .inl (cI, 13, .inl K.2.2.2.2))]) (po := []) (As := [.int id, .int 1, .int t]) (rest := []) ⟨hx, hb, hml, hown, hw⟩ (c_C_endVerdict1 l dC dI cI cZ a0 a1 a2 a3 a4 K en (by omega) id t) (gw_cV 3 hw mw_170 mw_172 mv_5 mw_3 mw_173 hd_C_endVerdict ⟨Nat.le_of_ble_eq_true rfl, Nat.le_of_ble_eq_true rfl⟩) (ci := 0) rfl rfl rfl hK hP hD hS hA rfl hl.1 rfl (Nat.le_of_ble_eq_true rfl) dn_C_verdictOfKind_89 ⟨Nat.zero_le _, Nat.zero_le _⟩ (fun r89 u89 H locs hc89 hP hD hS => ?_)
      subst hc89
      have hP : va_P (dC, dI) vwCl [(a0, .inr (0, [.ref a1, .ref a2, .ref a3, .ref a4, .int (nI K.1), .int (nI en)])), (a1, .inl (cI, 13, .inl K.2.1)), (a2, .inl (cI, 13, .inl K.2.2.1)), (a3, .inl (cI, 13, .inl K.2.2.2.1)), (a4, .inl (cI, 13, .inl K.2.2.2.2))] H := hP
      have hD : va_D A [(a0, .inr (0, [.ref a1, .ref a2, .ref a3, .ref a4, .int (nI K.1), .int (nI en)])), (a1, .inl (cI, 13, .inl K.2.1)), (a2, .inl (cI, 13, .inl K.2.2.1)), (a3, .inl (cI, 13, .inl K.2.2.2.1)), (a4, .inl (cI, 13, .inl K.2.2.2.2))] := hD
      exact hret (ct_ev K id 1 t) () _ _ _ _ (by unfold ct_vk; rw [if_pos ⟨by decide, by decide⟩]; exact ev_ru5 ho (by first | rw [if_pos h79] | rw [if_neg h79])) rfl hP hD hS dn_C_verdictOfKind_92
  · skip
    refine lv_tableIn (off := 92) (tgt := 93) hx hb dn_C_verdictOfKind_1 (by decide) (by decide) rfl (by decide) ?_
    refine lv_aload_n hx hb dn_C_verdictOfKind_93 rfl (lv_at hl 0 rfl) ?_
    refine lv_iload_n hx hb dn_C_verdictOfKind_94 rfl (lv_at hl 2 rfl) ?_
    refine lv_aload_n hx hb dn_C_verdictOfKind_95 rfl (lv_at hl 0 rfl) ?_
    refine lv_iload_n hx hb dn_C_verdictOfKind_96 rfl (lv_at hl 2 rfl) ?_
    refine gc_vi (pre := []) (wc := [(a0, .inr (0, [.ref a1, .ref a2, .ref a3, .ref a4, .int (nI K.1), .int (nI en)])), (a1, .inl (cI, 13, .inl K.2.1)), (a2, .inl (cI, 13, .inl K.2.2.1)), (a3, .inl (cI, 13, .inl K.2.2.2.1)), (a4, .inl (cI, 13, .inl K.2.2.2.2))]) (po := []) (As := [.int id]) (rest := [.int id, .ref a0]) ⟨hx, hb, hml, hown, hw⟩ (c_C_stateOf l dC dI cI cZ a0 a1 a2 a3 a4 K en (by omega) id) (gw_cV 1 hw mw_166 mw_167 mw_168 mw_3 mw_169 hd_C_stateOf ⟨Nat.le_of_ble_eq_true rfl, Nat.le_of_ble_eq_true rfl⟩) (ci := 0) rfl rfl rfl hK hP hD hS hA rfl hl.1 rfl (Nat.le_of_ble_eq_true rfl) dn_C_verdictOfKind_97 ⟨Nat.zero_le _, Nat.zero_le _⟩ (fun r97 u97 H locs hc97 hP hD hS => ?_)
    subst hc97
    have hP : va_P (dC, dI) vwCl [(a0, .inr (0, [.ref a1, .ref a2, .ref a3, .ref a4, .int (nI K.1), .int (nI en)])), (a1, .inl (cI, 13, .inl K.2.1)), (a2, .inl (cI, 13, .inl K.2.2.1)), (a3, .inl (cI, 13, .inl K.2.2.2.1)), (a4, .inl (cI, 13, .inl K.2.2.2.2))] H := hP
    have hD : va_D A [(a0, .inr (0, [.ref a1, .ref a2, .ref a3, .ref a4, .int (nI K.1), .int (nI en)])), (a1, .inl (cI, 13, .inl K.2.1)), (a2, .inl (cI, 13, .inl K.2.2.1)), (a3, .inl (cI, 13, .inl K.2.2.2.1)), (a4, .inl (cI, 13, .inl K.2.2.2.2))] := hD
    refine lv_iconst (v := 3) hx hb dn_C_verdictOfKind_100 (by decide) ?_
    refine lv_icmp_ne (tgt := 108) hx hb dn_C_verdictOfKind_101 (by decide) (fun h101 => ?_) (fun h101 => ?_)
    · skip
      refine lv_iconst (v := 0) hx hb dn_C_verdictOfKind_108 (by decide) ?_
      refine lv_iload hx hb dn_C_verdictOfKind_109 (lv_at hl 4 rfl) ?_
      refine gc_vi (pre := []) (wc := [(a0, .inr (0, [.ref a1, .ref a2, .ref a3, .ref a4, .int (nI K.1), .int (nI en)])), (a1, .inl (cI, 13, .inl K.2.1)), (a2, .inl (cI, 13, .inl K.2.2.1)), (a3, .inl (cI, 13, .inl K.2.2.2.1)), (a4, .inl (cI, 13, .inl K.2.2.2.2))]) (po := []) (As := [.int id, .int 0, .int t]) (rest := []) ⟨hx, hb, hml, hown, hw⟩ (c_C_endVerdict0 l dC dI cI cZ a0 a1 a2 a3 a4 K en (by omega) id t) (gw_cV 3 hw mw_170 mw_172 mv_5 mw_3 mw_173 hd_C_endVerdict ⟨Nat.le_of_ble_eq_true rfl, Nat.le_of_ble_eq_true rfl⟩) (ci := 0) rfl rfl rfl hK hP hD hS hA rfl hl.1 rfl (Nat.le_of_ble_eq_true rfl) dn_C_verdictOfKind_111 ⟨Nat.zero_le _, Nat.zero_le _⟩ (fun r111 u111 H locs hc111 hP hD hS => ?_)
      subst hc111
      have hP : va_P (dC, dI) vwCl [(a0, .inr (0, [.ref a1, .ref a2, .ref a3, .ref a4, .int (nI K.1), .int (nI en)])), (a1, .inl (cI, 13, .inl K.2.1)), (a2, .inl (cI, 13, .inl K.2.2.1)), (a3, .inl (cI, 13, .inl K.2.2.2.1)), (a4, .inl (cI, 13, .inl K.2.2.2.2))] H := hP
      have hD : va_D A [(a0, .inr (0, [.ref a1, .ref a2, .ref a3, .ref a4, .int (nI K.1), .int (nI en)])), (a1, .inl (cI, 13, .inl K.2.1)), (a2, .inl (cI, 13, .inl K.2.2.1)), (a3, .inl (cI, 13, .inl K.2.2.2.1)), (a4, .inl (cI, 13, .inl K.2.2.2.2))] := hD
      exact hret (ct_ev K id 0 t) () _ _ _ _ (by unfold ct_vk; rw [if_pos ⟨by decide, by decide⟩]; exact ev_ru6 ho (by first | rw [if_pos h101] | rw [if_neg h101])) rfl hP hD hS dn_C_verdictOfKind_114
    · skip
      refine lv_iconst (v := 1) hx hb dn_C_verdictOfKind_104 (by decide) ?_
      refine lv_goto (tgt := 109) hx hb dn_C_verdictOfKind_105 (by decide) ?_
      refine lv_iload hx hb dn_C_verdictOfKind_109 (lv_at hl 4 rfl) ?_
      refine gc_vi (pre := []) (wc := [(a0, .inr (0, [.ref a1, .ref a2, .ref a3, .ref a4, .int (nI K.1), .int (nI en)])), (a1, .inl (cI, 13, .inl K.2.1)), (a2, .inl (cI, 13, .inl K.2.2.1)), (a3, .inl (cI, 13, .inl K.2.2.2.1)), (a4, .inl (cI, 13, .inl K.2.2.2.2))]) (po := []) (As := [.int id, .int 1, .int t]) (rest := []) ⟨hx, hb, hml, hown, hw⟩ (c_C_endVerdict1 l dC dI cI cZ a0 a1 a2 a3 a4 K en (by omega) id t) (gw_cV 3 hw mw_170 mw_172 mv_5 mw_3 mw_173 hd_C_endVerdict ⟨Nat.le_of_ble_eq_true rfl, Nat.le_of_ble_eq_true rfl⟩) (ci := 0) rfl rfl rfl hK hP hD hS hA rfl hl.1 rfl (Nat.le_of_ble_eq_true rfl) dn_C_verdictOfKind_111 ⟨Nat.zero_le _, Nat.zero_le _⟩ (fun r111 u111 H locs hc111 hP hD hS => ?_)
      subst hc111
      have hP : va_P (dC, dI) vwCl [(a0, .inr (0, [.ref a1, .ref a2, .ref a3, .ref a4, .int (nI K.1), .int (nI en)])), (a1, .inl (cI, 13, .inl K.2.1)), (a2, .inl (cI, 13, .inl K.2.2.1)), (a3, .inl (cI, 13, .inl K.2.2.2.1)), (a4, .inl (cI, 13, .inl K.2.2.2.2))] H := hP
      have hD : va_D A [(a0, .inr (0, [.ref a1, .ref a2, .ref a3, .ref a4, .int (nI K.1), .int (nI en)])), (a1, .inl (cI, 13, .inl K.2.1)), (a2, .inl (cI, 13, .inl K.2.2.1)), (a3, .inl (cI, 13, .inl K.2.2.2.1)), (a4, .inl (cI, 13, .inl K.2.2.2.2))] := hD
      exact hret (ct_ev K id 1 t) () _ _ _ _ (by unfold ct_vk; rw [if_pos ⟨by decide, by decide⟩]; exact ev_ru6 ho (by first | rw [if_pos h101] | rw [if_neg h101])) rfl hP hD hS dn_C_verdictOfKind_114
  · skip
    refine lv_tableOut (tgt := 115) hx hb dn_C_verdictOfKind_1 h1 (by decide) ?_
    refine lv_iconst (v := (-1)) hx hb dn_C_verdictOfKind_115 (by decide) ?_
    exact hret (-1) () _ _ _ _ (by unfold ct_vk; rw [if_neg (sw_no h1)]) rfl hP hD hS dn_C_verdictOfKind_116

set_option maxRecDepth 100000 in
set_option maxHeartbeats 4000000 in
theorem c_C_verdict (l : Launch) (dC : Nat → ClassId) (dI : Nat → Nat → Nat) (cI cZ : ClassId) (a0 a1 a2 a3 a4 : Nat) (K : ct_T) (en : Nat) (ho : K.1 ≤ 12) (hG : ∀ j, 1 ≤ j → j ≤ K.1 → ∃ g, g < 256 ∧ K.2.2.2.1 j = nI g) (kind id v t : Int32) (hen : en < 2 ^ 31) : gc_I l yn_C_verdict (gw yn_C_verdict cn_C_verdict 6 (some .int)) (rm_ 3 69) (dC, dI) vwCl (gT cI cZ) [.ref a0, .int kind, .int id, .int v, .int t] [(a0, .inr (0, [.ref a1, .ref a2, .ref a3, .ref a4, .int (nI K.1), .int (nI en)])), (a1, .inl (cI, 13, .inl K.2.1)), (a2, .inl (cI, 13, .inl K.2.2.1)), (a3, .inl (cI, 13, .inl K.2.2.2.1)), (a4, .inl (cI, 13, .inl K.2.2.2.2))] (fun r (_ : Unit) => r = ct_vd K en kind id v t) (fun _ => [(a0, .inr (0, [.ref a1, .ref a2, .ref a3, .ref a4, .int (nI K.1), .int (nI en)])), (a1, .inl (cI, 13, .inl K.2.1)), (a2, .inl (cI, 13, .inl K.2.2.1)), (a3, .inl (cI, 13, .inl K.2.2.2.1)), (a4, .inl (cI, 13, .inl K.2.2.2.2))]) := by
  refine gc_I_of (cc := cn_C_verdict) (maxL := 6) (ty := .int) (by decide) rfl (Nat.le_of_ble_eq_true rfl) ?_
  intro pp ee ss mm ar be me cd A Q ls H0 H locs hx hb hml hown hts hK hP hD hS hA hl hret
  have hw : ∀ w ∈ gw_T, w.before ar ss = true := fun w h => hts w (List.mem_cons_of_mem _ h)
  have hl : lv_has ls 6 [(0, .ref a0), (1, .int kind), (2, .int id), (3, .int v), (4, .int t)] := hl
  refine lv_aload_n hx hb dn_C_verdict_0 rfl (lv_at hl 0 rfl) ?_
  refine lv_iload_n hx hb dn_C_verdict_1 rfl (lv_at hl 1 rfl) ?_
  refine lv_iload_n hx hb dn_C_verdict_2 rfl (lv_at hl 2 rfl) ?_
  refine lv_iload_n hx hb dn_C_verdict_3 rfl (lv_at hl 3 rfl) ?_
  refine lv_iload hx hb dn_C_verdict_4 (lv_at hl 4 rfl) ?_
  refine gc_vi (pre := []) (wc := [(a0, .inr (0, [.ref a1, .ref a2, .ref a3, .ref a4, .int (nI K.1), .int (nI en)])), (a1, .inl (cI, 13, .inl K.2.1)), (a2, .inl (cI, 13, .inl K.2.2.1)), (a3, .inl (cI, 13, .inl K.2.2.2.1)), (a4, .inl (cI, 13, .inl K.2.2.2.2))]) (po := []) (As := [.int kind, .int id, .int v, .int t]) (rest := []) ⟨hx, hb, hml, hown, hw⟩ (c_C_verdictOfKind l dC dI cI cZ a0 a1 a2 a3 a4 K en (by omega) hG kind id v t) (gw_cV 4 hw mw_142 mw_144 mv_1 mw_3 mw_145 hd_C_verdictOfKind ⟨Nat.le_of_ble_eq_true rfl, Nat.le_of_ble_eq_true rfl⟩) (ci := 0) rfl rfl rfl hK hP hD hS hA rfl hl.1 rfl (Nat.le_of_ble_eq_true rfl) dn_C_verdict_6 ⟨Nat.zero_le _, Nat.zero_le _⟩ (fun r6 u6 H locs hc6 hP hD hS => ?_)
  subst hc6
  have hP : va_P (dC, dI) vwCl [(a0, .inr (0, [.ref a1, .ref a2, .ref a3, .ref a4, .int (nI K.1), .int (nI en)])), (a1, .inl (cI, 13, .inl K.2.1)), (a2, .inl (cI, 13, .inl K.2.2.1)), (a3, .inl (cI, 13, .inl K.2.2.2.1)), (a4, .inl (cI, 13, .inl K.2.2.2.2))] H := hP
  have hD : va_D A [(a0, .inr (0, [.ref a1, .ref a2, .ref a3, .ref a4, .int (nI K.1), .int (nI en)])), (a1, .inl (cI, 13, .inl K.2.1)), (a2, .inl (cI, 13, .inl K.2.2.1)), (a3, .inl (cI, 13, .inl K.2.2.2.1)), (a4, .inl (cI, 13, .inl K.2.2.2.2))] := hD
  refine lv_istore (lv' := [(5, .int (ct_vk K kind id v t)), (0, .ref a0), (1, .int kind), (2, .int id), (3, .int v), (4, .int t)]) hx hb dn_C_verdict_9 hl (by decide) rfl (fun ls hl => ?_)
  refine lv_iload hx hb dn_C_verdict_11 (lv_at hl 0 rfl) ?_
  refine lv_if_ne (tgt := 28) hx hb dn_C_verdict_13 (by decide) (fun h13 => ?_) (fun h13 => ?_)
  · skip
    refine lv_iload hx hb dn_C_verdict_28 (lv_at hl 0 rfl) ?_
    exact hret (ct_vk K kind id v t) () _ _ _ _ (by unfold ct_vd; rw [if_neg (fun q => by first | exact h13 q.1 | omega)]) rfl hP hD hS dn_C_verdict_30
  · skip
    refine lv_aload_n hx hb dn_C_verdict_16 rfl (lv_at hl 1 rfl) ?_
    refine va_get (D := (dC, dI)) (ci := 0) (v := .int (nI en)) (C := rn_C) (T := tn_C) (N := 6) hx hb hw ml_C hown hK hP 0 rfl rfl 5 (by decide) (hw _ mw_42) (fun _ h9 => h9) rfl dn_C_verdict_17 ?_
    refine lv_bipush (v := 40) hx hb dn_C_verdict_20 (by decide) ?_
    refine gr_clt (tgt := 28) hx hb en 40 rfl rfl (by omega) (by decide) dn_C_verdict_22 (by decide) (fun h22 => ?_) (fun h22 => ?_)
    · skip
      refine lv_iload hx hb dn_C_verdict_28 (lv_at hl 0 rfl) ?_
      exact hret (ct_vk K kind id v t) () _ _ _ _ (by unfold ct_vd; rw [if_neg (fun q => by first | exact h13 q.1 | omega)]) rfl hP hD hS dn_C_verdict_30
    · skip
      refine lv_bipush (v := (-8)) hx hb dn_C_verdict_25 (by decide) ?_
      exact hret (-8) () _ _ _ _ (by unfold ct_vd; rw [if_pos ⟨h13, h22⟩]) rfl hP hD hS dn_C_verdict_27

set_option maxRecDepth 100000 in
set_option maxHeartbeats 4000000 in
theorem c_C_addObject (l : Launch) (dC : Nat → ClassId) (dI : Nat → Nat → Nat) (cI cZ : ClassId) (a0 a1 a2 a3 a4 : Nat) (K : ct_T) (en : Nat) (ho : K.1 ≤ 12) (hlt : K.1 < 12) (v : Int32) : gc_V l yn_C_addObject (gw yn_C_addObject cn_C_addObject 2 none) (rm_ 0 0) (dC, dI) vwCl (gT cI cZ) [.ref a0, .int v] [(a0, .inr (0, [.ref a1, .ref a2, .ref a3, .ref a4, .int (nI K.1), .int (nI en)])), (a1, .inl (cI, 13, .inl K.2.1)), (a2, .inl (cI, 13, .inl K.2.2.1)), (a3, .inl (cI, 13, .inl K.2.2.2.1)), (a4, .inl (cI, 13, .inl K.2.2.2.2))] (fun (_ : Unit) => True) (fun _ => [(a0, .inr (0, [.ref a1, .ref a2, .ref a3, .ref a4, .int (nI (K.1 + 1)), .int (nI en)])), (a1, .inl (cI, 13, .inl (upd K.2.1 (K.1 + 1) 1))), (a2, .inl (cI, 13, .inl (upd K.2.2.1 (K.1 + 1) v))), (a3, .inl (cI, 13, .inl (upd K.2.2.2.1 (K.1 + 1) 0))), (a4, .inl (cI, 13, .inl (upd K.2.2.2.2 (K.1 + 1) (nI en))))]) := by
  refine gc_V_of (cc := cn_C_addObject) (maxL := 2) (by decide) rfl (Nat.le_of_ble_eq_true rfl) ?_
  intro pp ee ss mm ar be me cd A Q ls H0 H locs hx hb hml hown hts hK hP hD hS hA hl hret
  have hw : ∀ w ∈ gw_T, w.before ar ss = true := fun w h => hts w (List.mem_cons_of_mem _ h)
  have hl : lv_has ls 2 [(0, .ref a0), (1, .int v)] := hl
  refine lv_aload_n hx hb dn_C_addObject_0 rfl (lv_at hl 0 rfl) ?_
  refine va_get (D := (dC, dI)) (ci := 0) (v := .int (nI K.1)) (C := rn_C) (T := tn_C) (N := 6) hx hb hw ml_C hown hK hP 0 rfl rfl 4 (by decide) (hw _ mw_41) (fun _ h9 => h9) rfl dn_C_addObject_1 ?_
  refine lv_bipush (v := 12) hx hb dn_C_addObject_4 (by decide) ?_
  refine gr_clt (tgt := 10) hx hb K.1 12 rfl rfl (by omega) (by decide) dn_C_addObject_6 (by decide) (fun h6 => ?_) (fun h6 => absurd h6 (by omega))
  refine lv_aload_n hx hb dn_C_addObject_10 rfl (lv_at hl 0 rfl) ?_
  refine lv_dup hx hb dn_C_addObject_11 rfl ?_
  refine va_get (D := (dC, dI)) (ci := 0) (v := .int (nI K.1)) (C := rn_C) (T := tn_C) (N := 6) hx hb hw ml_C hown hK hP 0 rfl rfl 4 (by decide) (hw _ mw_41) (fun _ h9 => h9) rfl dn_C_addObject_12 ?_
  refine lv_iconst (v := 1) hx hb dn_C_addObject_15 (by decide) ?_
  refine gr_addN hx hb K.1 1 rfl rfl dn_C_addObject_16 ?_
  refine va_put (D := (dC, dI)) (ci := 0) (v := .int (nI (K.1 + 1))) (ty := .int) (C := rn_C) (T := tn_C) (N := 6) hx hb hw ml_C tt_C to_C nd_C hown hK hP hD hS 0 rfl rfl 4 (by decide) (hw _ mw_41) (fun _ h9 => h9) rfl (by decide +kernel) rfl rfl (Nat.le_of_ble_eq_true rfl) dn_C_addObject_17 (fun H locs hP hD hS => ?_)
  have hP : va_P (dC, dI) vwCl [(a0, .inr (0, [.ref a1, .ref a2, .ref a3, .ref a4, .int (nI (K.1 + 1)), .int (nI en)])), (a1, .inl (cI, 13, .inl K.2.1)), (a2, .inl (cI, 13, .inl K.2.2.1)), (a3, .inl (cI, 13, .inl K.2.2.2.1)), (a4, .inl (cI, 13, .inl K.2.2.2.2))] H := hP
  have hD : va_D A [(a0, .inr (0, [.ref a1, .ref a2, .ref a3, .ref a4, .int (nI (K.1 + 1)), .int (nI en)])), (a1, .inl (cI, 13, .inl K.2.1)), (a2, .inl (cI, 13, .inl K.2.2.1)), (a3, .inl (cI, 13, .inl K.2.2.2.1)), (a4, .inl (cI, 13, .inl K.2.2.2.2))] := hD
  refine lv_aload_n hx hb dn_C_addObject_20 rfl (lv_at hl 0 rfl) ?_
  refine va_get (D := (dC, dI)) (ci := 0) (v := .ref a1) (C := rn_C) (T := tn_C) (N := 6) hx hb hw ml_C hown hK hP 0 rfl rfl 0 (by decide) (hw _ mw_37) (fun _ h9 => h9) rfl dn_C_addObject_21 ?_
  refine lv_aload_n hx hb dn_C_addObject_24 rfl (lv_at hl 0 rfl) ?_
  refine va_get (D := (dC, dI)) (ci := 0) (v := .int (nI (K.1 + 1))) (C := rn_C) (T := tn_C) (N := 6) hx hb hw ml_C hown hK hP 0 rfl rfl 4 (by decide) (hw _ mw_41) (fun _ h9 => h9) rfl dn_C_addObject_25 ?_
  refine lv_iconst (v := 1) hx hb dn_C_addObject_28 (by decide) ?_
  refine gr_iast hx hb hK hP hD hS 1 0 rfl rfl (K.1 + 1) rfl (by omega) (by decide) dn_C_addObject_29 (fun H locs hP hD hS => ?_)
  have hP : va_P (dC, dI) vwCl [(a0, .inr (0, [.ref a1, .ref a2, .ref a3, .ref a4, .int (nI (K.1 + 1)), .int (nI en)])), (a1, .inl (cI, 13, .inl (upd K.2.1 (K.1 + 1) 1))), (a2, .inl (cI, 13, .inl K.2.2.1)), (a3, .inl (cI, 13, .inl K.2.2.2.1)), (a4, .inl (cI, 13, .inl K.2.2.2.2))] H := hP
  have hD : va_D A [(a0, .inr (0, [.ref a1, .ref a2, .ref a3, .ref a4, .int (nI (K.1 + 1)), .int (nI en)])), (a1, .inl (cI, 13, .inl (upd K.2.1 (K.1 + 1) 1))), (a2, .inl (cI, 13, .inl K.2.2.1)), (a3, .inl (cI, 13, .inl K.2.2.2.1)), (a4, .inl (cI, 13, .inl K.2.2.2.2))] := hD
  refine lv_aload_n hx hb dn_C_addObject_30 rfl (lv_at hl 0 rfl) ?_
  refine va_get (D := (dC, dI)) (ci := 0) (v := .ref a2) (C := rn_C) (T := tn_C) (N := 6) hx hb hw ml_C hown hK hP 0 rfl rfl 1 (by decide) (hw _ mw_38) (fun _ h9 => h9) rfl dn_C_addObject_31 ?_
  refine lv_aload_n hx hb dn_C_addObject_34 rfl (lv_at hl 0 rfl) ?_
  refine va_get (D := (dC, dI)) (ci := 0) (v := .int (nI (K.1 + 1))) (C := rn_C) (T := tn_C) (N := 6) hx hb hw ml_C hown hK hP 0 rfl rfl 4 (by decide) (hw _ mw_41) (fun _ h9 => h9) rfl dn_C_addObject_35 ?_
  refine lv_iload_n hx hb dn_C_addObject_38 rfl (lv_at hl 1 rfl) ?_
  refine gr_iast hx hb hK hP hD hS 2 0 rfl rfl (K.1 + 1) rfl (by omega) (by decide) dn_C_addObject_39 (fun H locs hP hD hS => ?_)
  have hP : va_P (dC, dI) vwCl [(a0, .inr (0, [.ref a1, .ref a2, .ref a3, .ref a4, .int (nI (K.1 + 1)), .int (nI en)])), (a1, .inl (cI, 13, .inl (upd K.2.1 (K.1 + 1) 1))), (a2, .inl (cI, 13, .inl (upd K.2.2.1 (K.1 + 1) v))), (a3, .inl (cI, 13, .inl K.2.2.2.1)), (a4, .inl (cI, 13, .inl K.2.2.2.2))] H := hP
  have hD : va_D A [(a0, .inr (0, [.ref a1, .ref a2, .ref a3, .ref a4, .int (nI (K.1 + 1)), .int (nI en)])), (a1, .inl (cI, 13, .inl (upd K.2.1 (K.1 + 1) 1))), (a2, .inl (cI, 13, .inl (upd K.2.2.1 (K.1 + 1) v))), (a3, .inl (cI, 13, .inl K.2.2.2.1)), (a4, .inl (cI, 13, .inl K.2.2.2.2))] := hD
  refine lv_aload_n hx hb dn_C_addObject_40 rfl (lv_at hl 0 rfl) ?_
  refine va_get (D := (dC, dI)) (ci := 0) (v := .ref a3) (C := rn_C) (T := tn_C) (N := 6) hx hb hw ml_C hown hK hP 0 rfl rfl 2 (by decide) (hw _ mw_39) (fun _ h9 => h9) rfl dn_C_addObject_41 ?_
  refine lv_aload_n hx hb dn_C_addObject_44 rfl (lv_at hl 0 rfl) ?_
  refine va_get (D := (dC, dI)) (ci := 0) (v := .int (nI (K.1 + 1))) (C := rn_C) (T := tn_C) (N := 6) hx hb hw ml_C hown hK hP 0 rfl rfl 4 (by decide) (hw _ mw_41) (fun _ h9 => h9) rfl dn_C_addObject_45 ?_
  refine lv_iconst (v := 0) hx hb dn_C_addObject_48 (by decide) ?_
  refine gr_iast hx hb hK hP hD hS 3 0 rfl rfl (K.1 + 1) rfl (by omega) (by decide) dn_C_addObject_49 (fun H locs hP hD hS => ?_)
  have hP : va_P (dC, dI) vwCl [(a0, .inr (0, [.ref a1, .ref a2, .ref a3, .ref a4, .int (nI (K.1 + 1)), .int (nI en)])), (a1, .inl (cI, 13, .inl (upd K.2.1 (K.1 + 1) 1))), (a2, .inl (cI, 13, .inl (upd K.2.2.1 (K.1 + 1) v))), (a3, .inl (cI, 13, .inl (upd K.2.2.2.1 (K.1 + 1) 0))), (a4, .inl (cI, 13, .inl K.2.2.2.2))] H := hP
  have hD : va_D A [(a0, .inr (0, [.ref a1, .ref a2, .ref a3, .ref a4, .int (nI (K.1 + 1)), .int (nI en)])), (a1, .inl (cI, 13, .inl (upd K.2.1 (K.1 + 1) 1))), (a2, .inl (cI, 13, .inl (upd K.2.2.1 (K.1 + 1) v))), (a3, .inl (cI, 13, .inl (upd K.2.2.2.1 (K.1 + 1) 0))), (a4, .inl (cI, 13, .inl K.2.2.2.2))] := hD
  refine lv_aload_n hx hb dn_C_addObject_50 rfl (lv_at hl 0 rfl) ?_
  refine va_get (D := (dC, dI)) (ci := 0) (v := .ref a4) (C := rn_C) (T := tn_C) (N := 6) hx hb hw ml_C hown hK hP 0 rfl rfl 3 (by decide) (hw _ mw_40) (fun _ h9 => h9) rfl dn_C_addObject_51 ?_
  refine lv_aload_n hx hb dn_C_addObject_54 rfl (lv_at hl 0 rfl) ?_
  refine va_get (D := (dC, dI)) (ci := 0) (v := .int (nI (K.1 + 1))) (C := rn_C) (T := tn_C) (N := 6) hx hb hw ml_C hown hK hP 0 rfl rfl 4 (by decide) (hw _ mw_41) (fun _ h9 => h9) rfl dn_C_addObject_55 ?_
  refine lv_aload_n hx hb dn_C_addObject_58 rfl (lv_at hl 0 rfl) ?_
  refine va_get (D := (dC, dI)) (ci := 0) (v := .int (nI en)) (C := rn_C) (T := tn_C) (N := 6) hx hb hw ml_C hown hK hP 0 rfl rfl 5 (by decide) (hw _ mw_42) (fun _ h9 => h9) rfl dn_C_addObject_59 ?_
  refine gr_iast hx hb hK hP hD hS 4 0 rfl rfl (K.1 + 1) rfl (by omega) (by decide) dn_C_addObject_62 (fun H locs hP hD hS => ?_)
  have hP : va_P (dC, dI) vwCl [(a0, .inr (0, [.ref a1, .ref a2, .ref a3, .ref a4, .int (nI (K.1 + 1)), .int (nI en)])), (a1, .inl (cI, 13, .inl (upd K.2.1 (K.1 + 1) 1))), (a2, .inl (cI, 13, .inl (upd K.2.2.1 (K.1 + 1) v))), (a3, .inl (cI, 13, .inl (upd K.2.2.2.1 (K.1 + 1) 0))), (a4, .inl (cI, 13, .inl (upd K.2.2.2.2 (K.1 + 1) (nI en))))] H := hP
  have hD : va_D A [(a0, .inr (0, [.ref a1, .ref a2, .ref a3, .ref a4, .int (nI (K.1 + 1)), .int (nI en)])), (a1, .inl (cI, 13, .inl (upd K.2.1 (K.1 + 1) 1))), (a2, .inl (cI, 13, .inl (upd K.2.2.1 (K.1 + 1) v))), (a3, .inl (cI, 13, .inl (upd K.2.2.2.1 (K.1 + 1) 0))), (a4, .inl (cI, 13, .inl (upd K.2.2.2.2 (K.1 + 1) (nI en))))] := hD
  exact hret () _ _ _ _ trivial hP hD hS dn_C_addObject_63

set_option maxRecDepth 100000 in
set_option maxHeartbeats 4000000 in
theorem c_C_changeObject2 (l : Launch) (dC : Nat → ClassId) (dI : Nat → Nat → Nat) (cI cZ : ClassId) (a0 a1 a2 a3 a4 : Nat) (K : ct_T) (en : Nat) (ho : K.1 ≤ 12) (j : Nat) (hj1 : 1 ≤ j) (hj2 : j ≤ K.1) (v : Int32) : gc_V l yn_C_changeObject (gw yn_C_changeObject cn_C_changeObject 4 none) (rm_ 0 0) (dC, dI) vwCl (gT cI cZ) [.ref a0, .int 2, .int (nI j), .int v] [(a0, .inr (0, [.ref a1, .ref a2, .ref a3, .ref a4, .int (nI K.1), .int (nI en)])), (a1, .inl (cI, 13, .inl K.2.1)), (a2, .inl (cI, 13, .inl K.2.2.1)), (a3, .inl (cI, 13, .inl K.2.2.2.1)), (a4, .inl (cI, 13, .inl K.2.2.2.2))] (fun (_ : Unit) => True) (fun _ => [(a0, .inr (0, [.ref a1, .ref a2, .ref a3, .ref a4, .int (nI K.1), .int (nI en)])), (a1, .inl (cI, 13, .inl K.2.1)), (a2, .inl (cI, 13, .inl (upd K.2.2.1 j v))), (a3, .inl (cI, 13, .inl K.2.2.2.1)), (a4, .inl (cI, 13, .inl K.2.2.2.2))]) := by
  refine gc_V_of (cc := cn_C_changeObject) (maxL := 4) (by decide) rfl (Nat.le_of_ble_eq_true rfl) ?_
  intro pp ee ss mm ar be me cd A Q ls H0 H locs hx hb hml hown hts hK hP hD hS hA hl hret
  have hw : ∀ w ∈ gw_T, w.before ar ss = true := fun w h => hts w (List.mem_cons_of_mem _ h)
  have hl : lv_has ls 4 [(0, .ref a0), (1, .int 2), (2, .int (nI j)), (3, .int v)] := hl
  refine lv_iload_n hx hb dn_C_changeObject_0 rfl (lv_at hl 1 rfl) ?_
  refine lv_tableIn (off := 35) (tgt := 36) hx hb dn_C_changeObject_1 (by decide) (by decide) rfl (by decide) ?_
  refine lv_aload_n hx hb dn_C_changeObject_36 rfl (lv_at hl 0 rfl) ?_
  refine va_get (D := (dC, dI)) (ci := 0) (v := .ref a2) (C := rn_C) (T := tn_C) (N := 6) hx hb hw ml_C hown hK hP 0 rfl rfl 1 (by decide) (hw _ mw_38) (fun _ h9 => h9) rfl dn_C_changeObject_37 ?_
  refine lv_iload_n hx hb dn_C_changeObject_40 rfl (lv_at hl 2 rfl) ?_
  refine lv_iload_n hx hb dn_C_changeObject_41 rfl (lv_at hl 3 rfl) ?_
  refine gr_iast hx hb hK hP hD hS 2 0 rfl rfl j rfl (by omega) (by decide) dn_C_changeObject_42 (fun H locs hP hD hS => ?_)
  have hP : va_P (dC, dI) vwCl [(a0, .inr (0, [.ref a1, .ref a2, .ref a3, .ref a4, .int (nI K.1), .int (nI en)])), (a1, .inl (cI, 13, .inl K.2.1)), (a2, .inl (cI, 13, .inl (upd K.2.2.1 j v))), (a3, .inl (cI, 13, .inl K.2.2.2.1)), (a4, .inl (cI, 13, .inl K.2.2.2.2))] H := hP
  have hD : va_D A [(a0, .inr (0, [.ref a1, .ref a2, .ref a3, .ref a4, .int (nI K.1), .int (nI en)])), (a1, .inl (cI, 13, .inl K.2.1)), (a2, .inl (cI, 13, .inl (upd K.2.2.1 j v))), (a3, .inl (cI, 13, .inl K.2.2.2.1)), (a4, .inl (cI, 13, .inl K.2.2.2.2))] := hD
  refine lv_goto (tgt := 98) hx hb dn_C_changeObject_43 (by decide) ?_
  exact hret () _ _ _ _ trivial hP hD hS dn_C_changeObject_98

set_option maxRecDepth 100000 in
set_option maxHeartbeats 4000000 in
theorem c_C_changeObject3 (l : Launch) (dC : Nat → ClassId) (dI : Nat → Nat → Nat) (cI cZ : ClassId) (a0 a1 a2 a3 a4 : Nat) (K : ct_T) (en : Nat) (ho : K.1 ≤ 12) (j : Nat) (hj1 : 1 ≤ j) (hj2 : j ≤ K.1) (v : Int32) : gc_V l yn_C_changeObject (gw yn_C_changeObject cn_C_changeObject 4 none) (rm_ 0 0) (dC, dI) vwCl (gT cI cZ) [.ref a0, .int 3, .int (nI j), .int v] [(a0, .inr (0, [.ref a1, .ref a2, .ref a3, .ref a4, .int (nI K.1), .int (nI en)])), (a1, .inl (cI, 13, .inl K.2.1)), (a2, .inl (cI, 13, .inl K.2.2.1)), (a3, .inl (cI, 13, .inl K.2.2.2.1)), (a4, .inl (cI, 13, .inl K.2.2.2.2))] (fun (_ : Unit) => True) (fun _ => [(a0, .inr (0, [.ref a1, .ref a2, .ref a3, .ref a4, .int (nI K.1), .int (nI en)])), (a1, .inl (cI, 13, .inl K.2.1)), (a2, .inl (cI, 13, .inl K.2.2.1)), (a3, .inl (cI, 13, .inl (upd K.2.2.2.1 j (K.2.2.2.1 j ||| ((1 : Int32) <<< (v &&& 31)))))), (a4, .inl (cI, 13, .inl K.2.2.2.2))]) := by
  refine gc_V_of (cc := cn_C_changeObject) (maxL := 4) (by decide) rfl (Nat.le_of_ble_eq_true rfl) ?_
  intro pp ee ss mm ar be me cd A Q ls H0 H locs hx hb hml hown hts hK hP hD hS hA hl hret
  have hw : ∀ w ∈ gw_T, w.before ar ss = true := fun w h => hts w (List.mem_cons_of_mem _ h)
  have hl : lv_has ls 4 [(0, .ref a0), (1, .int 3), (2, .int (nI j)), (3, .int v)] := hl
  refine lv_iload_n hx hb dn_C_changeObject_0 rfl (lv_at hl 1 rfl) ?_
  refine lv_tableIn (off := 45) (tgt := 46) hx hb dn_C_changeObject_1 (by decide) (by decide) rfl (by decide) ?_
  refine lv_aload_n hx hb dn_C_changeObject_46 rfl (lv_at hl 0 rfl) ?_
  refine va_get (D := (dC, dI)) (ci := 0) (v := .ref a3) (C := rn_C) (T := tn_C) (N := 6) hx hb hw ml_C hown hK hP 0 rfl rfl 2 (by decide) (hw _ mw_39) (fun _ h9 => h9) rfl dn_C_changeObject_47 ?_
  refine lv_iload_n hx hb dn_C_changeObject_50 rfl (lv_at hl 2 rfl) ?_
  refine lv_dup2_11 hx hb dn_C_changeObject_51 rfl rfl ?_
  refine gr_iald hx hb hK hP 3 0 rfl rfl j rfl (by omega) (by decide) dn_C_changeObject_52 ?_
  refine lv_iconst (v := 1) hx hb dn_C_changeObject_53 (by decide) ?_
  refine lv_iload_n hx hb dn_C_changeObject_54 rfl (lv_at hl 3 rfl) ?_
  refine lv_ishl hx hb dn_C_changeObject_55 ?_
  refine lv_ior hx hb dn_C_changeObject_56 ?_
  refine gr_iast hx hb hK hP hD hS 3 0 rfl rfl j rfl (by omega) (by decide) dn_C_changeObject_57 (fun H locs hP hD hS => ?_)
  have hP : va_P (dC, dI) vwCl [(a0, .inr (0, [.ref a1, .ref a2, .ref a3, .ref a4, .int (nI K.1), .int (nI en)])), (a1, .inl (cI, 13, .inl K.2.1)), (a2, .inl (cI, 13, .inl K.2.2.1)), (a3, .inl (cI, 13, .inl (upd K.2.2.2.1 j ((K.2.2.2.1 j) ||| (1 <<< (v &&& 31)))))), (a4, .inl (cI, 13, .inl K.2.2.2.2))] H := hP
  have hD : va_D A [(a0, .inr (0, [.ref a1, .ref a2, .ref a3, .ref a4, .int (nI K.1), .int (nI en)])), (a1, .inl (cI, 13, .inl K.2.1)), (a2, .inl (cI, 13, .inl K.2.2.1)), (a3, .inl (cI, 13, .inl (upd K.2.2.2.1 j ((K.2.2.2.1 j) ||| (1 <<< (v &&& 31)))))), (a4, .inl (cI, 13, .inl K.2.2.2.2))] := hD
  refine lv_goto (tgt := 98) hx hb dn_C_changeObject_58 (by decide) ?_
  exact hret () _ _ _ _ trivial hP hD hS dn_C_changeObject_98

set_option maxRecDepth 100000 in
set_option maxHeartbeats 4000000 in
theorem c_C_changeObject4 (l : Launch) (dC : Nat → ClassId) (dI : Nat → Nat → Nat) (cI cZ : ClassId) (a0 a1 a2 a3 a4 : Nat) (K : ct_T) (en : Nat) (ho : K.1 ≤ 12) (j : Nat) (hj1 : 1 ≤ j) (hj2 : j ≤ K.1) (v : Int32) : gc_V l yn_C_changeObject (gw yn_C_changeObject cn_C_changeObject 4 none) (rm_ 0 0) (dC, dI) vwCl (gT cI cZ) [.ref a0, .int 4, .int (nI j), .int v] [(a0, .inr (0, [.ref a1, .ref a2, .ref a3, .ref a4, .int (nI K.1), .int (nI en)])), (a1, .inl (cI, 13, .inl K.2.1)), (a2, .inl (cI, 13, .inl K.2.2.1)), (a3, .inl (cI, 13, .inl K.2.2.2.1)), (a4, .inl (cI, 13, .inl K.2.2.2.2))] (fun (_ : Unit) => True) (fun _ => [(a0, .inr (0, [.ref a1, .ref a2, .ref a3, .ref a4, .int (nI K.1), .int (nI en)])), (a1, .inl (cI, 13, .inl K.2.1)), (a2, .inl (cI, 13, .inl K.2.2.1)), (a3, .inl (cI, 13, .inl (upd K.2.2.2.1 j (K.2.2.2.1 j &&& (((1 : Int32) <<< (v &&& 31)) ^^^ (-1)))))), (a4, .inl (cI, 13, .inl K.2.2.2.2))]) := by
  refine gc_V_of (cc := cn_C_changeObject) (maxL := 4) (by decide) rfl (Nat.le_of_ble_eq_true rfl) ?_
  intro pp ee ss mm ar be me cd A Q ls H0 H locs hx hb hml hown hts hK hP hD hS hA hl hret
  have hw : ∀ w ∈ gw_T, w.before ar ss = true := fun w h => hts w (List.mem_cons_of_mem _ h)
  have hl : lv_has ls 4 [(0, .ref a0), (1, .int 4), (2, .int (nI j)), (3, .int v)] := hl
  refine lv_iload_n hx hb dn_C_changeObject_0 rfl (lv_at hl 1 rfl) ?_
  refine lv_tableIn (off := 60) (tgt := 61) hx hb dn_C_changeObject_1 (by decide) (by decide) rfl (by decide) ?_
  refine lv_aload_n hx hb dn_C_changeObject_61 rfl (lv_at hl 0 rfl) ?_
  refine va_get (D := (dC, dI)) (ci := 0) (v := .ref a3) (C := rn_C) (T := tn_C) (N := 6) hx hb hw ml_C hown hK hP 0 rfl rfl 2 (by decide) (hw _ mw_39) (fun _ h9 => h9) rfl dn_C_changeObject_62 ?_
  refine lv_iload_n hx hb dn_C_changeObject_65 rfl (lv_at hl 2 rfl) ?_
  refine lv_dup2_11 hx hb dn_C_changeObject_66 rfl rfl ?_
  refine gr_iald hx hb hK hP 3 0 rfl rfl j rfl (by omega) (by decide) dn_C_changeObject_67 ?_
  refine lv_iconst (v := 1) hx hb dn_C_changeObject_68 (by decide) ?_
  refine lv_iload_n hx hb dn_C_changeObject_69 rfl (lv_at hl 3 rfl) ?_
  refine lv_ishl hx hb dn_C_changeObject_70 ?_
  refine lv_iconst (v := (-1)) hx hb dn_C_changeObject_71 (by decide) ?_
  refine lv_ixor hx hb dn_C_changeObject_72 ?_
  refine lv_iand hx hb dn_C_changeObject_73 ?_
  refine gr_iast hx hb hK hP hD hS 3 0 rfl rfl j rfl (by omega) (by decide) dn_C_changeObject_74 (fun H locs hP hD hS => ?_)
  have hP : va_P (dC, dI) vwCl [(a0, .inr (0, [.ref a1, .ref a2, .ref a3, .ref a4, .int (nI K.1), .int (nI en)])), (a1, .inl (cI, 13, .inl K.2.1)), (a2, .inl (cI, 13, .inl K.2.2.1)), (a3, .inl (cI, 13, .inl (upd K.2.2.2.1 j ((K.2.2.2.1 j) &&& ((1 <<< (v &&& 31)) ^^^ (-1)))))), (a4, .inl (cI, 13, .inl K.2.2.2.2))] H := hP
  have hD : va_D A [(a0, .inr (0, [.ref a1, .ref a2, .ref a3, .ref a4, .int (nI K.1), .int (nI en)])), (a1, .inl (cI, 13, .inl K.2.1)), (a2, .inl (cI, 13, .inl K.2.2.1)), (a3, .inl (cI, 13, .inl (upd K.2.2.2.1 j ((K.2.2.2.1 j) &&& ((1 <<< (v &&& 31)) ^^^ (-1)))))), (a4, .inl (cI, 13, .inl K.2.2.2.2))] := hD
  refine lv_goto (tgt := 98) hx hb dn_C_changeObject_75 (by decide) ?_
  exact hret () _ _ _ _ trivial hP hD hS dn_C_changeObject_98

set_option maxRecDepth 100000 in
set_option maxHeartbeats 4000000 in
theorem c_C_changeObject5 (l : Launch) (dC : Nat → ClassId) (dI : Nat → Nat → Nat) (cI cZ : ClassId) (a0 a1 a2 a3 a4 : Nat) (K : ct_T) (en : Nat) (ho : K.1 ≤ 12) (j : Nat) (hj1 : 1 ≤ j) (hj2 : j ≤ K.1) (v : Int32) : gc_V l yn_C_changeObject (gw yn_C_changeObject cn_C_changeObject 4 none) (rm_ 0 0) (dC, dI) vwCl (gT cI cZ) [.ref a0, .int 5, .int (nI j), .int v] [(a0, .inr (0, [.ref a1, .ref a2, .ref a3, .ref a4, .int (nI K.1), .int (nI en)])), (a1, .inl (cI, 13, .inl K.2.1)), (a2, .inl (cI, 13, .inl K.2.2.1)), (a3, .inl (cI, 13, .inl K.2.2.2.1)), (a4, .inl (cI, 13, .inl K.2.2.2.2))] (fun (_ : Unit) => True) (fun _ => [(a0, .inr (0, [.ref a1, .ref a2, .ref a3, .ref a4, .int (nI K.1), .int (nI en)])), (a1, .inl (cI, 13, .inl (upd K.2.1 j 2))), (a2, .inl (cI, 13, .inl K.2.2.1)), (a3, .inl (cI, 13, .inl K.2.2.2.1)), (a4, .inl (cI, 13, .inl K.2.2.2.2))]) := by
  refine gc_V_of (cc := cn_C_changeObject) (maxL := 4) (by decide) rfl (Nat.le_of_ble_eq_true rfl) ?_
  intro pp ee ss mm ar be me cd A Q ls H0 H locs hx hb hml hown hts hK hP hD hS hA hl hret
  have hw : ∀ w ∈ gw_T, w.before ar ss = true := fun w h => hts w (List.mem_cons_of_mem _ h)
  have hl : lv_has ls 4 [(0, .ref a0), (1, .int 5), (2, .int (nI j)), (3, .int v)] := hl
  refine lv_iload_n hx hb dn_C_changeObject_0 rfl (lv_at hl 1 rfl) ?_
  refine lv_tableIn (off := 77) (tgt := 78) hx hb dn_C_changeObject_1 (by decide) (by decide) rfl (by decide) ?_
  refine lv_aload_n hx hb dn_C_changeObject_78 rfl (lv_at hl 0 rfl) ?_
  refine va_get (D := (dC, dI)) (ci := 0) (v := .ref a1) (C := rn_C) (T := tn_C) (N := 6) hx hb hw ml_C hown hK hP 0 rfl rfl 0 (by decide) (hw _ mw_37) (fun _ h9 => h9) rfl dn_C_changeObject_79 ?_
  refine lv_iload_n hx hb dn_C_changeObject_82 rfl (lv_at hl 2 rfl) ?_
  refine lv_iconst (v := 2) hx hb dn_C_changeObject_83 (by decide) ?_
  refine gr_iast hx hb hK hP hD hS 1 0 rfl rfl j rfl (by omega) (by decide) dn_C_changeObject_84 (fun H locs hP hD hS => ?_)
  have hP : va_P (dC, dI) vwCl [(a0, .inr (0, [.ref a1, .ref a2, .ref a3, .ref a4, .int (nI K.1), .int (nI en)])), (a1, .inl (cI, 13, .inl (upd K.2.1 j 2))), (a2, .inl (cI, 13, .inl K.2.2.1)), (a3, .inl (cI, 13, .inl K.2.2.2.1)), (a4, .inl (cI, 13, .inl K.2.2.2.2))] H := hP
  have hD : va_D A [(a0, .inr (0, [.ref a1, .ref a2, .ref a3, .ref a4, .int (nI K.1), .int (nI en)])), (a1, .inl (cI, 13, .inl (upd K.2.1 j 2))), (a2, .inl (cI, 13, .inl K.2.2.1)), (a3, .inl (cI, 13, .inl K.2.2.2.1)), (a4, .inl (cI, 13, .inl K.2.2.2.2))] := hD
  refine lv_goto (tgt := 98) hx hb dn_C_changeObject_85 (by decide) ?_
  exact hret () _ _ _ _ trivial hP hD hS dn_C_changeObject_98

set_option maxRecDepth 100000 in
set_option maxHeartbeats 4000000 in
theorem c_C_changeObject6 (l : Launch) (dC : Nat → ClassId) (dI : Nat → Nat → Nat) (cI cZ : ClassId) (a0 a1 a2 a3 a4 : Nat) (K : ct_T) (en : Nat) (ho : K.1 ≤ 12) (j : Nat) (hj1 : 1 ≤ j) (hj2 : j ≤ K.1) (v : Int32) : gc_V l yn_C_changeObject (gw yn_C_changeObject cn_C_changeObject 4 none) (rm_ 0 0) (dC, dI) vwCl (gT cI cZ) [.ref a0, .int 6, .int (nI j), .int v] [(a0, .inr (0, [.ref a1, .ref a2, .ref a3, .ref a4, .int (nI K.1), .int (nI en)])), (a1, .inl (cI, 13, .inl K.2.1)), (a2, .inl (cI, 13, .inl K.2.2.1)), (a3, .inl (cI, 13, .inl K.2.2.2.1)), (a4, .inl (cI, 13, .inl K.2.2.2.2))] (fun (_ : Unit) => True) (fun _ => [(a0, .inr (0, [.ref a1, .ref a2, .ref a3, .ref a4, .int (nI K.1), .int (nI en)])), (a1, .inl (cI, 13, .inl (upd K.2.1 j 3))), (a2, .inl (cI, 13, .inl K.2.2.1)), (a3, .inl (cI, 13, .inl K.2.2.2.1)), (a4, .inl (cI, 13, .inl K.2.2.2.2))]) := by
  refine gc_V_of (cc := cn_C_changeObject) (maxL := 4) (by decide) rfl (Nat.le_of_ble_eq_true rfl) ?_
  intro pp ee ss mm ar be me cd A Q ls H0 H locs hx hb hml hown hts hK hP hD hS hA hl hret
  have hw : ∀ w ∈ gw_T, w.before ar ss = true := fun w h => hts w (List.mem_cons_of_mem _ h)
  have hl : lv_has ls 4 [(0, .ref a0), (1, .int 6), (2, .int (nI j)), (3, .int v)] := hl
  refine lv_iload_n hx hb dn_C_changeObject_0 rfl (lv_at hl 1 rfl) ?_
  refine lv_tableIn (off := 87) (tgt := 88) hx hb dn_C_changeObject_1 (by decide) (by decide) rfl (by decide) ?_
  refine lv_aload_n hx hb dn_C_changeObject_88 rfl (lv_at hl 0 rfl) ?_
  refine va_get (D := (dC, dI)) (ci := 0) (v := .ref a1) (C := rn_C) (T := tn_C) (N := 6) hx hb hw ml_C hown hK hP 0 rfl rfl 0 (by decide) (hw _ mw_37) (fun _ h9 => h9) rfl dn_C_changeObject_89 ?_
  refine lv_iload_n hx hb dn_C_changeObject_92 rfl (lv_at hl 2 rfl) ?_
  refine lv_iconst (v := 3) hx hb dn_C_changeObject_93 (by decide) ?_
  refine gr_iast hx hb hK hP hD hS 1 0 rfl rfl j rfl (by omega) (by decide) dn_C_changeObject_94 (fun H locs hP hD hS => ?_)
  have hP : va_P (dC, dI) vwCl [(a0, .inr (0, [.ref a1, .ref a2, .ref a3, .ref a4, .int (nI K.1), .int (nI en)])), (a1, .inl (cI, 13, .inl (upd K.2.1 j 3))), (a2, .inl (cI, 13, .inl K.2.2.1)), (a3, .inl (cI, 13, .inl K.2.2.2.1)), (a4, .inl (cI, 13, .inl K.2.2.2.2))] H := hP
  have hD : va_D A [(a0, .inr (0, [.ref a1, .ref a2, .ref a3, .ref a4, .int (nI K.1), .int (nI en)])), (a1, .inl (cI, 13, .inl (upd K.2.1 j 3))), (a2, .inl (cI, 13, .inl K.2.2.1)), (a3, .inl (cI, 13, .inl K.2.2.2.1)), (a4, .inl (cI, 13, .inl K.2.2.2.2))] := hD
  refine lv_goto (tgt := 98) hx hb dn_C_changeObject_95 (by decide) ?_
  exact hret () _ _ _ _ trivial hP hD hS dn_C_changeObject_98
