theorem dn_J_numberOfLeadingZeros_0 : decode cn_J_numberOfLeadingZeros 0 = .ok (.iload_n 0, 1) := by decide +kernel
theorem dn_J_numberOfLeadingZeros_1 : decode cn_J_numberOfLeadingZeros 1 = .ok (.ifCond .gt 14, 3) := by decide +kernel
theorem dn_J_numberOfLeadingZeros_4 : decode cn_J_numberOfLeadingZeros 4 = .ok (.iload_n 0, 1) := by decide +kernel
theorem dn_J_numberOfLeadingZeros_5 : decode cn_J_numberOfLeadingZeros 5 = .ok (.ifCond .ne 8, 3) := by decide +kernel
theorem dn_J_numberOfLeadingZeros_8 : decode cn_J_numberOfLeadingZeros 8 = .ok (.bipush 32, 2) := by decide +kernel
theorem dn_J_numberOfLeadingZeros_10 : decode cn_J_numberOfLeadingZeros 10 = .ok (.goto 4, 3) := by decide +kernel
theorem dn_J_numberOfLeadingZeros_13 : decode cn_J_numberOfLeadingZeros 13 = .ok (.iconst 0, 1) := by decide +kernel
theorem dn_J_numberOfLeadingZeros_14 : decode cn_J_numberOfLeadingZeros 14 = .ok (.ireturn, 1) := by decide +kernel
theorem dn_J_numberOfLeadingZeros_15 : decode cn_J_numberOfLeadingZeros 15 = .ok (.bipush 31, 2) := by decide +kernel
theorem dn_J_numberOfLeadingZeros_17 : decode cn_J_numberOfLeadingZeros 17 = .ok (.istore_n 1, 1) := by decide +kernel
theorem dn_J_numberOfLeadingZeros_18 : decode cn_J_numberOfLeadingZeros 18 = .ok (.iload_n 0, 1) := by decide +kernel
theorem dn_J_numberOfLeadingZeros_19 : decode cn_J_numberOfLeadingZeros 19 = .ok (.ldc_w 264, 3) := by decide +kernel
theorem dn_J_numberOfLeadingZeros_22 : decode cn_J_numberOfLeadingZeros 22 = .ok (.if_icmp .lt 11, 3) := by decide +kernel
theorem dn_J_numberOfLeadingZeros_25 : decode cn_J_numberOfLeadingZeros 25 = .ok (.iinc 1 (-16), 3) := by decide +kernel
theorem dn_J_numberOfLeadingZeros_28 : decode cn_J_numberOfLeadingZeros 28 = .ok (.iload_n 0, 1) := by decide +kernel
theorem dn_J_numberOfLeadingZeros_29 : decode cn_J_numberOfLeadingZeros 29 = .ok (.bipush 16, 2) := by decide +kernel
theorem dn_J_numberOfLeadingZeros_31 : decode cn_J_numberOfLeadingZeros 31 = .ok (.iushr, 1) := by decide +kernel
theorem dn_J_numberOfLeadingZeros_32 : decode cn_J_numberOfLeadingZeros 32 = .ok (.istore_n 0, 1) := by decide +kernel
theorem dn_J_numberOfLeadingZeros_33 : decode cn_J_numberOfLeadingZeros 33 = .ok (.iload_n 0, 1) := by decide +kernel
theorem dn_J_numberOfLeadingZeros_34 : decode cn_J_numberOfLeadingZeros 34 = .ok (.sipush 256, 3) := by decide +kernel
theorem dn_J_numberOfLeadingZeros_37 : decode cn_J_numberOfLeadingZeros 37 = .ok (.if_icmp .lt 11, 3) := by decide +kernel
theorem dn_J_numberOfLeadingZeros_40 : decode cn_J_numberOfLeadingZeros 40 = .ok (.iinc 1 (-8), 3) := by decide +kernel
theorem dn_J_numberOfLeadingZeros_43 : decode cn_J_numberOfLeadingZeros 43 = .ok (.iload_n 0, 1) := by decide +kernel
theorem dn_J_numberOfLeadingZeros_44 : decode cn_J_numberOfLeadingZeros 44 = .ok (.bipush 8, 2) := by decide +kernel
theorem dn_J_numberOfLeadingZeros_46 : decode cn_J_numberOfLeadingZeros 46 = .ok (.iushr, 1) := by decide +kernel
theorem dn_J_numberOfLeadingZeros_47 : decode cn_J_numberOfLeadingZeros 47 = .ok (.istore_n 0, 1) := by decide +kernel
theorem dn_J_numberOfLeadingZeros_48 : decode cn_J_numberOfLeadingZeros 48 = .ok (.iload_n 0, 1) := by decide +kernel
theorem dn_J_numberOfLeadingZeros_49 : decode cn_J_numberOfLeadingZeros 49 = .ok (.bipush 16, 2) := by decide +kernel
theorem dn_J_numberOfLeadingZeros_51 : decode cn_J_numberOfLeadingZeros 51 = .ok (.if_icmp .lt 10, 3) := by decide +kernel
theorem dn_J_numberOfLeadingZeros_54 : decode cn_J_numberOfLeadingZeros 54 = .ok (.iinc 1 (-4), 3) := by decide +kernel
theorem dn_J_numberOfLeadingZeros_57 : decode cn_J_numberOfLeadingZeros 57 = .ok (.iload_n 0, 1) := by decide +kernel
theorem dn_J_numberOfLeadingZeros_58 : decode cn_J_numberOfLeadingZeros 58 = .ok (.iconst 4, 1) := by decide +kernel
theorem dn_J_numberOfLeadingZeros_59 : decode cn_J_numberOfLeadingZeros 59 = .ok (.iushr, 1) := by decide +kernel
theorem dn_J_numberOfLeadingZeros_60 : decode cn_J_numberOfLeadingZeros 60 = .ok (.istore_n 0, 1) := by decide +kernel
theorem dn_J_numberOfLeadingZeros_61 : decode cn_J_numberOfLeadingZeros 61 = .ok (.iload_n 0, 1) := by decide +kernel
theorem dn_J_numberOfLeadingZeros_62 : decode cn_J_numberOfLeadingZeros 62 = .ok (.iconst 4, 1) := by decide +kernel
theorem dn_J_numberOfLeadingZeros_63 : decode cn_J_numberOfLeadingZeros 63 = .ok (.if_icmp .lt 10, 3) := by decide +kernel
theorem dn_J_numberOfLeadingZeros_66 : decode cn_J_numberOfLeadingZeros 66 = .ok (.iinc 1 (-2), 3) := by decide +kernel
theorem dn_J_numberOfLeadingZeros_69 : decode cn_J_numberOfLeadingZeros 69 = .ok (.iload_n 0, 1) := by decide +kernel
theorem dn_J_numberOfLeadingZeros_70 : decode cn_J_numberOfLeadingZeros 70 = .ok (.iconst 2, 1) := by decide +kernel
theorem dn_J_numberOfLeadingZeros_71 : decode cn_J_numberOfLeadingZeros 71 = .ok (.iushr, 1) := by decide +kernel
theorem dn_J_numberOfLeadingZeros_72 : decode cn_J_numberOfLeadingZeros 72 = .ok (.istore_n 0, 1) := by decide +kernel
theorem dn_J_numberOfLeadingZeros_73 : decode cn_J_numberOfLeadingZeros 73 = .ok (.iload_n 1, 1) := by decide +kernel
theorem dn_J_numberOfLeadingZeros_74 : decode cn_J_numberOfLeadingZeros 74 = .ok (.iload_n 0, 1) := by decide +kernel
theorem dn_J_numberOfLeadingZeros_75 : decode cn_J_numberOfLeadingZeros 75 = .ok (.iconst 1, 1) := by decide +kernel
theorem dn_J_numberOfLeadingZeros_76 : decode cn_J_numberOfLeadingZeros 76 = .ok (.iushr, 1) := by decide +kernel
theorem dn_J_numberOfLeadingZeros_77 : decode cn_J_numberOfLeadingZeros 77 = .ok (.isub, 1) := by decide +kernel
theorem dn_J_numberOfLeadingZeros_78 : decode cn_J_numberOfLeadingZeros 78 = .ok (.ireturn, 1) := by decide +kernel
theorem dn_J_highestOneBit_0 : decode cn_J_highestOneBit 0 = .ok (.iload_n 0, 1) := by decide +kernel
theorem dn_J_highestOneBit_1 : decode cn_J_highestOneBit 1 = .ok (.ldc 127, 2) := by decide +kernel
theorem dn_J_highestOneBit_3 : decode cn_J_highestOneBit 3 = .ok (.iload_n 0, 1) := by decide +kernel
theorem dn_J_highestOneBit_4 : decode cn_J_highestOneBit 4 = .ok (.invokestatic 51, 3) := by decide +kernel
theorem dn_J_highestOneBit_7 : decode cn_J_highestOneBit 7 = .ok (.iushr, 1) := by decide +kernel
theorem dn_J_highestOneBit_8 : decode cn_J_highestOneBit 8 = .ok (.iand, 1) := by decide +kernel
theorem dn_J_highestOneBit_9 : decode cn_J_highestOneBit 9 = .ok (.ireturn, 1) := by decide +kernel
theorem dn_E_stepTowards_0 : decode cn_E_stepTowards 0 = .ok (.aload_n 0, 1) := by decide +kernel
theorem dn_E_stepTowards_1 : decode cn_E_stepTowards 1 = .ok (.getfield 27, 3) := by decide +kernel
theorem dn_E_stepTowards_4 : decode cn_E_stepTowards 4 = .ok (.iconst 1, 1) := by decide +kernel
theorem dn_E_stepTowards_5 : decode cn_E_stepTowards 5 = .ok (.isub, 1) := by decide +kernel
theorem dn_E_stepTowards_6 : decode cn_E_stepTowards 6 = .ok (.invokestatic 42, 3) := by decide +kernel
theorem dn_E_stepTowards_9 : decode cn_E_stepTowards 9 = .ok (.istore_n 3, 1) := by decide +kernel
theorem dn_E_stepTowards_10 : decode cn_E_stepTowards 10 = .ok (.iload_n 1, 1) := by decide +kernel
theorem dn_E_stepTowards_11 : decode cn_E_stepTowards 11 = .ok (.aload_n 0, 1) := by decide +kernel
theorem dn_E_stepTowards_12 : decode cn_E_stepTowards 12 = .ok (.getfield 24, 3) := by decide +kernel
theorem dn_E_stepTowards_15 : decode cn_E_stepTowards 15 = .ok (.iload_n 3, 1) := by decide +kernel
theorem dn_E_stepTowards_16 : decode cn_E_stepTowards 16 = .ok (.iadd, 1) := by decide +kernel
theorem dn_E_stepTowards_17 : decode cn_E_stepTowards 17 = .ok (.if_icmp .lt 7, 3) := by decide +kernel
theorem dn_E_stepTowards_20 : decode cn_E_stepTowards 20 = .ok (.iconst 1, 1) := by decide +kernel
theorem dn_E_stepTowards_21 : decode cn_E_stepTowards 21 = .ok (.goto 4, 3) := by decide +kernel
theorem dn_E_stepTowards_24 : decode cn_E_stepTowards 24 = .ok (.iconst 0, 1) := by decide +kernel
theorem dn_E_stepTowards_25 : decode cn_E_stepTowards 25 = .ok (.istore 4, 2) := by decide +kernel
theorem dn_E_stepTowards_27 : decode cn_E_stepTowards 27 = .ok (.aload_n 0, 1) := by decide +kernel
theorem dn_E_stepTowards_28 : decode cn_E_stepTowards 28 = .ok (.getfield 9, 3) := by decide +kernel
theorem dn_E_stepTowards_31 : decode cn_E_stepTowards 31 = .ok (.iload_n 2, 1) := by decide +kernel
theorem dn_E_stepTowards_32 : decode cn_E_stepTowards 32 = .ok (.iload 4, 2) := by decide +kernel
theorem dn_E_stepTowards_34 : decode cn_E_stepTowards 34 = .ok (.bastore, 1) := by decide +kernel
theorem dn_E_stepTowards_35 : decode cn_E_stepTowards 35 = .ok (.aload_n 0, 1) := by decide +kernel
theorem dn_E_stepTowards_36 : decode cn_E_stepTowards 36 = .ok (.getfield 13, 3) := by decide +kernel
theorem dn_E_stepTowards_39 : decode cn_E_stepTowards 39 = .ok (.iload_n 2, 1) := by decide +kernel
theorem dn_E_stepTowards_40 : decode cn_E_stepTowards 40 = .ok (.iload 4, 2) := by decide +kernel
theorem dn_E_stepTowards_42 : decode cn_E_stepTowards 42 = .ok (.ifCond .eq 10, 3) := by decide +kernel
theorem dn_E_stepTowards_45 : decode cn_E_stepTowards 45 = .ok (.aload_n 0, 1) := by decide +kernel
theorem dn_E_stepTowards_46 : decode cn_E_stepTowards 46 = .ok (.getfield 24, 3) := by decide +kernel
theorem dn_E_stepTowards_49 : decode cn_E_stepTowards 49 = .ok (.goto 9, 3) := by decide +kernel
theorem dn_E_stepTowards_52 : decode cn_E_stepTowards 52 = .ok (.aload_n 0, 1) := by decide +kernel
theorem dn_E_stepTowards_53 : decode cn_E_stepTowards 53 = .ok (.getfield 24, 3) := by decide +kernel
theorem dn_E_stepTowards_56 : decode cn_E_stepTowards 56 = .ok (.iload_n 3, 1) := by decide +kernel
theorem dn_E_stepTowards_57 : decode cn_E_stepTowards 57 = .ok (.iadd, 1) := by decide +kernel
theorem dn_E_stepTowards_58 : decode cn_E_stepTowards 58 = .ok (.iastore, 1) := by decide +kernel
theorem dn_E_stepTowards_59 : decode cn_E_stepTowards 59 = .ok (.aload_n 0, 1) := by decide +kernel
theorem dn_E_stepTowards_60 : decode cn_E_stepTowards 60 = .ok (.getfield 17, 3) := by decide +kernel
theorem dn_E_stepTowards_63 : decode cn_E_stepTowards 63 = .ok (.iload_n 2, 1) := by decide +kernel
theorem dn_E_stepTowards_64 : decode cn_E_stepTowards 64 = .ok (.iload 4, 2) := by decide +kernel
theorem dn_E_stepTowards_66 : decode cn_E_stepTowards 66 = .ok (.ifCond .eq 7, 3) := by decide +kernel
theorem dn_E_stepTowards_69 : decode cn_E_stepTowards 69 = .ok (.iload_n 3, 1) := by decide +kernel
theorem dn_E_stepTowards_70 : decode cn_E_stepTowards 70 = .ok (.goto 9, 3) := by decide +kernel
theorem dn_E_stepTowards_73 : decode cn_E_stepTowards 73 = .ok (.aload_n 0, 1) := by decide +kernel
theorem dn_E_stepTowards_74 : decode cn_E_stepTowards 74 = .ok (.getfield 27, 3) := by decide +kernel
theorem dn_E_stepTowards_77 : decode cn_E_stepTowards 77 = .ok (.iload_n 3, 1) := by decide +kernel
theorem dn_E_stepTowards_78 : decode cn_E_stepTowards 78 = .ok (.isub, 1) := by decide +kernel
theorem dn_E_stepTowards_79 : decode cn_E_stepTowards 79 = .ok (.iastore, 1) := by decide +kernel
theorem dn_E_stepTowards_80 : decode cn_E_stepTowards 80 = .ok (.aload_n 0, 1) := by decide +kernel
theorem dn_E_stepTowards_81 : decode cn_E_stepTowards 81 = .ok (.iload 4, 2) := by decide +kernel
theorem dn_E_stepTowards_83 : decode cn_E_stepTowards 83 = .ok (.ifCond .eq 12, 3) := by decide +kernel
theorem dn_E_stepTowards_86 : decode cn_E_stepTowards 86 = .ok (.aload_n 0, 1) := by decide +kernel
theorem dn_E_stepTowards_87 : decode cn_E_stepTowards 87 = .ok (.getfield 24, 3) := by decide +kernel
theorem dn_E_stepTowards_90 : decode cn_E_stepTowards 90 = .ok (.iload_n 3, 1) := by decide +kernel
theorem dn_E_stepTowards_91 : decode cn_E_stepTowards 91 = .ok (.iadd, 1) := by decide +kernel
theorem dn_E_stepTowards_92 : decode cn_E_stepTowards 92 = .ok (.goto 7, 3) := by decide +kernel
theorem dn_E_stepTowards_95 : decode cn_E_stepTowards 95 = .ok (.aload_n 0, 1) := by decide +kernel
theorem dn_E_stepTowards_96 : decode cn_E_stepTowards 96 = .ok (.getfield 24, 3) := by decide +kernel
theorem dn_E_stepTowards_99 : decode cn_E_stepTowards 99 = .ok (.putfield 24, 3) := by decide +kernel
theorem dn_E_stepTowards_102 : decode cn_E_stepTowards 102 = .ok (.aload_n 0, 1) := by decide +kernel
theorem dn_E_stepTowards_103 : decode cn_E_stepTowards 103 = .ok (.iload 4, 2) := by decide +kernel
theorem dn_E_stepTowards_105 : decode cn_E_stepTowards 105 = .ok (.ifCond .eq 12, 3) := by decide +kernel
theorem dn_E_stepTowards_108 : decode cn_E_stepTowards 108 = .ok (.aload_n 0, 1) := by decide +kernel
theorem dn_E_stepTowards_109 : decode cn_E_stepTowards 109 = .ok (.getfield 27, 3) := by decide +kernel
theorem dn_E_stepTowards_112 : decode cn_E_stepTowards 112 = .ok (.iload_n 3, 1) := by decide +kernel
theorem dn_E_stepTowards_113 : decode cn_E_stepTowards 113 = .ok (.isub, 1) := by decide +kernel
theorem dn_E_stepTowards_114 : decode cn_E_stepTowards 114 = .ok (.goto 4, 3) := by decide +kernel
theorem dn_E_stepTowards_117 : decode cn_E_stepTowards 117 = .ok (.iload_n 3, 1) := by decide +kernel
theorem dn_E_stepTowards_118 : decode cn_E_stepTowards 118 = .ok (.putfield 27, 3) := by decide +kernel
theorem dn_E_stepTowards_121 : decode cn_E_stepTowards 121 = .ok (.return_, 1) := by decide +kernel
theorem dn_E_goDown_0 : decode cn_E_goDown 0 = .ok (.aload_n 0, 1) := by decide +kernel
theorem dn_E_goDown_1 : decode cn_E_goDown 1 = .ok (.iconst 0, 1) := by decide +kernel
theorem dn_E_goDown_2 : decode cn_E_goDown 2 = .ok (.putfield 20, 3) := by decide +kernel
theorem dn_E_goDown_5 : decode cn_E_goDown 5 = .ok (.aload_n 0, 1) := by decide +kernel
theorem dn_E_goDown_6 : decode cn_E_goDown 6 = .ok (.iconst 0, 1) := by decide +kernel
theorem dn_E_goDown_7 : decode cn_E_goDown 7 = .ok (.putfield 24, 3) := by decide +kernel
theorem dn_E_goDown_10 : decode cn_E_goDown 10 = .ok (.aload_n 0, 1) := by decide +kernel
theorem dn_E_goDown_11 : decode cn_E_goDown 11 = .ok (.iload_n 2, 1) := by decide +kernel
theorem dn_E_goDown_12 : decode cn_E_goDown 12 = .ok (.putfield 27, 3) := by decide +kernel
theorem dn_E_goDown_15 : decode cn_E_goDown 15 = .ok (.iconst 0, 1) := by decide +kernel
theorem dn_E_goDown_16 : decode cn_E_goDown 16 = .ok (.istore 4, 2) := by decide +kernel
theorem dn_E_goDown_18 : decode cn_E_goDown 18 = .ok (.iload 4, 2) := by decide +kernel
theorem dn_E_goDown_20 : decode cn_E_goDown 20 = .ok (.bipush 6, 2) := by decide +kernel
theorem dn_E_goDown_22 : decode cn_E_goDown 22 = .ok (.if_icmp .ge 66, 3) := by decide +kernel
theorem dn_E_goDown_25 : decode cn_E_goDown 25 = .ok (.iload_n 3, 1) := by decide +kernel
theorem dn_E_goDown_26 : decode cn_E_goDown 26 = .ok (.ifCond .eq 22, 3) := by decide +kernel
theorem dn_E_goDown_29 : decode cn_E_goDown 29 = .ok (.iload_n 1, 1) := by decide +kernel
theorem dn_E_goDown_30 : decode cn_E_goDown 30 = .ok (.aload_n 0, 1) := by decide +kernel
theorem dn_E_goDown_31 : decode cn_E_goDown 31 = .ok (.getfield 24, 3) := by decide +kernel
theorem dn_E_goDown_34 : decode cn_E_goDown 34 = .ok (.aload_n 0, 1) := by decide +kernel
theorem dn_E_goDown_35 : decode cn_E_goDown 35 = .ok (.getfield 27, 3) := by decide +kernel
theorem dn_E_goDown_38 : decode cn_E_goDown 38 = .ok (.iadd, 1) := by decide +kernel
theorem dn_E_goDown_39 : decode cn_E_goDown 39 = .ok (.iconst 1, 1) := by decide +kernel
theorem dn_E_goDown_40 : decode cn_E_goDown 40 = .ok (.isub, 1) := by decide +kernel
theorem dn_E_goDown_41 : decode cn_E_goDown 41 = .ok (.if_icmp .ne 7, 3) := by decide +kernel
theorem dn_E_goDown_44 : decode cn_E_goDown 44 = .ok (.iconst 1, 1) := by decide +kernel
theorem dn_E_goDown_45 : decode cn_E_goDown 45 = .ok (.goto 4, 3) := by decide +kernel
theorem dn_E_goDown_48 : decode cn_E_goDown 48 = .ok (.iconst 0, 1) := by decide +kernel
theorem dn_E_goDown_49 : decode cn_E_goDown 49 = .ok (.istore 5, 2) := by decide +kernel
theorem dn_E_goDown_51 : decode cn_E_goDown 51 = .ok (.aload_n 0, 1) := by decide +kernel
theorem dn_E_goDown_52 : decode cn_E_goDown 52 = .ok (.getfield 27, 3) := by decide +kernel
theorem dn_E_goDown_55 : decode cn_E_goDown 55 = .ok (.iconst 1, 1) := by decide +kernel
theorem dn_E_goDown_56 : decode cn_E_goDown 56 = .ok (.if_icmp .le 8, 3) := by decide +kernel
theorem dn_E_goDown_59 : decode cn_E_goDown 59 = .ok (.iload 5, 2) := by decide +kernel
theorem dn_E_goDown_61 : decode cn_E_goDown 61 = .ok (.ifCond .eq 4, 3) := by decide +kernel
theorem dn_E_goDown_64 : decode cn_E_goDown 64 = .ok (.return_, 1) := by decide +kernel
theorem dn_E_goDown_65 : decode cn_E_goDown 65 = .ok (.aload_n 0, 1) := by decide +kernel
theorem dn_E_goDown_66 : decode cn_E_goDown 66 = .ok (.iload_n 1, 1) := by decide +kernel
theorem dn_E_goDown_67 : decode cn_E_goDown 67 = .ok (.iload 4, 2) := by decide +kernel
theorem dn_E_goDown_69 : decode cn_E_goDown 69 = .ok (.invokevirtual 38, 3) := by decide +kernel
theorem dn_E_goDown_72 : decode cn_E_goDown 72 = .ok (.aload_n 0, 1) := by decide +kernel
theorem dn_E_goDown_73 : decode cn_E_goDown 73 = .ok (.dup, 1) := by decide +kernel
theorem dn_E_goDown_74 : decode cn_E_goDown 74 = .ok (.getfield 20, 3) := by decide +kernel
theorem dn_E_goDown_77 : decode cn_E_goDown 77 = .ok (.iconst 1, 1) := by decide +kernel
theorem dn_E_goDown_78 : decode cn_E_goDown 78 = .ok (.iadd, 1) := by decide +kernel
theorem dn_E_goDown_79 : decode cn_E_goDown 79 = .ok (.putfield 20, 3) := by decide +kernel
theorem dn_E_goDown_82 : decode cn_E_goDown 82 = .ok (.iinc 4 1, 3) := by decide +kernel
theorem dn_E_goDown_85 : decode cn_E_goDown 85 = .ok (.goto (-67), 3) := by decide +kernel
theorem dn_E_goDown_88 : decode cn_E_goDown 88 = .ok (.return_, 1) := by decide +kernel
theorem dn_E_toLeaf_0 : decode cn_E_toLeaf 0 = .ok (.aload_n 0, 1) := by decide +kernel
theorem dn_E_toLeaf_1 : decode cn_E_toLeaf 1 = .ok (.iload_n 1, 1) := by decide +kernel
theorem dn_E_toLeaf_2 : decode cn_E_toLeaf 2 = .ok (.iload_n 2, 1) := by decide +kernel
theorem dn_E_toLeaf_3 : decode cn_E_toLeaf 3 = .ok (.iconst 0, 1) := by decide +kernel
theorem dn_E_toLeaf_4 : decode cn_E_toLeaf 4 = .ok (.invokevirtual 34, 3) := by decide +kernel
theorem dn_E_toLeaf_7 : decode cn_E_toLeaf 7 = .ok (.aload_n 0, 1) := by decide +kernel
theorem dn_E_toLeaf_8 : decode cn_E_toLeaf 8 = .ok (.iconst 1, 1) := by decide +kernel
theorem dn_E_toLeaf_9 : decode cn_E_toLeaf 9 = .ok (.putfield 30, 3) := by decide +kernel
theorem dn_E_toLeaf_12 : decode cn_E_toLeaf 12 = .ok (.return_, 1) := by decide +kernel
theorem dn_E_toEdge_0 : decode cn_E_toEdge 0 = .ok (.aload_n 0, 1) := by decide +kernel
theorem dn_E_toEdge_1 : decode cn_E_toEdge 1 = .ok (.iload_n 1, 1) := by decide +kernel
theorem dn_E_toEdge_2 : decode cn_E_toEdge 2 = .ok (.iconst 1, 1) := by decide +kernel
theorem dn_E_toEdge_3 : decode cn_E_toEdge 3 = .ok (.isub, 1) := by decide +kernel
theorem dn_E_toEdge_4 : decode cn_E_toEdge 4 = .ok (.iload_n 2, 1) := by decide +kernel
theorem dn_E_toEdge_5 : decode cn_E_toEdge 5 = .ok (.iconst 1, 1) := by decide +kernel
theorem dn_E_toEdge_6 : decode cn_E_toEdge 6 = .ok (.invokevirtual 34, 3) := by decide +kernel
theorem dn_E_toEdge_9 : decode cn_E_toEdge 9 = .ok (.aload_n 0, 1) := by decide +kernel
theorem dn_E_toEdge_10 : decode cn_E_toEdge 10 = .ok (.aload_n 0, 1) := by decide +kernel
theorem dn_E_toEdge_11 : decode cn_E_toEdge 11 = .ok (.getfield 24, 3) := by decide +kernel
theorem dn_E_toEdge_14 : decode cn_E_toEdge 14 = .ok (.ifCond .le 7, 3) := by decide +kernel
theorem dn_E_toEdge_17 : decode cn_E_toEdge 17 = .ok (.iconst 1, 1) := by decide +kernel
theorem dn_E_toEdge_18 : decode cn_E_toEdge 18 = .ok (.goto 4, 3) := by decide +kernel
theorem dn_E_toEdge_21 : decode cn_E_toEdge 21 = .ok (.iconst 0, 1) := by decide +kernel
theorem dn_E_toEdge_22 : decode cn_E_toEdge 22 = .ok (.putfield 30, 3) := by decide +kernel
theorem dn_E_toEdge_25 : decode cn_E_toEdge 25 = .ok (.return_, 1) := by decide +kernel
theorem dn_E_showsFoot_0 : decode cn_E_showsFoot 0 = .ok (.aload_n 0, 1) := by decide +kernel
theorem dn_E_showsFoot_1 : decode cn_E_showsFoot 1 = .ok (.getfield 30, 3) := by decide +kernel
theorem dn_E_showsFoot_4 : decode cn_E_showsFoot 4 = .ok (.ireturn, 1) := by decide +kernel
theorem dn_E_digestCount_0 : decode cn_E_digestCount 0 = .ok (.aload_n 0, 1) := by decide +kernel
theorem dn_E_digestCount_1 : decode cn_E_digestCount 1 = .ok (.getfield 30, 3) := by decide +kernel
theorem dn_E_digestCount_4 : decode cn_E_digestCount 4 = .ok (.ifCond .eq 12, 3) := by decide +kernel
theorem dn_E_digestCount_7 : decode cn_E_digestCount 7 = .ok (.aload_n 0, 1) := by decide +kernel
theorem dn_E_digestCount_8 : decode cn_E_digestCount 8 = .ok (.getfield 20, 3) := by decide +kernel
theorem dn_E_digestCount_11 : decode cn_E_digestCount 11 = .ok (.iconst 1, 1) := by decide +kernel
theorem dn_E_digestCount_12 : decode cn_E_digestCount 12 = .ok (.iadd, 1) := by decide +kernel
theorem dn_E_digestCount_13 : decode cn_E_digestCount 13 = .ok (.goto 7, 3) := by decide +kernel
theorem dn_E_digestCount_16 : decode cn_E_digestCount 16 = .ok (.aload_n 0, 1) := by decide +kernel
theorem dn_E_digestCount_17 : decode cn_E_digestCount 17 = .ok (.getfield 20, 3) := by decide +kernel
theorem dn_E_digestCount_20 : decode cn_E_digestCount 20 = .ok (.ireturn, 1) := by decide +kernel
theorem dn_E_stepOf_0 : decode cn_E_stepOf 0 = .ok (.aload_n 0, 1) := by decide +kernel
theorem dn_E_stepOf_1 : decode cn_E_stepOf 1 = .ok (.invokevirtual 51, 3) := by decide +kernel
theorem dn_E_stepOf_4 : decode cn_E_stepOf 4 = .ok (.iconst 1, 1) := by decide +kernel
theorem dn_E_stepOf_5 : decode cn_E_stepOf 5 = .ok (.isub, 1) := by decide +kernel
theorem dn_E_stepOf_6 : decode cn_E_stepOf 6 = .ok (.iload_n 1, 1) := by decide +kernel
theorem dn_E_stepOf_7 : decode cn_E_stepOf 7 = .ok (.isub, 1) := by decide +kernel
theorem dn_E_stepOf_8 : decode cn_E_stepOf 8 = .ok (.ireturn, 1) := by decide +kernel
theorem dn_E_firstUnder_0 : decode cn_E_firstUnder 0 = .ok (.aload_n 0, 1) := by decide +kernel
theorem dn_E_firstUnder_1 : decode cn_E_firstUnder 1 = .ok (.iload_n 1, 1) := by decide +kernel
theorem dn_E_firstUnder_2 : decode cn_E_firstUnder 2 = .ok (.invokevirtual 48, 3) := by decide +kernel
theorem dn_E_firstUnder_5 : decode cn_E_firstUnder 5 = .ok (.istore_n 2, 1) := by decide +kernel
theorem dn_E_firstUnder_6 : decode cn_E_firstUnder 6 = .ok (.iconst 0, 1) := by decide +kernel
theorem dn_E_firstUnder_7 : decode cn_E_firstUnder 7 = .ok (.iload_n 2, 1) := by decide +kernel
theorem dn_E_firstUnder_8 : decode cn_E_firstUnder 8 = .ok (.if_icmp .gt 20, 3) := by decide +kernel
theorem dn_E_firstUnder_11 : decode cn_E_firstUnder 11 = .ok (.iload_n 2, 1) := by decide +kernel
theorem dn_E_firstUnder_12 : decode cn_E_firstUnder 12 = .ok (.aload_n 0, 1) := by decide +kernel
theorem dn_E_firstUnder_13 : decode cn_E_firstUnder 13 = .ok (.getfield 20, 3) := by decide +kernel
theorem dn_E_firstUnder_16 : decode cn_E_firstUnder 16 = .ok (.if_icmp .ge 12, 3) := by decide +kernel
theorem dn_E_firstUnder_19 : decode cn_E_firstUnder 19 = .ok (.aload_n 0, 1) := by decide +kernel
theorem dn_E_firstUnder_20 : decode cn_E_firstUnder 20 = .ok (.getfield 13, 3) := by decide +kernel
theorem dn_E_firstUnder_23 : decode cn_E_firstUnder 23 = .ok (.iload_n 2, 1) := by decide +kernel
theorem dn_E_firstUnder_24 : decode cn_E_firstUnder 24 = .ok (.iaload, 1) := by decide +kernel
theorem dn_E_firstUnder_25 : decode cn_E_firstUnder 25 = .ok (.goto 7, 3) := by decide +kernel
theorem dn_E_firstUnder_28 : decode cn_E_firstUnder 28 = .ok (.aload_n 0, 1) := by decide +kernel
theorem dn_E_firstUnder_29 : decode cn_E_firstUnder 29 = .ok (.getfield 24, 3) := by decide +kernel
theorem dn_E_firstUnder_32 : decode cn_E_firstUnder 32 = .ok (.ireturn, 1) := by decide +kernel
theorem dn_E_countUnder_0 : decode cn_E_countUnder 0 = .ok (.aload_n 0, 1) := by decide +kernel
theorem dn_E_countUnder_1 : decode cn_E_countUnder 1 = .ok (.iload_n 1, 1) := by decide +kernel
theorem dn_E_countUnder_2 : decode cn_E_countUnder 2 = .ok (.invokevirtual 48, 3) := by decide +kernel
theorem dn_E_countUnder_5 : decode cn_E_countUnder 5 = .ok (.istore_n 2, 1) := by decide +kernel
theorem dn_E_countUnder_6 : decode cn_E_countUnder 6 = .ok (.iconst 0, 1) := by decide +kernel
theorem dn_E_countUnder_7 : decode cn_E_countUnder 7 = .ok (.iload_n 2, 1) := by decide +kernel
theorem dn_E_countUnder_8 : decode cn_E_countUnder 8 = .ok (.if_icmp .gt 20, 3) := by decide +kernel
theorem dn_E_countUnder_11 : decode cn_E_countUnder 11 = .ok (.iload_n 2, 1) := by decide +kernel
theorem dn_E_countUnder_12 : decode cn_E_countUnder 12 = .ok (.aload_n 0, 1) := by decide +kernel
theorem dn_E_countUnder_13 : decode cn_E_countUnder 13 = .ok (.getfield 20, 3) := by decide +kernel
theorem dn_E_countUnder_16 : decode cn_E_countUnder 16 = .ok (.if_icmp .ge 12, 3) := by decide +kernel
theorem dn_E_countUnder_19 : decode cn_E_countUnder 19 = .ok (.aload_n 0, 1) := by decide +kernel
theorem dn_E_countUnder_20 : decode cn_E_countUnder 20 = .ok (.getfield 17, 3) := by decide +kernel
theorem dn_E_countUnder_23 : decode cn_E_countUnder 23 = .ok (.iload_n 2, 1) := by decide +kernel
theorem dn_E_countUnder_24 : decode cn_E_countUnder 24 = .ok (.iaload, 1) := by decide +kernel
theorem dn_E_countUnder_25 : decode cn_E_countUnder 25 = .ok (.goto 7, 3) := by decide +kernel
theorem dn_E_countUnder_28 : decode cn_E_countUnder 28 = .ok (.aload_n 0, 1) := by decide +kernel
theorem dn_E_countUnder_29 : decode cn_E_countUnder 29 = .ok (.getfield 27, 3) := by decide +kernel
theorem dn_E_countUnder_32 : decode cn_E_countUnder 32 = .ok (.ireturn, 1) := by decide +kernel
theorem dn_E_wentRightAbove_0 : decode cn_E_wentRightAbove 0 = .ok (.aload_n 0, 1) := by decide +kernel
theorem dn_E_wentRightAbove_1 : decode cn_E_wentRightAbove 1 = .ok (.iload_n 1, 1) := by decide +kernel
theorem dn_E_wentRightAbove_2 : decode cn_E_wentRightAbove 2 = .ok (.invokevirtual 48, 3) := by decide +kernel
theorem dn_E_wentRightAbove_5 : decode cn_E_wentRightAbove 5 = .ok (.istore_n 2, 1) := by decide +kernel
theorem dn_E_wentRightAbove_6 : decode cn_E_wentRightAbove 6 = .ok (.iconst 0, 1) := by decide +kernel
theorem dn_E_wentRightAbove_7 : decode cn_E_wentRightAbove 7 = .ok (.iload_n 2, 1) := by decide +kernel
theorem dn_E_wentRightAbove_8 : decode cn_E_wentRightAbove 8 = .ok (.if_icmp .gt 24, 3) := by decide +kernel
theorem dn_E_wentRightAbove_11 : decode cn_E_wentRightAbove 11 = .ok (.iload_n 2, 1) := by decide +kernel
theorem dn_E_wentRightAbove_12 : decode cn_E_wentRightAbove 12 = .ok (.aload_n 0, 1) := by decide +kernel
theorem dn_E_wentRightAbove_13 : decode cn_E_wentRightAbove 13 = .ok (.getfield 20, 3) := by decide +kernel
theorem dn_E_wentRightAbove_16 : decode cn_E_wentRightAbove 16 = .ok (.if_icmp .ge 16, 3) := by decide +kernel
theorem dn_E_wentRightAbove_19 : decode cn_E_wentRightAbove 19 = .ok (.aload_n 0, 1) := by decide +kernel
theorem dn_E_wentRightAbove_20 : decode cn_E_wentRightAbove 20 = .ok (.getfield 9, 3) := by decide +kernel
theorem dn_E_wentRightAbove_23 : decode cn_E_wentRightAbove 23 = .ok (.iload_n 2, 1) := by decide +kernel
theorem dn_E_wentRightAbove_24 : decode cn_E_wentRightAbove 24 = .ok (.baload, 1) := by decide +kernel
theorem dn_E_wentRightAbove_25 : decode cn_E_wentRightAbove 25 = .ok (.ifCond .eq 7, 3) := by decide +kernel
theorem dn_E_wentRightAbove_28 : decode cn_E_wentRightAbove 28 = .ok (.iconst 1, 1) := by decide +kernel
theorem dn_E_wentRightAbove_29 : decode cn_E_wentRightAbove 29 = .ok (.goto 4, 3) := by decide +kernel
theorem dn_E_wentRightAbove_32 : decode cn_E_wentRightAbove 32 = .ok (.iconst 0, 1) := by decide +kernel
theorem dn_E_wentRightAbove_33 : decode cn_E_wentRightAbove 33 = .ok (.ireturn, 1) := by decide +kernel

set_option maxRecDepth 100000 in
set_option maxHeartbeats 4000000 in
theorem c_J_numberOfLeadingZeros (l : Launch) (dC : Nat → ClassId) (dI : Nat → Nat → Nat) (cI cZ : ClassId) (k : Nat) (hk1 : 1 ≤ k) (hk : k < 40) : gc_I l yn_J_numberOfLeadingZeros (gw yn_J_numberOfLeadingZeros cn_J_numberOfLeadingZeros 2 (some .int)) (rm_ 0 0) (dC, dI) vwCl (gT cI cZ) [.int (nI k)] [] (fun r (_ : Unit) => r = nI (ds_nz k)) (fun _ => []) := by
  refine gc_I_of (cc := cn_J_numberOfLeadingZeros) (maxL := 2) (ty := .int) (by decide) rfl (Nat.le_of_ble_eq_true rfl) ?_
  intro pp ee ss mm ar be me cd A Q ls H0 H locs hx hb hml hown hts hK hP hD hS hA hl hret
  have hw : ∀ w ∈ gw_T, w.before ar ss = true := fun w h => hts w (List.mem_cons_of_mem _ h)
  have hl : lv_has ls 2 [(0, .int (nI k))] := hl
  refine lv_iload_n hx hb dn_J_numberOfLeadingZeros_0 rfl (lv_at hl 0 rfl) ?_
  refine gr_zgt (tgt := 15) hx hb k rfl (by omega) dn_J_numberOfLeadingZeros_1 (by decide) (fun h1 => ?_) (fun h1 => absurd h1 (by omega))
  refine lv_bipush (v := 31) hx hb dn_J_numberOfLeadingZeros_15 (by decide) ?_
  refine lv_istore_n (lv' := [(1, .int 31), (0, .int (nI k))]) hx hb dn_J_numberOfLeadingZeros_17 rfl hl (by decide) rfl (fun ls hl => ?_)
  refine lv_iload_n hx hb dn_J_numberOfLeadingZeros_18 rfl (lv_at hl 1 rfl) ?_
  refine lv_ldcw (v := 65536) hx hb hown (hw _ mw_340) dn_J_numberOfLeadingZeros_19 ?_
  refine gr_clt (tgt := 33) hx hb k 65536 rfl rfl (by omega) (by decide) dn_J_numberOfLeadingZeros_22 (by decide) (fun h22 => ?_) (fun h22 => absurd h22 (by omega))
  refine lv_iload_n hx hb dn_J_numberOfLeadingZeros_33 rfl (lv_at hl 1 rfl) ?_
  refine lv_sipush (v := 256) hx hb dn_J_numberOfLeadingZeros_34 (by decide) ?_
  refine gr_clt (tgt := 48) hx hb k 256 rfl rfl (by omega) (by decide) dn_J_numberOfLeadingZeros_37 (by decide) (fun h37 => ?_) (fun h37 => absurd h37 (by omega))
  refine lv_iload_n hx hb dn_J_numberOfLeadingZeros_48 rfl (lv_at hl 1 rfl) ?_
  refine lv_bipush (v := 16) hx hb dn_J_numberOfLeadingZeros_49 (by decide) ?_
  refine gr_clt (tgt := 61) hx hb k 16 rfl rfl (by omega) (by decide) dn_J_numberOfLeadingZeros_51 (by decide) (fun h51 => ?_) (fun h51 => ?_)
  · skip
    refine lv_iload_n hx hb dn_J_numberOfLeadingZeros_61 rfl (lv_at hl 1 rfl) ?_
    refine lv_iconst (v := 4) hx hb dn_J_numberOfLeadingZeros_62 (by decide) ?_
    refine gr_clt (tgt := 73) hx hb k 4 rfl rfl (by omega) (by decide) dn_J_numberOfLeadingZeros_63 (by decide) (fun h63 => ?_) (fun h63 => ?_)
    · skip
      refine lv_iload_n hx hb dn_J_numberOfLeadingZeros_73 rfl (lv_at hl 0 rfl) ?_
      refine lv_iload_n hx hb dn_J_numberOfLeadingZeros_74 rfl (lv_at hl 1 rfl) ?_
      refine lv_iconst (v := 1) hx hb dn_J_numberOfLeadingZeros_75 (by decide) ?_
      refine lv_iushr hx hb dn_J_numberOfLeadingZeros_76 rfl ?_
      refine gr_top (y := (nI (k / 2))) (pk_ushrN (by omega) 1 1 (by decide)) ?_
      refine gr_subN hx hb 31 (k / 2) rfl rfl (by omega) dn_J_numberOfLeadingZeros_77 ?_
      exact hret (nI (31 - (k / 2))) () _ _ _ _ (congrArg nI (by unfold ds_nz; (repeat' split) <;> omega)) rfl hP hD hS dn_J_numberOfLeadingZeros_78
    · skip
      refine lv_iinc (lv' := [(1, .int 29), (0, .int (nI k))]) (v := 29) (k := 0) hx hb dn_J_numberOfLeadingZeros_66 hl rfl (by decide) (by decide) rfl (fun ls hl => ?_)
      refine lv_iload_n hx hb dn_J_numberOfLeadingZeros_69 rfl (lv_at hl 1 rfl) ?_
      refine lv_iconst (v := 2) hx hb dn_J_numberOfLeadingZeros_70 (by decide) ?_
      refine lv_iushr hx hb dn_J_numberOfLeadingZeros_71 rfl ?_
      refine gr_top (y := (nI (k / 4))) (pk_ushrN (by omega) 2 2 (by decide)) ?_
      refine lv_istore_n (lv' := [(0, .int (nI (k / 4))), (1, .int 29)]) hx hb dn_J_numberOfLeadingZeros_72 rfl hl (by decide) rfl (fun ls hl => ?_)
      refine lv_iload_n hx hb dn_J_numberOfLeadingZeros_73 rfl (lv_at hl 1 rfl) ?_
      refine lv_iload_n hx hb dn_J_numberOfLeadingZeros_74 rfl (lv_at hl 0 rfl) ?_
      refine lv_iconst (v := 1) hx hb dn_J_numberOfLeadingZeros_75 (by decide) ?_
      refine lv_iushr hx hb dn_J_numberOfLeadingZeros_76 rfl ?_
      refine gr_top (y := (nI ((k / 4) / 2))) (pk_ushrN (by omega) 1 1 (by decide)) ?_
      refine gr_subN hx hb 29 ((k / 4) / 2) rfl rfl (by omega) dn_J_numberOfLeadingZeros_77 ?_
      exact hret (nI (29 - ((k / 4) / 2))) () _ _ _ _ (congrArg nI (by unfold ds_nz; (repeat' split) <;> omega)) rfl hP hD hS dn_J_numberOfLeadingZeros_78
  · skip
    refine lv_iinc (lv' := [(1, .int 27), (0, .int (nI k))]) (v := 27) (k := 0) hx hb dn_J_numberOfLeadingZeros_54 hl rfl (by decide) (by decide) rfl (fun ls hl => ?_)
    refine lv_iload_n hx hb dn_J_numberOfLeadingZeros_57 rfl (lv_at hl 1 rfl) ?_
    refine lv_iconst (v := 4) hx hb dn_J_numberOfLeadingZeros_58 (by decide) ?_
    refine lv_iushr hx hb dn_J_numberOfLeadingZeros_59 rfl ?_
    refine gr_top (y := (nI (k / 16))) (pk_ushrN (by omega) 4 4 (by decide)) ?_
    refine lv_istore_n (lv' := [(0, .int (nI (k / 16))), (1, .int 27)]) hx hb dn_J_numberOfLeadingZeros_60 rfl hl (by decide) rfl (fun ls hl => ?_)
    refine lv_iload_n hx hb dn_J_numberOfLeadingZeros_61 rfl (lv_at hl 0 rfl) ?_
    refine lv_iconst (v := 4) hx hb dn_J_numberOfLeadingZeros_62 (by decide) ?_
    refine gr_clt (tgt := 73) hx hb (k / 16) 4 rfl rfl (by omega) (by decide) dn_J_numberOfLeadingZeros_63 (by decide) (fun h63 => ?_) (fun h63 => ?_)
    · skip
      refine lv_iload_n hx hb dn_J_numberOfLeadingZeros_73 rfl (lv_at hl 1 rfl) ?_
      refine lv_iload_n hx hb dn_J_numberOfLeadingZeros_74 rfl (lv_at hl 0 rfl) ?_
      refine lv_iconst (v := 1) hx hb dn_J_numberOfLeadingZeros_75 (by decide) ?_
      refine lv_iushr hx hb dn_J_numberOfLeadingZeros_76 rfl ?_
      refine gr_top (y := (nI ((k / 16) / 2))) (pk_ushrN (by omega) 1 1 (by decide)) ?_
      refine gr_subN hx hb 27 ((k / 16) / 2) rfl rfl (by omega) dn_J_numberOfLeadingZeros_77 ?_
      exact hret (nI (27 - ((k / 16) / 2))) () _ _ _ _ (congrArg nI (by unfold ds_nz; (repeat' split) <;> omega)) rfl hP hD hS dn_J_numberOfLeadingZeros_78
    · skip
      refine lv_iinc (lv' := [(1, .int 25), (0, .int (nI (k / 16)))]) (v := 25) (k := 1) hx hb dn_J_numberOfLeadingZeros_66 hl rfl (by decide) (by decide) rfl (fun ls hl => ?_)
      refine lv_iload_n hx hb dn_J_numberOfLeadingZeros_69 rfl (lv_at hl 1 rfl) ?_
      refine lv_iconst (v := 2) hx hb dn_J_numberOfLeadingZeros_70 (by decide) ?_
      refine lv_iushr hx hb dn_J_numberOfLeadingZeros_71 rfl ?_
      refine gr_top (y := (nI ((k / 16) / 4))) (pk_ushrN (by omega) 2 2 (by decide)) ?_
      refine lv_istore_n (lv' := [(0, .int (nI ((k / 16) / 4))), (1, .int 25)]) hx hb dn_J_numberOfLeadingZeros_72 rfl hl (by decide) rfl (fun ls hl => ?_)
      refine lv_iload_n hx hb dn_J_numberOfLeadingZeros_73 rfl (lv_at hl 1 rfl) ?_
      refine lv_iload_n hx hb dn_J_numberOfLeadingZeros_74 rfl (lv_at hl 0 rfl) ?_
      refine lv_iconst (v := 1) hx hb dn_J_numberOfLeadingZeros_75 (by decide) ?_
      refine lv_iushr hx hb dn_J_numberOfLeadingZeros_76 rfl ?_
      refine gr_top (y := (nI (((k / 16) / 4) / 2))) (pk_ushrN (by omega) 1 1 (by decide)) ?_
      refine gr_subN hx hb 25 (((k / 16) / 4) / 2) rfl rfl (by omega) dn_J_numberOfLeadingZeros_77 ?_
      exact hret (nI (25 - (((k / 16) / 4) / 2))) () _ _ _ _ (congrArg nI (by unfold ds_nz; (repeat' split) <;> omega)) rfl hP hD hS dn_J_numberOfLeadingZeros_78

set_option maxRecDepth 100000 in
set_option maxHeartbeats 4000000 in
theorem c_J_highestOneBit (l : Launch) (dC : Nat → ClassId) (dI : Nat → Nat → Nat) (cI cZ : ClassId) (c : Nat) (hc2 : 2 ≤ c) (hc : c ≤ 40) : gc_I l yn_J_highestOneBit (gw yn_J_highestOneBit cn_J_highestOneBit 1 (some .int)) (rm_ 1 21) (dC, dI) vwCl (gT cI cZ) [.int (nI (c - 1))] [] (fun r (_ : Unit) => r = nI (ds_hb c)) (fun _ => []) := by
  refine gc_I_of (cc := cn_J_highestOneBit) (maxL := 1) (ty := .int) (by decide) rfl (Nat.le_of_ble_eq_true rfl) ?_
  intro pp ee ss mm ar be me cd A Q ls H0 H locs hx hb hml hown hts hK hP hD hS hA hl hret
  have hw : ∀ w ∈ gw_T, w.before ar ss = true := fun w h => hts w (List.mem_cons_of_mem _ h)
  have hl : lv_has ls 1 [(0, .int (nI (c - 1)))] := hl
  refine lv_iload_n hx hb dn_J_highestOneBit_0 rfl (lv_at hl 0 rfl) ?_
  refine lv_ldc (v := (-2147483648)) hx hb hown (hw _ mw_336) dn_J_highestOneBit_1 ?_
  refine lv_iload_n hx hb dn_J_highestOneBit_3 rfl (lv_at hl 0 rfl) ?_
  refine gc_s0 (v := (nI (ds_nz (c - 1)))) (As := [.int (nI (c - 1))]) (rest := [.int (-2147483648), .int (nI (c - 1))]) ⟨hx, hb, hml, hown, hw⟩ (c_J_numberOfLeadingZeros l dC dI cI cZ (c - 1) (by omega) (by omega)) (gw_cS 1 hw mw_337 mw_338 mw_8 mw_339 hd_J_numberOfLeadingZeros ⟨Nat.le_of_ble_eq_true rfl, Nat.le_of_ble_eq_true rfl⟩) hK hP hD hS hA rfl hl.1 rfl (Nat.le_of_ble_eq_true rfl) dn_J_highestOneBit_4 ⟨Nat.zero_le _, Nat.zero_le _⟩ (fun H locs hP hD hS => ?_)
  refine lv_iushr hx hb dn_J_highestOneBit_7 rfl ?_
  refine lv_iand hx hb dn_J_highestOneBit_8 ?_
  exact hret ((nI (c - 1)) &&& ((((-2147483648) : Int32).toUInt32 >>> (((nI (ds_nz (c - 1))) : Int32).toUInt32 &&& Int32.toUInt32 31)).toInt32)) () _ _ _ _ (ds_top c (by omega) hc2) rfl hP hD hS dn_J_highestOneBit_9

set_option maxRecDepth 100000 in
set_option maxHeartbeats 4000000 in
theorem c_E_stepTowards (l : Launch) (dC : Nat → ClassId) (dI : Nat → Nat → Nat) (cI cZ : ClassId) (a0 a1 a2 a3 : Nat) (X Y Z : Nat → Int32) (st ff fc b t s : Nat) (hs : s < 6) (hc2 : 2 ≤ fc) (hfc : fc ≤ 40) (hff : ff ≤ 40) (ht : t < 2 ^ 31) : gc_V l yn_E_stepTowards (gw yn_E_stepTowards cn_E_stepTowards 5 none) (rm_ 2 41) (dC, dI) vwCl (gT cI cZ) [.ref a0, .int (nI t), .int (nI s)] [(a0, .inr (1, [.ref a1, .ref a2, .ref a3, .int (nI st), .int (nI ff), .int (nI fc), .int (nI b)])), (a1, .inl (cZ, 6, .inl X)), (a2, .inl (cI, 6, .inl Y)), (a3, .inl (cI, 6, .inl Z))] (fun (_ : Unit) => True) (fun _ => [(a0, .inr (1, [.ref a1, .ref a2, .ref a3, .int (nI st), .int (nI ((ds_nx t ff fc).1)), .int (nI ((ds_nx t ff fc).2)), .int (nI b)])), (a1, .inl (cZ, 6, .inl (upd X s (ds_r t ff fc)))), (a2, .inl (cI, 6, .inl (upd Y s (nI (ds_f t ff fc))))), (a3, .inl (cI, 6, .inl (upd Z s (nI (ds_c t ff fc)))))]) := by
  refine gc_V_of (cc := cn_E_stepTowards) (maxL := 5) (by decide) rfl (Nat.le_of_ble_eq_true rfl) ?_
  intro pp ee ss mm ar be me cd A Q ls H0 H locs hx hb hml hown hts hK hP hD hS hA hl hret
  have hw : ∀ w ∈ gw_T, w.before ar ss = true := fun w h => hts w (List.mem_cons_of_mem _ h)
  have hl : lv_has ls 5 [(0, .ref a0), (1, .int (nI t)), (2, .int (nI s))] := hl
  obtain ⟨hb1, hb2, hb3⟩ := ds_hb_in (c := fc) hc2 (by omega)
  refine lv_aload_n hx hb dn_E_stepTowards_0 rfl (lv_at hl 0 rfl) ?_
  refine va_get (D := (dC, dI)) (ci := 1) (v := .int (nI fc)) (C := rn_E) (T := tn_E) (N := 7) hx hb hw ml_E hown hK hP 0 rfl rfl 5 (by decide) (hw _ mw_67) (fun _ h9 => h9) rfl dn_E_stepTowards_1 ?_
  refine lv_iconst (v := 1) hx hb dn_E_stepTowards_4 (by decide) ?_
  refine gr_subN hx hb fc 1 rfl rfl (by omega) dn_E_stepTowards_5 ?_
  refine gc_s0 (v := (nI (ds_hb fc))) (As := [.int (nI (fc - 1))]) (rest := []) ⟨hx, hb, hml, hown, hw⟩ (c_J_highestOneBit l dC dI cI cZ fc (by omega) (by omega)) (gw_cS 1 hw mw_333 mw_334 mw_8 mw_335 hd_J_highestOneBit ⟨Nat.le_of_ble_eq_true rfl, Nat.le_of_ble_eq_true rfl⟩) hK hP hD hS hA rfl hl.1 rfl (Nat.le_of_ble_eq_true rfl) dn_E_stepTowards_6 ⟨Nat.zero_le _, Nat.zero_le _⟩ (fun H locs hP hD hS => ?_)
  refine lv_istore_n (lv' := [(3, .int (nI (ds_hb fc))), (0, .ref a0), (1, .int (nI t)), (2, .int (nI s))]) hx hb dn_E_stepTowards_9 rfl hl (by decide) rfl (fun ls hl => ?_)
  refine lv_iload_n hx hb dn_E_stepTowards_10 rfl (lv_at hl 2 rfl) ?_
  refine lv_aload_n hx hb dn_E_stepTowards_11 rfl (lv_at hl 1 rfl) ?_
  refine va_get (D := (dC, dI)) (ci := 1) (v := .int (nI ff)) (C := rn_E) (T := tn_E) (N := 7) hx hb hw ml_E hown hK hP 0 rfl rfl 4 (by decide) (hw _ mw_66) (fun _ h9 => h9) rfl dn_E_stepTowards_12 ?_
  refine lv_iload_n hx hb dn_E_stepTowards_15 rfl (lv_at hl 0 rfl) ?_
  refine gr_addN hx hb ff (ds_hb fc) rfl rfl dn_E_stepTowards_16 ?_
  refine gr_clt (tgt := 24) hx hb t (ff + (ds_hb fc)) rfl rfl (by omega) (by omega) dn_E_stepTowards_17 (by decide) (fun h17 => ?_) (fun h17 => ?_)
  · skip
    refine lv_iconst (v := 0) hx hb dn_E_stepTowards_24 (by decide) ?_
    refine lv_istore (lv' := [(4, .int 0), (3, .int (nI (ds_hb fc))), (0, .ref a0), (1, .int (nI t)), (2, .int (nI s))]) hx hb dn_E_stepTowards_25 hl (by decide) rfl (fun ls hl => ?_)
    refine lv_aload_n hx hb dn_E_stepTowards_27 rfl (lv_at hl 2 rfl) ?_
    refine va_get (D := (dC, dI)) (ci := 1) (v := .ref a1) (C := rn_E) (T := tn_E) (N := 7) hx hb hw ml_E hown hK hP 0 rfl rfl 0 (by decide) (hw _ mw_62) (fun _ h9 => h9) rfl dn_E_stepTowards_28 ?_
    refine lv_iload_n hx hb dn_E_stepTowards_31 rfl (lv_at hl 4 rfl) ?_
    refine lv_iload hx hb dn_E_stepTowards_32 (lv_at hl 0 rfl) ?_
    refine gr_zast hx hb hK hP hD hS 1 1 rfl rfl s rfl (by omega) (by decide) rfl dn_E_stepTowards_34 (fun H locs hP hD hS => ?_)
    have hP : va_P (dC, dI) vwCl [(a0, .inr (1, [.ref a1, .ref a2, .ref a3, .int (nI st), .int (nI ff), .int (nI fc), .int (nI b)])), (a1, .inl (cZ, 6, .inl (upd X s 0))), (a2, .inl (cI, 6, .inl Y)), (a3, .inl (cI, 6, .inl Z))] H := hP
    have hD : va_D A [(a0, .inr (1, [.ref a1, .ref a2, .ref a3, .int (nI st), .int (nI ff), .int (nI fc), .int (nI b)])), (a1, .inl (cZ, 6, .inl (upd X s 0))), (a2, .inl (cI, 6, .inl Y)), (a3, .inl (cI, 6, .inl Z))] := hD
    refine lv_aload_n hx hb dn_E_stepTowards_35 rfl (lv_at hl 2 rfl) ?_
    refine va_get (D := (dC, dI)) (ci := 1) (v := .ref a2) (C := rn_E) (T := tn_E) (N := 7) hx hb hw ml_E hown hK hP 0 rfl rfl 1 (by decide) (hw _ mw_63) (fun _ h9 => h9) rfl dn_E_stepTowards_36 ?_
    refine lv_iload_n hx hb dn_E_stepTowards_39 rfl (lv_at hl 4 rfl) ?_
    refine lv_iload hx hb dn_E_stepTowards_40 (lv_at hl 0 rfl) ?_
    refine lv_if_eq (tgt := 52) hx hb dn_E_stepTowards_42 (by decide) (fun _ => ?_) (fun h => absurd h (by decide))
    refine lv_aload_n hx hb dn_E_stepTowards_52 rfl (lv_at hl 2 rfl) ?_
    refine va_get (D := (dC, dI)) (ci := 1) (v := .int (nI ff)) (C := rn_E) (T := tn_E) (N := 7) hx hb hw ml_E hown hK hP 0 rfl rfl 4 (by decide) (hw _ mw_66) (fun _ h9 => h9) rfl dn_E_stepTowards_53 ?_
    refine lv_iload_n hx hb dn_E_stepTowards_56 rfl (lv_at hl 1 rfl) ?_
    refine gr_addN hx hb ff (ds_hb fc) rfl rfl dn_E_stepTowards_57 ?_
    refine gr_iast hx hb hK hP hD hS 2 0 rfl rfl s rfl (by omega) (by decide) dn_E_stepTowards_58 (fun H locs hP hD hS => ?_)
    have hP : va_P (dC, dI) vwCl [(a0, .inr (1, [.ref a1, .ref a2, .ref a3, .int (nI st), .int (nI ff), .int (nI fc), .int (nI b)])), (a1, .inl (cZ, 6, .inl (upd X s 0))), (a2, .inl (cI, 6, .inl (upd Y s (nI (ff + (ds_hb fc)))))), (a3, .inl (cI, 6, .inl Z))] H := hP
    have hD : va_D A [(a0, .inr (1, [.ref a1, .ref a2, .ref a3, .int (nI st), .int (nI ff), .int (nI fc), .int (nI b)])), (a1, .inl (cZ, 6, .inl (upd X s 0))), (a2, .inl (cI, 6, .inl (upd Y s (nI (ff + (ds_hb fc)))))), (a3, .inl (cI, 6, .inl Z))] := hD
    refine lv_aload_n hx hb dn_E_stepTowards_59 rfl (lv_at hl 2 rfl) ?_
    refine va_get (D := (dC, dI)) (ci := 1) (v := .ref a3) (C := rn_E) (T := tn_E) (N := 7) hx hb hw ml_E hown hK hP 0 rfl rfl 2 (by decide) (hw _ mw_64) (fun _ h9 => h9) rfl dn_E_stepTowards_60 ?_
    refine lv_iload_n hx hb dn_E_stepTowards_63 rfl (lv_at hl 4 rfl) ?_
    refine lv_iload hx hb dn_E_stepTowards_64 (lv_at hl 0 rfl) ?_
    refine lv_if_eq (tgt := 73) hx hb dn_E_stepTowards_66 (by decide) (fun _ => ?_) (fun h => absurd h (by decide))
    refine lv_aload_n hx hb dn_E_stepTowards_73 rfl (lv_at hl 2 rfl) ?_
    refine va_get (D := (dC, dI)) (ci := 1) (v := .int (nI fc)) (C := rn_E) (T := tn_E) (N := 7) hx hb hw ml_E hown hK hP 0 rfl rfl 5 (by decide) (hw _ mw_67) (fun _ h9 => h9) rfl dn_E_stepTowards_74 ?_
    refine lv_iload_n hx hb dn_E_stepTowards_77 rfl (lv_at hl 1 rfl) ?_
    refine gr_subN hx hb fc (ds_hb fc) rfl rfl (by omega) dn_E_stepTowards_78 ?_
    refine gr_iast hx hb hK hP hD hS 3 0 rfl rfl s rfl (by omega) (by decide) dn_E_stepTowards_79 (fun H locs hP hD hS => ?_)
    have hP : va_P (dC, dI) vwCl [(a0, .inr (1, [.ref a1, .ref a2, .ref a3, .int (nI st), .int (nI ff), .int (nI fc), .int (nI b)])), (a1, .inl (cZ, 6, .inl (upd X s 0))), (a2, .inl (cI, 6, .inl (upd Y s (nI (ff + (ds_hb fc)))))), (a3, .inl (cI, 6, .inl (upd Z s (nI (fc - (ds_hb fc))))))] H := hP
    have hD : va_D A [(a0, .inr (1, [.ref a1, .ref a2, .ref a3, .int (nI st), .int (nI ff), .int (nI fc), .int (nI b)])), (a1, .inl (cZ, 6, .inl (upd X s 0))), (a2, .inl (cI, 6, .inl (upd Y s (nI (ff + (ds_hb fc)))))), (a3, .inl (cI, 6, .inl (upd Z s (nI (fc - (ds_hb fc))))))] := hD
    refine lv_aload_n hx hb dn_E_stepTowards_80 rfl (lv_at hl 2 rfl) ?_
    refine lv_iload hx hb dn_E_stepTowards_81 (lv_at hl 0 rfl) ?_
    refine lv_if_eq (tgt := 95) hx hb dn_E_stepTowards_83 (by decide) (fun _ => ?_) (fun h => absurd h (by decide))
    refine lv_aload_n hx hb dn_E_stepTowards_95 rfl (lv_at hl 2 rfl) ?_
    refine va_get (D := (dC, dI)) (ci := 1) (v := .int (nI ff)) (C := rn_E) (T := tn_E) (N := 7) hx hb hw ml_E hown hK hP 0 rfl rfl 4 (by decide) (hw _ mw_66) (fun _ h9 => h9) rfl dn_E_stepTowards_96 ?_
    refine va_put (D := (dC, dI)) (ci := 1) (v := .int (nI ff)) (ty := .int) (C := rn_E) (T := tn_E) (N := 7) hx hb hw ml_E tt_E to_E nd_E hown hK hP hD hS 0 rfl rfl 4 (by decide) (hw _ mw_66) (fun _ h9 => h9) rfl (by decide +kernel) rfl rfl (Nat.le_of_ble_eq_true rfl) dn_E_stepTowards_99 (fun H locs hP hD hS => ?_)
    have hP : va_P (dC, dI) vwCl [(a0, .inr (1, [.ref a1, .ref a2, .ref a3, .int (nI st), .int (nI ff), .int (nI fc), .int (nI b)])), (a1, .inl (cZ, 6, .inl (upd X s 0))), (a2, .inl (cI, 6, .inl (upd Y s (nI (ff + (ds_hb fc)))))), (a3, .inl (cI, 6, .inl (upd Z s (nI (fc - (ds_hb fc))))))] H := hP
    have hD : va_D A [(a0, .inr (1, [.ref a1, .ref a2, .ref a3, .int (nI st), .int (nI ff), .int (nI fc), .int (nI b)])), (a1, .inl (cZ, 6, .inl (upd X s 0))), (a2, .inl (cI, 6, .inl (upd Y s (nI (ff + (ds_hb fc)))))), (a3, .inl (cI, 6, .inl (upd Z s (nI (fc - (ds_hb fc))))))] := hD
    refine lv_aload_n hx hb dn_E_stepTowards_102 rfl (lv_at hl 2 rfl) ?_
    refine lv_iload hx hb dn_E_stepTowards_103 (lv_at hl 0 rfl) ?_
    refine lv_if_eq (tgt := 117) hx hb dn_E_stepTowards_105 (by decide) (fun _ => ?_) (fun h => absurd h (by decide))
    refine lv_iload_n hx hb dn_E_stepTowards_117 rfl (lv_at hl 1 rfl) ?_
    refine va_put (D := (dC, dI)) (ci := 1) (v := .int (nI (ds_hb fc))) (ty := .int) (C := rn_E) (T := tn_E) (N := 7) hx hb hw ml_E tt_E to_E nd_E hown hK hP hD hS 0 rfl rfl 5 (by decide) (hw _ mw_67) (fun _ h9 => h9) rfl (by decide +kernel) rfl rfl (Nat.le_of_ble_eq_true rfl) dn_E_stepTowards_118 (fun H locs hP hD hS => ?_)
    have hP : va_P (dC, dI) vwCl [(a0, .inr (1, [.ref a1, .ref a2, .ref a3, .int (nI st), .int (nI ff), .int (nI (ds_hb fc)), .int (nI b)])), (a1, .inl (cZ, 6, .inl (upd X s 0))), (a2, .inl (cI, 6, .inl (upd Y s (nI (ff + (ds_hb fc)))))), (a3, .inl (cI, 6, .inl (upd Z s (nI (fc - (ds_hb fc))))))] H := hP
    have hD : va_D A [(a0, .inr (1, [.ref a1, .ref a2, .ref a3, .int (nI st), .int (nI ff), .int (nI (ds_hb fc)), .int (nI b)])), (a1, .inl (cZ, 6, .inl (upd X s 0))), (a2, .inl (cI, 6, .inl (upd Y s (nI (ff + (ds_hb fc)))))), (a3, .inl (cI, 6, .inl (upd Z s (nI (fc - (ds_hb fc))))))] := hD
    have hP : va_P (dC, dI) vwCl [(a0, .inr (1, [.ref a1, .ref a2, .ref a3, .int (nI st), .int (nI ((ds_nx t ff fc).1)), .int (nI ((ds_nx t ff fc).2)), .int (nI b)])), (a1, .inl (cZ, 6, .inl (upd X s (ds_r t ff fc)))), (a2, .inl (cI, 6, .inl (upd Y s (nI (ds_f t ff fc))))), (a3, .inl (cI, 6, .inl (upd Z s (nI (ds_c t ff fc)))))] H := by rw [ds_lr h17, ds_lf h17, ds_lc h17, ds_lx h17]; exact hP
    have hD : va_D A [(a0, .inr (1, [.ref a1, .ref a2, .ref a3, .int (nI st), .int (nI ((ds_nx t ff fc).1)), .int (nI ((ds_nx t ff fc).2)), .int (nI b)])), (a1, .inl (cZ, 6, .inl (upd X s (ds_r t ff fc)))), (a2, .inl (cI, 6, .inl (upd Y s (nI (ds_f t ff fc))))), (a3, .inl (cI, 6, .inl (upd Z s (nI (ds_c t ff fc)))))] := by rw [ds_lr h17, ds_lf h17, ds_lc h17, ds_lx h17]; exact hD
    exact hret () _ _ _ _ trivial hP hD hS dn_E_stepTowards_121
  · skip
    refine lv_iconst (v := 1) hx hb dn_E_stepTowards_20 (by decide) ?_
    refine lv_goto (tgt := 25) hx hb dn_E_stepTowards_21 (by decide) ?_
    refine lv_istore (lv' := [(4, .int 1), (3, .int (nI (ds_hb fc))), (0, .ref a0), (1, .int (nI t)), (2, .int (nI s))]) hx hb dn_E_stepTowards_25 hl (by decide) rfl (fun ls hl => ?_)
    refine lv_aload_n hx hb dn_E_stepTowards_27 rfl (lv_at hl 2 rfl) ?_
    refine va_get (D := (dC, dI)) (ci := 1) (v := .ref a1) (C := rn_E) (T := tn_E) (N := 7) hx hb hw ml_E hown hK hP 0 rfl rfl 0 (by decide) (hw _ mw_62) (fun _ h9 => h9) rfl dn_E_stepTowards_28 ?_
    refine lv_iload_n hx hb dn_E_stepTowards_31 rfl (lv_at hl 4 rfl) ?_
    refine lv_iload hx hb dn_E_stepTowards_32 (lv_at hl 0 rfl) ?_
    refine gr_zast hx hb hK hP hD hS 1 1 rfl rfl s rfl (by omega) (by decide) rfl dn_E_stepTowards_34 (fun H locs hP hD hS => ?_)
    have hP : va_P (dC, dI) vwCl [(a0, .inr (1, [.ref a1, .ref a2, .ref a3, .int (nI st), .int (nI ff), .int (nI fc), .int (nI b)])), (a1, .inl (cZ, 6, .inl (upd X s 1))), (a2, .inl (cI, 6, .inl Y)), (a3, .inl (cI, 6, .inl Z))] H := hP
    have hD : va_D A [(a0, .inr (1, [.ref a1, .ref a2, .ref a3, .int (nI st), .int (nI ff), .int (nI fc), .int (nI b)])), (a1, .inl (cZ, 6, .inl (upd X s 1))), (a2, .inl (cI, 6, .inl Y)), (a3, .inl (cI, 6, .inl Z))] := hD
    refine lv_aload_n hx hb dn_E_stepTowards_35 rfl (lv_at hl 2 rfl) ?_
    refine va_get (D := (dC, dI)) (ci := 1) (v := .ref a2) (C := rn_E) (T := tn_E) (N := 7) hx hb hw ml_E hown hK hP 0 rfl rfl 1 (by decide) (hw _ mw_63) (fun _ h9 => h9) rfl dn_E_stepTowards_36 ?_
    refine lv_iload_n hx hb dn_E_stepTowards_39 rfl (lv_at hl 4 rfl) ?_
    refine lv_iload hx hb dn_E_stepTowards_40 (lv_at hl 0 rfl) ?_
    refine lv_if_eq (tgt := 52) hx hb dn_E_stepTowards_42 (by decide) (fun h => absurd h (by decide)) (fun _ => ?_)
    refine lv_aload_n hx hb dn_E_stepTowards_45 rfl (lv_at hl 2 rfl) ?_
    refine va_get (D := (dC, dI)) (ci := 1) (v := .int (nI ff)) (C := rn_E) (T := tn_E) (N := 7) hx hb hw ml_E hown hK hP 0 rfl rfl 4 (by decide) (hw _ mw_66) (fun _ h9 => h9) rfl dn_E_stepTowards_46 ?_
    refine lv_goto (tgt := 58) hx hb dn_E_stepTowards_49 (by decide) ?_
    refine gr_iast hx hb hK hP hD hS 2 0 rfl rfl s rfl (by omega) (by decide) dn_E_stepTowards_58 (fun H locs hP hD hS => ?_)
    have hP : va_P (dC, dI) vwCl [(a0, .inr (1, [.ref a1, .ref a2, .ref a3, .int (nI st), .int (nI ff), .int (nI fc), .int (nI b)])), (a1, .inl (cZ, 6, .inl (upd X s 1))), (a2, .inl (cI, 6, .inl (upd Y s (nI ff)))), (a3, .inl (cI, 6, .inl Z))] H := hP
    have hD : va_D A [(a0, .inr (1, [.ref a1, .ref a2, .ref a3, .int (nI st), .int (nI ff), .int (nI fc), .int (nI b)])), (a1, .inl (cZ, 6, .inl (upd X s 1))), (a2, .inl (cI, 6, .inl (upd Y s (nI ff)))), (a3, .inl (cI, 6, .inl Z))] := hD
    refine lv_aload_n hx hb dn_E_stepTowards_59 rfl (lv_at hl 2 rfl) ?_
    refine va_get (D := (dC, dI)) (ci := 1) (v := .ref a3) (C := rn_E) (T := tn_E) (N := 7) hx hb hw ml_E hown hK hP 0 rfl rfl 2 (by decide) (hw _ mw_64) (fun _ h9 => h9) rfl dn_E_stepTowards_60 ?_
    refine lv_iload_n hx hb dn_E_stepTowards_63 rfl (lv_at hl 4 rfl) ?_
    refine lv_iload hx hb dn_E_stepTowards_64 (lv_at hl 0 rfl) ?_
    refine lv_if_eq (tgt := 73) hx hb dn_E_stepTowards_66 (by decide) (fun h => absurd h (by decide)) (fun _ => ?_)
    refine lv_iload_n hx hb dn_E_stepTowards_69 rfl (lv_at hl 1 rfl) ?_
    refine lv_goto (tgt := 79) hx hb dn_E_stepTowards_70 (by decide) ?_
    refine gr_iast hx hb hK hP hD hS 3 0 rfl rfl s rfl (by omega) (by decide) dn_E_stepTowards_79 (fun H locs hP hD hS => ?_)
    have hP : va_P (dC, dI) vwCl [(a0, .inr (1, [.ref a1, .ref a2, .ref a3, .int (nI st), .int (nI ff), .int (nI fc), .int (nI b)])), (a1, .inl (cZ, 6, .inl (upd X s 1))), (a2, .inl (cI, 6, .inl (upd Y s (nI ff)))), (a3, .inl (cI, 6, .inl (upd Z s (nI (ds_hb fc)))))] H := hP
    have hD : va_D A [(a0, .inr (1, [.ref a1, .ref a2, .ref a3, .int (nI st), .int (nI ff), .int (nI fc), .int (nI b)])), (a1, .inl (cZ, 6, .inl (upd X s 1))), (a2, .inl (cI, 6, .inl (upd Y s (nI ff)))), (a3, .inl (cI, 6, .inl (upd Z s (nI (ds_hb fc)))))] := hD
    refine lv_aload_n hx hb dn_E_stepTowards_80 rfl (lv_at hl 2 rfl) ?_
    refine lv_iload hx hb dn_E_stepTowards_81 (lv_at hl 0 rfl) ?_
    refine lv_if_eq (tgt := 95) hx hb dn_E_stepTowards_83 (by decide) (fun h => absurd h (by decide)) (fun _ => ?_)
    refine lv_aload_n hx hb dn_E_stepTowards_86 rfl (lv_at hl 2 rfl) ?_
    refine va_get (D := (dC, dI)) (ci := 1) (v := .int (nI ff)) (C := rn_E) (T := tn_E) (N := 7) hx hb hw ml_E hown hK hP 0 rfl rfl 4 (by decide) (hw _ mw_66) (fun _ h9 => h9) rfl dn_E_stepTowards_87 ?_
    refine lv_iload_n hx hb dn_E_stepTowards_90 rfl (lv_at hl 1 rfl) ?_
    refine gr_addN hx hb ff (ds_hb fc) rfl rfl dn_E_stepTowards_91 ?_
    refine lv_goto (tgt := 99) hx hb dn_E_stepTowards_92 (by decide) ?_
    refine va_put (D := (dC, dI)) (ci := 1) (v := .int (nI (ff + (ds_hb fc)))) (ty := .int) (C := rn_E) (T := tn_E) (N := 7) hx hb hw ml_E tt_E to_E nd_E hown hK hP hD hS 0 rfl rfl 4 (by decide) (hw _ mw_66) (fun _ h9 => h9) rfl (by decide +kernel) rfl rfl (Nat.le_of_ble_eq_true rfl) dn_E_stepTowards_99 (fun H locs hP hD hS => ?_)
    have hP : va_P (dC, dI) vwCl [(a0, .inr (1, [.ref a1, .ref a2, .ref a3, .int (nI st), .int (nI (ff + (ds_hb fc))), .int (nI fc), .int (nI b)])), (a1, .inl (cZ, 6, .inl (upd X s 1))), (a2, .inl (cI, 6, .inl (upd Y s (nI ff)))), (a3, .inl (cI, 6, .inl (upd Z s (nI (ds_hb fc)))))] H := hP
    have hD : va_D A [(a0, .inr (1, [.ref a1, .ref a2, .ref a3, .int (nI st), .int (nI (ff + (ds_hb fc))), .int (nI fc), .int (nI b)])), (a1, .inl (cZ, 6, .inl (upd X s 1))), (a2, .inl (cI, 6, .inl (upd Y s (nI ff)))), (a3, .inl (cI, 6, .inl (upd Z s (nI (ds_hb fc)))))] := hD
    refine lv_aload_n hx hb dn_E_stepTowards_102 rfl (lv_at hl 2 rfl) ?_
    refine lv_iload hx hb dn_E_stepTowards_103 (lv_at hl 0 rfl) ?_
    refine lv_if_eq (tgt := 117) hx hb dn_E_stepTowards_105 (by decide) (fun h => absurd h (by decide)) (fun _ => ?_)
    refine lv_aload_n hx hb dn_E_stepTowards_108 rfl (lv_at hl 2 rfl) ?_
    refine va_get (D := (dC, dI)) (ci := 1) (v := .int (nI fc)) (C := rn_E) (T := tn_E) (N := 7) hx hb hw ml_E hown hK hP 0 rfl rfl 5 (by decide) (hw _ mw_67) (fun _ h9 => h9) rfl dn_E_stepTowards_109 ?_
    refine lv_iload_n hx hb dn_E_stepTowards_112 rfl (lv_at hl 1 rfl) ?_
    refine gr_subN hx hb fc (ds_hb fc) rfl rfl (by omega) dn_E_stepTowards_113 ?_
    refine lv_goto (tgt := 118) hx hb dn_E_stepTowards_114 (by decide) ?_
    refine va_put (D := (dC, dI)) (ci := 1) (v := .int (nI (fc - (ds_hb fc)))) (ty := .int) (C := rn_E) (T := tn_E) (N := 7) hx hb hw ml_E tt_E to_E nd_E hown hK hP hD hS 0 rfl rfl 5 (by decide) (hw _ mw_67) (fun _ h9 => h9) rfl (by decide +kernel) rfl rfl (Nat.le_of_ble_eq_true rfl) dn_E_stepTowards_118 (fun H locs hP hD hS => ?_)
    have hP : va_P (dC, dI) vwCl [(a0, .inr (1, [.ref a1, .ref a2, .ref a3, .int (nI st), .int (nI (ff + (ds_hb fc))), .int (nI (fc - (ds_hb fc))), .int (nI b)])), (a1, .inl (cZ, 6, .inl (upd X s 1))), (a2, .inl (cI, 6, .inl (upd Y s (nI ff)))), (a3, .inl (cI, 6, .inl (upd Z s (nI (ds_hb fc)))))] H := hP
    have hD : va_D A [(a0, .inr (1, [.ref a1, .ref a2, .ref a3, .int (nI st), .int (nI (ff + (ds_hb fc))), .int (nI (fc - (ds_hb fc))), .int (nI b)])), (a1, .inl (cZ, 6, .inl (upd X s 1))), (a2, .inl (cI, 6, .inl (upd Y s (nI ff)))), (a3, .inl (cI, 6, .inl (upd Z s (nI (ds_hb fc)))))] := hD
    have hP : va_P (dC, dI) vwCl [(a0, .inr (1, [.ref a1, .ref a2, .ref a3, .int (nI st), .int (nI ((ds_nx t ff fc).1)), .int (nI ((ds_nx t ff fc).2)), .int (nI b)])), (a1, .inl (cZ, 6, .inl (upd X s (ds_r t ff fc)))), (a2, .inl (cI, 6, .inl (upd Y s (nI (ds_f t ff fc))))), (a3, .inl (cI, 6, .inl (upd Z s (nI (ds_c t ff fc)))))] H := by rw [ds_rr h17, ds_rf h17, ds_rc h17, ds_rx h17]; exact hP
    have hD : va_D A [(a0, .inr (1, [.ref a1, .ref a2, .ref a3, .int (nI st), .int (nI ((ds_nx t ff fc).1)), .int (nI ((ds_nx t ff fc).2)), .int (nI b)])), (a1, .inl (cZ, 6, .inl (upd X s (ds_r t ff fc)))), (a2, .inl (cI, 6, .inl (upd Y s (nI (ds_f t ff fc))))), (a3, .inl (cI, 6, .inl (upd Z s (nI (ds_c t ff fc)))))] := by rw [ds_rr h17, ds_rf h17, ds_rc h17, ds_rx h17]; exact hD
    exact hret () _ _ _ _ trivial hP hD hS dn_E_stepTowards_121

set_option maxRecDepth 100000 in
set_option maxHeartbeats 4000000 in
theorem c_E_goDown0 (l : Launch) (dC : Nat → ClassId) (dI : Nat → Nat → Nat) (cI cZ : ClassId) (a0 a1 a2 a3 : Nat) (X Y Z : Nat → Int32) (st ff fc b t n : Nat) (ht : t < n) (hn : n ≤ 40) : gc_V l yn_E_goDown (gw yn_E_goDown cn_E_goDown 6 none) (rm_ 3 65) (dC, dI) vwCl (gT cI cZ) [.ref a0, .int (nI t), .int (nI n), .int 0] [(a0, .inr (1, [.ref a1, .ref a2, .ref a3, .int (nI st), .int (nI ff), .int (nI fc), .int (nI b)])), (a1, .inl (cZ, 6, .inl X)), (a2, .inl (cI, 6, .inl Y)), (a3, .inl (cI, 6, .inl Z))] (fun (u : (Nat → Int32) × (Nat → Int32) × (Nat → Int32) × Nat) => ds_is false t n u.2.2.2 ∧ de_ar t n u.2.2.2 u.1 u.2.1 u.2.2.1) (fun u => [(a0, .inr (1, [.ref a1, .ref a2, .ref a3, .int (nI u.2.2.2), .int (nI ((ds_at t n u.2.2.2).1)), .int (nI ((ds_at t n u.2.2.2).2)), .int (nI b)])), (a1, .inl (cZ, 6, .inl u.1)), (a2, .inl (cI, 6, .inl u.2.1)), (a3, .inl (cI, 6, .inl u.2.2.1))]) := by
  refine gc_V_of (cc := cn_E_goDown) (maxL := 6) (by decide) rfl (Nat.le_of_ble_eq_true rfl) ?_
  intro pp ee ss mm ar be me cd A Q ls H0 H locs hx hb hml hown hts hK hP hD hS hA hl hret
  have hw : ∀ w ∈ gw_T, w.before ar ss = true := fun w h => hts w (List.mem_cons_of_mem _ h)
  have hl : lv_has ls 6 [(0, .ref a0), (1, .int (nI t)), (2, .int (nI n)), (3, .int 0)] := hl
  refine lv_aload_n hx hb dn_E_goDown_0 rfl (lv_at hl 0 rfl) ?_
  refine lv_iconst (v := 0) hx hb dn_E_goDown_1 (by decide) ?_
  refine va_put (D := (dC, dI)) (ci := 1) (v := .int 0) (ty := .int) (C := rn_E) (T := tn_E) (N := 7) hx hb hw ml_E tt_E to_E nd_E hown hK hP hD hS 0 rfl rfl 3 (by decide) (hw _ mw_65) (fun _ h9 => h9) rfl (by decide +kernel) rfl rfl (Nat.le_of_ble_eq_true rfl) dn_E_goDown_2 (fun H locs hP hD hS => ?_)
  have hP : va_P (dC, dI) vwCl [(a0, .inr (1, [.ref a1, .ref a2, .ref a3, .int 0, .int (nI ff), .int (nI fc), .int (nI b)])), (a1, .inl (cZ, 6, .inl X)), (a2, .inl (cI, 6, .inl Y)), (a3, .inl (cI, 6, .inl Z))] H := hP
  have hD : va_D A [(a0, .inr (1, [.ref a1, .ref a2, .ref a3, .int 0, .int (nI ff), .int (nI fc), .int (nI b)])), (a1, .inl (cZ, 6, .inl X)), (a2, .inl (cI, 6, .inl Y)), (a3, .inl (cI, 6, .inl Z))] := hD
  refine lv_aload_n hx hb dn_E_goDown_5 rfl (lv_at hl 0 rfl) ?_
  refine lv_iconst (v := 0) hx hb dn_E_goDown_6 (by decide) ?_
  refine va_put (D := (dC, dI)) (ci := 1) (v := .int 0) (ty := .int) (C := rn_E) (T := tn_E) (N := 7) hx hb hw ml_E tt_E to_E nd_E hown hK hP hD hS 0 rfl rfl 4 (by decide) (hw _ mw_66) (fun _ h9 => h9) rfl (by decide +kernel) rfl rfl (Nat.le_of_ble_eq_true rfl) dn_E_goDown_7 (fun H locs hP hD hS => ?_)
  have hP : va_P (dC, dI) vwCl [(a0, .inr (1, [.ref a1, .ref a2, .ref a3, .int 0, .int 0, .int (nI fc), .int (nI b)])), (a1, .inl (cZ, 6, .inl X)), (a2, .inl (cI, 6, .inl Y)), (a3, .inl (cI, 6, .inl Z))] H := hP
  have hD : va_D A [(a0, .inr (1, [.ref a1, .ref a2, .ref a3, .int 0, .int 0, .int (nI fc), .int (nI b)])), (a1, .inl (cZ, 6, .inl X)), (a2, .inl (cI, 6, .inl Y)), (a3, .inl (cI, 6, .inl Z))] := hD
  refine lv_aload_n hx hb dn_E_goDown_10 rfl (lv_at hl 0 rfl) ?_
  refine lv_iload_n hx hb dn_E_goDown_11 rfl (lv_at hl 2 rfl) ?_
  refine va_put (D := (dC, dI)) (ci := 1) (v := .int (nI n)) (ty := .int) (C := rn_E) (T := tn_E) (N := 7) hx hb hw ml_E tt_E to_E nd_E hown hK hP hD hS 0 rfl rfl 5 (by decide) (hw _ mw_67) (fun _ h9 => h9) rfl (by decide +kernel) rfl rfl (Nat.le_of_ble_eq_true rfl) dn_E_goDown_12 (fun H locs hP hD hS => ?_)
  have hP : va_P (dC, dI) vwCl [(a0, .inr (1, [.ref a1, .ref a2, .ref a3, .int 0, .int 0, .int (nI n), .int (nI b)])), (a1, .inl (cZ, 6, .inl X)), (a2, .inl (cI, 6, .inl Y)), (a3, .inl (cI, 6, .inl Z))] H := hP
  have hD : va_D A [(a0, .inr (1, [.ref a1, .ref a2, .ref a3, .int 0, .int 0, .int (nI n), .int (nI b)])), (a1, .inl (cZ, 6, .inl X)), (a2, .inl (cI, 6, .inl Y)), (a3, .inl (cI, 6, .inl Z))] := hD
  refine lv_iconst (v := 0) hx hb dn_E_goDown_15 (by decide) ?_
  refine lv_istore (lv' := [(4, .int 0), (0, .ref a0), (1, .int (nI t)), (2, .int (nI n)), (3, .int 0)]) hx hb dn_E_goDown_16 hl (by decide) rfl (fun ls hl => ?_)
  have lp18 : ∀ (n18_ : Nat) (s : Nat) (X : Nat → Int32) (Y : Nat → Int32) (Z : Nat → Int32) (ls : Array Slot) (H : Heap) (locs : List Loc), 6 - s = n18_ → lv_has ls 6 [(0, .ref a0), (1, .int (nI t)), (2, .int (nI n)), (3, .int 0), (4, .int (nI s))] → va_P (dC, dI) vwCl [(a0, .inr (1, [.ref a1, .ref a2, .ref a3, .int (nI s), .int (nI ((ds_at t n s).1)), .int (nI ((ds_at t n s).2)), .int (nI b)])), (a1, .inl (cZ, 6, .inl X)), (a2, .inl (cI, 6, .inl Y)), (a3, .inl (cI, 6, .inl Z))] H → va_D A [(a0, .inr (1, [.ref a1, .ref a2, .ref a3, .int (nI s), .int (nI ((ds_at t n s).1)), .int (nI ((ds_at t n s).2)), .int (nI b)])), (a1, .inl (cZ, 6, .inl X)), (a2, .inl (cI, 6, .inl Y)), (a3, .inl (cI, 6, .inl Z))] → va_S A H0 H locs → (s ≤ 6) → (ds_run false t n s) → (de_ar t n s X Y Z) → W pp l ee (headSpec (gw yn_E_goDown cn_E_goDown 6 none) (rm_ 3 65)).room ss mm ar be me cd H locs 0 0 Q (F0 mm 18 ls []) := by
    intro n18_
    induction n18_ using Nat.strongRecOn with
    | ind n18_ ih18 =>
      intro s X Y Z ls H locs hn18_ hl hP hD hS hs6 hrun har
      obtain ⟨d1, d2, d3, -⟩ := ds_iv ht hn s hrun
      refine lv_iload hx hb dn_E_goDown_18 (lv_at hl 4 rfl) ?_
      refine lv_bipush (v := 6) hx hb dn_E_goDown_20 (by decide) ?_
      refine gr_cge (tgt := 88) hx hb s 6 rfl rfl (by omega) (by decide) dn_E_goDown_22 (by decide) (fun h22 => ?_) (fun h22 => ?_)
      · skip
        obtain rfl : 6 = s := by omega
        have he := ds_6 ht hn hrun
        exact hret (X, Y, Z, 6) _ _ _ _ ⟨⟨hrun, he⟩, har⟩ hP hD hS dn_E_goDown_88
      · skip
        refine lv_iload_n hx hb dn_E_goDown_25 rfl (lv_at hl 3 rfl) ?_
        refine lv_if_eq (tgt := 48) hx hb dn_E_goDown_26 (by decide) (fun _ => ?_) (fun h => absurd h (by decide))
        refine lv_iconst (v := 0) hx hb dn_E_goDown_48 (by decide) ?_
        refine lv_istore (lv' := [(5, .int 0), (0, .ref a0), (1, .int (nI t)), (2, .int (nI n)), (3, .int 0), (4, .int (nI s))]) hx hb dn_E_goDown_49 hl (by decide) rfl (fun ls hl => ?_)
        refine lv_aload_n hx hb dn_E_goDown_51 rfl (lv_at hl 1 rfl) ?_
        refine va_get (D := (dC, dI)) (ci := 1) (v := .int (nI ((ds_at t n s).2))) (C := rn_E) (T := tn_E) (N := 7) hx hb hw ml_E hown hK hP 0 rfl rfl 5 (by decide) (hw _ mw_67) (fun _ h9 => h9) rfl dn_E_goDown_52 ?_
        refine lv_iconst (v := 1) hx hb dn_E_goDown_55 (by decide) ?_
        refine gr_cle (tgt := 64) hx hb ((ds_at t n s).2) 1 rfl rfl (by omega) (by decide) dn_E_goDown_56 (by decide) (fun h56 => ?_) (fun h56 => ?_)
        · skip
          exact hret (X, Y, Z, s) _ _ _ _ ⟨⟨hrun, (by first | exact Or.inl h56 | exact Or.inr ⟨rfl, by show t + 1 = (ds_at t n s).1 + (ds_at t n s).2; omega⟩)⟩, har⟩ hP hD hS dn_E_goDown_64
        · skip
          refine lv_iload hx hb dn_E_goDown_59 (lv_at hl 0 rfl) ?_
          refine lv_if_eq (tgt := 65) hx hb dn_E_goDown_61 (by decide) (fun _ => ?_) (fun h => absurd h (by decide))
          refine lv_aload_n hx hb dn_E_goDown_65 rfl (lv_at hl 1 rfl) ?_
          refine lv_iload_n hx hb dn_E_goDown_66 rfl (lv_at hl 2 rfl) ?_
          refine lv_iload hx hb dn_E_goDown_67 (lv_at hl 5 rfl) ?_
          have hne : ¬ ds_end false t n s := (fun q => q.elim (fun q => absurd q (by omega)) (fun q => absurd q.1 (by decide)))
          refine gc_vv (pre := []) (wc := [(a0, .inr (1, [.ref a1, .ref a2, .ref a3, .int (nI s), .int (nI ((ds_at t n s).1)), .int (nI ((ds_at t n s).2)), .int (nI b)])), (a1, .inl (cZ, 6, .inl X)), (a2, .inl (cI, 6, .inl Y)), (a3, .inl (cI, 6, .inl Z))]) (po := []) (As := [.int (nI t), .int (nI s)]) (rest := []) ⟨hx, hb, hml, hown, hw⟩ (c_E_stepTowards l dC dI cI cZ a0 a1 a2 a3 X Y Z s ((ds_at t n s).1) ((ds_at t n s).2) b t s (by omega) (by omega) (by omega) (by omega) (by omega)) (gw_cV 2 hw mw_329 mw_331 mv_15 mw_4 mw_332 hd_E_stepTowards ⟨Nat.le_of_ble_eq_true rfl, Nat.le_of_ble_eq_true rfl⟩) (ci := 1) rfl rfl rfl hK hP hD hS hA rfl hl.1 rfl (Nat.le_of_ble_eq_true rfl) dn_E_goDown_69 ⟨Nat.zero_le _, Nat.zero_le _⟩ (fun u69 H locs hc69 hP hD hS => ?_)
          have hP : va_P (dC, dI) vwCl [(a0, .inr (1, [.ref a1, .ref a2, .ref a3, .int (nI s), .int (nI ((ds_nx t ((ds_at t n s).1) ((ds_at t n s).2)).1)), .int (nI ((ds_nx t ((ds_at t n s).1) ((ds_at t n s).2)).2)), .int (nI b)])), (a1, .inl (cZ, 6, .inl (upd X s (ds_r t ((ds_at t n s).1) ((ds_at t n s).2))))), (a2, .inl (cI, 6, .inl (upd Y s (nI (ds_f t ((ds_at t n s).1) ((ds_at t n s).2)))))), (a3, .inl (cI, 6, .inl (upd Z s (nI (ds_c t ((ds_at t n s).1) ((ds_at t n s).2))))))] H := hP
          have hD : va_D A [(a0, .inr (1, [.ref a1, .ref a2, .ref a3, .int (nI s), .int (nI ((ds_nx t ((ds_at t n s).1) ((ds_at t n s).2)).1)), .int (nI ((ds_nx t ((ds_at t n s).1) ((ds_at t n s).2)).2)), .int (nI b)])), (a1, .inl (cZ, 6, .inl (upd X s (ds_r t ((ds_at t n s).1) ((ds_at t n s).2))))), (a2, .inl (cI, 6, .inl (upd Y s (nI (ds_f t ((ds_at t n s).1) ((ds_at t n s).2)))))), (a3, .inl (cI, 6, .inl (upd Z s (nI (ds_c t ((ds_at t n s).1) ((ds_at t n s).2))))))] := hD
          refine lv_aload_n hx hb dn_E_goDown_72 rfl (lv_at hl 1 rfl) ?_
          refine lv_dup hx hb dn_E_goDown_73 rfl ?_
          refine va_get (D := (dC, dI)) (ci := 1) (v := .int (nI s)) (C := rn_E) (T := tn_E) (N := 7) hx hb hw ml_E hown hK hP 0 rfl rfl 3 (by decide) (hw _ mw_65) (fun _ h9 => h9) rfl dn_E_goDown_74 ?_
          refine lv_iconst (v := 1) hx hb dn_E_goDown_77 (by decide) ?_
          refine gr_addN hx hb s 1 rfl rfl dn_E_goDown_78 ?_
          refine va_put (D := (dC, dI)) (ci := 1) (v := .int (nI (s + 1))) (ty := .int) (C := rn_E) (T := tn_E) (N := 7) hx hb hw ml_E tt_E to_E nd_E hown hK hP hD hS 0 rfl rfl 3 (by decide) (hw _ mw_65) (fun _ h9 => h9) rfl (by decide +kernel) rfl rfl (Nat.le_of_ble_eq_true rfl) dn_E_goDown_79 (fun H locs hP hD hS => ?_)
          have hP : va_P (dC, dI) vwCl [(a0, .inr (1, [.ref a1, .ref a2, .ref a3, .int (nI (s + 1)), .int (nI ((ds_nx t ((ds_at t n s).1) ((ds_at t n s).2)).1)), .int (nI ((ds_nx t ((ds_at t n s).1) ((ds_at t n s).2)).2)), .int (nI b)])), (a1, .inl (cZ, 6, .inl (upd X s (ds_r t ((ds_at t n s).1) ((ds_at t n s).2))))), (a2, .inl (cI, 6, .inl (upd Y s (nI (ds_f t ((ds_at t n s).1) ((ds_at t n s).2)))))), (a3, .inl (cI, 6, .inl (upd Z s (nI (ds_c t ((ds_at t n s).1) ((ds_at t n s).2))))))] H := hP
          have hD : va_D A [(a0, .inr (1, [.ref a1, .ref a2, .ref a3, .int (nI (s + 1)), .int (nI ((ds_nx t ((ds_at t n s).1) ((ds_at t n s).2)).1)), .int (nI ((ds_nx t ((ds_at t n s).1) ((ds_at t n s).2)).2)), .int (nI b)])), (a1, .inl (cZ, 6, .inl (upd X s (ds_r t ((ds_at t n s).1) ((ds_at t n s).2))))), (a2, .inl (cI, 6, .inl (upd Y s (nI (ds_f t ((ds_at t n s).1) ((ds_at t n s).2)))))), (a3, .inl (cI, 6, .inl (upd Z s (nI (ds_c t ((ds_at t n s).1) ((ds_at t n s).2))))))] := hD
          refine lv_iinc (lv' := [(4, .int (nI (s + 1))), (5, .int 0), (0, .ref a0), (1, .int (nI t)), (2, .int (nI n)), (3, .int 0)]) (v := (nI (s + 1))) (k := 5) hx hb dn_E_goDown_82 hl rfl (nI_add s 1) (by decide) rfl (fun ls hl => ?_)
          refine lv_goto (tgt := 18) hx hb dn_E_goDown_85 (by decide) ?_
          exact ih18 (6 - (s + 1)) (by omega) (s + 1) (upd X s (ds_rt t n s)) (upd Y s (nI (ds_sf t n s))) (upd Z s (nI (ds_sc t n s))) ls H locs rfl (lv_sub hl [2, 3, 4, 5, 0] rfl) hP hD hS (by omega) (fun i hi => by rcases Nat.lt_or_ge i s with q | q; exact hrun i q; exact (show i = s by omega) ▸ hne) (de_ar_s har)
  exact lp18 _ 0 X Y Z ls H locs rfl (lv_sub hl [1, 2, 3, 4, 0] rfl) hP hD hS (Nat.zero_le _) (fun i h => absurd h (Nat.not_lt_zero i)) (⟨fun i h => absurd h (Nat.not_lt_zero i), fun i h => absurd h (Nat.not_lt_zero i), fun i h => absurd h (Nat.not_lt_zero i)⟩)

set_option maxRecDepth 100000 in
set_option maxHeartbeats 4000000 in
theorem c_E_goDown1 (l : Launch) (dC : Nat → ClassId) (dI : Nat → Nat → Nat) (cI cZ : ClassId) (a0 a1 a2 a3 : Nat) (X Y Z : Nat → Int32) (st ff fc b t n : Nat) (ht : t < n) (hn : n ≤ 40) : gc_V l yn_E_goDown (gw yn_E_goDown cn_E_goDown 6 none) (rm_ 3 65) (dC, dI) vwCl (gT cI cZ) [.ref a0, .int (nI t), .int (nI n), .int 1] [(a0, .inr (1, [.ref a1, .ref a2, .ref a3, .int (nI st), .int (nI ff), .int (nI fc), .int (nI b)])), (a1, .inl (cZ, 6, .inl X)), (a2, .inl (cI, 6, .inl Y)), (a3, .inl (cI, 6, .inl Z))] (fun (u : (Nat → Int32) × (Nat → Int32) × (Nat → Int32) × Nat) => ds_is true t n u.2.2.2 ∧ de_ar t n u.2.2.2 u.1 u.2.1 u.2.2.1) (fun u => [(a0, .inr (1, [.ref a1, .ref a2, .ref a3, .int (nI u.2.2.2), .int (nI ((ds_at t n u.2.2.2).1)), .int (nI ((ds_at t n u.2.2.2).2)), .int (nI b)])), (a1, .inl (cZ, 6, .inl u.1)), (a2, .inl (cI, 6, .inl u.2.1)), (a3, .inl (cI, 6, .inl u.2.2.1))]) := by
  refine gc_V_of (cc := cn_E_goDown) (maxL := 6) (by decide) rfl (Nat.le_of_ble_eq_true rfl) ?_
  intro pp ee ss mm ar be me cd A Q ls H0 H locs hx hb hml hown hts hK hP hD hS hA hl hret
  have hw : ∀ w ∈ gw_T, w.before ar ss = true := fun w h => hts w (List.mem_cons_of_mem _ h)
  have hl : lv_has ls 6 [(0, .ref a0), (1, .int (nI t)), (2, .int (nI n)), (3, .int 1)] := hl
  refine lv_aload_n hx hb dn_E_goDown_0 rfl (lv_at hl 0 rfl) ?_
  refine lv_iconst (v := 0) hx hb dn_E_goDown_1 (by decide) ?_
  refine va_put (D := (dC, dI)) (ci := 1) (v := .int 0) (ty := .int) (C := rn_E) (T := tn_E) (N := 7) hx hb hw ml_E tt_E to_E nd_E hown hK hP hD hS 0 rfl rfl 3 (by decide) (hw _ mw_65) (fun _ h9 => h9) rfl (by decide +kernel) rfl rfl (Nat.le_of_ble_eq_true rfl) dn_E_goDown_2 (fun H locs hP hD hS => ?_)
  have hP : va_P (dC, dI) vwCl [(a0, .inr (1, [.ref a1, .ref a2, .ref a3, .int 0, .int (nI ff), .int (nI fc), .int (nI b)])), (a1, .inl (cZ, 6, .inl X)), (a2, .inl (cI, 6, .inl Y)), (a3, .inl (cI, 6, .inl Z))] H := hP
  have hD : va_D A [(a0, .inr (1, [.ref a1, .ref a2, .ref a3, .int 0, .int (nI ff), .int (nI fc), .int (nI b)])), (a1, .inl (cZ, 6, .inl X)), (a2, .inl (cI, 6, .inl Y)), (a3, .inl (cI, 6, .inl Z))] := hD
  refine lv_aload_n hx hb dn_E_goDown_5 rfl (lv_at hl 0 rfl) ?_
  refine lv_iconst (v := 0) hx hb dn_E_goDown_6 (by decide) ?_
  refine va_put (D := (dC, dI)) (ci := 1) (v := .int 0) (ty := .int) (C := rn_E) (T := tn_E) (N := 7) hx hb hw ml_E tt_E to_E nd_E hown hK hP hD hS 0 rfl rfl 4 (by decide) (hw _ mw_66) (fun _ h9 => h9) rfl (by decide +kernel) rfl rfl (Nat.le_of_ble_eq_true rfl) dn_E_goDown_7 (fun H locs hP hD hS => ?_)
  have hP : va_P (dC, dI) vwCl [(a0, .inr (1, [.ref a1, .ref a2, .ref a3, .int 0, .int 0, .int (nI fc), .int (nI b)])), (a1, .inl (cZ, 6, .inl X)), (a2, .inl (cI, 6, .inl Y)), (a3, .inl (cI, 6, .inl Z))] H := hP
  have hD : va_D A [(a0, .inr (1, [.ref a1, .ref a2, .ref a3, .int 0, .int 0, .int (nI fc), .int (nI b)])), (a1, .inl (cZ, 6, .inl X)), (a2, .inl (cI, 6, .inl Y)), (a3, .inl (cI, 6, .inl Z))] := hD
  refine lv_aload_n hx hb dn_E_goDown_10 rfl (lv_at hl 0 rfl) ?_
  refine lv_iload_n hx hb dn_E_goDown_11 rfl (lv_at hl 2 rfl) ?_
  refine va_put (D := (dC, dI)) (ci := 1) (v := .int (nI n)) (ty := .int) (C := rn_E) (T := tn_E) (N := 7) hx hb hw ml_E tt_E to_E nd_E hown hK hP hD hS 0 rfl rfl 5 (by decide) (hw _ mw_67) (fun _ h9 => h9) rfl (by decide +kernel) rfl rfl (Nat.le_of_ble_eq_true rfl) dn_E_goDown_12 (fun H locs hP hD hS => ?_)
  have hP : va_P (dC, dI) vwCl [(a0, .inr (1, [.ref a1, .ref a2, .ref a3, .int 0, .int 0, .int (nI n), .int (nI b)])), (a1, .inl (cZ, 6, .inl X)), (a2, .inl (cI, 6, .inl Y)), (a3, .inl (cI, 6, .inl Z))] H := hP
  have hD : va_D A [(a0, .inr (1, [.ref a1, .ref a2, .ref a3, .int 0, .int 0, .int (nI n), .int (nI b)])), (a1, .inl (cZ, 6, .inl X)), (a2, .inl (cI, 6, .inl Y)), (a3, .inl (cI, 6, .inl Z))] := hD
  refine lv_iconst (v := 0) hx hb dn_E_goDown_15 (by decide) ?_
  refine lv_istore (lv' := [(4, .int 0), (0, .ref a0), (1, .int (nI t)), (2, .int (nI n)), (3, .int 1)]) hx hb dn_E_goDown_16 hl (by decide) rfl (fun ls hl => ?_)
  have lp18 : ∀ (n18_ : Nat) (s : Nat) (X : Nat → Int32) (Y : Nat → Int32) (Z : Nat → Int32) (ls : Array Slot) (H : Heap) (locs : List Loc), 6 - s = n18_ → lv_has ls 6 [(0, .ref a0), (1, .int (nI t)), (2, .int (nI n)), (3, .int 1), (4, .int (nI s))] → va_P (dC, dI) vwCl [(a0, .inr (1, [.ref a1, .ref a2, .ref a3, .int (nI s), .int (nI ((ds_at t n s).1)), .int (nI ((ds_at t n s).2)), .int (nI b)])), (a1, .inl (cZ, 6, .inl X)), (a2, .inl (cI, 6, .inl Y)), (a3, .inl (cI, 6, .inl Z))] H → va_D A [(a0, .inr (1, [.ref a1, .ref a2, .ref a3, .int (nI s), .int (nI ((ds_at t n s).1)), .int (nI ((ds_at t n s).2)), .int (nI b)])), (a1, .inl (cZ, 6, .inl X)), (a2, .inl (cI, 6, .inl Y)), (a3, .inl (cI, 6, .inl Z))] → va_S A H0 H locs → (s ≤ 6) → (ds_run true t n s) → (de_ar t n s X Y Z) → W pp l ee (headSpec (gw yn_E_goDown cn_E_goDown 6 none) (rm_ 3 65)).room ss mm ar be me cd H locs 0 0 Q (F0 mm 18 ls []) := by
    intro n18_
    induction n18_ using Nat.strongRecOn with
    | ind n18_ ih18 =>
      intro s X Y Z ls H locs hn18_ hl hP hD hS hs6 hrun har
      obtain ⟨d1, d2, d3, -⟩ := ds_iv ht hn s hrun
      refine lv_iload hx hb dn_E_goDown_18 (lv_at hl 4 rfl) ?_
      refine lv_bipush (v := 6) hx hb dn_E_goDown_20 (by decide) ?_
      refine gr_cge (tgt := 88) hx hb s 6 rfl rfl (by omega) (by decide) dn_E_goDown_22 (by decide) (fun h22 => ?_) (fun h22 => ?_)
      · skip
        obtain rfl : 6 = s := by omega
        have he := ds_6 ht hn hrun
        exact hret (X, Y, Z, 6) _ _ _ _ ⟨⟨hrun, he⟩, har⟩ hP hD hS dn_E_goDown_88
      · skip
        refine lv_iload_n hx hb dn_E_goDown_25 rfl (lv_at hl 3 rfl) ?_
        refine lv_if_eq (tgt := 48) hx hb dn_E_goDown_26 (by decide) (fun h => absurd h (by decide)) (fun _ => ?_)
        refine lv_iload_n hx hb dn_E_goDown_29 rfl (lv_at hl 1 rfl) ?_
        refine lv_aload_n hx hb dn_E_goDown_30 rfl (lv_at hl 0 rfl) ?_
        refine va_get (D := (dC, dI)) (ci := 1) (v := .int (nI ((ds_at t n s).1))) (C := rn_E) (T := tn_E) (N := 7) hx hb hw ml_E hown hK hP 0 rfl rfl 4 (by decide) (hw _ mw_66) (fun _ h9 => h9) rfl dn_E_goDown_31 ?_
        refine lv_aload_n hx hb dn_E_goDown_34 rfl (lv_at hl 0 rfl) ?_
        refine va_get (D := (dC, dI)) (ci := 1) (v := .int (nI ((ds_at t n s).2))) (C := rn_E) (T := tn_E) (N := 7) hx hb hw ml_E hown hK hP 0 rfl rfl 5 (by decide) (hw _ mw_67) (fun _ h9 => h9) rfl dn_E_goDown_35 ?_
        refine gr_addN hx hb ((ds_at t n s).1) ((ds_at t n s).2) rfl rfl dn_E_goDown_38 ?_
        refine lv_iconst (v := 1) hx hb dn_E_goDown_39 (by decide) ?_
        refine gr_subN hx hb (((ds_at t n s).1) + ((ds_at t n s).2)) 1 rfl rfl (by omega) dn_E_goDown_40 ?_
        refine gr_cne (tgt := 48) hx hb t ((((ds_at t n s).1) + ((ds_at t n s).2)) - 1) rfl rfl (by omega) (by omega) dn_E_goDown_41 (by decide) (fun h41 => ?_) (fun h41 => ?_)
        · skip
          refine lv_iconst (v := 0) hx hb dn_E_goDown_48 (by decide) ?_
          refine lv_istore (lv' := [(5, .int 0), (0, .ref a0), (1, .int (nI t)), (2, .int (nI n)), (3, .int 1), (4, .int (nI s))]) hx hb dn_E_goDown_49 hl (by decide) rfl (fun ls hl => ?_)
          refine lv_aload_n hx hb dn_E_goDown_51 rfl (lv_at hl 1 rfl) ?_
          refine va_get (D := (dC, dI)) (ci := 1) (v := .int (nI ((ds_at t n s).2))) (C := rn_E) (T := tn_E) (N := 7) hx hb hw ml_E hown hK hP 0 rfl rfl 5 (by decide) (hw _ mw_67) (fun _ h9 => h9) rfl dn_E_goDown_52 ?_
          refine lv_iconst (v := 1) hx hb dn_E_goDown_55 (by decide) ?_
          refine gr_cle (tgt := 64) hx hb ((ds_at t n s).2) 1 rfl rfl (by omega) (by decide) dn_E_goDown_56 (by decide) (fun h56 => ?_) (fun h56 => ?_)
          · skip
            exact hret (X, Y, Z, s) _ _ _ _ ⟨⟨hrun, (by first | exact Or.inl h56 | exact Or.inr ⟨rfl, by show t + 1 = (ds_at t n s).1 + (ds_at t n s).2; omega⟩)⟩, har⟩ hP hD hS dn_E_goDown_64
          · skip
            refine lv_iload hx hb dn_E_goDown_59 (lv_at hl 0 rfl) ?_
            refine lv_if_eq (tgt := 65) hx hb dn_E_goDown_61 (by decide) (fun _ => ?_) (fun h => absurd h (by decide))
            refine lv_aload_n hx hb dn_E_goDown_65 rfl (lv_at hl 1 rfl) ?_
            refine lv_iload_n hx hb dn_E_goDown_66 rfl (lv_at hl 2 rfl) ?_
            refine lv_iload hx hb dn_E_goDown_67 (lv_at hl 5 rfl) ?_
            have hne : ¬ ds_end true t n s := (fun q => q.elim (fun q => absurd q (by omega)) (fun q => absurd q.2 (by omega)))
            refine gc_vv (pre := []) (wc := [(a0, .inr (1, [.ref a1, .ref a2, .ref a3, .int (nI s), .int (nI ((ds_at t n s).1)), .int (nI ((ds_at t n s).2)), .int (nI b)])), (a1, .inl (cZ, 6, .inl X)), (a2, .inl (cI, 6, .inl Y)), (a3, .inl (cI, 6, .inl Z))]) (po := []) (As := [.int (nI t), .int (nI s)]) (rest := []) ⟨hx, hb, hml, hown, hw⟩ (c_E_stepTowards l dC dI cI cZ a0 a1 a2 a3 X Y Z s ((ds_at t n s).1) ((ds_at t n s).2) b t s (by omega) (by omega) (by omega) (by omega) (by omega)) (gw_cV 2 hw mw_329 mw_331 mv_15 mw_4 mw_332 hd_E_stepTowards ⟨Nat.le_of_ble_eq_true rfl, Nat.le_of_ble_eq_true rfl⟩) (ci := 1) rfl rfl rfl hK hP hD hS hA rfl hl.1 rfl (Nat.le_of_ble_eq_true rfl) dn_E_goDown_69 ⟨Nat.zero_le _, Nat.zero_le _⟩ (fun u69 H locs hc69 hP hD hS => ?_)
            have hP : va_P (dC, dI) vwCl [(a0, .inr (1, [.ref a1, .ref a2, .ref a3, .int (nI s), .int (nI ((ds_nx t ((ds_at t n s).1) ((ds_at t n s).2)).1)), .int (nI ((ds_nx t ((ds_at t n s).1) ((ds_at t n s).2)).2)), .int (nI b)])), (a1, .inl (cZ, 6, .inl (upd X s (ds_r t ((ds_at t n s).1) ((ds_at t n s).2))))), (a2, .inl (cI, 6, .inl (upd Y s (nI (ds_f t ((ds_at t n s).1) ((ds_at t n s).2)))))), (a3, .inl (cI, 6, .inl (upd Z s (nI (ds_c t ((ds_at t n s).1) ((ds_at t n s).2))))))] H := hP
            have hD : va_D A [(a0, .inr (1, [.ref a1, .ref a2, .ref a3, .int (nI s), .int (nI ((ds_nx t ((ds_at t n s).1) ((ds_at t n s).2)).1)), .int (nI ((ds_nx t ((ds_at t n s).1) ((ds_at t n s).2)).2)), .int (nI b)])), (a1, .inl (cZ, 6, .inl (upd X s (ds_r t ((ds_at t n s).1) ((ds_at t n s).2))))), (a2, .inl (cI, 6, .inl (upd Y s (nI (ds_f t ((ds_at t n s).1) ((ds_at t n s).2)))))), (a3, .inl (cI, 6, .inl (upd Z s (nI (ds_c t ((ds_at t n s).1) ((ds_at t n s).2))))))] := hD
            refine lv_aload_n hx hb dn_E_goDown_72 rfl (lv_at hl 1 rfl) ?_
            refine lv_dup hx hb dn_E_goDown_73 rfl ?_
            refine va_get (D := (dC, dI)) (ci := 1) (v := .int (nI s)) (C := rn_E) (T := tn_E) (N := 7) hx hb hw ml_E hown hK hP 0 rfl rfl 3 (by decide) (hw _ mw_65) (fun _ h9 => h9) rfl dn_E_goDown_74 ?_
            refine lv_iconst (v := 1) hx hb dn_E_goDown_77 (by decide) ?_
            refine gr_addN hx hb s 1 rfl rfl dn_E_goDown_78 ?_
            refine va_put (D := (dC, dI)) (ci := 1) (v := .int (nI (s + 1))) (ty := .int) (C := rn_E) (T := tn_E) (N := 7) hx hb hw ml_E tt_E to_E nd_E hown hK hP hD hS 0 rfl rfl 3 (by decide) (hw _ mw_65) (fun _ h9 => h9) rfl (by decide +kernel) rfl rfl (Nat.le_of_ble_eq_true rfl) dn_E_goDown_79 (fun H locs hP hD hS => ?_)
            have hP : va_P (dC, dI) vwCl [(a0, .inr (1, [.ref a1, .ref a2, .ref a3, .int (nI (s + 1)), .int (nI ((ds_nx t ((ds_at t n s).1) ((ds_at t n s).2)).1)), .int (nI ((ds_nx t ((ds_at t n s).1) ((ds_at t n s).2)).2)), .int (nI b)])), (a1, .inl (cZ, 6, .inl (upd X s (ds_r t ((ds_at t n s).1) ((ds_at t n s).2))))), (a2, .inl (cI, 6, .inl (upd Y s (nI (ds_f t ((ds_at t n s).1) ((ds_at t n s).2)))))), (a3, .inl (cI, 6, .inl (upd Z s (nI (ds_c t ((ds_at t n s).1) ((ds_at t n s).2))))))] H := hP
            have hD : va_D A [(a0, .inr (1, [.ref a1, .ref a2, .ref a3, .int (nI (s + 1)), .int (nI ((ds_nx t ((ds_at t n s).1) ((ds_at t n s).2)).1)), .int (nI ((ds_nx t ((ds_at t n s).1) ((ds_at t n s).2)).2)), .int (nI b)])), (a1, .inl (cZ, 6, .inl (upd X s (ds_r t ((ds_at t n s).1) ((ds_at t n s).2))))), (a2, .inl (cI, 6, .inl (upd Y s (nI (ds_f t ((ds_at t n s).1) ((ds_at t n s).2)))))), (a3, .inl (cI, 6, .inl (upd Z s (nI (ds_c t ((ds_at t n s).1) ((ds_at t n s).2))))))] := hD
            refine lv_iinc (lv' := [(4, .int (nI (s + 1))), (5, .int 0), (0, .ref a0), (1, .int (nI t)), (2, .int (nI n)), (3, .int 1)]) (v := (nI (s + 1))) (k := 5) hx hb dn_E_goDown_82 hl rfl (nI_add s 1) (by decide) rfl (fun ls hl => ?_)
            refine lv_goto (tgt := 18) hx hb dn_E_goDown_85 (by decide) ?_
            exact ih18 (6 - (s + 1)) (by omega) (s + 1) (upd X s (ds_rt t n s)) (upd Y s (nI (ds_sf t n s))) (upd Z s (nI (ds_sc t n s))) ls H locs rfl (lv_sub hl [2, 3, 4, 5, 0] rfl) hP hD hS (by omega) (fun i hi => by rcases Nat.lt_or_ge i s with q | q; exact hrun i q; exact (show i = s by omega) ▸ hne) (de_ar_s har)
        · skip
          refine lv_iconst (v := 1) hx hb dn_E_goDown_44 (by decide) ?_
          refine lv_goto (tgt := 49) hx hb dn_E_goDown_45 (by decide) ?_
          refine lv_istore (lv' := [(5, .int 1), (0, .ref a0), (1, .int (nI t)), (2, .int (nI n)), (3, .int 1), (4, .int (nI s))]) hx hb dn_E_goDown_49 hl (by decide) rfl (fun ls hl => ?_)
          refine lv_aload_n hx hb dn_E_goDown_51 rfl (lv_at hl 1 rfl) ?_
          refine va_get (D := (dC, dI)) (ci := 1) (v := .int (nI ((ds_at t n s).2))) (C := rn_E) (T := tn_E) (N := 7) hx hb hw ml_E hown hK hP 0 rfl rfl 5 (by decide) (hw _ mw_67) (fun _ h9 => h9) rfl dn_E_goDown_52 ?_
          refine lv_iconst (v := 1) hx hb dn_E_goDown_55 (by decide) ?_
          refine gr_cle (tgt := 64) hx hb ((ds_at t n s).2) 1 rfl rfl (by omega) (by decide) dn_E_goDown_56 (by decide) (fun h56 => ?_) (fun h56 => ?_)
          · skip
            exact hret (X, Y, Z, s) _ _ _ _ ⟨⟨hrun, (by first | exact Or.inl h56 | exact Or.inr ⟨rfl, by show t + 1 = (ds_at t n s).1 + (ds_at t n s).2; omega⟩)⟩, har⟩ hP hD hS dn_E_goDown_64
          · skip
            refine lv_iload hx hb dn_E_goDown_59 (lv_at hl 0 rfl) ?_
            refine lv_if_eq (tgt := 65) hx hb dn_E_goDown_61 (by decide) (fun h => absurd h (by decide)) (fun _ => ?_)
            exact hret (X, Y, Z, s) _ _ _ _ ⟨⟨hrun, (by first | exact Or.inl h56 | exact Or.inr ⟨rfl, by show t + 1 = (ds_at t n s).1 + (ds_at t n s).2; omega⟩)⟩, har⟩ hP hD hS dn_E_goDown_64
  exact lp18 _ 0 X Y Z ls H locs rfl (lv_sub hl [1, 2, 3, 4, 0] rfl) hP hD hS (Nat.zero_le _) (fun i h => absurd h (Nat.not_lt_zero i)) (⟨fun i h => absurd h (Nat.not_lt_zero i), fun i h => absurd h (Nat.not_lt_zero i), fun i h => absurd h (Nat.not_lt_zero i)⟩)

set_option maxRecDepth 100000 in
set_option maxHeartbeats 4000000 in
theorem c_E_toLeaf (l : Launch) (dC : Nat → ClassId) (dI : Nat → Nat → Nat) (cI cZ : ClassId) (a0 a1 a2 a3 : Nat) (X Y Z : Nat → Int32) (st ff fc b t n : Nat) (ht : t < n) (hn : n ≤ 40) : gc_V l yn_E_toLeaf (gw yn_E_toLeaf cn_E_toLeaf 3 none) (rm_ 4 90) (dC, dI) vwCl (gT cI cZ) [.ref a0, .int (nI t), .int (nI n)] [(a0, .inr (1, [.ref a1, .ref a2, .ref a3, .int (nI st), .int (nI ff), .int (nI fc), .int (nI b)])), (a1, .inl (cZ, 6, .inl X)), (a2, .inl (cI, 6, .inl Y)), (a3, .inl (cI, 6, .inl Z))] (fun (u : (Nat → Int32) × (Nat → Int32) × (Nat → Int32) × Nat) => ds_is false t n u.2.2.2 ∧ de_ar t n u.2.2.2 u.1 u.2.1 u.2.2.1) (fun u => [(a0, .inr (1, [.ref a1, .ref a2, .ref a3, .int (nI u.2.2.2), .int (nI ((ds_at t n u.2.2.2).1)), .int (nI ((ds_at t n u.2.2.2).2)), .int (nI 1)])), (a1, .inl (cZ, 6, .inl u.1)), (a2, .inl (cI, 6, .inl u.2.1)), (a3, .inl (cI, 6, .inl u.2.2.1))]) := by
  refine gc_V_of (cc := cn_E_toLeaf) (maxL := 3) (by decide) rfl (Nat.le_of_ble_eq_true rfl) ?_
  intro pp ee ss mm ar be me cd A Q ls H0 H locs hx hb hml hown hts hK hP hD hS hA hl hret
  have hw : ∀ w ∈ gw_T, w.before ar ss = true := fun w h => hts w (List.mem_cons_of_mem _ h)
  have hl : lv_has ls 3 [(0, .ref a0), (1, .int (nI t)), (2, .int (nI n))] := hl
  refine lv_aload_n hx hb dn_E_toLeaf_0 rfl (lv_at hl 0 rfl) ?_
  refine lv_iload_n hx hb dn_E_toLeaf_1 rfl (lv_at hl 1 rfl) ?_
  refine lv_iload_n hx hb dn_E_toLeaf_2 rfl (lv_at hl 2 rfl) ?_
  refine lv_iconst (v := 0) hx hb dn_E_toLeaf_3 (by decide) ?_
  refine gc_vv (pre := []) (wc := [(a0, .inr (1, [.ref a1, .ref a2, .ref a3, .int (nI st), .int (nI ff), .int (nI fc), .int (nI b)])), (a1, .inl (cZ, 6, .inl X)), (a2, .inl (cI, 6, .inl Y)), (a3, .inl (cI, 6, .inl Z))]) (po := []) (As := [.int (nI t), .int (nI n), .int 0]) (rest := []) ⟨hx, hb, hml, hown, hw⟩ (c_E_goDown0 l dC dI cI cZ a0 a1 a2 a3 X Y Z st ff fc b t n (by omega) (by omega)) (gw_cV 3 hw mw_325 mw_327 mv_14 mw_4 mw_328 hd_E_goDown ⟨Nat.le_of_ble_eq_true rfl, Nat.le_of_ble_eq_true rfl⟩) (ci := 1) rfl rfl rfl hK hP hD hS hA rfl hl.1 rfl (Nat.le_of_ble_eq_true rfl) dn_E_toLeaf_4 ⟨Nat.zero_le _, Nat.zero_le _⟩ (fun u4 H locs hc4 hP hD hS => ?_)
  have hP : va_P (dC, dI) vwCl [(a0, .inr (1, [.ref a1, .ref a2, .ref a3, .int (nI u4.2.2.2), .int (nI ((ds_at t n u4.2.2.2).1)), .int (nI ((ds_at t n u4.2.2.2).2)), .int (nI b)])), (a1, .inl (cZ, 6, .inl u4.1)), (a2, .inl (cI, 6, .inl u4.2.1)), (a3, .inl (cI, 6, .inl u4.2.2.1))] H := hP
  have hD : va_D A [(a0, .inr (1, [.ref a1, .ref a2, .ref a3, .int (nI u4.2.2.2), .int (nI ((ds_at t n u4.2.2.2).1)), .int (nI ((ds_at t n u4.2.2.2).2)), .int (nI b)])), (a1, .inl (cZ, 6, .inl u4.1)), (a2, .inl (cI, 6, .inl u4.2.1)), (a3, .inl (cI, 6, .inl u4.2.2.1))] := hD
  refine lv_aload_n hx hb dn_E_toLeaf_7 rfl (lv_at hl 0 rfl) ?_
  refine lv_iconst (v := 1) hx hb dn_E_toLeaf_8 (by decide) ?_
  refine va_put (D := (dC, dI)) (ci := 1) (v := .int 1) (ty := .boolean) (C := rn_E) (T := tn_E) (N := 7) hx hb hw ml_E tt_E to_E nd_E hown hK hP hD hS 0 rfl rfl 6 (by decide) (hw _ mw_68) (fun _ h9 => h9) rfl (by decide +kernel) rfl rfl (Nat.le_of_ble_eq_true rfl) dn_E_toLeaf_9 (fun H locs hP hD hS => ?_)
  have hP : va_P (dC, dI) vwCl [(a0, .inr (1, [.ref a1, .ref a2, .ref a3, .int (nI u4.2.2.2), .int (nI ((ds_at t n u4.2.2.2).1)), .int (nI ((ds_at t n u4.2.2.2).2)), .int 1])), (a1, .inl (cZ, 6, .inl u4.1)), (a2, .inl (cI, 6, .inl u4.2.1)), (a3, .inl (cI, 6, .inl u4.2.2.1))] H := hP
  have hD : va_D A [(a0, .inr (1, [.ref a1, .ref a2, .ref a3, .int (nI u4.2.2.2), .int (nI ((ds_at t n u4.2.2.2).1)), .int (nI ((ds_at t n u4.2.2.2).2)), .int 1])), (a1, .inl (cZ, 6, .inl u4.1)), (a2, .inl (cI, 6, .inl u4.2.1)), (a3, .inl (cI, 6, .inl u4.2.2.1))] := hD
  exact hret u4 _ _ _ _ hc4 hP hD hS dn_E_toLeaf_12

set_option maxRecDepth 100000 in
set_option maxHeartbeats 4000000 in
theorem c_E_toEdge (l : Launch) (dC : Nat → ClassId) (dI : Nat → Nat → Nat) (cI cZ : ClassId) (a0 a1 a2 a3 : Nat) (X Y Z : Nat → Int32) (st ff fc b m n : Nat) (hm : 1 ≤ m) (hmn : m ≤ n) (hn : n ≤ 40) : gc_V l yn_E_toEdge (gw yn_E_toEdge cn_E_toEdge 3 none) (rm_ 4 90) (dC, dI) vwCl (gT cI cZ) [.ref a0, .int (nI m), .int (nI n)] [(a0, .inr (1, [.ref a1, .ref a2, .ref a3, .int (nI st), .int (nI ff), .int (nI fc), .int (nI b)])), (a1, .inl (cZ, 6, .inl X)), (a2, .inl (cI, 6, .inl Y)), (a3, .inl (cI, 6, .inl Z))] (fun (u : (Nat → Int32) × (Nat → Int32) × (Nat → Int32) × Nat) => ds_is true (m - 1) n u.2.2.2 ∧ de_ar (m - 1) n u.2.2.2 u.1 u.2.1 u.2.2.1) (fun u => [(a0, .inr (1, [.ref a1, .ref a2, .ref a3, .int (nI u.2.2.2), .int (nI ((ds_at (m - 1) n u.2.2.2).1)), .int (nI ((ds_at (m - 1) n u.2.2.2).2)), .int (nI (ds_b (ds_at (m - 1) n u.2.2.2).1))])), (a1, .inl (cZ, 6, .inl u.1)), (a2, .inl (cI, 6, .inl u.2.1)), (a3, .inl (cI, 6, .inl u.2.2.1))]) := by
  refine gc_V_of (cc := cn_E_toEdge) (maxL := 3) (by decide) rfl (Nat.le_of_ble_eq_true rfl) ?_
  intro pp ee ss mm ar be me cd A Q ls H0 H locs hx hb hml hown hts hK hP hD hS hA hl hret
  have hw : ∀ w ∈ gw_T, w.before ar ss = true := fun w h => hts w (List.mem_cons_of_mem _ h)
  have hl : lv_has ls 3 [(0, .ref a0), (1, .int (nI m)), (2, .int (nI n))] := hl
  refine lv_aload_n hx hb dn_E_toEdge_0 rfl (lv_at hl 0 rfl) ?_
  refine lv_iload_n hx hb dn_E_toEdge_1 rfl (lv_at hl 1 rfl) ?_
  refine lv_iconst (v := 1) hx hb dn_E_toEdge_2 (by decide) ?_
  refine gr_subN hx hb m 1 rfl rfl (by omega) dn_E_toEdge_3 ?_
  refine lv_iload_n hx hb dn_E_toEdge_4 rfl (lv_at hl 2 rfl) ?_
  refine lv_iconst (v := 1) hx hb dn_E_toEdge_5 (by decide) ?_
  refine gc_vv (pre := []) (wc := [(a0, .inr (1, [.ref a1, .ref a2, .ref a3, .int (nI st), .int (nI ff), .int (nI fc), .int (nI b)])), (a1, .inl (cZ, 6, .inl X)), (a2, .inl (cI, 6, .inl Y)), (a3, .inl (cI, 6, .inl Z))]) (po := []) (As := [.int (nI (m - 1)), .int (nI n), .int 1]) (rest := []) ⟨hx, hb, hml, hown, hw⟩ (c_E_goDown1 l dC dI cI cZ a0 a1 a2 a3 X Y Z st ff fc b (m - 1) n (by omega) (by omega)) (gw_cV 3 hw mw_325 mw_327 mv_14 mw_4 mw_328 hd_E_goDown ⟨Nat.le_of_ble_eq_true rfl, Nat.le_of_ble_eq_true rfl⟩) (ci := 1) rfl rfl rfl hK hP hD hS hA rfl hl.1 rfl (Nat.le_of_ble_eq_true rfl) dn_E_toEdge_6 ⟨Nat.zero_le _, Nat.zero_le _⟩ (fun u6 H locs hc6 hP hD hS => ?_)
  have hP : va_P (dC, dI) vwCl [(a0, .inr (1, [.ref a1, .ref a2, .ref a3, .int (nI u6.2.2.2), .int (nI ((ds_at (m - 1) n u6.2.2.2).1)), .int (nI ((ds_at (m - 1) n u6.2.2.2).2)), .int (nI b)])), (a1, .inl (cZ, 6, .inl u6.1)), (a2, .inl (cI, 6, .inl u6.2.1)), (a3, .inl (cI, 6, .inl u6.2.2.1))] H := hP
  have hD : va_D A [(a0, .inr (1, [.ref a1, .ref a2, .ref a3, .int (nI u6.2.2.2), .int (nI ((ds_at (m - 1) n u6.2.2.2).1)), .int (nI ((ds_at (m - 1) n u6.2.2.2).2)), .int (nI b)])), (a1, .inl (cZ, 6, .inl u6.1)), (a2, .inl (cI, 6, .inl u6.2.1)), (a3, .inl (cI, 6, .inl u6.2.2.1))] := hD
  obtain ⟨d1, d2, d3, -⟩ := ds_iv (show m - 1 < n by omega) hn _ hc6.1.1
  refine lv_aload_n hx hb dn_E_toEdge_9 rfl (lv_at hl 0 rfl) ?_
  refine lv_aload_n hx hb dn_E_toEdge_10 rfl (lv_at hl 0 rfl) ?_
  refine va_get (D := (dC, dI)) (ci := 1) (v := .int (nI ((ds_at (m - 1) n u6.2.2.2).1))) (C := rn_E) (T := tn_E) (N := 7) hx hb hw ml_E hown hK hP 0 rfl rfl 4 (by decide) (hw _ mw_66) (fun _ h9 => h9) rfl dn_E_toEdge_11 ?_
  refine gr_zle (tgt := 21) hx hb ((ds_at (m - 1) n u6.2.2.2).1) rfl (by omega) dn_E_toEdge_14 (by decide) (fun h14 => ?_) (fun h14 => ?_)
  · skip
    refine lv_iconst (v := 0) hx hb dn_E_toEdge_21 (by decide) ?_
    refine va_put (D := (dC, dI)) (ci := 1) (v := .int 0) (ty := .boolean) (C := rn_E) (T := tn_E) (N := 7) hx hb hw ml_E tt_E to_E nd_E hown hK hP hD hS 0 rfl rfl 6 (by decide) (hw _ mw_68) (fun _ h9 => h9) rfl (by decide +kernel) rfl rfl (Nat.le_of_ble_eq_true rfl) dn_E_toEdge_22 (fun H locs hP hD hS => ?_)
    have hP : va_P (dC, dI) vwCl [(a0, .inr (1, [.ref a1, .ref a2, .ref a3, .int (nI u6.2.2.2), .int (nI ((ds_at (m - 1) n u6.2.2.2).1)), .int (nI ((ds_at (m - 1) n u6.2.2.2).2)), .int 0])), (a1, .inl (cZ, 6, .inl u6.1)), (a2, .inl (cI, 6, .inl u6.2.1)), (a3, .inl (cI, 6, .inl u6.2.2.1))] H := hP
    have hD : va_D A [(a0, .inr (1, [.ref a1, .ref a2, .ref a3, .int (nI u6.2.2.2), .int (nI ((ds_at (m - 1) n u6.2.2.2).1)), .int (nI ((ds_at (m - 1) n u6.2.2.2).2)), .int 0])), (a1, .inl (cZ, 6, .inl u6.1)), (a2, .inl (cI, 6, .inl u6.2.1)), (a3, .inl (cI, 6, .inl u6.2.2.1))] := hD
    have hP : va_P (dC, dI) vwCl [(a0, .inr (1, [.ref a1, .ref a2, .ref a3, .int (nI u6.2.2.2), .int (nI ((ds_at (m - 1) n u6.2.2.2).1)), .int (nI ((ds_at (m - 1) n u6.2.2.2).2)), .int (nI (ds_b (ds_at (m - 1) n u6.2.2.2).1))])), (a1, .inl (cZ, 6, .inl u6.1)), (a2, .inl (cI, 6, .inl u6.2.1)), (a3, .inl (cI, 6, .inl u6.2.2.1))] H := by rw [show ds_b (ds_at (m - 1) n u6.2.2.2).1 = 0 from by unfold ds_b; first | rw [if_pos h14] | rw [if_neg (by omega)]]; exact hP
    have hD : va_D A [(a0, .inr (1, [.ref a1, .ref a2, .ref a3, .int (nI u6.2.2.2), .int (nI ((ds_at (m - 1) n u6.2.2.2).1)), .int (nI ((ds_at (m - 1) n u6.2.2.2).2)), .int (nI (ds_b (ds_at (m - 1) n u6.2.2.2).1))])), (a1, .inl (cZ, 6, .inl u6.1)), (a2, .inl (cI, 6, .inl u6.2.1)), (a3, .inl (cI, 6, .inl u6.2.2.1))] := by rw [show ds_b (ds_at (m - 1) n u6.2.2.2).1 = 0 from by unfold ds_b; first | rw [if_pos h14] | rw [if_neg (by omega)]]; exact hD
    exact hret u6 _ _ _ _ hc6 hP hD hS dn_E_toEdge_25
  · skip
    refine lv_iconst (v := 1) hx hb dn_E_toEdge_17 (by decide) ?_
    refine lv_goto (tgt := 22) hx hb dn_E_toEdge_18 (by decide) ?_
    refine va_put (D := (dC, dI)) (ci := 1) (v := .int 1) (ty := .boolean) (C := rn_E) (T := tn_E) (N := 7) hx hb hw ml_E tt_E to_E nd_E hown hK hP hD hS 0 rfl rfl 6 (by decide) (hw _ mw_68) (fun _ h9 => h9) rfl (by decide +kernel) rfl rfl (Nat.le_of_ble_eq_true rfl) dn_E_toEdge_22 (fun H locs hP hD hS => ?_)
    have hP : va_P (dC, dI) vwCl [(a0, .inr (1, [.ref a1, .ref a2, .ref a3, .int (nI u6.2.2.2), .int (nI ((ds_at (m - 1) n u6.2.2.2).1)), .int (nI ((ds_at (m - 1) n u6.2.2.2).2)), .int 1])), (a1, .inl (cZ, 6, .inl u6.1)), (a2, .inl (cI, 6, .inl u6.2.1)), (a3, .inl (cI, 6, .inl u6.2.2.1))] H := hP
    have hD : va_D A [(a0, .inr (1, [.ref a1, .ref a2, .ref a3, .int (nI u6.2.2.2), .int (nI ((ds_at (m - 1) n u6.2.2.2).1)), .int (nI ((ds_at (m - 1) n u6.2.2.2).2)), .int 1])), (a1, .inl (cZ, 6, .inl u6.1)), (a2, .inl (cI, 6, .inl u6.2.1)), (a3, .inl (cI, 6, .inl u6.2.2.1))] := hD
    have hP : va_P (dC, dI) vwCl [(a0, .inr (1, [.ref a1, .ref a2, .ref a3, .int (nI u6.2.2.2), .int (nI ((ds_at (m - 1) n u6.2.2.2).1)), .int (nI ((ds_at (m - 1) n u6.2.2.2).2)), .int (nI (ds_b (ds_at (m - 1) n u6.2.2.2).1))])), (a1, .inl (cZ, 6, .inl u6.1)), (a2, .inl (cI, 6, .inl u6.2.1)), (a3, .inl (cI, 6, .inl u6.2.2.1))] H := by rw [show ds_b (ds_at (m - 1) n u6.2.2.2).1 = 1 from by unfold ds_b; first | rw [if_pos h14] | rw [if_neg (by omega)]]; exact hP
    have hD : va_D A [(a0, .inr (1, [.ref a1, .ref a2, .ref a3, .int (nI u6.2.2.2), .int (nI ((ds_at (m - 1) n u6.2.2.2).1)), .int (nI ((ds_at (m - 1) n u6.2.2.2).2)), .int (nI (ds_b (ds_at (m - 1) n u6.2.2.2).1))])), (a1, .inl (cZ, 6, .inl u6.1)), (a2, .inl (cI, 6, .inl u6.2.1)), (a3, .inl (cI, 6, .inl u6.2.2.1))] := by rw [show ds_b (ds_at (m - 1) n u6.2.2.2).1 = 1 from by unfold ds_b; first | rw [if_pos h14] | rw [if_neg (by omega)]]; exact hD
    exact hret u6 _ _ _ _ hc6 hP hD hS dn_E_toEdge_25

set_option maxRecDepth 100000 in
set_option maxHeartbeats 4000000 in
theorem c_E_showsFoot (l : Launch) (dC : Nat → ClassId) (dI : Nat → Nat → Nat) (cI cZ : ClassId) (a0 a1 a2 a3 : Nat) (X Y Z : Nat → Int32) (st ff fc b : Nat) (hb1 : b ≤ 1) (hst : st ≤ 6)  : gc_I l yn_E_showsFoot (gw yn_E_showsFoot cn_E_showsFoot 1 (some .boolean)) (rm_ 0 0) (dC, dI) vwCl (gT cI cZ) [.ref a0] [(a0, .inr (1, [.ref a1, .ref a2, .ref a3, .int (nI st), .int (nI ff), .int (nI fc), .int (nI b)])), (a1, .inl (cZ, 6, .inl X)), (a2, .inl (cI, 6, .inl Y)), (a3, .inl (cI, 6, .inl Z))] (fun r (_ : Unit) => r = nI b) (fun _ => [(a0, .inr (1, [.ref a1, .ref a2, .ref a3, .int (nI st), .int (nI ff), .int (nI fc), .int (nI b)])), (a1, .inl (cZ, 6, .inl X)), (a2, .inl (cI, 6, .inl Y)), (a3, .inl (cI, 6, .inl Z))]) := by
  refine gc_I_of (cc := cn_E_showsFoot) (maxL := 1) (ty := .boolean) (by decide) rfl (Nat.le_of_ble_eq_true rfl) ?_
  intro pp ee ss mm ar be me cd A Q ls H0 H locs hx hb hml hown hts hK hP hD hS hA hl hret
  have hw : ∀ w ∈ gw_T, w.before ar ss = true := fun w h => hts w (List.mem_cons_of_mem _ h)
  have hl : lv_has ls 1 [(0, .ref a0)] := hl
  refine lv_aload_n hx hb dn_E_showsFoot_0 rfl (lv_at hl 0 rfl) ?_
  refine va_get (D := (dC, dI)) (ci := 1) (v := .int (nI b)) (C := rn_E) (T := tn_E) (N := 7) hx hb hw ml_E hown hK hP 0 rfl rfl 6 (by decide) (hw _ mw_68) (fun _ h9 => h9) rfl dn_E_showsFoot_1 ?_
  exact hret (nI b) () _ _ _ _ rfl (by rcases (show b = 0 ∨ b = 1 by omega) with rfl | rfl <;> rfl) hP hD hS dn_E_showsFoot_4

set_option maxRecDepth 100000 in
set_option maxHeartbeats 4000000 in
theorem c_E_digestCount (l : Launch) (dC : Nat → ClassId) (dI : Nat → Nat → Nat) (cI cZ : ClassId) (a0 a1 a2 a3 : Nat) (X Y Z : Nat → Int32) (st ff fc b : Nat) (hb1 : b ≤ 1) (hst : st ≤ 6)  : gc_I l yn_E_digestCount (gw yn_E_digestCount cn_E_digestCount 1 (some .int)) (rm_ 0 0) (dC, dI) vwCl (gT cI cZ) [.ref a0] [(a0, .inr (1, [.ref a1, .ref a2, .ref a3, .int (nI st), .int (nI ff), .int (nI fc), .int (nI b)])), (a1, .inl (cZ, 6, .inl X)), (a2, .inl (cI, 6, .inl Y)), (a3, .inl (cI, 6, .inl Z))] (fun r (_ : Unit) => r = nI (st + b)) (fun _ => [(a0, .inr (1, [.ref a1, .ref a2, .ref a3, .int (nI st), .int (nI ff), .int (nI fc), .int (nI b)])), (a1, .inl (cZ, 6, .inl X)), (a2, .inl (cI, 6, .inl Y)), (a3, .inl (cI, 6, .inl Z))]) := by
  refine gc_I_of (cc := cn_E_digestCount) (maxL := 1) (ty := .int) (by decide) rfl (Nat.le_of_ble_eq_true rfl) ?_
  intro pp ee ss mm ar be me cd A Q ls H0 H locs hx hb hml hown hts hK hP hD hS hA hl hret
  have hw : ∀ w ∈ gw_T, w.before ar ss = true := fun w h => hts w (List.mem_cons_of_mem _ h)
  have hl : lv_has ls 1 [(0, .ref a0)] := hl
  refine lv_aload_n hx hb dn_E_digestCount_0 rfl (lv_at hl 0 rfl) ?_
  refine va_get (D := (dC, dI)) (ci := 1) (v := .int (nI b)) (C := rn_E) (T := tn_E) (N := 7) hx hb hw ml_E hown hK hP 0 rfl rfl 6 (by decide) (hw _ mw_68) (fun _ h9 => h9) rfl dn_E_digestCount_1 ?_
  refine gr_zeq (tgt := 16) hx hb b rfl (by omega) dn_E_digestCount_4 (by decide) (fun h4 => ?_) (fun h4 => ?_)
  · skip
    refine lv_aload_n hx hb dn_E_digestCount_16 rfl (lv_at hl 0 rfl) ?_
    refine va_get (D := (dC, dI)) (ci := 1) (v := .int (nI st)) (C := rn_E) (T := tn_E) (N := 7) hx hb hw ml_E hown hK hP 0 rfl rfl 3 (by decide) (hw _ mw_65) (fun _ h9 => h9) rfl dn_E_digestCount_17 ?_
    exact hret (nI st) () _ _ _ _ (congrArg nI (by omega)) rfl hP hD hS dn_E_digestCount_20
  · skip
    refine lv_aload_n hx hb dn_E_digestCount_7 rfl (lv_at hl 0 rfl) ?_
    refine va_get (D := (dC, dI)) (ci := 1) (v := .int (nI st)) (C := rn_E) (T := tn_E) (N := 7) hx hb hw ml_E hown hK hP 0 rfl rfl 3 (by decide) (hw _ mw_65) (fun _ h9 => h9) rfl dn_E_digestCount_8 ?_
    refine lv_iconst (v := 1) hx hb dn_E_digestCount_11 (by decide) ?_
    refine gr_addN hx hb st 1 rfl rfl dn_E_digestCount_12 ?_
    refine lv_goto (tgt := 20) hx hb dn_E_digestCount_13 (by decide) ?_
    exact hret (nI (st + 1)) () _ _ _ _ (congrArg nI (by omega)) rfl hP hD hS dn_E_digestCount_20

set_option maxRecDepth 100000 in
set_option maxHeartbeats 4000000 in
theorem c_E_stepOf (l : Launch) (dC : Nat → ClassId) (dI : Nat → Nat → Nat) (cI cZ : ClassId) (a0 a1 a2 a3 : Nat) (X Y Z : Nat → Int32) (st ff fc b : Nat) (hb1 : b ≤ 1) (hst : st ≤ 6) (k s : Nat) (hks : s + 1 + k = st + b) : gc_I l yn_E_stepOf (gw yn_E_stepOf cn_E_stepOf 2 (some .int)) (rm_ 1 20) (dC, dI) vwCl (gT cI cZ) [.ref a0, .int (nI k)] [(a0, .inr (1, [.ref a1, .ref a2, .ref a3, .int (nI st), .int (nI ff), .int (nI fc), .int (nI b)])), (a1, .inl (cZ, 6, .inl X)), (a2, .inl (cI, 6, .inl Y)), (a3, .inl (cI, 6, .inl Z))] (fun r (_ : Unit) => r = nI s) (fun _ => [(a0, .inr (1, [.ref a1, .ref a2, .ref a3, .int (nI st), .int (nI ff), .int (nI fc), .int (nI b)])), (a1, .inl (cZ, 6, .inl X)), (a2, .inl (cI, 6, .inl Y)), (a3, .inl (cI, 6, .inl Z))]) := by
  refine gc_I_of (cc := cn_E_stepOf) (maxL := 2) (ty := .int) (by decide) rfl (Nat.le_of_ble_eq_true rfl) ?_
  intro pp ee ss mm ar be me cd A Q ls H0 H locs hx hb hml hown hts hK hP hD hS hA hl hret
  have hw : ∀ w ∈ gw_T, w.before ar ss = true := fun w h => hts w (List.mem_cons_of_mem _ h)
  have hl : lv_has ls 2 [(0, .ref a0), (1, .int (nI k))] := hl
  refine lv_aload_n hx hb dn_E_stepOf_0 rfl (lv_at hl 0 rfl) ?_
  refine gc_vi (pre := []) (wc := [(a0, .inr (1, [.ref a1, .ref a2, .ref a3, .int (nI st), .int (nI ff), .int (nI fc), .int (nI b)])), (a1, .inl (cZ, 6, .inl X)), (a2, .inl (cI, 6, .inl Y)), (a3, .inl (cI, 6, .inl Z))]) (po := []) (As := []) (rest := []) ⟨hx, hb, hml, hown, hw⟩ (c_E_digestCount l dC dI cI cZ a0 a1 a2 a3 X Y Z st ff fc b (by omega) (by omega) ) (gw_cV 0 hw mw_357 mw_346 mw_347 mw_4 mw_348 hd_E_digestCount ⟨Nat.le_of_ble_eq_true rfl, Nat.le_of_ble_eq_true rfl⟩) (ci := 1) rfl rfl rfl hK hP hD hS hA rfl hl.1 rfl (Nat.le_of_ble_eq_true rfl) dn_E_stepOf_1 ⟨Nat.zero_le _, Nat.zero_le _⟩ (fun r1 u1 H locs hc1 hP hD hS => ?_)
  subst hc1
  have hP : va_P (dC, dI) vwCl [(a0, .inr (1, [.ref a1, .ref a2, .ref a3, .int (nI st), .int (nI ff), .int (nI fc), .int (nI b)])), (a1, .inl (cZ, 6, .inl X)), (a2, .inl (cI, 6, .inl Y)), (a3, .inl (cI, 6, .inl Z))] H := hP
  have hD : va_D A [(a0, .inr (1, [.ref a1, .ref a2, .ref a3, .int (nI st), .int (nI ff), .int (nI fc), .int (nI b)])), (a1, .inl (cZ, 6, .inl X)), (a2, .inl (cI, 6, .inl Y)), (a3, .inl (cI, 6, .inl Z))] := hD
  refine lv_iconst (v := 1) hx hb dn_E_stepOf_4 (by decide) ?_
  refine gr_subN hx hb (st + b) 1 rfl rfl (by omega) dn_E_stepOf_5 ?_
  refine lv_iload_n hx hb dn_E_stepOf_6 rfl (lv_at hl 1 rfl) ?_
  refine gr_subN hx hb ((st + b) - 1) k rfl rfl (by omega) dn_E_stepOf_7 ?_
  exact hret (nI (((st + b) - 1) - k)) () _ _ _ _ (congrArg nI (by omega)) rfl hP hD hS dn_E_stepOf_8
