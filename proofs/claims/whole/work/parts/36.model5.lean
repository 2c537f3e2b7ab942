theorem dn_M_included_0 : decode cn_M_included 0 = .ok (.aload_n 0, 1) := by decide +kernel
theorem dn_M_included_1 : decode cn_M_included 1 = .ok (.getfield 132, 3) := by decide +kernel
theorem dn_M_included_4 : decode cn_M_included 4 = .ok (.istore 4, 2) := by decide +kernel
theorem dn_M_included_6 : decode cn_M_included 6 = .ok (.aload_n 0, 1) := by decide +kernel
theorem dn_M_included_7 : decode cn_M_included 7 = .ok (.iconst 0, 1) := by decide +kernel
theorem dn_M_included_8 : decode cn_M_included 8 = .ok (.putfield 132, 3) := by decide +kernel
theorem dn_M_included_11 : decode cn_M_included 11 = .ok (.iload_n 1, 1) := by decide +kernel
theorem dn_M_included_12 : decode cn_M_included 12 = .ok (.ifCond .lt 14, 3) := by decide +kernel
theorem dn_M_included_15 : decode cn_M_included 15 = .ok (.iload_n 1, 1) := by decide +kernel
theorem dn_M_included_16 : decode cn_M_included 16 = .ok (.iload_n 2, 1) := by decide +kernel
theorem dn_M_included_17 : decode cn_M_included 17 = .ok (.if_icmp .ge 9, 3) := by decide +kernel
theorem dn_M_included_20 : decode cn_M_included 20 = .ok (.iload_n 2, 1) := by decide +kernel
theorem dn_M_included_21 : decode cn_M_included 21 = .ok (.bipush 40, 2) := by decide +kernel
theorem dn_M_included_23 : decode cn_M_included 23 = .ok (.if_icmp .le 5, 3) := by decide +kernel
theorem dn_M_included_26 : decode cn_M_included 26 = .ok (.iconst 0, 1) := by decide +kernel
theorem dn_M_included_27 : decode cn_M_included 27 = .ok (.ireturn, 1) := by decide +kernel
theorem dn_M_included_28 : decode cn_M_included 28 = .ok (.aload_n 0, 1) := by decide +kernel
theorem dn_M_included_29 : decode cn_M_included 29 = .ok (.iload_n 1, 1) := by decide +kernel
theorem dn_M_included_30 : decode cn_M_included 30 = .ok (.iload_n 2, 1) := by decide +kernel
theorem dn_M_included_31 : decode cn_M_included 31 = .ok (.invokevirtual 122, 3) := by decide +kernel
theorem dn_M_included_34 : decode cn_M_included 34 = .ok (.iload 4, 2) := by decide +kernel
theorem dn_M_included_36 : decode cn_M_included 36 = .ok (.aload_n 0, 1) := by decide +kernel
theorem dn_M_included_37 : decode cn_M_included 37 = .ok (.getfield 58, 3) := by decide +kernel
theorem dn_M_included_40 : decode cn_M_included 40 = .ok (.iconst 1, 1) := by decide +kernel
theorem dn_M_included_41 : decode cn_M_included 41 = .ok (.iadd, 1) := by decide +kernel
theorem dn_M_included_42 : decode cn_M_included 42 = .ok (.if_icmp .eq 5, 3) := by decide +kernel
theorem dn_M_included_45 : decode cn_M_included 45 = .ok (.iconst 0, 1) := by decide +kernel
theorem dn_M_included_46 : decode cn_M_included 46 = .ok (.ireturn, 1) := by decide +kernel
theorem dn_M_included_47 : decode cn_M_included 47 = .ok (.aload_n 0, 1) := by decide +kernel
theorem dn_M_included_48 : decode cn_M_included 48 = .ok (.getfield 13, 3) := by decide +kernel
theorem dn_M_included_51 : decode cn_M_included 51 = .ok (.iconst 0, 1) := by decide +kernel
theorem dn_M_included_52 : decode cn_M_included 52 = .ok (.iaload, 1) := by decide +kernel
theorem dn_M_included_53 : decode cn_M_included 53 = .ok (.istore 5, 2) := by decide +kernel
theorem dn_M_included_55 : decode cn_M_included 55 = .ok (.iconst 1, 1) := by decide +kernel
theorem dn_M_included_56 : decode cn_M_included 56 = .ok (.istore 6, 2) := by decide +kernel
theorem dn_M_included_58 : decode cn_M_included 58 = .ok (.iload 6, 2) := by decide +kernel
theorem dn_M_included_60 : decode cn_M_included 60 = .ok (.aload_n 0, 1) := by decide +kernel
theorem dn_M_included_61 : decode cn_M_included 61 = .ok (.getfield 58, 3) := by decide +kernel
theorem dn_M_included_64 : decode cn_M_included 64 = .ok (.if_icmp .gt 53, 3) := by decide +kernel
theorem dn_M_included_67 : decode cn_M_included 67 = .ok (.aload_n 0, 1) := by decide +kernel
theorem dn_M_included_68 : decode cn_M_included 68 = .ok (.getfield 31, 3) := by decide +kernel
theorem dn_M_included_71 : decode cn_M_included 71 = .ok (.aload_n 0, 1) := by decide +kernel
theorem dn_M_included_72 : decode cn_M_included 72 = .ok (.getfield 58, 3) := by decide +kernel
theorem dn_M_included_75 : decode cn_M_included 75 = .ok (.iload 6, 2) := by decide +kernel
theorem dn_M_included_77 : decode cn_M_included 77 = .ok (.isub, 1) := by decide +kernel
theorem dn_M_included_78 : decode cn_M_included 78 = .ok (.baload, 1) := by decide +kernel
theorem dn_M_included_79 : decode cn_M_included 79 = .ok (.ifCond .eq 18, 3) := by decide +kernel
theorem dn_M_included_82 : decode cn_M_included 82 = .ok (.aload_n 0, 1) := by decide +kernel
theorem dn_M_included_83 : decode cn_M_included 83 = .ok (.getfield 13, 3) := by decide +kernel
theorem dn_M_included_86 : decode cn_M_included 86 = .ok (.iload 6, 2) := by decide +kernel
theorem dn_M_included_88 : decode cn_M_included 88 = .ok (.iaload, 1) := by decide +kernel
theorem dn_M_included_89 : decode cn_M_included 89 = .ok (.iload 5, 2) := by decide +kernel
theorem dn_M_included_91 : decode cn_M_included 91 = .ok (.invokestatic 55, 3) := by decide +kernel
theorem dn_M_included_94 : decode cn_M_included 94 = .ok (.goto 15, 3) := by decide +kernel
theorem dn_M_included_97 : decode cn_M_included 97 = .ok (.iload 5, 2) := by decide +kernel
theorem dn_M_included_99 : decode cn_M_included 99 = .ok (.aload_n 0, 1) := by decide +kernel
theorem dn_M_included_100 : decode cn_M_included 100 = .ok (.getfield 13, 3) := by decide +kernel
theorem dn_M_included_103 : decode cn_M_included 103 = .ok (.iload 6, 2) := by decide +kernel
theorem dn_M_included_105 : decode cn_M_included 105 = .ok (.iaload, 1) := by decide +kernel
theorem dn_M_included_106 : decode cn_M_included 106 = .ok (.invokestatic 55, 3) := by decide +kernel
theorem dn_M_included_109 : decode cn_M_included 109 = .ok (.istore 5, 2) := by decide +kernel
theorem dn_M_included_111 : decode cn_M_included 111 = .ok (.iinc 6 1, 3) := by decide +kernel
theorem dn_M_included_114 : decode cn_M_included 114 = .ok (.goto (-56), 3) := by decide +kernel
theorem dn_M_included_117 : decode cn_M_included 117 = .ok (.iload 5, 2) := by decide +kernel
theorem dn_M_included_119 : decode cn_M_included 119 = .ok (.iload_n 3, 1) := by decide +kernel
theorem dn_M_included_120 : decode cn_M_included 120 = .ok (.if_icmp .ne 7, 3) := by decide +kernel
theorem dn_M_included_123 : decode cn_M_included 123 = .ok (.iconst 1, 1) := by decide +kernel
theorem dn_M_included_124 : decode cn_M_included 124 = .ok (.goto 4, 3) := by decide +kernel
theorem dn_M_included_127 : decode cn_M_included 127 = .ok (.iconst 0, 1) := by decide +kernel
theorem dn_M_included_128 : decode cn_M_included 128 = .ok (.ireturn, 1) := by decide +kernel
theorem dn_M_extended_0 : decode cn_M_extended 0 = .ok (.aload_n 0, 1) := by decide +kernel
theorem dn_M_extended_1 : decode cn_M_extended 1 = .ok (.getfield 132, 3) := by decide +kernel
theorem dn_M_extended_4 : decode cn_M_extended 4 = .ok (.istore 5, 2) := by decide +kernel
theorem dn_M_extended_6 : decode cn_M_extended 6 = .ok (.aload_n 0, 1) := by decide +kernel
theorem dn_M_extended_7 : decode cn_M_extended 7 = .ok (.iconst 0, 1) := by decide +kernel
theorem dn_M_extended_8 : decode cn_M_extended 8 = .ok (.putfield 132, 3) := by decide +kernel
theorem dn_M_extended_11 : decode cn_M_extended 11 = .ok (.iload_n 1, 1) := by decide +kernel
theorem dn_M_extended_12 : decode cn_M_extended 12 = .ok (.iconst 1, 1) := by decide +kernel
theorem dn_M_extended_13 : decode cn_M_extended 13 = .ok (.if_icmp .lt 14, 3) := by decide +kernel
theorem dn_M_extended_16 : decode cn_M_extended 16 = .ok (.iload_n 1, 1) := by decide +kernel
theorem dn_M_extended_17 : decode cn_M_extended 17 = .ok (.iload_n 2, 1) := by decide +kernel
theorem dn_M_extended_18 : decode cn_M_extended 18 = .ok (.if_icmp .gt 9, 3) := by decide +kernel
theorem dn_M_extended_21 : decode cn_M_extended 21 = .ok (.iload_n 2, 1) := by decide +kernel
theorem dn_M_extended_22 : decode cn_M_extended 22 = .ok (.bipush 40, 2) := by decide +kernel
theorem dn_M_extended_24 : decode cn_M_extended 24 = .ok (.if_icmp .le 5, 3) := by decide +kernel
theorem dn_M_extended_27 : decode cn_M_extended 27 = .ok (.iconst 0, 1) := by decide +kernel
theorem dn_M_extended_28 : decode cn_M_extended 28 = .ok (.ireturn, 1) := by decide +kernel
theorem dn_M_extended_29 : decode cn_M_extended 29 = .ok (.aload_n 0, 1) := by decide +kernel
theorem dn_M_extended_30 : decode cn_M_extended 30 = .ok (.iload_n 1, 1) := by decide +kernel
theorem dn_M_extended_31 : decode cn_M_extended 31 = .ok (.iload_n 2, 1) := by decide +kernel
theorem dn_M_extended_32 : decode cn_M_extended 32 = .ok (.invokevirtual 129, 3) := by decide +kernel
theorem dn_M_extended_35 : decode cn_M_extended 35 = .ok (.aload_n 0, 1) := by decide +kernel
theorem dn_M_extended_36 : decode cn_M_extended 36 = .ok (.getfield 74, 3) := by decide +kernel
theorem dn_M_extended_39 : decode cn_M_extended 39 = .ok (.ifCond .eq 7, 3) := by decide +kernel
theorem dn_M_extended_42 : decode cn_M_extended 42 = .ok (.iconst 1, 1) := by decide +kernel
theorem dn_M_extended_43 : decode cn_M_extended 43 = .ok (.goto 4, 3) := by decide +kernel
theorem dn_M_extended_46 : decode cn_M_extended 46 = .ok (.iconst 0, 1) := by decide +kernel
theorem dn_M_extended_47 : decode cn_M_extended 47 = .ok (.istore 6, 2) := by decide +kernel
theorem dn_M_extended_49 : decode cn_M_extended 49 = .ok (.iload 5, 2) := by decide +kernel
theorem dn_M_extended_51 : decode cn_M_extended 51 = .ok (.aload_n 0, 1) := by decide +kernel
theorem dn_M_extended_52 : decode cn_M_extended 52 = .ok (.getfield 58, 3) := by decide +kernel
theorem dn_M_extended_55 : decode cn_M_extended 55 = .ok (.iload 6, 2) := by decide +kernel
theorem dn_M_extended_57 : decode cn_M_extended 57 = .ok (.iadd, 1) := by decide +kernel
theorem dn_M_extended_58 : decode cn_M_extended 58 = .ok (.if_icmp .eq 5, 3) := by decide +kernel
theorem dn_M_extended_61 : decode cn_M_extended 61 = .ok (.iconst 0, 1) := by decide +kernel
theorem dn_M_extended_62 : decode cn_M_extended 62 = .ok (.ireturn, 1) := by decide +kernel
theorem dn_M_extended_63 : decode cn_M_extended 63 = .ok (.aload_n 0, 1) := by decide +kernel
theorem dn_M_extended_64 : decode cn_M_extended 64 = .ok (.getfield 74, 3) := by decide +kernel
theorem dn_M_extended_67 : decode cn_M_extended 67 = .ok (.ifCond .eq 12, 3) := by decide +kernel
theorem dn_M_extended_70 : decode cn_M_extended 70 = .ok (.aload_n 0, 1) := by decide +kernel
theorem dn_M_extended_71 : decode cn_M_extended 71 = .ok (.getfield 13, 3) := by decide +kernel
theorem dn_M_extended_74 : decode cn_M_extended 74 = .ok (.iconst 0, 1) := by decide +kernel
theorem dn_M_extended_75 : decode cn_M_extended 75 = .ok (.iaload, 1) := by decide +kernel
theorem dn_M_extended_76 : decode cn_M_extended 76 = .ok (.goto 4, 3) := by decide +kernel
theorem dn_M_extended_79 : decode cn_M_extended 79 = .ok (.iload_n 3, 1) := by decide +kernel
theorem dn_M_extended_80 : decode cn_M_extended 80 = .ok (.istore 7, 2) := by decide +kernel
theorem dn_M_extended_82 : decode cn_M_extended 82 = .ok (.iload 7, 2) := by decide +kernel
theorem dn_M_extended_84 : decode cn_M_extended 84 = .ok (.istore 8, 2) := by decide +kernel
theorem dn_M_extended_86 : decode cn_M_extended 86 = .ok (.aload_n 0, 1) := by decide +kernel
theorem dn_M_extended_87 : decode cn_M_extended 87 = .ok (.getfield 58, 3) := by decide +kernel
theorem dn_M_extended_90 : decode cn_M_extended 90 = .ok (.iconst 1, 1) := by decide +kernel
theorem dn_M_extended_91 : decode cn_M_extended 91 = .ok (.isub, 1) := by decide +kernel
theorem dn_M_extended_92 : decode cn_M_extended 92 = .ok (.istore 9, 2) := by decide +kernel
theorem dn_M_extended_94 : decode cn_M_extended 94 = .ok (.iload 9, 2) := by decide +kernel
theorem dn_M_extended_96 : decode cn_M_extended 96 = .ok (.ifCond .lt 83, 3) := by decide +kernel
theorem dn_M_extended_99 : decode cn_M_extended 99 = .ok (.aload_n 0, 1) := by decide +kernel
theorem dn_M_extended_100 : decode cn_M_extended 100 = .ok (.getfield 31, 3) := by decide +kernel
theorem dn_M_extended_103 : decode cn_M_extended 103 = .ok (.iload 9, 2) := by decide +kernel
theorem dn_M_extended_105 : decode cn_M_extended 105 = .ok (.baload, 1) := by decide +kernel
theorem dn_M_extended_106 : decode cn_M_extended 106 = .ok (.ifCond .eq 18, 3) := by decide +kernel
theorem dn_M_extended_109 : decode cn_M_extended 109 = .ok (.aload_n 0, 1) := by decide +kernel
theorem dn_M_extended_110 : decode cn_M_extended 110 = .ok (.getfield 13, 3) := by decide +kernel
theorem dn_M_extended_113 : decode cn_M_extended 113 = .ok (.iload 6, 2) := by decide +kernel
theorem dn_M_extended_115 : decode cn_M_extended 115 = .ok (.iaload, 1) := by decide +kernel
theorem dn_M_extended_116 : decode cn_M_extended 116 = .ok (.iload 7, 2) := by decide +kernel
theorem dn_M_extended_118 : decode cn_M_extended 118 = .ok (.invokestatic 55, 3) := by decide +kernel
theorem dn_M_extended_121 : decode cn_M_extended 121 = .ok (.goto 5, 3) := by decide +kernel
theorem dn_M_extended_124 : decode cn_M_extended 124 = .ok (.iload 7, 2) := by decide +kernel
theorem dn_M_extended_126 : decode cn_M_extended 126 = .ok (.istore 7, 2) := by decide +kernel
theorem dn_M_extended_128 : decode cn_M_extended 128 = .ok (.aload_n 0, 1) := by decide +kernel
theorem dn_M_extended_129 : decode cn_M_extended 129 = .ok (.getfield 31, 3) := by decide +kernel
theorem dn_M_extended_132 : decode cn_M_extended 132 = .ok (.iload 9, 2) := by decide +kernel
theorem dn_M_extended_134 : decode cn_M_extended 134 = .ok (.baload, 1) := by decide +kernel
theorem dn_M_extended_135 : decode cn_M_extended 135 = .ok (.ifCond .eq 18, 3) := by decide +kernel
theorem dn_M_extended_138 : decode cn_M_extended 138 = .ok (.aload_n 0, 1) := by decide +kernel
theorem dn_M_extended_139 : decode cn_M_extended 139 = .ok (.getfield 13, 3) := by decide +kernel
theorem dn_M_extended_142 : decode cn_M_extended 142 = .ok (.iload 6, 2) := by decide +kernel
theorem dn_M_extended_144 : decode cn_M_extended 144 = .ok (.iaload, 1) := by decide +kernel
theorem dn_M_extended_145 : decode cn_M_extended 145 = .ok (.iload 8, 2) := by decide +kernel
theorem dn_M_extended_147 : decode cn_M_extended 147 = .ok (.invokestatic 55, 3) := by decide +kernel
theorem dn_M_extended_150 : decode cn_M_extended 150 = .ok (.goto 15, 3) := by decide +kernel
theorem dn_M_extended_153 : decode cn_M_extended 153 = .ok (.iload 8, 2) := by decide +kernel
theorem dn_M_extended_155 : decode cn_M_extended 155 = .ok (.aload_n 0, 1) := by decide +kernel
theorem dn_M_extended_156 : decode cn_M_extended 156 = .ok (.getfield 13, 3) := by decide +kernel
theorem dn_M_extended_159 : decode cn_M_extended 159 = .ok (.iload 6, 2) := by decide +kernel
theorem dn_M_extended_161 : decode cn_M_extended 161 = .ok (.iaload, 1) := by decide +kernel
theorem dn_M_extended_162 : decode cn_M_extended 162 = .ok (.invokestatic 55, 3) := by decide +kernel
theorem dn_M_extended_165 : decode cn_M_extended 165 = .ok (.istore 8, 2) := by decide +kernel
theorem dn_M_extended_167 : decode cn_M_extended 167 = .ok (.iload 6, 2) := by decide +kernel
theorem dn_M_extended_169 : decode cn_M_extended 169 = .ok (.iconst 1, 1) := by decide +kernel
theorem dn_M_extended_170 : decode cn_M_extended 170 = .ok (.iadd, 1) := by decide +kernel
theorem dn_M_extended_171 : decode cn_M_extended 171 = .ok (.istore 6, 2) := by decide +kernel
theorem dn_M_extended_173 : decode cn_M_extended 173 = .ok (.iinc 9 (-1), 3) := by decide +kernel
theorem dn_M_extended_176 : decode cn_M_extended 176 = .ok (.goto (-82), 3) := by decide +kernel
theorem dn_M_extended_179 : decode cn_M_extended 179 = .ok (.iload 7, 2) := by decide +kernel
theorem dn_M_extended_181 : decode cn_M_extended 181 = .ok (.iload_n 3, 1) := by decide +kernel
theorem dn_M_extended_182 : decode cn_M_extended 182 = .ok (.if_icmp .ne 14, 3) := by decide +kernel
theorem dn_M_extended_185 : decode cn_M_extended 185 = .ok (.iload 8, 2) := by decide +kernel
theorem dn_M_extended_187 : decode cn_M_extended 187 = .ok (.iload 4, 2) := by decide +kernel
theorem dn_M_extended_189 : decode cn_M_extended 189 = .ok (.if_icmp .ne 7, 3) := by decide +kernel
theorem dn_M_extended_192 : decode cn_M_extended 192 = .ok (.iconst 1, 1) := by decide +kernel
theorem dn_M_extended_193 : decode cn_M_extended 193 = .ok (.goto 4, 3) := by decide +kernel
theorem dn_M_extended_196 : decode cn_M_extended 196 = .ok (.iconst 0, 1) := by decide +kernel
theorem dn_M_extended_197 : decode cn_M_extended 197 = .ok (.ireturn, 1) := by decide +kernel
theorem dn_M_power_0 : decode cn_M_power 0 = .ok (.aload_n 0, 1) := by decide +kernel
theorem dn_M_power_1 : decode cn_M_power 1 = .ok (.getfield 38, 3) := by decide +kernel
theorem dn_M_power_4 : decode cn_M_power 4 = .ok (.iload_n 1, 1) := by decide +kernel
theorem dn_M_power_5 : decode cn_M_power 5 = .ok (.if_icmp .ne 5, 3) := by decide +kernel
theorem dn_M_power_8 : decode cn_M_power 8 = .ok (.iconst (-1), 1) := by decide +kernel
theorem dn_M_power_9 : decode cn_M_power 9 = .ok (.ireturn, 1) := by decide +kernel
theorem dn_M_power_10 : decode cn_M_power 10 = .ok (.aload_n 0, 1) := by decide +kernel
theorem dn_M_power_11 : decode cn_M_power 11 = .ok (.iload_n 1, 1) := by decide +kernel
theorem dn_M_power_12 : decode cn_M_power 12 = .ok (.putfield 38, 3) := by decide +kernel
theorem dn_M_power_15 : decode cn_M_power 15 = .ok (.aload_n 0, 1) := by decide +kernel
theorem dn_M_power_16 : decode cn_M_power 16 = .ok (.invokevirtual 104, 3) := by decide +kernel
theorem dn_M_power_19 : decode cn_M_power 19 = .ok (.iload_n 1, 1) := by decide +kernel
theorem dn_M_power_20 : decode cn_M_power 20 = .ok (.ifCond .eq 74, 3) := by decide +kernel
theorem dn_M_power_23 : decode cn_M_power 23 = .ok (.bipush 7, 2) := by decide +kernel
theorem dn_M_power_25 : decode cn_M_power 25 = .ok (.aload_n 0, 1) := by decide +kernel
theorem dn_M_power_26 : decode cn_M_power 26 = .ok (.getfield 93, 3) := by decide +kernel
theorem dn_M_power_29 : decode cn_M_power 29 = .ok (.imul, 1) := by decide +kernel
theorem dn_M_power_30 : decode cn_M_power 30 = .ok (.istore_n 2, 1) := by decide +kernel
theorem dn_M_power_31 : decode cn_M_power 31 = .ok (.iload_n 2, 1) := by decide +kernel
theorem dn_M_power_32 : decode cn_M_power 32 = .ok (.sipush 280, 3) := by decide +kernel
theorem dn_M_power_35 : decode cn_M_power 35 = .ok (.if_icmp .ge 16, 3) := by decide +kernel
theorem dn_M_power_38 : decode cn_M_power 38 = .ok (.aload_n 0, 1) := by decide +kernel
theorem dn_M_power_39 : decode cn_M_power 39 = .ok (.getfield 7, 3) := by decide +kernel
theorem dn_M_power_42 : decode cn_M_power 42 = .ok (.iload_n 2, 1) := by decide +kernel
theorem dn_M_power_43 : decode cn_M_power 43 = .ok (.iconst 0, 1) := by decide +kernel
theorem dn_M_power_44 : decode cn_M_power 44 = .ok (.iastore, 1) := by decide +kernel
theorem dn_M_power_45 : decode cn_M_power 45 = .ok (.iinc 2 1, 3) := by decide +kernel
theorem dn_M_power_48 : decode cn_M_power 48 = .ok (.goto (-17), 3) := by decide +kernel
theorem dn_M_power_51 : decode cn_M_power 51 = .ok (.iconst 1, 1) := by decide +kernel
theorem dn_M_power_52 : decode cn_M_power 52 = .ok (.istore_n 2, 1) := by decide +kernel
theorem dn_M_power_53 : decode cn_M_power 53 = .ok (.iload_n 2, 1) := by decide +kernel
theorem dn_M_power_54 : decode cn_M_power 54 = .ok (.bipush 12, 2) := by decide +kernel
theorem dn_M_power_56 : decode cn_M_power 56 = .ok (.if_icmp .gt 38, 3) := by decide +kernel
theorem dn_M_power_59 : decode cn_M_power 59 = .ok (.iload_n 2, 1) := by decide +kernel
theorem dn_M_power_60 : decode cn_M_power 60 = .ok (.aload_n 0, 1) := by decide +kernel
theorem dn_M_power_61 : decode cn_M_power 61 = .ok (.getfield 83, 3) := by decide +kernel
theorem dn_M_power_64 : decode cn_M_power 64 = .ok (.if_icmp .gt 13, 3) := by decide +kernel
theorem dn_M_power_67 : decode cn_M_power 67 = .ok (.aload_n 0, 1) := by decide +kernel
theorem dn_M_power_68 : decode cn_M_power 68 = .ok (.getfield 16, 3) := by decide +kernel
theorem dn_M_power_71 : decode cn_M_power 71 = .ok (.iload_n 2, 1) := by decide +kernel
theorem dn_M_power_72 : decode cn_M_power 72 = .ok (.iaload, 1) := by decide +kernel
theorem dn_M_power_73 : decode cn_M_power 73 = .ok (.iconst 3, 1) := by decide +kernel
theorem dn_M_power_74 : decode cn_M_power 74 = .ok (.if_icmp .ne 14, 3) := by decide +kernel
theorem dn_M_power_77 : decode cn_M_power 77 = .ok (.aload_n 0, 1) := by decide +kernel
theorem dn_M_power_78 : decode cn_M_power 78 = .ok (.getfield 7, 3) := by decide +kernel
theorem dn_M_power_81 : decode cn_M_power 81 = .ok (.sipush 279, 3) := by decide +kernel
theorem dn_M_power_84 : decode cn_M_power 84 = .ok (.iload_n 2, 1) := by decide +kernel
theorem dn_M_power_85 : decode cn_M_power 85 = .ok (.iadd, 1) := by decide +kernel
theorem dn_M_power_86 : decode cn_M_power 86 = .ok (.iconst 0, 1) := by decide +kernel
theorem dn_M_power_87 : decode cn_M_power 87 = .ok (.iastore, 1) := by decide +kernel
theorem dn_M_power_88 : decode cn_M_power 88 = .ok (.iinc 2 1, 3) := by decide +kernel
theorem dn_M_power_91 : decode cn_M_power 91 = .ok (.goto (-38), 3) := by decide +kernel
theorem dn_M_power_94 : decode cn_M_power 94 = .ok (.aload_n 0, 1) := by decide +kernel
theorem dn_M_power_95 : decode cn_M_power 95 = .ok (.getfield 93, 3) := by decide +kernel
theorem dn_M_power_98 : decode cn_M_power 98 = .ok (.ireturn, 1) := by decide +kernel

set_option maxRecDepth 100000 in
set_option maxHeartbeats 1000000 in
theorem c_M_path (l : Launch) (dC : Nat → ClassId) (dI : Nat → Nat → Nat) (cI cZ : ClassId) (bd : Nat → Nat) (clk : Nat) (pw lf : Int32) (f fd : Nat → Int32) (fc sn ob : Nat) (S D G : Nat → Int32) (st : Nat) (Y Z X : Nat → Int32) (ef ec fu : Nat) (g : Nat → Int32) (hpw : pw = 0 ∨ pw = 1) (i n k : Int32) : gc_L l yn_M_path (gw yn_M_path cn_M_path 4 (some .long)) (rm_ 4 95) (dC, dI) vwCl (gT cI cZ) [.ref (bd 0), .int i, .int n, .int k] [(bd 0, .inr (5, [.ref (bd 1), .int (nI clk), .int pw, .int lf, .ref (bd 2), .int (nI fc), .int (nI sn), .int (nI ob), .ref (bd 3), .ref (bd 4), .ref (bd 5), .int (nI st), .ref (bd 6), .ref (bd 7), .ref (bd 8), .int (nI ef), .int (nI ec), .int (nI fu), .ref (bd 9)])), (bd 1, .inl (cI, 292, .inl f)), (bd 2, .inl (cI, 12, .inl fd)), (bd 3, .inl (cI, 13, .inl S)), (bd 4, .inl (cI, 13, .inl D)), (bd 5, .inl (cI, 13, .inl G)), (bd 6, .inl (cI, 8, .inl Y)), (bd 7, .inl (cI, 8, .inl Z)), (bd 8, .inl (cZ, 8, .inl X)), (bd 9, .inl (cI, 40, .inl g))] (fun r (u : ct_T × Nat × (Nat → Int32) × (Nat → Int32) × (Nat → Int32) × Nat × Nat × Nat × Nat) => r = an_path f g clk pw i n k) (fun u => [(bd 0, .inr (5, [.ref (bd 1), .int (nI clk), .int pw, .int lf, .ref (bd 2), .int (nI fc), .int (nI u.2.1), .int (nI u.1.1), .ref (bd 3), .ref (bd 4), .ref (bd 5), .int (nI u.2.2.2.2.2.1), .ref (bd 6), .ref (bd 7), .ref (bd 8), .int (nI u.2.2.2.2.2.2.1), .int (nI u.2.2.2.2.2.2.2.1), .int (nI u.2.2.2.2.2.2.2.2), .ref (bd 9)])), (bd 1, .inl (cI, 292, .inl f)), (bd 2, .inl (cI, 12, .inl fd)), (bd 3, .inl (cI, 13, .inl u.1.2.1)), (bd 4, .inl (cI, 13, .inl u.1.2.2.1)), (bd 5, .inl (cI, 13, .inl u.1.2.2.2.1)), (bd 6, .inl (cI, 8, .inl u.2.2.2.1)), (bd 7, .inl (cI, 8, .inl u.2.2.2.2.1)), (bd 8, .inl (cZ, 8, .inl u.2.2.1)), (bd 9, .inl (cI, 40, .inl (nx_path f g clk pw i n k)))]) := by
  refine gc_L_of (cc := cn_M_path) (maxL := 4) (by decide) rfl (Nat.le_of_ble_eq_true rfl) ?_
  intro pp ee ss mm ar be me cd A Q ls H0 H locs hx hb hml hown hts hK hP hD hS hA hl hret
  have hw : ∀ w ∈ gw_T, w.before ar ss = true := fun w h => hts w (List.mem_cons_of_mem _ h)
  have hl : lv_has ls 4 [(0, .ref (bd 0)), (1, .int i), (2, .int n), (3, .int k)] := hl
  rcases hpw with rfl | rfl
  · skip
    have hb_ : ¬ pa_c f clk 0 i n := fun q => absurd q.1 (by decide)
    refine lv_aload_n hx hb dn_M_path_0 rfl (lv_at hl 0 rfl) ?_
    refine gc_vv (pre := []) (wc := [(bd 0, .inr (5, [.ref (bd 1), .int (nI clk), .int 0, .int lf, .ref (bd 2), .int (nI fc), .int (nI sn), .int (nI ob), .ref (bd 3), .ref (bd 4), .ref (bd 5), .int (nI st), .ref (bd 6), .ref (bd 7), .ref (bd 8), .int (nI ef), .int (nI ec), .int (nI fu), .ref (bd 9)])), (bd 1, .inl (cI, 292, .inl f)), (bd 2, .inl (cI, 12, .inl fd)), (bd 3, .inl (cI, 13, .inl S)), (bd 4, .inl (cI, 13, .inl D)), (bd 5, .inl (cI, 13, .inl G)), (bd 6, .inl (cI, 8, .inl Y)), (bd 7, .inl (cI, 8, .inl Z)), (bd 8, .inl (cZ, 8, .inl X)), (bd 9, .inl (cI, 40, .inl g))]) (po := []) (As := []) (rest := []) ⟨hx, hb, hml, hown, hw⟩ (c_M_goThrough l dC dI cI cZ bd clk 0 lf f fd fc sn ob S D G st Y Z X ef ec fu g) (gw_cV 0 hw mw_539 mw_541 mv_22 mw_6 mw_542 hd_M_goThrough ⟨Nat.le_of_ble_eq_true rfl, Nat.le_of_ble_eq_true rfl⟩) (ci := 5) rfl rfl rfl hK hP hD hS hA rfl hl.1 rfl (Nat.le_of_ble_eq_true rfl) dn_M_path_1 ⟨Nat.zero_le _, Nat.zero_le _⟩ (fun u1 H locs hc1 hP hD hS => ?_)
    have hP : va_P (dC, dI) vwCl [(bd 0, .inr (5, [.ref (bd 1), .int (nI clk), .int 0, .int lf, .ref (bd 2), .int (nI fc), .int (nI u1.2), .int (nI u1.1.1), .ref (bd 3), .ref (bd 4), .ref (bd 5), .int (nI st), .ref (bd 6), .ref (bd 7), .ref (bd 8), .int (nI ef), .int (nI ec), .int (nI fu), .ref (bd 9)])), (bd 1, .inl (cI, 292, .inl f)), (bd 2, .inl (cI, 12, .inl fd)), (bd 3, .inl (cI, 13, .inl u1.1.2.1)), (bd 4, .inl (cI, 13, .inl u1.1.2.2.1)), (bd 5, .inl (cI, 13, .inl u1.1.2.2.2.1)), (bd 6, .inl (cI, 8, .inl Y)), (bd 7, .inl (cI, 8, .inl Z)), (bd 8, .inl (cZ, 8, .inl X)), (bd 9, .inl (cI, 40, .inl g))] H := hP
    have hD : va_D A [(bd 0, .inr (5, [.ref (bd 1), .int (nI clk), .int 0, .int lf, .ref (bd 2), .int (nI fc), .int (nI u1.2), .int (nI u1.1.1), .ref (bd 3), .ref (bd 4), .ref (bd 5), .int (nI st), .ref (bd 6), .ref (bd 7), .ref (bd 8), .int (nI ef), .int (nI ec), .int (nI fu), .ref (bd 9)])), (bd 1, .inl (cI, 292, .inl f)), (bd 2, .inl (cI, 12, .inl fd)), (bd 3, .inl (cI, 13, .inl u1.1.2.1)), (bd 4, .inl (cI, 13, .inl u1.1.2.2.1)), (bd 5, .inl (cI, 13, .inl u1.1.2.2.2.1)), (bd 6, .inl (cI, 8, .inl Y)), (bd 7, .inl (cI, 8, .inl Z)), (bd 8, .inl (cZ, 8, .inl X)), (bd 9, .inl (cI, 40, .inl g))] := hD
    have ho := ce_12 hc1.2 hc1.1.2.1
    have hsn := hc1.1.1
    refine lv_aload_n hx hb dn_M_path_4 rfl (lv_at hl 0 rfl) ?_
    refine va_get (D := (dC, dI)) (ci := 5) (v := .int 0) (C := rn_M) (T := tn_M) (N := 19) hx hb hw ml_M hown hK hP 0 rfl rfl 2 (by decide) (hw _ mw_475) (fun _ h9 => h9) rfl dn_M_path_5 ?_
    refine lv_if_eq (tgt := 28) hx hb dn_M_path_8 (by decide) (fun _ => ?_) (fun h => absurd h (by decide))
    refine lv_ldc2 (v := 1099511627776) hx hb hown (hw _ mw_600) dn_M_path_28 ?_
    have hP : va_P (dC, dI) vwCl [(bd 0, .inr (5, [.ref (bd 1), .int (nI clk), .int 0, .int lf, .ref (bd 2), .int (nI fc), .int (nI u1.2), .int (nI u1.1.1), .ref (bd 3), .ref (bd 4), .ref (bd 5), .int (nI st), .ref (bd 6), .ref (bd 7), .ref (bd 8), .int (nI ef), .int (nI ec), .int (nI fu), .ref (bd 9)])), (bd 1, .inl (cI, 292, .inl f)), (bd 2, .inl (cI, 12, .inl fd)), (bd 3, .inl (cI, 13, .inl u1.1.2.1)), (bd 4, .inl (cI, 13, .inl u1.1.2.2.1)), (bd 5, .inl (cI, 13, .inl u1.1.2.2.2.1)), (bd 6, .inl (cI, 8, .inl Y)), (bd 7, .inl (cI, 8, .inl Z)), (bd 8, .inl (cZ, 8, .inl X)), (bd 9, .inl (cI, 40, .inl (nx_path f g clk 0 i n k)))] H := by rw [← (pa_no (g := g) (k := k) hb_).2]; exact hP
    have hD : va_D A [(bd 0, .inr (5, [.ref (bd 1), .int (nI clk), .int 0, .int lf, .ref (bd 2), .int (nI fc), .int (nI u1.2), .int (nI u1.1.1), .ref (bd 3), .ref (bd 4), .ref (bd 5), .int (nI st), .ref (bd 6), .ref (bd 7), .ref (bd 8), .int (nI ef), .int (nI ec), .int (nI fu), .ref (bd 9)])), (bd 1, .inl (cI, 292, .inl f)), (bd 2, .inl (cI, 12, .inl fd)), (bd 3, .inl (cI, 13, .inl u1.1.2.1)), (bd 4, .inl (cI, 13, .inl u1.1.2.2.1)), (bd 5, .inl (cI, 13, .inl u1.1.2.2.2.1)), (bd 6, .inl (cI, 8, .inl Y)), (bd 7, .inl (cI, 8, .inl Z)), (bd 8, .inl (cZ, 8, .inl X)), (bd 9, .inl (cI, 40, .inl (nx_path f g clk 0 i n k)))] := by rw [← (pa_no (g := g) (k := k) hb_).2]; exact hD
    exact hret 1099511627776 (u1.1, u1.2, X, Y, Z, st, ef, ec, fu) _ _ _ _ (pa_no (g := g) (k := k) hb_).1 hP hD hS dn_M_path_31
  · skip
    refine lv_aload_n hx hb dn_M_path_0 rfl (lv_at hl 0 rfl) ?_
    refine gc_vv (pre := []) (wc := [(bd 0, .inr (5, [.ref (bd 1), .int (nI clk), .int 1, .int lf, .ref (bd 2), .int (nI fc), .int (nI sn), .int (nI ob), .ref (bd 3), .ref (bd 4), .ref (bd 5), .int (nI st), .ref (bd 6), .ref (bd 7), .ref (bd 8), .int (nI ef), .int (nI ec), .int (nI fu), .ref (bd 9)])), (bd 1, .inl (cI, 292, .inl f)), (bd 2, .inl (cI, 12, .inl fd)), (bd 3, .inl (cI, 13, .inl S)), (bd 4, .inl (cI, 13, .inl D)), (bd 5, .inl (cI, 13, .inl G)), (bd 6, .inl (cI, 8, .inl Y)), (bd 7, .inl (cI, 8, .inl Z)), (bd 8, .inl (cZ, 8, .inl X)), (bd 9, .inl (cI, 40, .inl g))]) (po := []) (As := []) (rest := []) ⟨hx, hb, hml, hown, hw⟩ (c_M_goThrough l dC dI cI cZ bd clk 1 lf f fd fc sn ob S D G st Y Z X ef ec fu g) (gw_cV 0 hw mw_539 mw_541 mv_22 mw_6 mw_542 hd_M_goThrough ⟨Nat.le_of_ble_eq_true rfl, Nat.le_of_ble_eq_true rfl⟩) (ci := 5) rfl rfl rfl hK hP hD hS hA rfl hl.1 rfl (Nat.le_of_ble_eq_true rfl) dn_M_path_1 ⟨Nat.zero_le _, Nat.zero_le _⟩ (fun u1 H locs hc1 hP hD hS => ?_)
    have hP : va_P (dC, dI) vwCl [(bd 0, .inr (5, [.ref (bd 1), .int (nI clk), .int 1, .int lf, .ref (bd 2), .int (nI fc), .int (nI u1.2), .int (nI u1.1.1), .ref (bd 3), .ref (bd 4), .ref (bd 5), .int (nI st), .ref (bd 6), .ref (bd 7), .ref (bd 8), .int (nI ef), .int (nI ec), .int (nI fu), .ref (bd 9)])), (bd 1, .inl (cI, 292, .inl f)), (bd 2, .inl (cI, 12, .inl fd)), (bd 3, .inl (cI, 13, .inl u1.1.2.1)), (bd 4, .inl (cI, 13, .inl u1.1.2.2.1)), (bd 5, .inl (cI, 13, .inl u1.1.2.2.2.1)), (bd 6, .inl (cI, 8, .inl Y)), (bd 7, .inl (cI, 8, .inl Z)), (bd 8, .inl (cZ, 8, .inl X)), (bd 9, .inl (cI, 40, .inl g))] H := hP
    have hD : va_D A [(bd 0, .inr (5, [.ref (bd 1), .int (nI clk), .int 1, .int lf, .ref (bd 2), .int (nI fc), .int (nI u1.2), .int (nI u1.1.1), .ref (bd 3), .ref (bd 4), .ref (bd 5), .int (nI st), .ref (bd 6), .ref (bd 7), .ref (bd 8), .int (nI ef), .int (nI ec), .int (nI fu), .ref (bd 9)])), (bd 1, .inl (cI, 292, .inl f)), (bd 2, .inl (cI, 12, .inl fd)), (bd 3, .inl (cI, 13, .inl u1.1.2.1)), (bd 4, .inl (cI, 13, .inl u1.1.2.2.1)), (bd 5, .inl (cI, 13, .inl u1.1.2.2.2.1)), (bd 6, .inl (cI, 8, .inl Y)), (bd 7, .inl (cI, 8, .inl Z)), (bd 8, .inl (cZ, 8, .inl X)), (bd 9, .inl (cI, 40, .inl g))] := hD
    have ho := ce_12 hc1.2 hc1.1.2.1
    have hsn := hc1.1.1
    refine lv_aload_n hx hb dn_M_path_4 rfl (lv_at hl 0 rfl) ?_
    refine va_get (D := (dC, dI)) (ci := 5) (v := .int 1) (C := rn_M) (T := tn_M) (N := 19) hx hb hw ml_M hown hK hP 0 rfl rfl 2 (by decide) (hw _ mw_475) (fun _ h9 => h9) rfl dn_M_path_5 ?_
    refine lv_if_eq (tgt := 28) hx hb dn_M_path_8 (by decide) (fun h => absurd h (by decide)) (fun _ => ?_)
    refine lv_iload_n hx hb dn_M_path_11 rfl (lv_at hl 1 rfl) ?_
    refine lv_if_lt (tgt := 28) hx hb dn_M_path_12 (by decide) (fun h12 => ?_) (fun h12 => ?_)
    · skip
      refine lv_ldc2 (v := 1099511627776) hx hb hown (hw _ mw_600) dn_M_path_28 ?_
      have hb_ : ¬ pa_c f clk 1 i n := fun q => by first | exact q.2.1 h12 | exact absurd q.2.2.1 (Int32.not_lt.mpr h17) | exact h25 (by rw [← ct_N_is hc1.1]; exact q.2.2.2)
      have hP : va_P (dC, dI) vwCl [(bd 0, .inr (5, [.ref (bd 1), .int (nI clk), .int 1, .int lf, .ref (bd 2), .int (nI fc), .int (nI u1.2), .int (nI u1.1.1), .ref (bd 3), .ref (bd 4), .ref (bd 5), .int (nI st), .ref (bd 6), .ref (bd 7), .ref (bd 8), .int (nI ef), .int (nI ec), .int (nI fu), .ref (bd 9)])), (bd 1, .inl (cI, 292, .inl f)), (bd 2, .inl (cI, 12, .inl fd)), (bd 3, .inl (cI, 13, .inl u1.1.2.1)), (bd 4, .inl (cI, 13, .inl u1.1.2.2.1)), (bd 5, .inl (cI, 13, .inl u1.1.2.2.2.1)), (bd 6, .inl (cI, 8, .inl Y)), (bd 7, .inl (cI, 8, .inl Z)), (bd 8, .inl (cZ, 8, .inl X)), (bd 9, .inl (cI, 40, .inl (nx_path f g clk 1 i n k)))] H := by rw [← (pa_no (g := g) (k := k) hb_).2]; exact hP
      have hD : va_D A [(bd 0, .inr (5, [.ref (bd 1), .int (nI clk), .int 1, .int lf, .ref (bd 2), .int (nI fc), .int (nI u1.2), .int (nI u1.1.1), .ref (bd 3), .ref (bd 4), .ref (bd 5), .int (nI st), .ref (bd 6), .ref (bd 7), .ref (bd 8), .int (nI ef), .int (nI ec), .int (nI fu), .ref (bd 9)])), (bd 1, .inl (cI, 292, .inl f)), (bd 2, .inl (cI, 12, .inl fd)), (bd 3, .inl (cI, 13, .inl u1.1.2.1)), (bd 4, .inl (cI, 13, .inl u1.1.2.2.1)), (bd 5, .inl (cI, 13, .inl u1.1.2.2.2.1)), (bd 6, .inl (cI, 8, .inl Y)), (bd 7, .inl (cI, 8, .inl Z)), (bd 8, .inl (cZ, 8, .inl X)), (bd 9, .inl (cI, 40, .inl (nx_path f g clk 1 i n k)))] := by rw [← (pa_no (g := g) (k := k) hb_).2]; exact hD
      exact hret 1099511627776 (u1.1, u1.2, X, Y, Z, st, ef, ec, fu) _ _ _ _ (pa_no (g := g) (k := k) hb_).1 hP hD hS dn_M_path_31
    · skip
      refine lv_iload_n hx hb dn_M_path_15 rfl (lv_at hl 1 rfl) ?_
      refine lv_iload_n hx hb dn_M_path_16 rfl (lv_at hl 2 rfl) ?_
      refine lv_icmp_ge (tgt := 28) hx hb dn_M_path_17 (by decide) (fun h17 => ?_) (fun h17 => ?_)
      · skip
        refine lv_ldc2 (v := 1099511627776) hx hb hown (hw _ mw_600) dn_M_path_28 ?_
        have hb_ : ¬ pa_c f clk 1 i n := fun q => by first | exact q.2.1 h12 | exact absurd q.2.2.1 (Int32.not_lt.mpr h17) | exact h25 (by rw [← ct_N_is hc1.1]; exact q.2.2.2)
        have hP : va_P (dC, dI) vwCl [(bd 0, .inr (5, [.ref (bd 1), .int (nI clk), .int 1, .int lf, .ref (bd 2), .int (nI fc), .int (nI u1.2), .int (nI u1.1.1), .ref (bd 3), .ref (bd 4), .ref (bd 5), .int (nI st), .ref (bd 6), .ref (bd 7), .ref (bd 8), .int (nI ef), .int (nI ec), .int (nI fu), .ref (bd 9)])), (bd 1, .inl (cI, 292, .inl f)), (bd 2, .inl (cI, 12, .inl fd)), (bd 3, .inl (cI, 13, .inl u1.1.2.1)), (bd 4, .inl (cI, 13, .inl u1.1.2.2.1)), (bd 5, .inl (cI, 13, .inl u1.1.2.2.2.1)), (bd 6, .inl (cI, 8, .inl Y)), (bd 7, .inl (cI, 8, .inl Z)), (bd 8, .inl (cZ, 8, .inl X)), (bd 9, .inl (cI, 40, .inl (nx_path f g clk 1 i n k)))] H := by rw [← (pa_no (g := g) (k := k) hb_).2]; exact hP
        have hD : va_D A [(bd 0, .inr (5, [.ref (bd 1), .int (nI clk), .int 1, .int lf, .ref (bd 2), .int (nI fc), .int (nI u1.2), .int (nI u1.1.1), .ref (bd 3), .ref (bd 4), .ref (bd 5), .int (nI st), .ref (bd 6), .ref (bd 7), .ref (bd 8), .int (nI ef), .int (nI ec), .int (nI fu), .ref (bd 9)])), (bd 1, .inl (cI, 292, .inl f)), (bd 2, .inl (cI, 12, .inl fd)), (bd 3, .inl (cI, 13, .inl u1.1.2.1)), (bd 4, .inl (cI, 13, .inl u1.1.2.2.1)), (bd 5, .inl (cI, 13, .inl u1.1.2.2.2.1)), (bd 6, .inl (cI, 8, .inl Y)), (bd 7, .inl (cI, 8, .inl Z)), (bd 8, .inl (cZ, 8, .inl X)), (bd 9, .inl (cI, 40, .inl (nx_path f g clk 1 i n k)))] := by rw [← (pa_no (g := g) (k := k) hb_).2]; exact hD
        exact hret 1099511627776 (u1.1, u1.2, X, Y, Z, st, ef, ec, fu) _ _ _ _ (pa_no (g := g) (k := k) hb_).1 hP hD hS dn_M_path_31
      · skip
        refine lv_iload_n hx hb dn_M_path_20 rfl (lv_at hl 2 rfl) ?_
        refine lv_aload_n hx hb dn_M_path_21 rfl (lv_at hl 0 rfl) ?_
        refine va_get (D := (dC, dI)) (ci := 5) (v := .int (nI u1.2)) (C := rn_M) (T := tn_M) (N := 19) hx hb hw ml_M hown hK hP 0 rfl rfl 6 (by decide) (hw _ mw_479) (fun _ h9 => h9) rfl dn_M_path_22 ?_
        refine lv_icmp_le (tgt := 32) hx hb dn_M_path_25 (by decide) (fun h25 => ?_) (fun h25 => ?_)
        · skip
          have hc_ : pa_c f clk 1 i n := ⟨rfl, h12, Int32.not_le.mp h17, by rw [ct_N_is hc1.1]; exact h25⟩
          obtain ⟨a_, b_, hab, hbe, rfl, rfl⟩ := wy_in (by omega) h12 (Int32.not_le.mp h17) h25
          refine lv_aload_n hx hb dn_M_path_32 rfl (lv_at hl 0 rfl) ?_
          refine lv_iload_n hx hb dn_M_path_33 rfl (lv_at hl 1 rfl) ?_
          refine lv_iload_n hx hb dn_M_path_34 rfl (lv_at hl 2 rfl) ?_
          refine gc_vv (pre := []) (wc := [(bd 0, .inr (5, [.ref (bd 1), .int (nI clk), .int 1, .int lf, .ref (bd 2), .int (nI fc), .int (nI u1.2), .int (nI u1.1.1), .ref (bd 3), .ref (bd 4), .ref (bd 5), .int (nI st), .ref (bd 6), .ref (bd 7), .ref (bd 8), .int (nI ef), .int (nI ec), .int (nI fu), .ref (bd 9)])), (bd 1, .inl (cI, 292, .inl f)), (bd 2, .inl (cI, 12, .inl fd)), (bd 3, .inl (cI, 13, .inl u1.1.2.1)), (bd 4, .inl (cI, 13, .inl u1.1.2.2.1)), (bd 5, .inl (cI, 13, .inl u1.1.2.2.2.1)), (bd 6, .inl (cI, 8, .inl Y)), (bd 7, .inl (cI, 8, .inl Z)), (bd 8, .inl (cZ, 8, .inl X)), (bd 9, .inl (cI, 40, .inl g))]) (po := []) (As := [.int (nI a_), .int (nI b_)]) (rest := []) ⟨hx, hb, hml, hown, hw⟩ (c_M_wayToLeaf l dC dI cI cZ bd clk 1 lf f fd fc u1.2 u1.1.1 u1.1.2.1 u1.1.2.2.1 u1.1.2.2.2.1 st Y Z X ef ec fu g a_ b_ (by omega) (by omega)) (gw_cV 2 hw mw_624 mw_626 mv_31 mw_6 mw_627 hd_M_wayToLeaf ⟨Nat.le_of_ble_eq_true rfl, Nat.le_of_ble_eq_true rfl⟩) (ci := 5) rfl rfl rfl hK hP hD hS hA rfl hl.1 rfl (Nat.le_of_ble_eq_true rfl) dn_M_path_35 ⟨Nat.zero_le _, Nat.zero_le _⟩ (fun u35 H locs hc35 hP hD hS => ?_)
          have hP : va_P (dC, dI) vwCl [(bd 0, .inr (5, [.ref (bd 1), .int (nI clk), .int 1, .int lf, .ref (bd 2), .int (nI fc), .int (nI u1.2), .int (nI u1.1.1), .ref (bd 3), .ref (bd 4), .ref (bd 5), .int (nI u35.2.2.2), .ref (bd 6), .ref (bd 7), .ref (bd 8), .int (nI ((ds_at a_ b_ u35.2.2.2).1)), .int (nI ((ds_at a_ b_ u35.2.2.2).2)), .int (nI 1), .ref (bd 9)])), (bd 1, .inl (cI, 292, .inl f)), (bd 2, .inl (cI, 12, .inl fd)), (bd 3, .inl (cI, 13, .inl u1.1.2.1)), (bd 4, .inl (cI, 13, .inl u1.1.2.2.1)), (bd 5, .inl (cI, 13, .inl u1.1.2.2.2.1)), (bd 6, .inl (cI, 8, .inl u35.2.1)), (bd 7, .inl (cI, 8, .inl u35.2.2.1)), (bd 8, .inl (cZ, 8, .inl u35.1)), (bd 9, .inl (cI, 40, .inl g))] H := hP
          have hD : va_D A [(bd 0, .inr (5, [.ref (bd 1), .int (nI clk), .int 1, .int lf, .ref (bd 2), .int (nI fc), .int (nI u1.2), .int (nI u1.1.1), .ref (bd 3), .ref (bd 4), .ref (bd 5), .int (nI u35.2.2.2), .ref (bd 6), .ref (bd 7), .ref (bd 8), .int (nI ((ds_at a_ b_ u35.2.2.2).1)), .int (nI ((ds_at a_ b_ u35.2.2.2).2)), .int (nI 1), .ref (bd 9)])), (bd 1, .inl (cI, 292, .inl f)), (bd 2, .inl (cI, 12, .inl fd)), (bd 3, .inl (cI, 13, .inl u1.1.2.1)), (bd 4, .inl (cI, 13, .inl u1.1.2.2.1)), (bd 5, .inl (cI, 13, .inl u1.1.2.2.2.1)), (bd 6, .inl (cI, 8, .inl u35.2.1)), (bd 7, .inl (cI, 8, .inl u35.2.2.1)), (bd 8, .inl (cZ, 8, .inl u35.1)), (bd 9, .inl (cI, 40, .inl g))] := hD
          refine lv_aload_n hx hb dn_M_path_38 rfl (lv_at hl 0 rfl) ?_
          refine lv_iload_n hx hb dn_M_path_39 rfl (lv_at hl 3 rfl) ?_
          refine gc_vl (pre := []) (wc := [(bd 0, .inr (5, [.ref (bd 1), .int (nI clk), .int 1, .int lf, .ref (bd 2), .int (nI fc), .int (nI u1.2), .int (nI u1.1.1), .ref (bd 3), .ref (bd 4), .ref (bd 5), .int (nI u35.2.2.2), .ref (bd 6), .ref (bd 7), .ref (bd 8), .int (nI ((ds_at a_ b_ u35.2.2.2).1)), .int (nI ((ds_at a_ b_ u35.2.2.2).2)), .int (nI 1), .ref (bd 9)])), (bd 1, .inl (cI, 292, .inl f)), (bd 2, .inl (cI, 12, .inl fd)), (bd 3, .inl (cI, 13, .inl u1.1.2.1)), (bd 4, .inl (cI, 13, .inl u1.1.2.2.1)), (bd 5, .inl (cI, 13, .inl u1.1.2.2.2.1)), (bd 6, .inl (cI, 8, .inl u35.2.1)), (bd 7, .inl (cI, 8, .inl u35.2.2.1)), (bd 8, .inl (cZ, 8, .inl u35.1)), (bd 9, .inl (cI, 40, .inl g))]) (po := []) (As := [.int k]) (rest := []) ⟨hx, hb, hml, hown, hw⟩ (c_M_digest l dC dI cI cZ bd clk 1 lf f fd fc u1.2 u1.1.1 u1.1.2.1 u1.1.2.2.1 u1.1.2.2.2.1 u35.2.2.2 u35.2.1 u35.2.2.1 u35.1 1 g false a_ b_ (ds_S_is hc35.1) (ds_BF _ _) (ds_le6 hab (by omega) hc35.1.1) (by omega) hc35.2 (fun k => by have := du_in (b := 1) (k := k) hab (by omega) hc35.1; omega) k) (gw_cV 1 hw mw_635 mw_637 mv_33 mw_6 mw_638 hd_M_digest ⟨Nat.le_of_ble_eq_true rfl, Nat.le_of_ble_eq_true rfl⟩) (ci := 5) rfl rfl rfl hK hP hD hS hA rfl hl.1 rfl (Nat.le_of_ble_eq_true rfl) dn_M_path_40 ⟨Nat.zero_le _, Nat.zero_le _⟩ (fun r40 u40 H locs hc40 hP hD hS => ?_)
          subst hc40
          have hP : va_P (dC, dI) vwCl [(bd 0, .inr (5, [.ref (bd 1), .int (nI clk), .int 1, .int lf, .ref (bd 2), .int (nI fc), .int (nI u1.2), .int (nI u1.1.1), .ref (bd 3), .ref (bd 4), .ref (bd 5), .int (nI u35.2.2.2), .ref (bd 6), .ref (bd 7), .ref (bd 8), .int (nI ((ds_at a_ b_ u35.2.2.2).1)), .int (nI ((ds_at a_ b_ u35.2.2.2).2)), .int (nI 1), .ref (bd 9)])), (bd 1, .inl (cI, 292, .inl f)), (bd 2, .inl (cI, 12, .inl fd)), (bd 3, .inl (cI, 13, .inl u1.1.2.1)), (bd 4, .inl (cI, 13, .inl u1.1.2.2.1)), (bd 5, .inl (cI, 13, .inl u1.1.2.2.2.1)), (bd 6, .inl (cI, 8, .inl u35.2.1)), (bd 7, .inl (cI, 8, .inl u35.2.2.1)), (bd 8, .inl (cZ, 8, .inl u35.1)), (bd 9, .inl (cI, 40, .inl (nx_dg false f g a_ b_ k)))] H := hP
          have hD : va_D A [(bd 0, .inr (5, [.ref (bd 1), .int (nI clk), .int 1, .int lf, .ref (bd 2), .int (nI fc), .int (nI u1.2), .int (nI u1.1.1), .ref (bd 3), .ref (bd 4), .ref (bd 5), .int (nI u35.2.2.2), .ref (bd 6), .ref (bd 7), .ref (bd 8), .int (nI ((ds_at a_ b_ u35.2.2.2).1)), .int (nI ((ds_at a_ b_ u35.2.2.2).2)), .int (nI 1), .ref (bd 9)])), (bd 1, .inl (cI, 292, .inl f)), (bd 2, .inl (cI, 12, .inl fd)), (bd 3, .inl (cI, 13, .inl u1.1.2.1)), (bd 4, .inl (cI, 13, .inl u1.1.2.2.1)), (bd 5, .inl (cI, 13, .inl u1.1.2.2.2.1)), (bd 6, .inl (cI, 8, .inl u35.2.1)), (bd 7, .inl (cI, 8, .inl u35.2.2.1)), (bd 8, .inl (cZ, 8, .inl u35.1)), (bd 9, .inl (cI, 40, .inl (nx_dg false f g a_ b_ k)))] := hD
          have hg_ := (pa_ok (g := g) (k := k) hc_)
          rw [nI_clamp (by omega), nI_clamp (by omega)] at hg_
          have hP : va_P (dC, dI) vwCl [(bd 0, .inr (5, [.ref (bd 1), .int (nI clk), .int 1, .int lf, .ref (bd 2), .int (nI fc), .int (nI u1.2), .int (nI u1.1.1), .ref (bd 3), .ref (bd 4), .ref (bd 5), .int (nI u35.2.2.2), .ref (bd 6), .ref (bd 7), .ref (bd 8), .int (nI ((ds_at a_ b_ u35.2.2.2).1)), .int (nI ((ds_at a_ b_ u35.2.2.2).2)), .int (nI 1), .ref (bd 9)])), (bd 1, .inl (cI, 292, .inl f)), (bd 2, .inl (cI, 12, .inl fd)), (bd 3, .inl (cI, 13, .inl u1.1.2.1)), (bd 4, .inl (cI, 13, .inl u1.1.2.2.1)), (bd 5, .inl (cI, 13, .inl u1.1.2.2.2.1)), (bd 6, .inl (cI, 8, .inl u35.2.1)), (bd 7, .inl (cI, 8, .inl u35.2.2.1)), (bd 8, .inl (cZ, 8, .inl u35.1)), (bd 9, .inl (cI, 40, .inl (nx_path f g clk 1 (nI a_) (nI b_) k)))] H := by rw [hg_.2]; exact hP
          have hD : va_D A [(bd 0, .inr (5, [.ref (bd 1), .int (nI clk), .int 1, .int lf, .ref (bd 2), .int (nI fc), .int (nI u1.2), .int (nI u1.1.1), .ref (bd 3), .ref (bd 4), .ref (bd 5), .int (nI u35.2.2.2), .ref (bd 6), .ref (bd 7), .ref (bd 8), .int (nI ((ds_at a_ b_ u35.2.2.2).1)), .int (nI ((ds_at a_ b_ u35.2.2.2).2)), .int (nI 1), .ref (bd 9)])), (bd 1, .inl (cI, 292, .inl f)), (bd 2, .inl (cI, 12, .inl fd)), (bd 3, .inl (cI, 13, .inl u1.1.2.1)), (bd 4, .inl (cI, 13, .inl u1.1.2.2.1)), (bd 5, .inl (cI, 13, .inl u1.1.2.2.2.1)), (bd 6, .inl (cI, 8, .inl u35.2.1)), (bd 7, .inl (cI, 8, .inl u35.2.2.1)), (bd 8, .inl (cZ, 8, .inl u35.1)), (bd 9, .inl (cI, 40, .inl (nx_path f g clk 1 (nI a_) (nI b_) k)))] := by rw [hg_.2]; exact hD
          exact hret (an_dg false f g a_ b_ k) (u1.1, u1.2, u35.1, u35.2.1, u35.2.2.1, u35.2.2.2, ((ds_at a_ b_ u35.2.2.2).1), ((ds_at a_ b_ u35.2.2.2).2), 1) _ _ _ _ hg_.1.symm hP hD hS dn_M_path_43
        · skip
          refine lv_ldc2 (v := 1099511627776) hx hb hown (hw _ mw_600) dn_M_path_28 ?_
          have hb_ : ¬ pa_c f clk 1 i n := fun q => by first | exact q.2.1 h12 | exact absurd q.2.2.1 (Int32.not_lt.mpr h17) | exact h25 (by rw [← ct_N_is hc1.1]; exact q.2.2.2)
          have hP : va_P (dC, dI) vwCl [(bd 0, .inr (5, [.ref (bd 1), .int (nI clk), .int 1, .int lf, .ref (bd 2), .int (nI fc), .int (nI u1.2), .int (nI u1.1.1), .ref (bd 3), .ref (bd 4), .ref (bd 5), .int (nI st), .ref (bd 6), .ref (bd 7), .ref (bd 8), .int (nI ef), .int (nI ec), .int (nI fu), .ref (bd 9)])), (bd 1, .inl (cI, 292, .inl f)), (bd 2, .inl (cI, 12, .inl fd)), (bd 3, .inl (cI, 13, .inl u1.1.2.1)), (bd 4, .inl (cI, 13, .inl u1.1.2.2.1)), (bd 5, .inl (cI, 13, .inl u1.1.2.2.2.1)), (bd 6, .inl (cI, 8, .inl Y)), (bd 7, .inl (cI, 8, .inl Z)), (bd 8, .inl (cZ, 8, .inl X)), (bd 9, .inl (cI, 40, .inl (nx_path f g clk 1 i n k)))] H := by rw [← (pa_no (g := g) (k := k) hb_).2]; exact hP
          have hD : va_D A [(bd 0, .inr (5, [.ref (bd 1), .int (nI clk), .int 1, .int lf, .ref (bd 2), .int (nI fc), .int (nI u1.2), .int (nI u1.1.1), .ref (bd 3), .ref (bd 4), .ref (bd 5), .int (nI st), .ref (bd 6), .ref (bd 7), .ref (bd 8), .int (nI ef), .int (nI ec), .int (nI fu), .ref (bd 9)])), (bd 1, .inl (cI, 292, .inl f)), (bd 2, .inl (cI, 12, .inl fd)), (bd 3, .inl (cI, 13, .inl u1.1.2.1)), (bd 4, .inl (cI, 13, .inl u1.1.2.2.1)), (bd 5, .inl (cI, 13, .inl u1.1.2.2.2.1)), (bd 6, .inl (cI, 8, .inl Y)), (bd 7, .inl (cI, 8, .inl Z)), (bd 8, .inl (cZ, 8, .inl X)), (bd 9, .inl (cI, 40, .inl (nx_path f g clk 1 i n k)))] := by rw [← (pa_no (g := g) (k := k) hb_).2]; exact hD
          exact hret 1099511627776 (u1.1, u1.2, X, Y, Z, st, ef, ec, fu) _ _ _ _ (pa_no (g := g) (k := k) hb_).1 hP hD hS dn_M_path_31

set_option maxRecDepth 100000 in
set_option maxHeartbeats 1000000 in
theorem c_M_bridge (l : Launch) (dC : Nat → ClassId) (dI : Nat → Nat → Nat) (cI cZ : ClassId) (bd : Nat → Nat) (clk : Nat) (pw lf : Int32) (f fd : Nat → Int32) (fc sn ob : Nat) (S D G : Nat → Int32) (st : Nat) (Y Z X : Nat → Int32) (ef ec fu : Nat) (g : Nat → Int32) (hpw : pw = 0 ∨ pw = 1) (m n k : Int32) : gc_L l yn_M_bridge (gw yn_M_bridge cn_M_bridge 4 (some .long)) (rm_ 4 95) (dC, dI) vwCl (gT cI cZ) [.ref (bd 0), .int m, .int n, .int k] [(bd 0, .inr (5, [.ref (bd 1), .int (nI clk), .int pw, .int lf, .ref (bd 2), .int (nI fc), .int (nI sn), .int (nI ob), .ref (bd 3), .ref (bd 4), .ref (bd 5), .int (nI st), .ref (bd 6), .ref (bd 7), .ref (bd 8), .int (nI ef), .int (nI ec), .int (nI fu), .ref (bd 9)])), (bd 1, .inl (cI, 292, .inl f)), (bd 2, .inl (cI, 12, .inl fd)), (bd 3, .inl (cI, 13, .inl S)), (bd 4, .inl (cI, 13, .inl D)), (bd 5, .inl (cI, 13, .inl G)), (bd 6, .inl (cI, 8, .inl Y)), (bd 7, .inl (cI, 8, .inl Z)), (bd 8, .inl (cZ, 8, .inl X)), (bd 9, .inl (cI, 40, .inl g))] (fun r (u : ct_T × Nat × (Nat → Int32) × (Nat → Int32) × (Nat → Int32) × Nat × Nat × Nat × Nat) => r = an_brid f g clk pw m n k) (fun u => [(bd 0, .inr (5, [.ref (bd 1), .int (nI clk), .int pw, .int lf, .ref (bd 2), .int (nI fc), .int (nI u.2.1), .int (nI u.1.1), .ref (bd 3), .ref (bd 4), .ref (bd 5), .int (nI u.2.2.2.2.2.1), .ref (bd 6), .ref (bd 7), .ref (bd 8), .int (nI u.2.2.2.2.2.2.1), .int (nI u.2.2.2.2.2.2.2.1), .int (nI u.2.2.2.2.2.2.2.2), .ref (bd 9)])), (bd 1, .inl (cI, 292, .inl f)), (bd 2, .inl (cI, 12, .inl fd)), (bd 3, .inl (cI, 13, .inl u.1.2.1)), (bd 4, .inl (cI, 13, .inl u.1.2.2.1)), (bd 5, .inl (cI, 13, .inl u.1.2.2.2.1)), (bd 6, .inl (cI, 8, .inl u.2.2.2.1)), (bd 7, .inl (cI, 8, .inl u.2.2.2.2.1)), (bd 8, .inl (cZ, 8, .inl u.2.2.1)), (bd 9, .inl (cI, 40, .inl (nx_brid f g clk pw m n k)))]) := by
  refine gc_L_of (cc := cn_M_bridge) (maxL := 4) (by decide) rfl (Nat.le_of_ble_eq_true rfl) ?_
  intro pp ee ss mm ar be me cd A Q ls H0 H locs hx hb hml hown hts hK hP hD hS hA hl hret
  have hw : ∀ w ∈ gw_T, w.before ar ss = true := fun w h => hts w (List.mem_cons_of_mem _ h)
  have hl : lv_has ls 4 [(0, .ref (bd 0)), (1, .int m), (2, .int n), (3, .int k)] := hl
  rcases hpw with rfl | rfl
  · skip
    have hb_ : ¬ bg_c f clk 0 m n := fun q => absurd q.1 (by decide)
    refine lv_aload_n hx hb dn_M_bridge_0 rfl (lv_at hl 0 rfl) ?_
    refine gc_vv (pre := []) (wc := [(bd 0, .inr (5, [.ref (bd 1), .int (nI clk), .int 0, .int lf, .ref (bd 2), .int (nI fc), .int (nI sn), .int (nI ob), .ref (bd 3), .ref (bd 4), .ref (bd 5), .int (nI st), .ref (bd 6), .ref (bd 7), .ref (bd 8), .int (nI ef), .int (nI ec), .int (nI fu), .ref (bd 9)])), (bd 1, .inl (cI, 292, .inl f)), (bd 2, .inl (cI, 12, .inl fd)), (bd 3, .inl (cI, 13, .inl S)), (bd 4, .inl (cI, 13, .inl D)), (bd 5, .inl (cI, 13, .inl G)), (bd 6, .inl (cI, 8, .inl Y)), (bd 7, .inl (cI, 8, .inl Z)), (bd 8, .inl (cZ, 8, .inl X)), (bd 9, .inl (cI, 40, .inl g))]) (po := []) (As := []) (rest := []) ⟨hx, hb, hml, hown, hw⟩ (c_M_goThrough l dC dI cI cZ bd clk 0 lf f fd fc sn ob S D G st Y Z X ef ec fu g) (gw_cV 0 hw mw_539 mw_541 mv_22 mw_6 mw_542 hd_M_goThrough ⟨Nat.le_of_ble_eq_true rfl, Nat.le_of_ble_eq_true rfl⟩) (ci := 5) rfl rfl rfl hK hP hD hS hA rfl hl.1 rfl (Nat.le_of_ble_eq_true rfl) dn_M_bridge_1 ⟨Nat.zero_le _, Nat.zero_le _⟩ (fun u1 H locs hc1 hP hD hS => ?_)
    have hP : va_P (dC, dI) vwCl [(bd 0, .inr (5, [.ref (bd 1), .int (nI clk), .int 0, .int lf, .ref (bd 2), .int (nI fc), .int (nI u1.2), .int (nI u1.1.1), .ref (bd 3), .ref (bd 4), .ref (bd 5), .int (nI st), .ref (bd 6), .ref (bd 7), .ref (bd 8), .int (nI ef), .int (nI ec), .int (nI fu), .ref (bd 9)])), (bd 1, .inl (cI, 292, .inl f)), (bd 2, .inl (cI, 12, .inl fd)), (bd 3, .inl (cI, 13, .inl u1.1.2.1)), (bd 4, .inl (cI, 13, .inl u1.1.2.2.1)), (bd 5, .inl (cI, 13, .inl u1.1.2.2.2.1)), (bd 6, .inl (cI, 8, .inl Y)), (bd 7, .inl (cI, 8, .inl Z)), (bd 8, .inl (cZ, 8, .inl X)), (bd 9, .inl (cI, 40, .inl g))] H := hP
    have hD : va_D A [(bd 0, .inr (5, [.ref (bd 1), .int (nI clk), .int 0, .int lf, .ref (bd 2), .int (nI fc), .int (nI u1.2), .int (nI u1.1.1), .ref (bd 3), .ref (bd 4), .ref (bd 5), .int (nI st), .ref (bd 6), .ref (bd 7), .ref (bd 8), .int (nI ef), .int (nI ec), .int (nI fu), .ref (bd 9)])), (bd 1, .inl (cI, 292, .inl f)), (bd 2, .inl (cI, 12, .inl fd)), (bd 3, .inl (cI, 13, .inl u1.1.2.1)), (bd 4, .inl (cI, 13, .inl u1.1.2.2.1)), (bd 5, .inl (cI, 13, .inl u1.1.2.2.2.1)), (bd 6, .inl (cI, 8, .inl Y)), (bd 7, .inl (cI, 8, .inl Z)), (bd 8, .inl (cZ, 8, .inl X)), (bd 9, .inl (cI, 40, .inl g))] := hD
    have ho := ce_12 hc1.2 hc1.1.2.1
    have hsn := hc1.1.1
    refine lv_aload_n hx hb dn_M_bridge_4 rfl (lv_at hl 0 rfl) ?_
    refine va_get (D := (dC, dI)) (ci := 5) (v := .int 0) (C := rn_M) (T := tn_M) (N := 19) hx hb hw ml_M hown hK hP 0 rfl rfl 2 (by decide) (hw _ mw_475) (fun _ h9 => h9) rfl dn_M_bridge_5 ?_
    refine lv_if_eq (tgt := 29) hx hb dn_M_bridge_8 (by decide) (fun _ => ?_) (fun h => absurd h (by decide))
    refine lv_ldc2 (v := 1099511627776) hx hb hown (hw _ mw_600) dn_M_bridge_29 ?_
    have hP : va_P (dC, dI) vwCl [(bd 0, .inr (5, [.ref (bd 1), .int (nI clk), .int 0, .int lf, .ref (bd 2), .int (nI fc), .int (nI u1.2), .int (nI u1.1.1), .ref (bd 3), .ref (bd 4), .ref (bd 5), .int (nI st), .ref (bd 6), .ref (bd 7), .ref (bd 8), .int (nI ef), .int (nI ec), .int (nI fu), .ref (bd 9)])), (bd 1, .inl (cI, 292, .inl f)), (bd 2, .inl (cI, 12, .inl fd)), (bd 3, .inl (cI, 13, .inl u1.1.2.1)), (bd 4, .inl (cI, 13, .inl u1.1.2.2.1)), (bd 5, .inl (cI, 13, .inl u1.1.2.2.2.1)), (bd 6, .inl (cI, 8, .inl Y)), (bd 7, .inl (cI, 8, .inl Z)), (bd 8, .inl (cZ, 8, .inl X)), (bd 9, .inl (cI, 40, .inl (nx_brid f g clk 0 m n k)))] H := by rw [← (bg_no (g := g) (k := k) hb_).2]; exact hP
    have hD : va_D A [(bd 0, .inr (5, [.ref (bd 1), .int (nI clk), .int 0, .int lf, .ref (bd 2), .int (nI fc), .int (nI u1.2), .int (nI u1.1.1), .ref (bd 3), .ref (bd 4), .ref (bd 5), .int (nI st), .ref (bd 6), .ref (bd 7), .ref (bd 8), .int (nI ef), .int (nI ec), .int (nI fu), .ref (bd 9)])), (bd 1, .inl (cI, 292, .inl f)), (bd 2, .inl (cI, 12, .inl fd)), (bd 3, .inl (cI, 13, .inl u1.1.2.1)), (bd 4, .inl (cI, 13, .inl u1.1.2.2.1)), (bd 5, .inl (cI, 13, .inl u1.1.2.2.2.1)), (bd 6, .inl (cI, 8, .inl Y)), (bd 7, .inl (cI, 8, .inl Z)), (bd 8, .inl (cZ, 8, .inl X)), (bd 9, .inl (cI, 40, .inl (nx_brid f g clk 0 m n k)))] := by rw [← (bg_no (g := g) (k := k) hb_).2]; exact hD
    exact hret 1099511627776 (u1.1, u1.2, X, Y, Z, st, ef, ec, fu) _ _ _ _ (bg_no (g := g) (k := k) hb_).1 hP hD hS dn_M_bridge_32
  · skip
    refine lv_aload_n hx hb dn_M_bridge_0 rfl (lv_at hl 0 rfl) ?_
    refine gc_vv (pre := []) (wc := [(bd 0, .inr (5, [.ref (bd 1), .int (nI clk), .int 1, .int lf, .ref (bd 2), .int (nI fc), .int (nI sn), .int (nI ob), .ref (bd 3), .ref (bd 4), .ref (bd 5), .int (nI st), .ref (bd 6), .ref (bd 7), .ref (bd 8), .int (nI ef), .int (nI ec), .int (nI fu), .ref (bd 9)])), (bd 1, .inl (cI, 292, .inl f)), (bd 2, .inl (cI, 12, .inl fd)), (bd 3, .inl (cI, 13, .inl S)), (bd 4, .inl (cI, 13, .inl D)), (bd 5, .inl (cI, 13, .inl G)), (bd 6, .inl (cI, 8, .inl Y)), (bd 7, .inl (cI, 8, .inl Z)), (bd 8, .inl (cZ, 8, .inl X)), (bd 9, .inl (cI, 40, .inl g))]) (po := []) (As := []) (rest := []) ⟨hx, hb, hml, hown, hw⟩ (c_M_goThrough l dC dI cI cZ bd clk 1 lf f fd fc sn ob S D G st Y Z X ef ec fu g) (gw_cV 0 hw mw_539 mw_541 mv_22 mw_6 mw_542 hd_M_goThrough ⟨Nat.le_of_ble_eq_true rfl, Nat.le_of_ble_eq_true rfl⟩) (ci := 5) rfl rfl rfl hK hP hD hS hA rfl hl.1 rfl (Nat.le_of_ble_eq_true rfl) dn_M_bridge_1 ⟨Nat.zero_le _, Nat.zero_le _⟩ (fun u1 H locs hc1 hP hD hS => ?_)
    have hP : va_P (dC, dI) vwCl [(bd 0, .inr (5, [.ref (bd 1), .int (nI clk), .int 1, .int lf, .ref (bd 2), .int (nI fc), .int (nI u1.2), .int (nI u1.1.1), .ref (bd 3), .ref (bd 4), .ref (bd 5), .int (nI st), .ref (bd 6), .ref (bd 7), .ref (bd 8), .int (nI ef), .int (nI ec), .int (nI fu), .ref (bd 9)])), (bd 1, .inl (cI, 292, .inl f)), (bd 2, .inl (cI, 12, .inl fd)), (bd 3, .inl (cI, 13, .inl u1.1.2.1)), (bd 4, .inl (cI, 13, .inl u1.1.2.2.1)), (bd 5, .inl (cI, 13, .inl u1.1.2.2.2.1)), (bd 6, .inl (cI, 8, .inl Y)), (bd 7, .inl (cI, 8, .inl Z)), (bd 8, .inl (cZ, 8, .inl X)), (bd 9, .inl (cI, 40, .inl g))] H := hP
    have hD : va_D A [(bd 0, .inr (5, [.ref (bd 1), .int (nI clk), .int 1, .int lf, .ref (bd 2), .int (nI fc), .int (nI u1.2), .int (nI u1.1.1), .ref (bd 3), .ref (bd 4), .ref (bd 5), .int (nI st), .ref (bd 6), .ref (bd 7), .ref (bd 8), .int (nI ef), .int (nI ec), .int (nI fu), .ref (bd 9)])), (bd 1, .inl (cI, 292, .inl f)), (bd 2, .inl (cI, 12, .inl fd)), (bd 3, .inl (cI, 13, .inl u1.1.2.1)), (bd 4, .inl (cI, 13, .inl u1.1.2.2.1)), (bd 5, .inl (cI, 13, .inl u1.1.2.2.2.1)), (bd 6, .inl (cI, 8, .inl Y)), (bd 7, .inl (cI, 8, .inl Z)), (bd 8, .inl (cZ, 8, .inl X)), (bd 9, .inl (cI, 40, .inl g))] := hD
    have ho := ce_12 hc1.2 hc1.1.2.1
    have hsn := hc1.1.1
    refine lv_aload_n hx hb dn_M_bridge_4 rfl (lv_at hl 0 rfl) ?_
    refine va_get (D := (dC, dI)) (ci := 5) (v := .int 1) (C := rn_M) (T := tn_M) (N := 19) hx hb hw ml_M hown hK hP 0 rfl rfl 2 (by decide) (hw _ mw_475) (fun _ h9 => h9) rfl dn_M_bridge_5 ?_
    refine lv_if_eq (tgt := 29) hx hb dn_M_bridge_8 (by decide) (fun h => absurd h (by decide)) (fun _ => ?_)
    refine lv_iload_n hx hb dn_M_bridge_11 rfl (lv_at hl 1 rfl) ?_
    refine lv_iconst (v := 1) hx hb dn_M_bridge_12 (by decide) ?_
    refine lv_icmp_lt (tgt := 29) hx hb dn_M_bridge_13 (by decide) (fun h13 => ?_) (fun h13 => ?_)
    · skip
      refine lv_ldc2 (v := 1099511627776) hx hb hown (hw _ mw_600) dn_M_bridge_29 ?_
      have hb_ : ¬ bg_c f clk 1 m n := fun q => by first | exact absurd q.2.1 (Int32.not_le.mpr h13) | exact absurd q.2.2.1 (Int32.not_le.mpr h18) | exact h26 (by rw [← ct_N_is hc1.1]; exact q.2.2.2)
      have hP : va_P (dC, dI) vwCl [(bd 0, .inr (5, [.ref (bd 1), .int (nI clk), .int 1, .int lf, .ref (bd 2), .int (nI fc), .int (nI u1.2), .int (nI u1.1.1), .ref (bd 3), .ref (bd 4), .ref (bd 5), .int (nI st), .ref (bd 6), .ref (bd 7), .ref (bd 8), .int (nI ef), .int (nI ec), .int (nI fu), .ref (bd 9)])), (bd 1, .inl (cI, 292, .inl f)), (bd 2, .inl (cI, 12, .inl fd)), (bd 3, .inl (cI, 13, .inl u1.1.2.1)), (bd 4, .inl (cI, 13, .inl u1.1.2.2.1)), (bd 5, .inl (cI, 13, .inl u1.1.2.2.2.1)), (bd 6, .inl (cI, 8, .inl Y)), (bd 7, .inl (cI, 8, .inl Z)), (bd 8, .inl (cZ, 8, .inl X)), (bd 9, .inl (cI, 40, .inl (nx_brid f g clk 1 m n k)))] H := by rw [← (bg_no (g := g) (k := k) hb_).2]; exact hP
      have hD : va_D A [(bd 0, .inr (5, [.ref (bd 1), .int (nI clk), .int 1, .int lf, .ref (bd 2), .int (nI fc), .int (nI u1.2), .int (nI u1.1.1), .ref (bd 3), .ref (bd 4), .ref (bd 5), .int (nI st), .ref (bd 6), .ref (bd 7), .ref (bd 8), .int (nI ef), .int (nI ec), .int (nI fu), .ref (bd 9)])), (bd 1, .inl (cI, 292, .inl f)), (bd 2, .inl (cI, 12, .inl fd)), (bd 3, .inl (cI, 13, .inl u1.1.2.1)), (bd 4, .inl (cI, 13, .inl u1.1.2.2.1)), (bd 5, .inl (cI, 13, .inl u1.1.2.2.2.1)), (bd 6, .inl (cI, 8, .inl Y)), (bd 7, .inl (cI, 8, .inl Z)), (bd 8, .inl (cZ, 8, .inl X)), (bd 9, .inl (cI, 40, .inl (nx_brid f g clk 1 m n k)))] := by rw [← (bg_no (g := g) (k := k) hb_).2]; exact hD
      exact hret 1099511627776 (u1.1, u1.2, X, Y, Z, st, ef, ec, fu) _ _ _ _ (bg_no (g := g) (k := k) hb_).1 hP hD hS dn_M_bridge_32
    · skip
      refine lv_iload_n hx hb dn_M_bridge_16 rfl (lv_at hl 1 rfl) ?_
      refine lv_iload_n hx hb dn_M_bridge_17 rfl (lv_at hl 2 rfl) ?_
      refine lv_icmp_gt (tgt := 29) hx hb dn_M_bridge_18 (by decide) (fun h18 => ?_) (fun h18 => ?_)
      · skip
        refine lv_ldc2 (v := 1099511627776) hx hb hown (hw _ mw_600) dn_M_bridge_29 ?_
        have hb_ : ¬ bg_c f clk 1 m n := fun q => by first | exact absurd q.2.1 (Int32.not_le.mpr h13) | exact absurd q.2.2.1 (Int32.not_le.mpr h18) | exact h26 (by rw [← ct_N_is hc1.1]; exact q.2.2.2)
        have hP : va_P (dC, dI) vwCl [(bd 0, .inr (5, [.ref (bd 1), .int (nI clk), .int 1, .int lf, .ref (bd 2), .int (nI fc), .int (nI u1.2), .int (nI u1.1.1), .ref (bd 3), .ref (bd 4), .ref (bd 5), .int (nI st), .ref (bd 6), .ref (bd 7), .ref (bd 8), .int (nI ef), .int (nI ec), .int (nI fu), .ref (bd 9)])), (bd 1, .inl (cI, 292, .inl f)), (bd 2, .inl (cI, 12, .inl fd)), (bd 3, .inl (cI, 13, .inl u1.1.2.1)), (bd 4, .inl (cI, 13, .inl u1.1.2.2.1)), (bd 5, .inl (cI, 13, .inl u1.1.2.2.2.1)), (bd 6, .inl (cI, 8, .inl Y)), (bd 7, .inl (cI, 8, .inl Z)), (bd 8, .inl (cZ, 8, .inl X)), (bd 9, .inl (cI, 40, .inl (nx_brid f g clk 1 m n k)))] H := by rw [← (bg_no (g := g) (k := k) hb_).2]; exact hP
        have hD : va_D A [(bd 0, .inr (5, [.ref (bd 1), .int (nI clk), .int 1, .int lf, .ref (bd 2), .int (nI fc), .int (nI u1.2), .int (nI u1.1.1), .ref (bd 3), .ref (bd 4), .ref (bd 5), .int (nI st), .ref (bd 6), .ref (bd 7), .ref (bd 8), .int (nI ef), .int (nI ec), .int (nI fu), .ref (bd 9)])), (bd 1, .inl (cI, 292, .inl f)), (bd 2, .inl (cI, 12, .inl fd)), (bd 3, .inl (cI, 13, .inl u1.1.2.1)), (bd 4, .inl (cI, 13, .inl u1.1.2.2.1)), (bd 5, .inl (cI, 13, .inl u1.1.2.2.2.1)), (bd 6, .inl (cI, 8, .inl Y)), (bd 7, .inl (cI, 8, .inl Z)), (bd 8, .inl (cZ, 8, .inl X)), (bd 9, .inl (cI, 40, .inl (nx_brid f g clk 1 m n k)))] := by rw [← (bg_no (g := g) (k := k) hb_).2]; exact hD
        exact hret 1099511627776 (u1.1, u1.2, X, Y, Z, st, ef, ec, fu) _ _ _ _ (bg_no (g := g) (k := k) hb_).1 hP hD hS dn_M_bridge_32
      · skip
        refine lv_iload_n hx hb dn_M_bridge_21 rfl (lv_at hl 2 rfl) ?_
        refine lv_aload_n hx hb dn_M_bridge_22 rfl (lv_at hl 0 rfl) ?_
        refine va_get (D := (dC, dI)) (ci := 5) (v := .int (nI u1.2)) (C := rn_M) (T := tn_M) (N := 19) hx hb hw ml_M hown hK hP 0 rfl rfl 6 (by decide) (hw _ mw_479) (fun _ h9 => h9) rfl dn_M_bridge_23 ?_
        refine lv_icmp_le (tgt := 33) hx hb dn_M_bridge_26 (by decide) (fun h26 => ?_) (fun h26 => ?_)
        · skip
          have hc_ : bg_c f clk 1 m n := ⟨rfl, Int32.not_lt.mp h13, Int32.not_lt.mp h18, by rw [ct_N_is hc1.1]; exact h26⟩
          obtain ⟨a_, b_, ha1, hab, hbe, rfl, rfl⟩ := wy_in1 (by omega) (Int32.not_lt.mp h13) (Int32.not_lt.mp h18) h26
          refine lv_aload_n hx hb dn_M_bridge_33 rfl (lv_at hl 0 rfl) ?_
          refine lv_iload_n hx hb dn_M_bridge_34 rfl (lv_at hl 1 rfl) ?_
          refine lv_iload_n hx hb dn_M_bridge_35 rfl (lv_at hl 2 rfl) ?_
          refine gc_vv (pre := []) (wc := [(bd 0, .inr (5, [.ref (bd 1), .int (nI clk), .int 1, .int lf, .ref (bd 2), .int (nI fc), .int (nI u1.2), .int (nI u1.1.1), .ref (bd 3), .ref (bd 4), .ref (bd 5), .int (nI st), .ref (bd 6), .ref (bd 7), .ref (bd 8), .int (nI ef), .int (nI ec), .int (nI fu), .ref (bd 9)])), (bd 1, .inl (cI, 292, .inl f)), (bd 2, .inl (cI, 12, .inl fd)), (bd 3, .inl (cI, 13, .inl u1.1.2.1)), (bd 4, .inl (cI, 13, .inl u1.1.2.2.1)), (bd 5, .inl (cI, 13, .inl u1.1.2.2.2.1)), (bd 6, .inl (cI, 8, .inl Y)), (bd 7, .inl (cI, 8, .inl Z)), (bd 8, .inl (cZ, 8, .inl X)), (bd 9, .inl (cI, 40, .inl g))]) (po := []) (As := [.int (nI a_), .int (nI b_)]) (rest := []) ⟨hx, hb, hml, hown, hw⟩ (c_M_wayToEnd l dC dI cI cZ bd clk 1 lf f fd fc u1.2 u1.1.1 u1.1.2.1 u1.1.2.2.1 u1.1.2.2.2.1 st Y Z X ef ec fu g a_ b_ (by omega) (by omega) (by omega)) (gw_cV 2 hw mw_643 mw_645 mv_34 mw_6 mw_646 hd_M_wayToEnd ⟨Nat.le_of_ble_eq_true rfl, Nat.le_of_ble_eq_true rfl⟩) (ci := 5) rfl rfl rfl hK hP hD hS hA rfl hl.1 rfl (Nat.le_of_ble_eq_true rfl) dn_M_bridge_36 ⟨Nat.zero_le _, Nat.zero_le _⟩ (fun u36 H locs hc36 hP hD hS => ?_)
          have hP : va_P (dC, dI) vwCl [(bd 0, .inr (5, [.ref (bd 1), .int (nI clk), .int 1, .int lf, .ref (bd 2), .int (nI fc), .int (nI u1.2), .int (nI u1.1.1), .ref (bd 3), .ref (bd 4), .ref (bd 5), .int (nI u36.2.2.2), .ref (bd 6), .ref (bd 7), .ref (bd 8), .int (nI ((ds_at (a_ - 1) b_ u36.2.2.2).1)), .int (nI ((ds_at (a_ - 1) b_ u36.2.2.2).2)), .int (nI (ds_b (ds_at (a_ - 1) b_ u36.2.2.2).1)), .ref (bd 9)])), (bd 1, .inl (cI, 292, .inl f)), (bd 2, .inl (cI, 12, .inl fd)), (bd 3, .inl (cI, 13, .inl u1.1.2.1)), (bd 4, .inl (cI, 13, .inl u1.1.2.2.1)), (bd 5, .inl (cI, 13, .inl u1.1.2.2.2.1)), (bd 6, .inl (cI, 8, .inl u36.2.1)), (bd 7, .inl (cI, 8, .inl u36.2.2.1)), (bd 8, .inl (cZ, 8, .inl u36.1)), (bd 9, .inl (cI, 40, .inl g))] H := hP
          have hD : va_D A [(bd 0, .inr (5, [.ref (bd 1), .int (nI clk), .int 1, .int lf, .ref (bd 2), .int (nI fc), .int (nI u1.2), .int (nI u1.1.1), .ref (bd 3), .ref (bd 4), .ref (bd 5), .int (nI u36.2.2.2), .ref (bd 6), .ref (bd 7), .ref (bd 8), .int (nI ((ds_at (a_ - 1) b_ u36.2.2.2).1)), .int (nI ((ds_at (a_ - 1) b_ u36.2.2.2).2)), .int (nI (ds_b (ds_at (a_ - 1) b_ u36.2.2.2).1)), .ref (bd 9)])), (bd 1, .inl (cI, 292, .inl f)), (bd 2, .inl (cI, 12, .inl fd)), (bd 3, .inl (cI, 13, .inl u1.1.2.1)), (bd 4, .inl (cI, 13, .inl u1.1.2.2.1)), (bd 5, .inl (cI, 13, .inl u1.1.2.2.2.1)), (bd 6, .inl (cI, 8, .inl u36.2.1)), (bd 7, .inl (cI, 8, .inl u36.2.2.1)), (bd 8, .inl (cZ, 8, .inl u36.1)), (bd 9, .inl (cI, 40, .inl g))] := hD
          refine lv_aload_n hx hb dn_M_bridge_39 rfl (lv_at hl 0 rfl) ?_
          refine lv_iload_n hx hb dn_M_bridge_40 rfl (lv_at hl 3 rfl) ?_
          refine gc_vl (pre := []) (wc := [(bd 0, .inr (5, [.ref (bd 1), .int (nI clk), .int 1, .int lf, .ref (bd 2), .int (nI fc), .int (nI u1.2), .int (nI u1.1.1), .ref (bd 3), .ref (bd 4), .ref (bd 5), .int (nI u36.2.2.2), .ref (bd 6), .ref (bd 7), .ref (bd 8), .int (nI ((ds_at (a_ - 1) b_ u36.2.2.2).1)), .int (nI ((ds_at (a_ - 1) b_ u36.2.2.2).2)), .int (nI (ds_b (ds_at (a_ - 1) b_ u36.2.2.2).1)), .ref (bd 9)])), (bd 1, .inl (cI, 292, .inl f)), (bd 2, .inl (cI, 12, .inl fd)), (bd 3, .inl (cI, 13, .inl u1.1.2.1)), (bd 4, .inl (cI, 13, .inl u1.1.2.2.1)), (bd 5, .inl (cI, 13, .inl u1.1.2.2.2.1)), (bd 6, .inl (cI, 8, .inl u36.2.1)), (bd 7, .inl (cI, 8, .inl u36.2.2.1)), (bd 8, .inl (cZ, 8, .inl u36.1)), (bd 9, .inl (cI, 40, .inl g))]) (po := []) (As := [.int k]) (rest := []) ⟨hx, hb, hml, hown, hw⟩ (c_M_digest l dC dI cI cZ bd clk 1 lf f fd fc u1.2 u1.1.1 u1.1.2.1 u1.1.2.2.1 u1.1.2.2.2.1 u36.2.2.2 u36.2.1 u36.2.2.1 u36.1 (ds_b (ds_at (a_ - 1) b_ u36.2.2.2).1) g true (a_ - 1) b_ (ds_S_is hc36.1) (ds_BT hc36.1) (ds_le6 (show a_ - 1 < b_ by omega) (by omega) hc36.1.1) (ds_b_le _) hc36.2 (fun k => by have := du_in (b := ds_b (ds_at (a_ - 1) b_ u36.2.2.2).1) (k := k) (show a_ - 1 < b_ by omega) (by omega) hc36.1; omega) k) (gw_cV 1 hw mw_635 mw_637 mv_33 mw_6 mw_638 hd_M_digest ⟨Nat.le_of_ble_eq_true rfl, Nat.le_of_ble_eq_true rfl⟩) (ci := 5) rfl rfl rfl hK hP hD hS hA rfl hl.1 rfl (Nat.le_of_ble_eq_true rfl) dn_M_bridge_41 ⟨Nat.zero_le _, Nat.zero_le _⟩ (fun r41 u41 H locs hc41 hP hD hS => ?_)
          subst hc41
          have hP : va_P (dC, dI) vwCl [(bd 0, .inr (5, [.ref (bd 1), .int (nI clk), .int 1, .int lf, .ref (bd 2), .int (nI fc), .int (nI u1.2), .int (nI u1.1.1), .ref (bd 3), .ref (bd 4), .ref (bd 5), .int (nI u36.2.2.2), .ref (bd 6), .ref (bd 7), .ref (bd 8), .int (nI ((ds_at (a_ - 1) b_ u36.2.2.2).1)), .int (nI ((ds_at (a_ - 1) b_ u36.2.2.2).2)), .int (nI (ds_b (ds_at (a_ - 1) b_ u36.2.2.2).1)), .ref (bd 9)])), (bd 1, .inl (cI, 292, .inl f)), (bd 2, .inl (cI, 12, .inl fd)), (bd 3, .inl (cI, 13, .inl u1.1.2.1)), (bd 4, .inl (cI, 13, .inl u1.1.2.2.1)), (bd 5, .inl (cI, 13, .inl u1.1.2.2.2.1)), (bd 6, .inl (cI, 8, .inl u36.2.1)), (bd 7, .inl (cI, 8, .inl u36.2.2.1)), (bd 8, .inl (cZ, 8, .inl u36.1)), (bd 9, .inl (cI, 40, .inl (nx_dg true f g (a_ - 1) b_ k)))] H := hP
          have hD : va_D A [(bd 0, .inr (5, [.ref (bd 1), .int (nI clk), .int 1, .int lf, .ref (bd 2), .int (nI fc), .int (nI u1.2), .int (nI u1.1.1), .ref (bd 3), .ref (bd 4), .ref (bd 5), .int (nI u36.2.2.2), .ref (bd 6), .ref (bd 7), .ref (bd 8), .int (nI ((ds_at (a_ - 1) b_ u36.2.2.2).1)), .int (nI ((ds_at (a_ - 1) b_ u36.2.2.2).2)), .int (nI (ds_b (ds_at (a_ - 1) b_ u36.2.2.2).1)), .ref (bd 9)])), (bd 1, .inl (cI, 292, .inl f)), (bd 2, .inl (cI, 12, .inl fd)), (bd 3, .inl (cI, 13, .inl u1.1.2.1)), (bd 4, .inl (cI, 13, .inl u1.1.2.2.1)), (bd 5, .inl (cI, 13, .inl u1.1.2.2.2.1)), (bd 6, .inl (cI, 8, .inl u36.2.1)), (bd 7, .inl (cI, 8, .inl u36.2.2.1)), (bd 8, .inl (cZ, 8, .inl u36.1)), (bd 9, .inl (cI, 40, .inl (nx_dg true f g (a_ - 1) b_ k)))] := hD
          have hg_ := (bg_ok (g := g) (k := k) hc_)
          rw [nI_clamp (by omega), nI_clamp (by omega)] at hg_
          have hP : va_P (dC, dI) vwCl [(bd 0, .inr (5, [.ref (bd 1), .int (nI clk), .int 1, .int lf, .ref (bd 2), .int (nI fc), .int (nI u1.2), .int (nI u1.1.1), .ref (bd 3), .ref (bd 4), .ref (bd 5), .int (nI u36.2.2.2), .ref (bd 6), .ref (bd 7), .ref (bd 8), .int (nI ((ds_at (a_ - 1) b_ u36.2.2.2).1)), .int (nI ((ds_at (a_ - 1) b_ u36.2.2.2).2)), .int (nI (ds_b (ds_at (a_ - 1) b_ u36.2.2.2).1)), .ref (bd 9)])), (bd 1, .inl (cI, 292, .inl f)), (bd 2, .inl (cI, 12, .inl fd)), (bd 3, .inl (cI, 13, .inl u1.1.2.1)), (bd 4, .inl (cI, 13, .inl u1.1.2.2.1)), (bd 5, .inl (cI, 13, .inl u1.1.2.2.2.1)), (bd 6, .inl (cI, 8, .inl u36.2.1)), (bd 7, .inl (cI, 8, .inl u36.2.2.1)), (bd 8, .inl (cZ, 8, .inl u36.1)), (bd 9, .inl (cI, 40, .inl (nx_brid f g clk 1 (nI a_) (nI b_) k)))] H := by rw [hg_.2]; exact hP
          have hD : va_D A [(bd 0, .inr (5, [.ref (bd 1), .int (nI clk), .int 1, .int lf, .ref (bd 2), .int (nI fc), .int (nI u1.2), .int (nI u1.1.1), .ref (bd 3), .ref (bd 4), .ref (bd 5), .int (nI u36.2.2.2), .ref (bd 6), .ref (bd 7), .ref (bd 8), .int (nI ((ds_at (a_ - 1) b_ u36.2.2.2).1)), .int (nI ((ds_at (a_ - 1) b_ u36.2.2.2).2)), .int (nI (ds_b (ds_at (a_ - 1) b_ u36.2.2.2).1)), .ref (bd 9)])), (bd 1, .inl (cI, 292, .inl f)), (bd 2, .inl (cI, 12, .inl fd)), (bd 3, .inl (cI, 13, .inl u1.1.2.1)), (bd 4, .inl (cI, 13, .inl u1.1.2.2.1)), (bd 5, .inl (cI, 13, .inl u1.1.2.2.2.1)), (bd 6, .inl (cI, 8, .inl u36.2.1)), (bd 7, .inl (cI, 8, .inl u36.2.2.1)), (bd 8, .inl (cZ, 8, .inl u36.1)), (bd 9, .inl (cI, 40, .inl (nx_brid f g clk 1 (nI a_) (nI b_) k)))] := by rw [hg_.2]; exact hD
          exact hret (an_dg true f g (a_ - 1) b_ k) (u1.1, u1.2, u36.1, u36.2.1, u36.2.2.1, u36.2.2.2, ((ds_at (a_ - 1) b_ u36.2.2.2).1), ((ds_at (a_ - 1) b_ u36.2.2.2).2), (ds_b (ds_at (a_ - 1) b_ u36.2.2.2).1)) _ _ _ _ hg_.1.symm hP hD hS dn_M_bridge_44
        · skip
          refine lv_ldc2 (v := 1099511627776) hx hb hown (hw _ mw_600) dn_M_bridge_29 ?_
          have hb_ : ¬ bg_c f clk 1 m n := fun q => by first | exact absurd q.2.1 (Int32.not_le.mpr h13) | exact absurd q.2.2.1 (Int32.not_le.mpr h18) | exact h26 (by rw [← ct_N_is hc1.1]; exact q.2.2.2)
          have hP : va_P (dC, dI) vwCl [(bd 0, .inr (5, [.ref (bd 1), .int (nI clk), .int 1, .int lf, .ref (bd 2), .int (nI fc), .int (nI u1.2), .int (nI u1.1.1), .ref (bd 3), .ref (bd 4), .ref (bd 5), .int (nI st), .ref (bd 6), .ref (bd 7), .ref (bd 8), .int (nI ef), .int (nI ec), .int (nI fu), .ref (bd 9)])), (bd 1, .inl (cI, 292, .inl f)), (bd 2, .inl (cI, 12, .inl fd)), (bd 3, .inl (cI, 13, .inl u1.1.2.1)), (bd 4, .inl (cI, 13, .inl u1.1.2.2.1)), (bd 5, .inl (cI, 13, .inl u1.1.2.2.2.1)), (bd 6, .inl (cI, 8, .inl Y)), (bd 7, .inl (cI, 8, .inl Z)), (bd 8, .inl (cZ, 8, .inl X)), (bd 9, .inl (cI, 40, .inl (nx_brid f g clk 1 m n k)))] H := by rw [← (bg_no (g := g) (k := k) hb_).2]; exact hP
          have hD : va_D A [(bd 0, .inr (5, [.ref (bd 1), .int (nI clk), .int 1, .int lf, .ref (bd 2), .int (nI fc), .int (nI u1.2), .int (nI u1.1.1), .ref (bd 3), .ref (bd 4), .ref (bd 5), .int (nI st), .ref (bd 6), .ref (bd 7), .ref (bd 8), .int (nI ef), .int (nI ec), .int (nI fu), .ref (bd 9)])), (bd 1, .inl (cI, 292, .inl f)), (bd 2, .inl (cI, 12, .inl fd)), (bd 3, .inl (cI, 13, .inl u1.1.2.1)), (bd 4, .inl (cI, 13, .inl u1.1.2.2.1)), (bd 5, .inl (cI, 13, .inl u1.1.2.2.2.1)), (bd 6, .inl (cI, 8, .inl Y)), (bd 7, .inl (cI, 8, .inl Z)), (bd 8, .inl (cZ, 8, .inl X)), (bd 9, .inl (cI, 40, .inl (nx_brid f g clk 1 m n k)))] := by rw [← (bg_no (g := g) (k := k) hb_).2]; exact hD
          exact hret 1099511627776 (u1.1, u1.2, X, Y, Z, st, ef, ec, fu) _ _ _ _ (bg_no (g := g) (k := k) hb_).1 hP hD hS dn_M_bridge_32

set_option maxRecDepth 100000 in
set_option maxHeartbeats 1000000 in
theorem c_M_included (l : Launch) (dC : Nat → ClassId) (dI : Nat → Nat → Nat) (cI cZ : ClassId) (bd : Nat → Nat) (clk : Nat) (pw lf : Int32) (f fd : Nat → Int32) (fc sn ob : Nat) (S D G : Nat → Int32) (st : Nat) (Y Z X : Nat → Int32) (ef ec fu : Nat) (g : Nat → Int32) (hfc : fc ≤ 12) (i n root : Int32) : gc_I l yn_M_included (gw yn_M_included cn_M_included 7 (some .boolean)) (rm_ 2 48) (dC, dI) vwCl (gT cI cZ) [.ref (bd 0), .int i, .int n, .int root] [(bd 0, .inr (5, [.ref (bd 1), .int (nI clk), .int pw, .int lf, .ref (bd 2), .int (nI fc), .int (nI sn), .int (nI ob), .ref (bd 3), .ref (bd 4), .ref (bd 5), .int (nI st), .ref (bd 6), .ref (bd 7), .ref (bd 8), .int (nI ef), .int (nI ec), .int (nI fu), .ref (bd 9)])), (bd 1, .inl (cI, 292, .inl f)), (bd 2, .inl (cI, 12, .inl fd)), (bd 3, .inl (cI, 13, .inl S)), (bd 4, .inl (cI, 13, .inl D)), (bd 5, .inl (cI, 13, .inl G)), (bd 6, .inl (cI, 8, .inl Y)), (bd 7, .inl (cI, 8, .inl Z)), (bd 8, .inl (cZ, 8, .inl X)), (bd 9, .inl (cI, 40, .inl g))] (fun r (u : (Nat → Int32) × (Nat → Int32) × (Nat → Int32) × Nat × Nat × Nat × Nat) => (r = 1 ∧ an_inc fd fc i n root) ∨ (r = 0 ∧ ¬ an_inc fd fc i n root)) (fun u => [(bd 0, .inr (5, [.ref (bd 1), .int (nI clk), .int pw, .int lf, .ref (bd 2), .int (nI 0), .int (nI sn), .int (nI ob), .ref (bd 3), .ref (bd 4), .ref (bd 5), .int (nI u.2.2.2.1), .ref (bd 6), .ref (bd 7), .ref (bd 8), .int (nI u.2.2.2.2.1), .int (nI u.2.2.2.2.2.1), .int (nI u.2.2.2.2.2.2), .ref (bd 9)])), (bd 1, .inl (cI, 292, .inl f)), (bd 2, .inl (cI, 12, .inl fd)), (bd 3, .inl (cI, 13, .inl S)), (bd 4, .inl (cI, 13, .inl D)), (bd 5, .inl (cI, 13, .inl G)), (bd 6, .inl (cI, 8, .inl u.2.1)), (bd 7, .inl (cI, 8, .inl u.2.2.1)), (bd 8, .inl (cZ, 8, .inl u.1)), (bd 9, .inl (cI, 40, .inl g))]) := by
  refine gc_I_of (cc := cn_M_included) (maxL := 7) (ty := .boolean) (by decide) rfl (Nat.le_of_ble_eq_true rfl) ?_
  intro pp ee ss mm ar be me cd A Q ls H0 H locs hx hb hml hown hts hK hP hD hS hA hl hret
  have hw : ∀ w ∈ gw_T, w.before ar ss = true := fun w h => hts w (List.mem_cons_of_mem _ h)
  have hl : lv_has ls 7 [(0, .ref (bd 0)), (1, .int i), (2, .int n), (3, .int root)] := hl
  refine lv_aload_n hx hb dn_M_included_0 rfl (lv_at hl 0 rfl) ?_
  refine va_get (D := (dC, dI)) (ci := 5) (v := .int (nI fc)) (C := rn_M) (T := tn_M) (N := 19) hx hb hw ml_M hown hK hP 0 rfl rfl 5 (by decide) (hw _ mw_478) (fun _ h9 => h9) rfl dn_M_included_1 ?_
  refine lv_istore (lv' := [(4, .int (nI fc)), (0, .ref (bd 0)), (1, .int i), (2, .int n), (3, .int root)]) hx hb dn_M_included_4 hl (by decide) rfl (fun ls hl => ?_)
  refine lv_aload_n hx hb dn_M_included_6 rfl (lv_at hl 1 rfl) ?_
  refine lv_iconst (v := 0) hx hb dn_M_included_7 (by decide) ?_
  refine va_put (D := (dC, dI)) (ci := 5) (v := .int 0) (ty := .int) (C := rn_M) (T := tn_M) (N := 19) hx hb hw ml_M tt_M to_M nd_M hown hK hP hD hS 0 rfl rfl 5 (by decide) (hw _ mw_478) (fun _ h9 => h9) rfl (by decide +kernel) rfl rfl (Nat.le_of_ble_eq_true rfl) dn_M_included_8 (fun H locs hP hD hS => ?_)
  have hP : va_P (dC, dI) vwCl [(bd 0, .inr (5, [.ref (bd 1), .int (nI clk), .int pw, .int lf, .ref (bd 2), .int 0, .int (nI sn), .int (nI ob), .ref (bd 3), .ref (bd 4), .ref (bd 5), .int (nI st), .ref (bd 6), .ref (bd 7), .ref (bd 8), .int (nI ef), .int (nI ec), .int (nI fu), .ref (bd 9)])), (bd 1, .inl (cI, 292, .inl f)), (bd 2, .inl (cI, 12, .inl fd)), (bd 3, .inl (cI, 13, .inl S)), (bd 4, .inl (cI, 13, .inl D)), (bd 5, .inl (cI, 13, .inl G)), (bd 6, .inl (cI, 8, .inl Y)), (bd 7, .inl (cI, 8, .inl Z)), (bd 8, .inl (cZ, 8, .inl X)), (bd 9, .inl (cI, 40, .inl g))] H := hP
  have hD : va_D A [(bd 0, .inr (5, [.ref (bd 1), .int (nI clk), .int pw, .int lf, .ref (bd 2), .int 0, .int (nI sn), .int (nI ob), .ref (bd 3), .ref (bd 4), .ref (bd 5), .int (nI st), .ref (bd 6), .ref (bd 7), .ref (bd 8), .int (nI ef), .int (nI ec), .int (nI fu), .ref (bd 9)])), (bd 1, .inl (cI, 292, .inl f)), (bd 2, .inl (cI, 12, .inl fd)), (bd 3, .inl (cI, 13, .inl S)), (bd 4, .inl (cI, 13, .inl D)), (bd 5, .inl (cI, 13, .inl G)), (bd 6, .inl (cI, 8, .inl Y)), (bd 7, .inl (cI, 8, .inl Z)), (bd 8, .inl (cZ, 8, .inl X)), (bd 9, .inl (cI, 40, .inl g))] := hD
  refine lv_iload_n hx hb dn_M_included_11 rfl (lv_at hl 2 rfl) ?_
  refine lv_if_lt (tgt := 26) hx hb dn_M_included_12 (by decide) (fun h12 => ?_) (fun h12 => ?_)
  · skip
    refine lv_iconst (v := 0) hx hb dn_M_included_26 (by decide) ?_
    exact hret 0 (X, Y, Z, st, ef, ec, fu) _ _ _ _ (Or.inr ⟨rfl, fun q => by first | exact q.1.1 h12 | exact absurd q.1.2.1 (Int32.not_lt.mpr h17) | exact h23 q.1.2.2⟩) rfl hP hD hS dn_M_included_27
  · skip
    refine lv_iload_n hx hb dn_M_included_15 rfl (lv_at hl 2 rfl) ?_
    refine lv_iload_n hx hb dn_M_included_16 rfl (lv_at hl 3 rfl) ?_
    refine lv_icmp_ge (tgt := 26) hx hb dn_M_included_17 (by decide) (fun h17 => ?_) (fun h17 => ?_)
    · skip
      refine lv_iconst (v := 0) hx hb dn_M_included_26 (by decide) ?_
      exact hret 0 (X, Y, Z, st, ef, ec, fu) _ _ _ _ (Or.inr ⟨rfl, fun q => by first | exact q.1.1 h12 | exact absurd q.1.2.1 (Int32.not_lt.mpr h17) | exact h23 q.1.2.2⟩) rfl hP hD hS dn_M_included_27
    · skip
      refine lv_iload_n hx hb dn_M_included_20 rfl (lv_at hl 3 rfl) ?_
      refine lv_bipush (v := 40) hx hb dn_M_included_21 (by decide) ?_
      refine lv_icmp_le (tgt := 28) hx hb dn_M_included_23 (by decide) (fun h23 => ?_) (fun h23 => ?_)
      · skip
        obtain ⟨a_, b_, hab, hbe, rfl, rfl⟩ := wy_in (e := 40) (by decide) h12 (Int32.not_le.mp h17) h23
        refine lv_aload_n hx hb dn_M_included_28 rfl (lv_at hl 1 rfl) ?_
        refine lv_iload_n hx hb dn_M_included_29 rfl (lv_at hl 2 rfl) ?_
        refine lv_iload_n hx hb dn_M_included_30 rfl (lv_at hl 3 rfl) ?_
        refine gc_vv (pre := []) (wc := [(bd 0, .inr (5, [.ref (bd 1), .int (nI clk), .int pw, .int lf, .ref (bd 2), .int 0, .int (nI sn), .int (nI ob), .ref (bd 3), .ref (bd 4), .ref (bd 5), .int (nI st), .ref (bd 6), .ref (bd 7), .ref (bd 8), .int (nI ef), .int (nI ec), .int (nI fu), .ref (bd 9)])), (bd 1, .inl (cI, 292, .inl f)), (bd 2, .inl (cI, 12, .inl fd)), (bd 3, .inl (cI, 13, .inl S)), (bd 4, .inl (cI, 13, .inl D)), (bd 5, .inl (cI, 13, .inl G)), (bd 6, .inl (cI, 8, .inl Y)), (bd 7, .inl (cI, 8, .inl Z)), (bd 8, .inl (cZ, 8, .inl X)), (bd 9, .inl (cI, 40, .inl g))]) (po := []) (As := [.int (nI a_), .int (nI b_)]) (rest := []) ⟨hx, hb, hml, hown, hw⟩ (c_M_wayToLeaf l dC dI cI cZ bd clk pw lf f fd 0 sn ob S D G st Y Z X ef ec fu g a_ b_ (by omega) (by omega)) (gw_cV 2 hw mw_624 mw_626 mv_31 mw_6 mw_627 hd_M_wayToLeaf ⟨Nat.le_of_ble_eq_true rfl, Nat.le_of_ble_eq_true rfl⟩) (ci := 5) rfl rfl rfl hK hP hD hS hA rfl hl.1 rfl (Nat.le_of_ble_eq_true rfl) dn_M_included_31 ⟨Nat.zero_le _, Nat.zero_le _⟩ (fun u31 H locs hc31 hP hD hS => ?_)
        have hP : va_P (dC, dI) vwCl [(bd 0, .inr (5, [.ref (bd 1), .int (nI clk), .int pw, .int lf, .ref (bd 2), .int 0, .int (nI sn), .int (nI ob), .ref (bd 3), .ref (bd 4), .ref (bd 5), .int (nI u31.2.2.2), .ref (bd 6), .ref (bd 7), .ref (bd 8), .int (nI ((ds_at a_ b_ u31.2.2.2).1)), .int (nI ((ds_at a_ b_ u31.2.2.2).2)), .int (nI 1), .ref (bd 9)])), (bd 1, .inl (cI, 292, .inl f)), (bd 2, .inl (cI, 12, .inl fd)), (bd 3, .inl (cI, 13, .inl S)), (bd 4, .inl (cI, 13, .inl D)), (bd 5, .inl (cI, 13, .inl G)), (bd 6, .inl (cI, 8, .inl u31.2.1)), (bd 7, .inl (cI, 8, .inl u31.2.2.1)), (bd 8, .inl (cZ, 8, .inl u31.1)), (bd 9, .inl (cI, 40, .inl g))] H := hP
        have hD : va_D A [(bd 0, .inr (5, [.ref (bd 1), .int (nI clk), .int pw, .int lf, .ref (bd 2), .int 0, .int (nI sn), .int (nI ob), .ref (bd 3), .ref (bd 4), .ref (bd 5), .int (nI u31.2.2.2), .ref (bd 6), .ref (bd 7), .ref (bd 8), .int (nI ((ds_at a_ b_ u31.2.2.2).1)), .int (nI ((ds_at a_ b_ u31.2.2.2).2)), .int (nI 1), .ref (bd 9)])), (bd 1, .inl (cI, 292, .inl f)), (bd 2, .inl (cI, 12, .inl fd)), (bd 3, .inl (cI, 13, .inl S)), (bd 4, .inl (cI, 13, .inl D)), (bd 5, .inl (cI, 13, .inl G)), (bd 6, .inl (cI, 8, .inl u31.2.1)), (bd 7, .inl (cI, 8, .inl u31.2.2.1)), (bd 8, .inl (cZ, 8, .inl u31.1)), (bd 9, .inl (cI, 40, .inl g))] := hD
        have hst := ds_le6 hab hbe hc31.1.1
        refine lv_iload hx hb dn_M_included_34 (lv_at hl 0 rfl) ?_
        refine lv_aload_n hx hb dn_M_included_36 rfl (lv_at hl 1 rfl) ?_
        refine va_get (D := (dC, dI)) (ci := 5) (v := .int (nI u31.2.2.2)) (C := rn_M) (T := tn_M) (N := 19) hx hb hw ml_M hown hK hP 0 rfl rfl 11 (by decide) (hw _ mw_484) (fun _ h9 => h9) rfl dn_M_included_37 ?_
        refine lv_iconst (v := 1) hx hb dn_M_included_40 (by decide) ?_
        refine gr_addN hx hb u31.2.2.2 1 rfl rfl dn_M_included_41 ?_
        refine gr_ceq (tgt := 47) hx hb fc (u31.2.2.2 + 1) rfl rfl (by omega) (by omega) dn_M_included_42 (by decide) (fun h42 => ?_) (fun h42 => ?_)
        · skip
          refine lv_aload_n hx hb dn_M_included_47 rfl (lv_at hl 1 rfl) ?_
          refine va_get (D := (dC, dI)) (ci := 5) (v := .ref (bd 2)) (C := rn_M) (T := tn_M) (N := 19) hx hb hw ml_M hown hK hP 0 rfl rfl 4 (by decide) (hw _ mw_477) (fun _ h9 => h9) rfl dn_M_included_48 ?_
          refine lv_iconst (v := 0) hx hb dn_M_included_51 (by decide) ?_
          refine gr_iald hx hb hK hP 2 0 rfl rfl 0 rfl (by omega) (by decide) dn_M_included_52 ?_
          refine lv_istore (lv' := [(5, .int (fd 0)), (4, .int (nI fc)), (0, .ref (bd 0)), (1, .int (nI a_)), (2, .int (nI b_)), (3, .int root)]) hx hb dn_M_included_53 hl (by decide) rfl (fun ls hl => ?_)
          refine lv_iconst (v := 1) hx hb dn_M_included_55 (by decide) ?_
          refine lv_istore (lv' := [(6, .int 1), (5, .int (fd 0)), (4, .int (nI fc)), (0, .ref (bd 0)), (1, .int (nI a_)), (2, .int (nI b_)), (3, .int root)]) hx hb dn_M_included_56 hl (by decide) rfl (fun ls hl => ?_)
          have lp58 : ∀ (n58_ : Nat) (q : Nat) (ls : Array Slot) (H : Heap) (locs : List Loc), u31.2.2.2 - q = n58_ → lv_has ls 7 [(0, .ref (bd 0)), (1, .int (nI a_)), (2, .int (nI b_)), (3, .int root), (4, .int (nI fc)), (5, .int (pf_up fd a_ b_ u31.2.2.2 q)), (6, .int (nI (q + 1)))] → va_P (dC, dI) vwCl [(bd 0, .inr (5, [.ref (bd 1), .int (nI clk), .int pw, .int lf, .ref (bd 2), .int 0, .int (nI sn), .int (nI ob), .ref (bd 3), .ref (bd 4), .ref (bd 5), .int (nI u31.2.2.2), .ref (bd 6), .ref (bd 7), .ref (bd 8), .int (nI ((ds_at a_ b_ u31.2.2.2).1)), .int (nI ((ds_at a_ b_ u31.2.2.2).2)), .int (nI 1), .ref (bd 9)])), (bd 1, .inl (cI, 292, .inl f)), (bd 2, .inl (cI, 12, .inl fd)), (bd 3, .inl (cI, 13, .inl S)), (bd 4, .inl (cI, 13, .inl D)), (bd 5, .inl (cI, 13, .inl G)), (bd 6, .inl (cI, 8, .inl u31.2.1)), (bd 7, .inl (cI, 8, .inl u31.2.2.1)), (bd 8, .inl (cZ, 8, .inl u31.1)), (bd 9, .inl (cI, 40, .inl g))] H → va_D A [(bd 0, .inr (5, [.ref (bd 1), .int (nI clk), .int pw, .int lf, .ref (bd 2), .int 0, .int (nI sn), .int (nI ob), .ref (bd 3), .ref (bd 4), .ref (bd 5), .int (nI u31.2.2.2), .ref (bd 6), .ref (bd 7), .ref (bd 8), .int (nI ((ds_at a_ b_ u31.2.2.2).1)), .int (nI ((ds_at a_ b_ u31.2.2.2).2)), .int (nI 1), .ref (bd 9)])), (bd 1, .inl (cI, 292, .inl f)), (bd 2, .inl (cI, 12, .inl fd)), (bd 3, .inl (cI, 13, .inl S)), (bd 4, .inl (cI, 13, .inl D)), (bd 5, .inl (cI, 13, .inl G)), (bd 6, .inl (cI, 8, .inl u31.2.1)), (bd 7, .inl (cI, 8, .inl u31.2.2.1)), (bd 8, .inl (cZ, 8, .inl u31.1)), (bd 9, .inl (cI, 40, .inl g))] → va_S A H0 H locs → (q ≤ u31.2.2.2) → W pp l ee (headSpec (gw yn_M_included cn_M_included 7 (some .boolean)) (rm_ 2 48)).room ss mm ar be me cd H locs 0 0 Q (F0 mm 58 ls []) := by
            intro n58_
            induction n58_ using Nat.strongRecOn with
            | ind n58_ ih58 =>
              intro q ls H locs hn58_ hl hP hD hS hq
              refine lv_iload hx hb dn_M_included_58 (lv_at hl 6 rfl) ?_
              refine lv_aload_n hx hb dn_M_included_60 rfl (lv_at hl 0 rfl) ?_
              refine va_get (D := (dC, dI)) (ci := 5) (v := .int (nI u31.2.2.2)) (C := rn_M) (T := tn_M) (N := 19) hx hb hw ml_M hown hK hP 0 rfl rfl 11 (by decide) (hw _ mw_484) (fun _ h9 => h9) rfl dn_M_included_61 ?_
              refine gr_cgt (tgt := 117) hx hb (q + 1) u31.2.2.2 rfl rfl (by omega) (by omega) dn_M_included_64 (by decide) (fun h64 => ?_) (fun h64 => ?_)
              · skip
                obtain rfl : u31.2.2.2 = q := by omega
                refine lv_iload hx hb dn_M_included_117 (lv_at hl 5 rfl) ?_
                refine lv_iload_n hx hb dn_M_included_119 rfl (lv_at hl 3 rfl) ?_
                refine lv_icmp_ne (tgt := 127) hx hb dn_M_included_120 (by decide) (fun h120 => ?_) (fun h120 => ?_)
                · skip
                  refine lv_iconst (v := 0) hx hb dn_M_included_127 (by decide) ?_
                  exact hret 0 (u31.1, u31.2.1, u31.2.2.1, u31.2.2.2, ((ds_at a_ b_ u31.2.2.2).1), ((ds_at a_ b_ u31.2.2.2).2), 1) _ _ _ _ (Or.inr ⟨rfl, fun q => h120 ((in_iff hab hbe hc31.1).1 q).2⟩) rfl hP hD hS dn_M_included_128
                · skip
                  refine lv_iconst (v := 1) hx hb dn_M_included_123 (by decide) ?_
                  refine lv_goto (tgt := 128) hx hb dn_M_included_124 (by decide) ?_
                  exact hret 1 (u31.1, u31.2.1, u31.2.2.1, u31.2.2.2, ((ds_at a_ b_ u31.2.2.2).1), ((ds_at a_ b_ u31.2.2.2).2), 1) _ _ _ _ (Or.inl ⟨rfl, (in_iff hab hbe hc31.1).2 ⟨h42, h120⟩⟩) rfl hP hD hS dn_M_included_128
              · skip
                have hX1 : ¬ u31.1 (u31.2.2.2 - (q + 1)) = 0 → u31.1 (u31.2.2.2 - (q + 1)) = 1 := fun z => by rw [hc31.2.1 _ (by omega)] at z ⊢; exact (ds_rt01 _ _ _).resolve_left z
                refine lv_aload_n hx hb dn_M_included_67 rfl (lv_at hl 0 rfl) ?_
                refine va_get (D := (dC, dI)) (ci := 5) (v := .ref (bd 8)) (C := rn_M) (T := tn_M) (N := 19) hx hb hw ml_M hown hK hP 0 rfl rfl 14 (by decide) (hw _ mw_487) (fun _ h9 => h9) rfl dn_M_included_68 ?_
                refine lv_aload_n hx hb dn_M_included_71 rfl (lv_at hl 0 rfl) ?_
                refine va_get (D := (dC, dI)) (ci := 5) (v := .int (nI u31.2.2.2)) (C := rn_M) (T := tn_M) (N := 19) hx hb hw ml_M hown hK hP 0 rfl rfl 11 (by decide) (hw _ mw_484) (fun _ h9 => h9) rfl dn_M_included_72 ?_
                refine lv_iload hx hb dn_M_included_75 (lv_at hl 6 rfl) ?_
                refine gr_subN hx hb u31.2.2.2 (q + 1) rfl rfl (by omega) dn_M_included_77 ?_
                refine gr_zald hx hb hK hP 8 1 rfl rfl (u31.2.2.2 - (q + 1)) rfl (by omega) (by decide) dn_M_included_78 ?_
                refine lv_if_eq (tgt := 97) hx hb dn_M_included_79 (by decide) (fun h79 => ?_) (fun h79 => ?_)
                · skip
                  refine lv_iload hx hb dn_M_included_97 (lv_at hl 5 rfl) ?_
                  refine lv_aload_n hx hb dn_M_included_99 rfl (lv_at hl 0 rfl) ?_
                  refine va_get (D := (dC, dI)) (ci := 5) (v := .ref (bd 2)) (C := rn_M) (T := tn_M) (N := 19) hx hb hw ml_M hown hK hP 0 rfl rfl 4 (by decide) (hw _ mw_477) (fun _ h9 => h9) rfl dn_M_included_100 ?_
                  refine lv_iload hx hb dn_M_included_103 (lv_at hl 6 rfl) ?_
                  refine gr_iald hx hb hK hP 2 0 rfl rfl (q + 1) rfl (by omega) (by decide) dn_M_included_105 ?_
                  refine gc_s0 (v := (hf_node (pf_up fd a_ b_ u31.2.2.2 q) (fd (q + 1)))) (As := [.int (pf_up fd a_ b_ u31.2.2.2 q), .int (fd (q + 1))]) (rest := []) ⟨hx, hb, hml, hown, hw⟩ (c_M_node l dC dI cI cZ (pf_up fd a_ b_ u31.2.2.2 q) (fd (q + 1))) (gw_cS 2 hw mw_617 mw_618 mw_6 mw_619 hd_M_node ⟨Nat.le_of_ble_eq_true rfl, Nat.le_of_ble_eq_true rfl⟩) hK hP hD hS hA rfl hl.1 rfl (Nat.le_of_ble_eq_true rfl) dn_M_included_106 ⟨Nat.zero_le _, Nat.zero_le _⟩ (fun H locs hP hD hS => ?_)
                  refine gr_top (y := pf_up fd a_ b_ u31.2.2.2 (q + 1)) (by rw [pf_up, ← hc31.2.1 (u31.2.2.2 - (q + 1)) (by omega)]; first | rw [if_pos (hX1 h79)] | rw [if_neg (by rw [h79]; decide)]) ?_
                  refine lv_istore (lv' := [(5, .int (pf_up fd a_ b_ u31.2.2.2 (q + 1))), (0, .ref (bd 0)), (1, .int (nI a_)), (2, .int (nI b_)), (3, .int root), (4, .int (nI fc)), (6, .int (nI (q + 1)))]) hx hb dn_M_included_109 hl (by decide) rfl (fun ls hl => ?_)
                  refine lv_iinc (lv' := [(6, .int (nI ((q + 1) + 1))), (5, .int (pf_up fd a_ b_ u31.2.2.2 (q + 1))), (0, .ref (bd 0)), (1, .int (nI a_)), (2, .int (nI b_)), (3, .int root), (4, .int (nI fc))]) (v := (nI ((q + 1) + 1))) (k := 6) hx hb dn_M_included_111 hl rfl (nI_add (q + 1) 1) (by decide) rfl (fun ls hl => ?_)
                  refine lv_goto (tgt := 58) hx hb dn_M_included_114 (by decide) ?_
                  exact ih58 (u31.2.2.2 - (q + 1)) (by omega) (q + 1) ls H locs rfl (lv_sub hl [2, 3, 4, 5, 6, 1, 0] rfl) hP hD hS (by omega)
                · skip
                  refine lv_aload_n hx hb dn_M_included_82 rfl (lv_at hl 0 rfl) ?_
                  refine va_get (D := (dC, dI)) (ci := 5) (v := .ref (bd 2)) (C := rn_M) (T := tn_M) (N := 19) hx hb hw ml_M hown hK hP 0 rfl rfl 4 (by decide) (hw _ mw_477) (fun _ h9 => h9) rfl dn_M_included_83 ?_
                  refine lv_iload hx hb dn_M_included_86 (lv_at hl 6 rfl) ?_
                  refine gr_iald hx hb hK hP 2 0 rfl rfl (q + 1) rfl (by omega) (by decide) dn_M_included_88 ?_
                  refine lv_iload hx hb dn_M_included_89 (lv_at hl 5 rfl) ?_
                  refine gc_s0 (v := (hf_node (fd (q + 1)) (pf_up fd a_ b_ u31.2.2.2 q))) (As := [.int (fd (q + 1)), .int (pf_up fd a_ b_ u31.2.2.2 q)]) (rest := []) ⟨hx, hb, hml, hown, hw⟩ (c_M_node l dC dI cI cZ (fd (q + 1)) (pf_up fd a_ b_ u31.2.2.2 q)) (gw_cS 2 hw mw_617 mw_618 mw_6 mw_619 hd_M_node ⟨Nat.le_of_ble_eq_true rfl, Nat.le_of_ble_eq_true rfl⟩) hK hP hD hS hA rfl hl.1 rfl (Nat.le_of_ble_eq_true rfl) dn_M_included_91 ⟨Nat.zero_le _, Nat.zero_le _⟩ (fun H locs hP hD hS => ?_)
                  refine lv_goto (tgt := 109) hx hb dn_M_included_94 (by decide) ?_
                  refine gr_top (y := pf_up fd a_ b_ u31.2.2.2 (q + 1)) (by rw [pf_up, ← hc31.2.1 (u31.2.2.2 - (q + 1)) (by omega)]; first | rw [if_pos (hX1 h79)] | rw [if_neg (by rw [h79]; decide)]) ?_
                  refine lv_istore (lv' := [(5, .int (pf_up fd a_ b_ u31.2.2.2 (q + 1))), (0, .ref (bd 0)), (1, .int (nI a_)), (2, .int (nI b_)), (3, .int root), (4, .int (nI fc)), (6, .int (nI (q + 1)))]) hx hb dn_M_included_109 hl (by decide) rfl (fun ls hl => ?_)
                  refine lv_iinc (lv' := [(6, .int (nI ((q + 1) + 1))), (5, .int (pf_up fd a_ b_ u31.2.2.2 (q + 1))), (0, .ref (bd 0)), (1, .int (nI a_)), (2, .int (nI b_)), (3, .int root), (4, .int (nI fc))]) (v := (nI ((q + 1) + 1))) (k := 6) hx hb dn_M_included_111 hl rfl (nI_add (q + 1) 1) (by decide) rfl (fun ls hl => ?_)
                  refine lv_goto (tgt := 58) hx hb dn_M_included_114 (by decide) ?_
                  exact ih58 (u31.2.2.2 - (q + 1)) (by omega) (q + 1) ls H locs rfl (lv_sub hl [2, 3, 4, 5, 6, 1, 0] rfl) hP hD hS (by omega)
          exact lp58 _ 0 ls H locs rfl (lv_sub hl [3, 4, 5, 6, 2, 1, 0] rfl) hP hD hS (Nat.zero_le _)
        · skip
          refine lv_iconst (v := 0) hx hb dn_M_included_45 (by decide) ?_
          exact hret 0 (u31.1, u31.2.1, u31.2.2.1, u31.2.2.2, ((ds_at a_ b_ u31.2.2.2).1), ((ds_at a_ b_ u31.2.2.2).2), 1) _ _ _ _ (Or.inr ⟨rfl, fun q => h42 ((in_iff hab hbe hc31.1).1 q).1⟩) rfl hP hD hS dn_M_included_46
      · skip
        refine lv_iconst (v := 0) hx hb dn_M_included_26 (by decide) ?_
        exact hret 0 (X, Y, Z, st, ef, ec, fu) _ _ _ _ (Or.inr ⟨rfl, fun q => by first | exact q.1.1 h12 | exact absurd q.1.2.1 (Int32.not_lt.mpr h17) | exact h23 q.1.2.2⟩) rfl hP hD hS dn_M_included_27

set_option maxRecDepth 100000 in
set_option maxHeartbeats 1000000 in
theorem c_M_power0 (l : Launch) (dC : Nat → ClassId) (dI : Nat → Nat → Nat) (cI cZ : ClassId) (bd : Nat → Nat) (clk : Nat) (pw lf : Int32) (f fd : Nat → Int32) (fc sn ob : Nat) (S D G : Nat → Int32) (st : Nat) (Y Z X : Nat → Int32) (ef ec fu : Nat) (g : Nat → Int32) (hpw : pw = 0 ∨ pw = 1) : gc_I l yn_M_power (gw yn_M_power cn_M_power 3 (some .int)) (rm_ 4 95) (dC, dI) vwCl (gT cI cZ) [.ref (bd 0), .int 0] [(bd 0, .inr (5, [.ref (bd 1), .int (nI clk), .int pw, .int lf, .ref (bd 2), .int (nI fc), .int (nI sn), .int (nI ob), .ref (bd 3), .ref (bd 4), .ref (bd 5), .int (nI st), .ref (bd 6), .ref (bd 7), .ref (bd 8), .int (nI ef), .int (nI ec), .int (nI fu), .ref (bd 9)])), (bd 1, .inl (cI, 292, .inl f)), (bd 2, .inl (cI, 12, .inl fd)), (bd 3, .inl (cI, 13, .inl S)), (bd 4, .inl (cI, 13, .inl D)), (bd 5, .inl (cI, 13, .inl G)), (bd 6, .inl (cI, 8, .inl Y)), (bd 7, .inl (cI, 8, .inl Z)), (bd 8, .inl (cZ, 8, .inl X)), (bd 9, .inl (cI, 40, .inl g))] (fun r (u : ct_T × Nat) => r = an_pow f clk pw 0) (fun u => [(bd 0, .inr (5, [.ref (bd 1), .int (nI clk), .int 0, .int lf, .ref (bd 2), .int (nI fc), .int (nI u.2), .int (nI u.1.1), .ref (bd 3), .ref (bd 4), .ref (bd 5), .int (nI st), .ref (bd 6), .ref (bd 7), .ref (bd 8), .int (nI ef), .int (nI ec), .int (nI fu), .ref (bd 9)])), (bd 1, .inl (cI, 292, .inl (nx_pow f clk pw 0))), (bd 2, .inl (cI, 12, .inl fd)), (bd 3, .inl (cI, 13, .inl u.1.2.1)), (bd 4, .inl (cI, 13, .inl u.1.2.2.1)), (bd 5, .inl (cI, 13, .inl u.1.2.2.2.1)), (bd 6, .inl (cI, 8, .inl Y)), (bd 7, .inl (cI, 8, .inl Z)), (bd 8, .inl (cZ, 8, .inl X)), (bd 9, .inl (cI, 40, .inl g))]) := by
  refine gc_I_of (cc := cn_M_power) (maxL := 3) (ty := .int) (by decide) rfl (Nat.le_of_ble_eq_true rfl) ?_
  intro pp ee ss mm ar be me cd A Q ls H0 H locs hx hb hml hown hts hK hP hD hS hA hl hret
  have hw : ∀ w ∈ gw_T, w.before ar ss = true := fun w h => hts w (List.mem_cons_of_mem _ h)
  have hl : lv_has ls 3 [(0, .ref (bd 0)), (1, .int 0)] := hl
  rcases hpw with rfl | rfl
  · skip
    refine lv_aload_n hx hb dn_M_power_0 rfl (lv_at hl 0 rfl) ?_
    refine va_get (D := (dC, dI)) (ci := 5) (v := .int 0) (C := rn_M) (T := tn_M) (N := 19) hx hb hw ml_M hown hK hP 0 rfl rfl 2 (by decide) (hw _ mw_475) (fun _ h9 => h9) rfl dn_M_power_1 ?_
    refine lv_iload_n hx hb dn_M_power_4 rfl (lv_at hl 1 rfl) ?_
    refine lv_icmp_ne (tgt := 10) hx hb dn_M_power_5 (by decide) (fun h => absurd h (by decide)) (fun _ => ?_)
    refine lv_iconst (v := (-1)) hx hb dn_M_power_8 (by decide) ?_
    have hP : va_P (dC, dI) vwCl [(bd 0, .inr (5, [.ref (bd 1), .int (nI clk), .int 0, .int lf, .ref (bd 2), .int (nI fc), .int (nI sn), .int (nI ob), .ref (bd 3), .ref (bd 4), .ref (bd 5), .int (nI st), .ref (bd 6), .ref (bd 7), .ref (bd 8), .int (nI ef), .int (nI ec), .int (nI fu), .ref (bd 9)])), (bd 1, .inl (cI, 292, .inl (nx_pow f clk 0 0))), (bd 2, .inl (cI, 12, .inl fd)), (bd 3, .inl (cI, 13, .inl S)), (bd 4, .inl (cI, 13, .inl D)), (bd 5, .inl (cI, 13, .inl G)), (bd 6, .inl (cI, 8, .inl Y)), (bd 7, .inl (cI, 8, .inl Z)), (bd 8, .inl (cZ, 8, .inl X)), (bd 9, .inl (cI, 40, .inl g))] H := by rw [← (po_same (f := f) (clk := clk) (on := 0) (pw := 0) rfl).2]; exact hP
    have hD : va_D A [(bd 0, .inr (5, [.ref (bd 1), .int (nI clk), .int 0, .int lf, .ref (bd 2), .int (nI fc), .int (nI sn), .int (nI ob), .ref (bd 3), .ref (bd 4), .ref (bd 5), .int (nI st), .ref (bd 6), .ref (bd 7), .ref (bd 8), .int (nI ef), .int (nI ec), .int (nI fu), .ref (bd 9)])), (bd 1, .inl (cI, 292, .inl (nx_pow f clk 0 0))), (bd 2, .inl (cI, 12, .inl fd)), (bd 3, .inl (cI, 13, .inl S)), (bd 4, .inl (cI, 13, .inl D)), (bd 5, .inl (cI, 13, .inl G)), (bd 6, .inl (cI, 8, .inl Y)), (bd 7, .inl (cI, 8, .inl Z)), (bd 8, .inl (cZ, 8, .inl X)), (bd 9, .inl (cI, 40, .inl g))] := by rw [← (po_same (f := f) (clk := clk) (on := 0) (pw := 0) rfl).2]; exact hD
    exact hret (-1) ((ob, S, D, G, S), sn) _ _ _ _ (po_same (f := f) (clk := clk) (on := 0) (pw := 0) rfl).1 rfl hP hD hS dn_M_power_9
  · skip
    refine lv_aload_n hx hb dn_M_power_0 rfl (lv_at hl 0 rfl) ?_
    refine va_get (D := (dC, dI)) (ci := 5) (v := .int 1) (C := rn_M) (T := tn_M) (N := 19) hx hb hw ml_M hown hK hP 0 rfl rfl 2 (by decide) (hw _ mw_475) (fun _ h9 => h9) rfl dn_M_power_1 ?_
    refine lv_iload_n hx hb dn_M_power_4 rfl (lv_at hl 1 rfl) ?_
    refine lv_icmp_ne (tgt := 10) hx hb dn_M_power_5 (by decide) (fun _ => ?_) (fun h => absurd h (by decide))
    refine lv_aload_n hx hb dn_M_power_10 rfl (lv_at hl 0 rfl) ?_
    refine lv_iload_n hx hb dn_M_power_11 rfl (lv_at hl 1 rfl) ?_
    refine va_put (D := (dC, dI)) (ci := 5) (v := .int 0) (ty := .boolean) (C := rn_M) (T := tn_M) (N := 19) hx hb hw ml_M tt_M to_M nd_M hown hK hP hD hS 0 rfl rfl 2 (by decide) (hw _ mw_475) (fun _ h9 => h9) rfl (by decide +kernel) rfl rfl (Nat.le_of_ble_eq_true rfl) dn_M_power_12 (fun H locs hP hD hS => ?_)
    have hP : va_P (dC, dI) vwCl [(bd 0, .inr (5, [.ref (bd 1), .int (nI clk), .int 0, .int lf, .ref (bd 2), .int (nI fc), .int (nI sn), .int (nI ob), .ref (bd 3), .ref (bd 4), .ref (bd 5), .int (nI st), .ref (bd 6), .ref (bd 7), .ref (bd 8), .int (nI ef), .int (nI ec), .int (nI fu), .ref (bd 9)])), (bd 1, .inl (cI, 292, .inl f)), (bd 2, .inl (cI, 12, .inl fd)), (bd 3, .inl (cI, 13, .inl S)), (bd 4, .inl (cI, 13, .inl D)), (bd 5, .inl (cI, 13, .inl G)), (bd 6, .inl (cI, 8, .inl Y)), (bd 7, .inl (cI, 8, .inl Z)), (bd 8, .inl (cZ, 8, .inl X)), (bd 9, .inl (cI, 40, .inl g))] H := hP
    have hD : va_D A [(bd 0, .inr (5, [.ref (bd 1), .int (nI clk), .int 0, .int lf, .ref (bd 2), .int (nI fc), .int (nI sn), .int (nI ob), .ref (bd 3), .ref (bd 4), .ref (bd 5), .int (nI st), .ref (bd 6), .ref (bd 7), .ref (bd 8), .int (nI ef), .int (nI ec), .int (nI fu), .ref (bd 9)])), (bd 1, .inl (cI, 292, .inl f)), (bd 2, .inl (cI, 12, .inl fd)), (bd 3, .inl (cI, 13, .inl S)), (bd 4, .inl (cI, 13, .inl D)), (bd 5, .inl (cI, 13, .inl G)), (bd 6, .inl (cI, 8, .inl Y)), (bd 7, .inl (cI, 8, .inl Z)), (bd 8, .inl (cZ, 8, .inl X)), (bd 9, .inl (cI, 40, .inl g))] := hD
    refine lv_aload_n hx hb dn_M_power_15 rfl (lv_at hl 0 rfl) ?_
    refine gc_vv (pre := []) (wc := [(bd 0, .inr (5, [.ref (bd 1), .int (nI clk), .int 0, .int lf, .ref (bd 2), .int (nI fc), .int (nI sn), .int (nI ob), .ref (bd 3), .ref (bd 4), .ref (bd 5), .int (nI st), .ref (bd 6), .ref (bd 7), .ref (bd 8), .int (nI ef), .int (nI ec), .int (nI fu), .ref (bd 9)])), (bd 1, .inl (cI, 292, .inl f)), (bd 2, .inl (cI, 12, .inl fd)), (bd 3, .inl (cI, 13, .inl S)), (bd 4, .inl (cI, 13, .inl D)), (bd 5, .inl (cI, 13, .inl G)), (bd 6, .inl (cI, 8, .inl Y)), (bd 7, .inl (cI, 8, .inl Z)), (bd 8, .inl (cZ, 8, .inl X)), (bd 9, .inl (cI, 40, .inl g))]) (po := []) (As := []) (rest := []) ⟨hx, hb, hml, hown, hw⟩ (c_M_goThrough l dC dI cI cZ bd clk 0 lf f fd fc sn ob S D G st Y Z X ef ec fu g) (gw_cV 0 hw mw_539 mw_541 mv_22 mw_6 mw_542 hd_M_goThrough ⟨Nat.le_of_ble_eq_true rfl, Nat.le_of_ble_eq_true rfl⟩) (ci := 5) rfl rfl rfl hK hP hD hS hA rfl hl.1 rfl (Nat.le_of_ble_eq_true rfl) dn_M_power_16 ⟨Nat.zero_le _, Nat.zero_le _⟩ (fun u16 H locs hc16 hP hD hS => ?_)
    have hP : va_P (dC, dI) vwCl [(bd 0, .inr (5, [.ref (bd 1), .int (nI clk), .int 0, .int lf, .ref (bd 2), .int (nI fc), .int (nI u16.2), .int (nI u16.1.1), .ref (bd 3), .ref (bd 4), .ref (bd 5), .int (nI st), .ref (bd 6), .ref (bd 7), .ref (bd 8), .int (nI ef), .int (nI ec), .int (nI fu), .ref (bd 9)])), (bd 1, .inl (cI, 292, .inl f)), (bd 2, .inl (cI, 12, .inl fd)), (bd 3, .inl (cI, 13, .inl u16.1.2.1)), (bd 4, .inl (cI, 13, .inl u16.1.2.2.1)), (bd 5, .inl (cI, 13, .inl u16.1.2.2.2.1)), (bd 6, .inl (cI, 8, .inl Y)), (bd 7, .inl (cI, 8, .inl Z)), (bd 8, .inl (cZ, 8, .inl X)), (bd 9, .inl (cI, 40, .inl g))] H := hP
    have hD : va_D A [(bd 0, .inr (5, [.ref (bd 1), .int (nI clk), .int 0, .int lf, .ref (bd 2), .int (nI fc), .int (nI u16.2), .int (nI u16.1.1), .ref (bd 3), .ref (bd 4), .ref (bd 5), .int (nI st), .ref (bd 6), .ref (bd 7), .ref (bd 8), .int (nI ef), .int (nI ec), .int (nI fu), .ref (bd 9)])), (bd 1, .inl (cI, 292, .inl f)), (bd 2, .inl (cI, 12, .inl fd)), (bd 3, .inl (cI, 13, .inl u16.1.2.1)), (bd 4, .inl (cI, 13, .inl u16.1.2.2.1)), (bd 5, .inl (cI, 13, .inl u16.1.2.2.2.1)), (bd 6, .inl (cI, 8, .inl Y)), (bd 7, .inl (cI, 8, .inl Z)), (bd 8, .inl (cZ, 8, .inl X)), (bd 9, .inl (cI, 40, .inl g))] := hD
    have ho := ce_12 hc16.2 hc16.1.2.1
    have hsn := hc16.1.1
    refine lv_iload_n hx hb dn_M_power_19 rfl (lv_at hl 1 rfl) ?_
    refine lv_if_eq (tgt := 94) hx hb dn_M_power_20 (by decide) (fun _ => ?_) (fun h => absurd h (by decide))
    refine lv_aload_n hx hb dn_M_power_94 rfl (lv_at hl 0 rfl) ?_
    refine va_get (D := (dC, dI)) (ci := 5) (v := .int (nI u16.2)) (C := rn_M) (T := tn_M) (N := 19) hx hb hw ml_M hown hK hP 0 rfl rfl 6 (by decide) (hw _ mw_479) (fun _ h9 => h9) rfl dn_M_power_95 ?_
    have hP : va_P (dC, dI) vwCl [(bd 0, .inr (5, [.ref (bd 1), .int (nI clk), .int 0, .int lf, .ref (bd 2), .int (nI fc), .int (nI u16.2), .int (nI u16.1.1), .ref (bd 3), .ref (bd 4), .ref (bd 5), .int (nI st), .ref (bd 6), .ref (bd 7), .ref (bd 8), .int (nI ef), .int (nI ec), .int (nI fu), .ref (bd 9)])), (bd 1, .inl (cI, 292, .inl (nx_pow f clk 1 0))), (bd 2, .inl (cI, 12, .inl fd)), (bd 3, .inl (cI, 13, .inl u16.1.2.1)), (bd 4, .inl (cI, 13, .inl u16.1.2.2.1)), (bd 5, .inl (cI, 13, .inl u16.1.2.2.2.1)), (bd 6, .inl (cI, 8, .inl Y)), (bd 7, .inl (cI, 8, .inl Z)), (bd 8, .inl (cZ, 8, .inl X)), (bd 9, .inl (cI, 40, .inl g))] H := by rw [← (po_off hc16.1).2]; exact hP
    have hD : va_D A [(bd 0, .inr (5, [.ref (bd 1), .int (nI clk), .int 0, .int lf, .ref (bd 2), .int (nI fc), .int (nI u16.2), .int (nI u16.1.1), .ref (bd 3), .ref (bd 4), .ref (bd 5), .int (nI st), .ref (bd 6), .ref (bd 7), .ref (bd 8), .int (nI ef), .int (nI ec), .int (nI fu), .ref (bd 9)])), (bd 1, .inl (cI, 292, .inl (nx_pow f clk 1 0))), (bd 2, .inl (cI, 12, .inl fd)), (bd 3, .inl (cI, 13, .inl u16.1.2.1)), (bd 4, .inl (cI, 13, .inl u16.1.2.2.1)), (bd 5, .inl (cI, 13, .inl u16.1.2.2.2.1)), (bd 6, .inl (cI, 8, .inl Y)), (bd 7, .inl (cI, 8, .inl Z)), (bd 8, .inl (cZ, 8, .inl X)), (bd 9, .inl (cI, 40, .inl g))] := by rw [← (po_off hc16.1).2]; exact hD
    exact hret (nI u16.2) u16 _ _ _ _ (po_off hc16.1).1 rfl hP hD hS dn_M_power_98

set_option maxRecDepth 100000 in
set_option maxHeartbeats 1000000 in
theorem c_M_power1 (l : Launch) (dC : Nat → ClassId) (dI : Nat → Nat → Nat) (cI cZ : ClassId) (bd : Nat → Nat) (clk : Nat) (pw lf : Int32) (f fd : Nat → Int32) (fc sn ob : Nat) (S D G : Nat → Int32) (st : Nat) (Y Z X : Nat → Int32) (ef ec fu : Nat) (g : Nat → Int32) (hpw : pw = 0 ∨ pw = 1) : gc_I l yn_M_power (gw yn_M_power cn_M_power 3 (some .int)) (rm_ 4 95) (dC, dI) vwCl (gT cI cZ) [.ref (bd 0), .int 1] [(bd 0, .inr (5, [.ref (bd 1), .int (nI clk), .int pw, .int lf, .ref (bd 2), .int (nI fc), .int (nI sn), .int (nI ob), .ref (bd 3), .ref (bd 4), .ref (bd 5), .int (nI st), .ref (bd 6), .ref (bd 7), .ref (bd 8), .int (nI ef), .int (nI ec), .int (nI fu), .ref (bd 9)])), (bd 1, .inl (cI, 292, .inl f)), (bd 2, .inl (cI, 12, .inl fd)), (bd 3, .inl (cI, 13, .inl S)), (bd 4, .inl (cI, 13, .inl D)), (bd 5, .inl (cI, 13, .inl G)), (bd 6, .inl (cI, 8, .inl Y)), (bd 7, .inl (cI, 8, .inl Z)), (bd 8, .inl (cZ, 8, .inl X)), (bd 9, .inl (cI, 40, .inl g))] (fun r (u : ct_T × Nat) => r = an_pow f clk pw 1) (fun u => [(bd 0, .inr (5, [.ref (bd 1), .int (nI clk), .int 1, .int lf, .ref (bd 2), .int (nI fc), .int (nI u.2), .int (nI u.1.1), .ref (bd 3), .ref (bd 4), .ref (bd 5), .int (nI st), .ref (bd 6), .ref (bd 7), .ref (bd 8), .int (nI ef), .int (nI ec), .int (nI fu), .ref (bd 9)])), (bd 1, .inl (cI, 292, .inl (nx_pow f clk pw 1))), (bd 2, .inl (cI, 12, .inl fd)), (bd 3, .inl (cI, 13, .inl u.1.2.1)), (bd 4, .inl (cI, 13, .inl u.1.2.2.1)), (bd 5, .inl (cI, 13, .inl u.1.2.2.2.1)), (bd 6, .inl (cI, 8, .inl Y)), (bd 7, .inl (cI, 8, .inl Z)), (bd 8, .inl (cZ, 8, .inl X)), (bd 9, .inl (cI, 40, .inl g))]) := by
  refine gc_I_of (cc := cn_M_power) (maxL := 3) (ty := .int) (by decide) rfl (Nat.le_of_ble_eq_true rfl) ?_
  intro pp ee ss mm ar be me cd A Q ls H0 H locs hx hb hml hown hts hK hP hD hS hA hl hret
  have hw : ∀ w ∈ gw_T, w.before ar ss = true := fun w h => hts w (List.mem_cons_of_mem _ h)
  have hl : lv_has ls 3 [(0, .ref (bd 0)), (1, .int 1)] := hl
  rcases hpw with rfl | rfl
  · skip
    refine lv_aload_n hx hb dn_M_power_0 rfl (lv_at hl 0 rfl) ?_
    refine va_get (D := (dC, dI)) (ci := 5) (v := .int 0) (C := rn_M) (T := tn_M) (N := 19) hx hb hw ml_M hown hK hP 0 rfl rfl 2 (by decide) (hw _ mw_475) (fun _ h9 => h9) rfl dn_M_power_1 ?_
    refine lv_iload_n hx hb dn_M_power_4 rfl (lv_at hl 1 rfl) ?_
    refine lv_icmp_ne (tgt := 10) hx hb dn_M_power_5 (by decide) (fun _ => ?_) (fun h => absurd h (by decide))
    refine lv_aload_n hx hb dn_M_power_10 rfl (lv_at hl 0 rfl) ?_
    refine lv_iload_n hx hb dn_M_power_11 rfl (lv_at hl 1 rfl) ?_
    refine va_put (D := (dC, dI)) (ci := 5) (v := .int 1) (ty := .boolean) (C := rn_M) (T := tn_M) (N := 19) hx hb hw ml_M tt_M to_M nd_M hown hK hP hD hS 0 rfl rfl 2 (by decide) (hw _ mw_475) (fun _ h9 => h9) rfl (by decide +kernel) rfl rfl (Nat.le_of_ble_eq_true rfl) dn_M_power_12 (fun H locs hP hD hS => ?_)
    have hP : va_P (dC, dI) vwCl [(bd 0, .inr (5, [.ref (bd 1), .int (nI clk), .int 1, .int lf, .ref (bd 2), .int (nI fc), .int (nI sn), .int (nI ob), .ref (bd 3), .ref (bd 4), .ref (bd 5), .int (nI st), .ref (bd 6), .ref (bd 7), .ref (bd 8), .int (nI ef), .int (nI ec), .int (nI fu), .ref (bd 9)])), (bd 1, .inl (cI, 292, .inl f)), (bd 2, .inl (cI, 12, .inl fd)), (bd 3, .inl (cI, 13, .inl S)), (bd 4, .inl (cI, 13, .inl D)), (bd 5, .inl (cI, 13, .inl G)), (bd 6, .inl (cI, 8, .inl Y)), (bd 7, .inl (cI, 8, .inl Z)), (bd 8, .inl (cZ, 8, .inl X)), (bd 9, .inl (cI, 40, .inl g))] H := hP
    have hD : va_D A [(bd 0, .inr (5, [.ref (bd 1), .int (nI clk), .int 1, .int lf, .ref (bd 2), .int (nI fc), .int (nI sn), .int (nI ob), .ref (bd 3), .ref (bd 4), .ref (bd 5), .int (nI st), .ref (bd 6), .ref (bd 7), .ref (bd 8), .int (nI ef), .int (nI ec), .int (nI fu), .ref (bd 9)])), (bd 1, .inl (cI, 292, .inl f)), (bd 2, .inl (cI, 12, .inl fd)), (bd 3, .inl (cI, 13, .inl S)), (bd 4, .inl (cI, 13, .inl D)), (bd 5, .inl (cI, 13, .inl G)), (bd 6, .inl (cI, 8, .inl Y)), (bd 7, .inl (cI, 8, .inl Z)), (bd 8, .inl (cZ, 8, .inl X)), (bd 9, .inl (cI, 40, .inl g))] := hD
    refine lv_aload_n hx hb dn_M_power_15 rfl (lv_at hl 0 rfl) ?_
    refine gc_vv (pre := []) (wc := [(bd 0, .inr (5, [.ref (bd 1), .int (nI clk), .int 1, .int lf, .ref (bd 2), .int (nI fc), .int (nI sn), .int (nI ob), .ref (bd 3), .ref (bd 4), .ref (bd 5), .int (nI st), .ref (bd 6), .ref (bd 7), .ref (bd 8), .int (nI ef), .int (nI ec), .int (nI fu), .ref (bd 9)])), (bd 1, .inl (cI, 292, .inl f)), (bd 2, .inl (cI, 12, .inl fd)), (bd 3, .inl (cI, 13, .inl S)), (bd 4, .inl (cI, 13, .inl D)), (bd 5, .inl (cI, 13, .inl G)), (bd 6, .inl (cI, 8, .inl Y)), (bd 7, .inl (cI, 8, .inl Z)), (bd 8, .inl (cZ, 8, .inl X)), (bd 9, .inl (cI, 40, .inl g))]) (po := []) (As := []) (rest := []) ⟨hx, hb, hml, hown, hw⟩ (c_M_goThrough l dC dI cI cZ bd clk 1 lf f fd fc sn ob S D G st Y Z X ef ec fu g) (gw_cV 0 hw mw_539 mw_541 mv_22 mw_6 mw_542 hd_M_goThrough ⟨Nat.le_of_ble_eq_true rfl, Nat.le_of_ble_eq_true rfl⟩) (ci := 5) rfl rfl rfl hK hP hD hS hA rfl hl.1 rfl (Nat.le_of_ble_eq_true rfl) dn_M_power_16 ⟨Nat.zero_le _, Nat.zero_le _⟩ (fun u16 H locs hc16 hP hD hS => ?_)
    have hP : va_P (dC, dI) vwCl [(bd 0, .inr (5, [.ref (bd 1), .int (nI clk), .int 1, .int lf, .ref (bd 2), .int (nI fc), .int (nI u16.2), .int (nI u16.1.1), .ref (bd 3), .ref (bd 4), .ref (bd 5), .int (nI st), .ref (bd 6), .ref (bd 7), .ref (bd 8), .int (nI ef), .int (nI ec), .int (nI fu), .ref (bd 9)])), (bd 1, .inl (cI, 292, .inl f)), (bd 2, .inl (cI, 12, .inl fd)), (bd 3, .inl (cI, 13, .inl u16.1.2.1)), (bd 4, .inl (cI, 13, .inl u16.1.2.2.1)), (bd 5, .inl (cI, 13, .inl u16.1.2.2.2.1)), (bd 6, .inl (cI, 8, .inl Y)), (bd 7, .inl (cI, 8, .inl Z)), (bd 8, .inl (cZ, 8, .inl X)), (bd 9, .inl (cI, 40, .inl g))] H := hP
    have hD : va_D A [(bd 0, .inr (5, [.ref (bd 1), .int (nI clk), .int 1, .int lf, .ref (bd 2), .int (nI fc), .int (nI u16.2), .int (nI u16.1.1), .ref (bd 3), .ref (bd 4), .ref (bd 5), .int (nI st), .ref (bd 6), .ref (bd 7), .ref (bd 8), .int (nI ef), .int (nI ec), .int (nI fu), .ref (bd 9)])), (bd 1, .inl (cI, 292, .inl f)), (bd 2, .inl (cI, 12, .inl fd)), (bd 3, .inl (cI, 13, .inl u16.1.2.1)), (bd 4, .inl (cI, 13, .inl u16.1.2.2.1)), (bd 5, .inl (cI, 13, .inl u16.1.2.2.2.1)), (bd 6, .inl (cI, 8, .inl Y)), (bd 7, .inl (cI, 8, .inl Z)), (bd 8, .inl (cZ, 8, .inl X)), (bd 9, .inl (cI, 40, .inl g))] := hD
    have ho := ce_12 hc16.2 hc16.1.2.1
    have hsn := hc16.1.1
    refine lv_iload_n hx hb dn_M_power_19 rfl (lv_at hl 1 rfl) ?_
    refine lv_if_eq (tgt := 94) hx hb dn_M_power_20 (by decide) (fun h => absurd h (by decide)) (fun _ => ?_)
    refine lv_bipush (v := 7) hx hb dn_M_power_23 (by decide) ?_
    refine lv_aload_n hx hb dn_M_power_25 rfl (lv_at hl 0 rfl) ?_
    refine va_get (D := (dC, dI)) (ci := 5) (v := .int (nI u16.2)) (C := rn_M) (T := tn_M) (N := 19) hx hb hw ml_M hown hK hP 0 rfl rfl 6 (by decide) (hw _ mw_479) (fun _ h9 => h9) rfl dn_M_power_26 ?_
    refine gr_mulN hx hb 7 u16.2 rfl rfl dn_M_power_29 ?_
    refine lv_istore_n (lv' := [(2, .int (nI (7 * u16.2))), (0, .ref (bd 0)), (1, .int 1)]) hx hb dn_M_power_30 rfl hl (by decide) rfl (fun ls hl => ?_)
    rw [← wp_p_0 f u16.2] at hP hD
    have hP : va_P (dC, dI) vwCl [(bd 0, .inr (5, [.ref (bd 1), .int (nI clk), .int 1, .int lf, .ref (bd 2), .int (nI fc), .int (nI u16.2), .int (nI u16.1.1), .ref (bd 3), .ref (bd 4), .ref (bd 5), .int (nI st), .ref (bd 6), .ref (bd 7), .ref (bd 8), .int (nI ef), .int (nI ec), .int (nI fu), .ref (bd 9)])), (bd 1, .inl (cI, 292, .inl (wp_p f u16.2 (7 * u16.2)))), (bd 2, .inl (cI, 12, .inl fd)), (bd 3, .inl (cI, 13, .inl u16.1.2.1)), (bd 4, .inl (cI, 13, .inl u16.1.2.2.1)), (bd 5, .inl (cI, 13, .inl u16.1.2.2.2.1)), (bd 6, .inl (cI, 8, .inl Y)), (bd 7, .inl (cI, 8, .inl Z)), (bd 8, .inl (cZ, 8, .inl X)), (bd 9, .inl (cI, 40, .inl g))] H := hP
    have hD : va_D A [(bd 0, .inr (5, [.ref (bd 1), .int (nI clk), .int 1, .int lf, .ref (bd 2), .int (nI fc), .int (nI u16.2), .int (nI u16.1.1), .ref (bd 3), .ref (bd 4), .ref (bd 5), .int (nI st), .ref (bd 6), .ref (bd 7), .ref (bd 8), .int (nI ef), .int (nI ec), .int (nI fu), .ref (bd 9)])), (bd 1, .inl (cI, 292, .inl (wp_p f u16.2 (7 * u16.2)))), (bd 2, .inl (cI, 12, .inl fd)), (bd 3, .inl (cI, 13, .inl u16.1.2.1)), (bd 4, .inl (cI, 13, .inl u16.1.2.2.1)), (bd 5, .inl (cI, 13, .inl u16.1.2.2.2.1)), (bd 6, .inl (cI, 8, .inl Y)), (bd 7, .inl (cI, 8, .inl Z)), (bd 8, .inl (cZ, 8, .inl X)), (bd 9, .inl (cI, 40, .inl g))] := hD
    have lp31 : ∀ (n31_ : Nat) (a : Nat) (ls : Array Slot) (H : Heap) (locs : List Loc), 280 - a = n31_ → lv_has ls 3 [(0, .ref (bd 0)), (1, .int 1), (2, .int (nI a))] → va_P (dC, dI) vwCl [(bd 0, .inr (5, [.ref (bd 1), .int (nI clk), .int 1, .int lf, .ref (bd 2), .int (nI fc), .int (nI u16.2), .int (nI u16.1.1), .ref (bd 3), .ref (bd 4), .ref (bd 5), .int (nI st), .ref (bd 6), .ref (bd 7), .ref (bd 8), .int (nI ef), .int (nI ec), .int (nI fu), .ref (bd 9)])), (bd 1, .inl (cI, 292, .inl (wp_p f u16.2 a))), (bd 2, .inl (cI, 12, .inl fd)), (bd 3, .inl (cI, 13, .inl u16.1.2.1)), (bd 4, .inl (cI, 13, .inl u16.1.2.2.1)), (bd 5, .inl (cI, 13, .inl u16.1.2.2.2.1)), (bd 6, .inl (cI, 8, .inl Y)), (bd 7, .inl (cI, 8, .inl Z)), (bd 8, .inl (cZ, 8, .inl X)), (bd 9, .inl (cI, 40, .inl g))] H → va_D A [(bd 0, .inr (5, [.ref (bd 1), .int (nI clk), .int 1, .int lf, .ref (bd 2), .int (nI fc), .int (nI u16.2), .int (nI u16.1.1), .ref (bd 3), .ref (bd 4), .ref (bd 5), .int (nI st), .ref (bd 6), .ref (bd 7), .ref (bd 8), .int (nI ef), .int (nI ec), .int (nI fu), .ref (bd 9)])), (bd 1, .inl (cI, 292, .inl (wp_p f u16.2 a))), (bd 2, .inl (cI, 12, .inl fd)), (bd 3, .inl (cI, 13, .inl u16.1.2.1)), (bd 4, .inl (cI, 13, .inl u16.1.2.2.1)), (bd 5, .inl (cI, 13, .inl u16.1.2.2.2.1)), (bd 6, .inl (cI, 8, .inl Y)), (bd 7, .inl (cI, 8, .inl Z)), (bd 8, .inl (cZ, 8, .inl X)), (bd 9, .inl (cI, 40, .inl g))] → va_S A H0 H locs → (7 * u16.2 ≤ a) → (a ≤ 280) → W pp l ee (headSpec (gw yn_M_power cn_M_power 3 (some .int)) (rm_ 4 95)).room ss mm ar be me cd H locs 0 0 Q (F0 mm 31 ls []) := by
      intro n31_
      induction n31_ using Nat.strongRecOn with
      | ind n31_ ih31 =>
        intro a ls H locs hn31_ hl hP hD hS hi1 hi2
        refine lv_iload_n hx hb dn_M_power_31 rfl (lv_at hl 2 rfl) ?_
        refine lv_sipush (v := 280) hx hb dn_M_power_32 (by decide) ?_
        refine gr_cge (tgt := 51) hx hb a 280 rfl rfl (by omega) (by decide) dn_M_power_35 (by decide) (fun h35 => ?_) (fun h35 => ?_)
        · skip
          obtain rfl : 280 = a := by omega
          refine lv_iconst (v := 1) hx hb dn_M_power_51 (by decide) ?_
          refine lv_istore_n (lv' := [(2, .int 1), (0, .ref (bd 0)), (1, .int 1)]) hx hb dn_M_power_52 rfl hl (by decide) rfl (fun ls hl => ?_)
          rw [← wp_k_0 (wp_p f u16.2 280) (ct_st f u16.2)] at hP hD
          have hP : va_P (dC, dI) vwCl [(bd 0, .inr (5, [.ref (bd 1), .int (nI clk), .int 1, .int lf, .ref (bd 2), .int (nI fc), .int (nI u16.2), .int (nI u16.1.1), .ref (bd 3), .ref (bd 4), .ref (bd 5), .int (nI st), .ref (bd 6), .ref (bd 7), .ref (bd 8), .int (nI ef), .int (nI ec), .int (nI fu), .ref (bd 9)])), (bd 1, .inl (cI, 292, .inl (wp_k (wp_p f u16.2 280) (ct_st f u16.2) 0))), (bd 2, .inl (cI, 12, .inl fd)), (bd 3, .inl (cI, 13, .inl u16.1.2.1)), (bd 4, .inl (cI, 13, .inl u16.1.2.2.1)), (bd 5, .inl (cI, 13, .inl u16.1.2.2.2.1)), (bd 6, .inl (cI, 8, .inl Y)), (bd 7, .inl (cI, 8, .inl Z)), (bd 8, .inl (cZ, 8, .inl X)), (bd 9, .inl (cI, 40, .inl g))] H := hP
          have hD : va_D A [(bd 0, .inr (5, [.ref (bd 1), .int (nI clk), .int 1, .int lf, .ref (bd 2), .int (nI fc), .int (nI u16.2), .int (nI u16.1.1), .ref (bd 3), .ref (bd 4), .ref (bd 5), .int (nI st), .ref (bd 6), .ref (bd 7), .ref (bd 8), .int (nI ef), .int (nI ec), .int (nI fu), .ref (bd 9)])), (bd 1, .inl (cI, 292, .inl (wp_k (wp_p f u16.2 280) (ct_st f u16.2) 0))), (bd 2, .inl (cI, 12, .inl fd)), (bd 3, .inl (cI, 13, .inl u16.1.2.1)), (bd 4, .inl (cI, 13, .inl u16.1.2.2.1)), (bd 5, .inl (cI, 13, .inl u16.1.2.2.2.1)), (bd 6, .inl (cI, 8, .inl Y)), (bd 7, .inl (cI, 8, .inl Z)), (bd 8, .inl (cZ, 8, .inl X)), (bd 9, .inl (cI, 40, .inl g))] := hD
          have lp53 : ∀ (n53_ : Nat) (i : Nat) (ls : Array Slot) (H : Heap) (locs : List Loc), 12 - i = n53_ → lv_has ls 3 [(0, .ref (bd 0)), (1, .int 1), (2, .int (nI (i + 1)))] → va_P (dC, dI) vwCl [(bd 0, .inr (5, [.ref (bd 1), .int (nI clk), .int 1, .int lf, .ref (bd 2), .int (nI fc), .int (nI u16.2), .int (nI u16.1.1), .ref (bd 3), .ref (bd 4), .ref (bd 5), .int (nI st), .ref (bd 6), .ref (bd 7), .ref (bd 8), .int (nI ef), .int (nI ec), .int (nI fu), .ref (bd 9)])), (bd 1, .inl (cI, 292, .inl (wp_k (wp_p f u16.2 280) (ct_st f u16.2) i))), (bd 2, .inl (cI, 12, .inl fd)), (bd 3, .inl (cI, 13, .inl u16.1.2.1)), (bd 4, .inl (cI, 13, .inl u16.1.2.2.1)), (bd 5, .inl (cI, 13, .inl u16.1.2.2.2.1)), (bd 6, .inl (cI, 8, .inl Y)), (bd 7, .inl (cI, 8, .inl Z)), (bd 8, .inl (cZ, 8, .inl X)), (bd 9, .inl (cI, 40, .inl g))] H → va_D A [(bd 0, .inr (5, [.ref (bd 1), .int (nI clk), .int 1, .int lf, .ref (bd 2), .int (nI fc), .int (nI u16.2), .int (nI u16.1.1), .ref (bd 3), .ref (bd 4), .ref (bd 5), .int (nI st), .ref (bd 6), .ref (bd 7), .ref (bd 8), .int (nI ef), .int (nI ec), .int (nI fu), .ref (bd 9)])), (bd 1, .inl (cI, 292, .inl (wp_k (wp_p f u16.2 280) (ct_st f u16.2) i))), (bd 2, .inl (cI, 12, .inl fd)), (bd 3, .inl (cI, 13, .inl u16.1.2.1)), (bd 4, .inl (cI, 13, .inl u16.1.2.2.1)), (bd 5, .inl (cI, 13, .inl u16.1.2.2.2.1)), (bd 6, .inl (cI, 8, .inl Y)), (bd 7, .inl (cI, 8, .inl Z)), (bd 8, .inl (cZ, 8, .inl X)), (bd 9, .inl (cI, 40, .inl g))] → va_S A H0 H locs → (i ≤ 12) → W pp l ee (headSpec (gw yn_M_power cn_M_power 3 (some .int)) (rm_ 4 95)).room ss mm ar be me cd H locs 0 0 Q (F0 mm 53 ls []) := by
            intro n53_
            induction n53_ using Nat.strongRecOn with
            | ind n53_ ih53 =>
              intro i ls H locs hn53_ hl hP hD hS hi_
              refine lv_iload_n hx hb dn_M_power_53 rfl (lv_at hl 2 rfl) ?_
              refine lv_bipush (v := 12) hx hb dn_M_power_54 (by decide) ?_
              refine gr_cgt (tgt := 94) hx hb (i + 1) 12 rfl rfl (by omega) (by decide) dn_M_power_56 (by decide) (fun h56 => ?_) (fun h56 => ?_)
              · skip
                obtain rfl : 12 = i := by omega
                refine lv_aload_n hx hb dn_M_power_94 rfl (lv_at hl 0 rfl) ?_
                refine va_get (D := (dC, dI)) (ci := 5) (v := .int (nI u16.2)) (C := rn_M) (T := tn_M) (N := 19) hx hb hw ml_M hown hK hP 0 rfl rfl 6 (by decide) (hw _ mw_479) (fun _ h9 => h9) rfl dn_M_power_95 ?_
                have hP : va_P (dC, dI) vwCl [(bd 0, .inr (5, [.ref (bd 1), .int (nI clk), .int 1, .int lf, .ref (bd 2), .int (nI fc), .int (nI u16.2), .int (nI u16.1.1), .ref (bd 3), .ref (bd 4), .ref (bd 5), .int (nI st), .ref (bd 6), .ref (bd 7), .ref (bd 8), .int (nI ef), .int (nI ec), .int (nI fu), .ref (bd 9)])), (bd 1, .inl (cI, 292, .inl (nx_pow f clk 0 1))), (bd 2, .inl (cI, 12, .inl fd)), (bd 3, .inl (cI, 13, .inl u16.1.2.1)), (bd 4, .inl (cI, 13, .inl u16.1.2.2.1)), (bd 5, .inl (cI, 13, .inl u16.1.2.2.2.1)), (bd 6, .inl (cI, 8, .inl Y)), (bd 7, .inl (cI, 8, .inl Z)), (bd 8, .inl (cZ, 8, .inl X)), (bd 9, .inl (cI, 40, .inl g))] H := by rw [← (po_on hc16.1).2]; exact hP
                have hD : va_D A [(bd 0, .inr (5, [.ref (bd 1), .int (nI clk), .int 1, .int lf, .ref (bd 2), .int (nI fc), .int (nI u16.2), .int (nI u16.1.1), .ref (bd 3), .ref (bd 4), .ref (bd 5), .int (nI st), .ref (bd 6), .ref (bd 7), .ref (bd 8), .int (nI ef), .int (nI ec), .int (nI fu), .ref (bd 9)])), (bd 1, .inl (cI, 292, .inl (nx_pow f clk 0 1))), (bd 2, .inl (cI, 12, .inl fd)), (bd 3, .inl (cI, 13, .inl u16.1.2.1)), (bd 4, .inl (cI, 13, .inl u16.1.2.2.1)), (bd 5, .inl (cI, 13, .inl u16.1.2.2.2.1)), (bd 6, .inl (cI, 8, .inl Y)), (bd 7, .inl (cI, 8, .inl Z)), (bd 8, .inl (cZ, 8, .inl X)), (bd 9, .inl (cI, 40, .inl g))] := by rw [← (po_on hc16.1).2]; exact hD
                exact hret (nI u16.2) u16 _ _ _ _ (po_on hc16.1).1 rfl hP hD hS dn_M_power_98
              · skip
                refine lv_iload_n hx hb dn_M_power_59 rfl (lv_at hl 2 rfl) ?_
                refine lv_aload_n hx hb dn_M_power_60 rfl (lv_at hl 0 rfl) ?_
                refine va_get (D := (dC, dI)) (ci := 5) (v := .int (nI u16.1.1)) (C := rn_M) (T := tn_M) (N := 19) hx hb hw ml_M hown hK hP 0 rfl rfl 7 (by decide) (hw _ mw_480) (fun _ h9 => h9) rfl dn_M_power_61 ?_
                refine gr_cgt (tgt := 77) hx hb (i + 1) u16.1.1 rfl rfl (by omega) (by omega) dn_M_power_64 (by decide) (fun h64 => ?_) (fun h64 => ?_)
                · skip
                  refine lv_aload_n hx hb dn_M_power_77 rfl (lv_at hl 0 rfl) ?_
                  refine va_get (D := (dC, dI)) (ci := 5) (v := .ref (bd 1)) (C := rn_M) (T := tn_M) (N := 19) hx hb hw ml_M hown hK hP 0 rfl rfl 0 (by decide) (hw _ mw_473) (fun _ h9 => h9) rfl dn_M_power_78 ?_
                  refine lv_sipush (v := 279) hx hb dn_M_power_81 (by decide) ?_
                  refine lv_iload_n hx hb dn_M_power_84 rfl (lv_at hl 2 rfl) ?_
                  refine gr_addN hx hb 279 (i + 1) rfl rfl dn_M_power_85 ?_
                  refine lv_iconst (v := 0) hx hb dn_M_power_86 (by decide) ?_
                  refine gr_iast hx hb hK hP hD hS 1 0 rfl rfl (279 + (i + 1)) rfl (by omega) (by decide) dn_M_power_87 (fun H locs hP hD hS => ?_)
                  have hP : va_P (dC, dI) vwCl [(bd 0, .inr (5, [.ref (bd 1), .int (nI clk), .int 1, .int lf, .ref (bd 2), .int (nI fc), .int (nI u16.2), .int (nI u16.1.1), .ref (bd 3), .ref (bd 4), .ref (bd 5), .int (nI st), .ref (bd 6), .ref (bd 7), .ref (bd 8), .int (nI ef), .int (nI ec), .int (nI fu), .ref (bd 9)])), (bd 1, .inl (cI, 292, .inl (upd (wp_k (wp_p f u16.2 280) (ct_st f u16.2) i) (279 + (i + 1)) 0))), (bd 2, .inl (cI, 12, .inl fd)), (bd 3, .inl (cI, 13, .inl u16.1.2.1)), (bd 4, .inl (cI, 13, .inl u16.1.2.2.1)), (bd 5, .inl (cI, 13, .inl u16.1.2.2.2.1)), (bd 6, .inl (cI, 8, .inl Y)), (bd 7, .inl (cI, 8, .inl Z)), (bd 8, .inl (cZ, 8, .inl X)), (bd 9, .inl (cI, 40, .inl g))] H := hP
                  have hD : va_D A [(bd 0, .inr (5, [.ref (bd 1), .int (nI clk), .int 1, .int lf, .ref (bd 2), .int (nI fc), .int (nI u16.2), .int (nI u16.1.1), .ref (bd 3), .ref (bd 4), .ref (bd 5), .int (nI st), .ref (bd 6), .ref (bd 7), .ref (bd 8), .int (nI ef), .int (nI ec), .int (nI fu), .ref (bd 9)])), (bd 1, .inl (cI, 292, .inl (upd (wp_k (wp_p f u16.2 280) (ct_st f u16.2) i) (279 + (i + 1)) 0))), (bd 2, .inl (cI, 12, .inl fd)), (bd 3, .inl (cI, 13, .inl u16.1.2.1)), (bd 4, .inl (cI, 13, .inl u16.1.2.2.1)), (bd 5, .inl (cI, 13, .inl u16.1.2.2.2.1)), (bd 6, .inl (cI, 8, .inl Y)), (bd 7, .inl (cI, 8, .inl Z)), (bd 8, .inl (cZ, 8, .inl X)), (bd 9, .inl (cI, 40, .inl g))] := hD
                  rw [show upd (wp_k (wp_p f u16.2 280) (ct_st f u16.2) i) (279 + (i + 1)) 0 = wp_k (wp_p f u16.2 280) (ct_st f u16.2) (i + 1) from (by rw [show 279 + (i + 1) = 280 + i by omega]; exact wp_k_s _ (ct_st f u16.2) i ((wk_iff hc16.2 (by omega)).1 (by first | exact Or.inl h64 | exact Or.inr h74)))] at hP hD
                  have hP : va_P (dC, dI) vwCl [(bd 0, .inr (5, [.ref (bd 1), .int (nI clk), .int 1, .int lf, .ref (bd 2), .int (nI fc), .int (nI u16.2), .int (nI u16.1.1), .ref (bd 3), .ref (bd 4), .ref (bd 5), .int (nI st), .ref (bd 6), .ref (bd 7), .ref (bd 8), .int (nI ef), .int (nI ec), .int (nI fu), .ref (bd 9)])), (bd 1, .inl (cI, 292, .inl (wp_k (wp_p f u16.2 280) (ct_st f u16.2) (i + 1)))), (bd 2, .inl (cI, 12, .inl fd)), (bd 3, .inl (cI, 13, .inl u16.1.2.1)), (bd 4, .inl (cI, 13, .inl u16.1.2.2.1)), (bd 5, .inl (cI, 13, .inl u16.1.2.2.2.1)), (bd 6, .inl (cI, 8, .inl Y)), (bd 7, .inl (cI, 8, .inl Z)), (bd 8, .inl (cZ, 8, .inl X)), (bd 9, .inl (cI, 40, .inl g))] H := hP
                  have hD : va_D A [(bd 0, .inr (5, [.ref (bd 1), .int (nI clk), .int 1, .int lf, .ref (bd 2), .int (nI fc), .int (nI u16.2), .int (nI u16.1.1), .ref (bd 3), .ref (bd 4), .ref (bd 5), .int (nI st), .ref (bd 6), .ref (bd 7), .ref (bd 8), .int (nI ef), .int (nI ec), .int (nI fu), .ref (bd 9)])), (bd 1, .inl (cI, 292, .inl (wp_k (wp_p f u16.2 280) (ct_st f u16.2) (i + 1)))), (bd 2, .inl (cI, 12, .inl fd)), (bd 3, .inl (cI, 13, .inl u16.1.2.1)), (bd 4, .inl (cI, 13, .inl u16.1.2.2.1)), (bd 5, .inl (cI, 13, .inl u16.1.2.2.2.1)), (bd 6, .inl (cI, 8, .inl Y)), (bd 7, .inl (cI, 8, .inl Z)), (bd 8, .inl (cZ, 8, .inl X)), (bd 9, .inl (cI, 40, .inl g))] := hD
                  refine lv_iinc (lv' := [(2, .int (nI ((i + 1) + 1))), (0, .ref (bd 0)), (1, .int 1)]) (v := (nI ((i + 1) + 1))) (k := 2) hx hb dn_M_power_88 hl rfl (nI_add (i + 1) 1) (by decide) rfl (fun ls hl => ?_)
                  refine lv_goto (tgt := 53) hx hb dn_M_power_91 (by decide) ?_
                  exact ih53 (12 - (i + 1)) (by omega) (i + 1) ls H locs rfl (lv_sub hl [1, 2, 0] rfl) hP hD hS (by omega)
                · skip
                  refine lv_aload_n hx hb dn_M_power_67 rfl (lv_at hl 0 rfl) ?_
                  refine va_get (D := (dC, dI)) (ci := 5) (v := .ref (bd 3)) (C := rn_M) (T := tn_M) (N := 19) hx hb hw ml_M hown hK hP 0 rfl rfl 8 (by decide) (hw _ mw_481) (fun _ h9 => h9) rfl dn_M_power_68 ?_
                  refine lv_iload_n hx hb dn_M_power_71 rfl (lv_at hl 2 rfl) ?_
                  refine gr_iald hx hb hK hP 3 0 rfl rfl (i + 1) rfl (by omega) (by decide) dn_M_power_72 ?_
                  refine lv_iconst (v := 3) hx hb dn_M_power_73 (by decide) ?_
                  refine lv_icmp_ne (tgt := 88) hx hb dn_M_power_74 (by decide) (fun h74 => ?_) (fun h74 => ?_)
                  · skip
                    refine lv_iinc (lv' := [(2, .int (nI ((i + 1) + 1))), (0, .ref (bd 0)), (1, .int 1)]) (v := (nI ((i + 1) + 1))) (k := 2) hx hb dn_M_power_88 hl rfl (nI_add (i + 1) 1) (by decide) rfl (fun ls hl => ?_)
                    refine lv_goto (tgt := 53) hx hb dn_M_power_91 (by decide) ?_
                    rw [show wp_k (wp_p f u16.2 280) (ct_st f u16.2) i = wp_k (wp_p f u16.2 280) (ct_st f u16.2) (i + 1) from (wp_k_n _ (ct_st f u16.2) i (fun q => ((wk_iff hc16.2 (by omega)).2 q).elim (fun z => absurd z (by omega)) h74))] at hP hD
                    have hP : va_P (dC, dI) vwCl [(bd 0, .inr (5, [.ref (bd 1), .int (nI clk), .int 1, .int lf, .ref (bd 2), .int (nI fc), .int (nI u16.2), .int (nI u16.1.1), .ref (bd 3), .ref (bd 4), .ref (bd 5), .int (nI st), .ref (bd 6), .ref (bd 7), .ref (bd 8), .int (nI ef), .int (nI ec), .int (nI fu), .ref (bd 9)])), (bd 1, .inl (cI, 292, .inl (wp_k (wp_p f u16.2 280) (ct_st f u16.2) (i + 1)))), (bd 2, .inl (cI, 12, .inl fd)), (bd 3, .inl (cI, 13, .inl u16.1.2.1)), (bd 4, .inl (cI, 13, .inl u16.1.2.2.1)), (bd 5, .inl (cI, 13, .inl u16.1.2.2.2.1)), (bd 6, .inl (cI, 8, .inl Y)), (bd 7, .inl (cI, 8, .inl Z)), (bd 8, .inl (cZ, 8, .inl X)), (bd 9, .inl (cI, 40, .inl g))] H := hP
                    have hD : va_D A [(bd 0, .inr (5, [.ref (bd 1), .int (nI clk), .int 1, .int lf, .ref (bd 2), .int (nI fc), .int (nI u16.2), .int (nI u16.1.1), .ref (bd 3), .ref (bd 4), .ref (bd 5), .int (nI st), .ref (bd 6), .ref (bd 7), .ref (bd 8), .int (nI ef), .int (nI ec), .int (nI fu), .ref (bd 9)])), (bd 1, .inl (cI, 292, .inl (wp_k (wp_p f u16.2 280) (ct_st f u16.2) (i + 1)))), (bd 2, .inl (cI, 12, .inl fd)), (bd 3, .inl (cI, 13, .inl u16.1.2.1)), (bd 4, .inl (cI, 13, .inl u16.1.2.2.1)), (bd 5, .inl (cI, 13, .inl u16.1.2.2.2.1)), (bd 6, .inl (cI, 8, .inl Y)), (bd 7, .inl (cI, 8, .inl Z)), (bd 8, .inl (cZ, 8, .inl X)), (bd 9, .inl (cI, 40, .inl g))] := hD
                    exact ih53 (12 - (i + 1)) (by omega) (i + 1) ls H locs rfl (lv_sub hl [1, 2, 0] rfl) hP hD hS (by omega)
                  · skip
                    refine lv_aload_n hx hb dn_M_power_77 rfl (lv_at hl 0 rfl) ?_
                    refine va_get (D := (dC, dI)) (ci := 5) (v := .ref (bd 1)) (C := rn_M) (T := tn_M) (N := 19) hx hb hw ml_M hown hK hP 0 rfl rfl 0 (by decide) (hw _ mw_473) (fun _ h9 => h9) rfl dn_M_power_78 ?_
                    refine lv_sipush (v := 279) hx hb dn_M_power_81 (by decide) ?_
                    refine lv_iload_n hx hb dn_M_power_84 rfl (lv_at hl 2 rfl) ?_
                    refine gr_addN hx hb 279 (i + 1) rfl rfl dn_M_power_85 ?_
                    refine lv_iconst (v := 0) hx hb dn_M_power_86 (by decide) ?_
                    refine gr_iast hx hb hK hP hD hS 1 0 rfl rfl (279 + (i + 1)) rfl (by omega) (by decide) dn_M_power_87 (fun H locs hP hD hS => ?_)
                    have hP : va_P (dC, dI) vwCl [(bd 0, .inr (5, [.ref (bd 1), .int (nI clk), .int 1, .int lf, .ref (bd 2), .int (nI fc), .int (nI u16.2), .int (nI u16.1.1), .ref (bd 3), .ref (bd 4), .ref (bd 5), .int (nI st), .ref (bd 6), .ref (bd 7), .ref (bd 8), .int (nI ef), .int (nI ec), .int (nI fu), .ref (bd 9)])), (bd 1, .inl (cI, 292, .inl (upd (wp_k (wp_p f u16.2 280) (ct_st f u16.2) i) (279 + (i + 1)) 0))), (bd 2, .inl (cI, 12, .inl fd)), (bd 3, .inl (cI, 13, .inl u16.1.2.1)), (bd 4, .inl (cI, 13, .inl u16.1.2.2.1)), (bd 5, .inl (cI, 13, .inl u16.1.2.2.2.1)), (bd 6, .inl (cI, 8, .inl Y)), (bd 7, .inl (cI, 8, .inl Z)), (bd 8, .inl (cZ, 8, .inl X)), (bd 9, .inl (cI, 40, .inl g))] H := hP
                    have hD : va_D A [(bd 0, .inr (5, [.ref (bd 1), .int (nI clk), .int 1, .int lf, .ref (bd 2), .int (nI fc), .int (nI u16.2), .int (nI u16.1.1), .ref (bd 3), .ref (bd 4), .ref (bd 5), .int (nI st), .ref (bd 6), .ref (bd 7), .ref (bd 8), .int (nI ef), .int (nI ec), .int (nI fu), .ref (bd 9)])), (bd 1, .inl (cI, 292, .inl (upd (wp_k (wp_p f u16.2 280) (ct_st f u16.2) i) (279 + (i + 1)) 0))), (bd 2, .inl (cI, 12, .inl fd)), (bd 3, .inl (cI, 13, .inl u16.1.2.1)), (bd 4, .inl (cI, 13, .inl u16.1.2.2.1)), (bd 5, .inl (cI, 13, .inl u16.1.2.2.2.1)), (bd 6, .inl (cI, 8, .inl Y)), (bd 7, .inl (cI, 8, .inl Z)), (bd 8, .inl (cZ, 8, .inl X)), (bd 9, .inl (cI, 40, .inl g))] := hD
                    rw [show upd (wp_k (wp_p f u16.2 280) (ct_st f u16.2) i) (279 + (i + 1)) 0 = wp_k (wp_p f u16.2 280) (ct_st f u16.2) (i + 1) from (by rw [show 279 + (i + 1) = 280 + i by omega]; exact wp_k_s _ (ct_st f u16.2) i ((wk_iff hc16.2 (by omega)).1 (by first | exact Or.inl h64 | exact Or.inr h74)))] at hP hD
                    have hP : va_P (dC, dI) vwCl [(bd 0, .inr (5, [.ref (bd 1), .int (nI clk), .int 1, .int lf, .ref (bd 2), .int (nI fc), .int (nI u16.2), .int (nI u16.1.1), .ref (bd 3), .ref (bd 4), .ref (bd 5), .int (nI st), .ref (bd 6), .ref (bd 7), .ref (bd 8), .int (nI ef), .int (nI ec), .int (nI fu), .ref (bd 9)])), (bd 1, .inl (cI, 292, .inl (wp_k (wp_p f u16.2 280) (ct_st f u16.2) (i + 1)))), (bd 2, .inl (cI, 12, .inl fd)), (bd 3, .inl (cI, 13, .inl u16.1.2.1)), (bd 4, .inl (cI, 13, .inl u16.1.2.2.1)), (bd 5, .inl (cI, 13, .inl u16.1.2.2.2.1)), (bd 6, .inl (cI, 8, .inl Y)), (bd 7, .inl (cI, 8, .inl Z)), (bd 8, .inl (cZ, 8, .inl X)), (bd 9, .inl (cI, 40, .inl g))] H := hP
                    have hD : va_D A [(bd 0, .inr (5, [.ref (bd 1), .int (nI clk), .int 1, .int lf, .ref (bd 2), .int (nI fc), .int (nI u16.2), .int (nI u16.1.1), .ref (bd 3), .ref (bd 4), .ref (bd 5), .int (nI st), .ref (bd 6), .ref (bd 7), .ref (bd 8), .int (nI ef), .int (nI ec), .int (nI fu), .ref (bd 9)])), (bd 1, .inl (cI, 292, .inl (wp_k (wp_p f u16.2 280) (ct_st f u16.2) (i + 1)))), (bd 2, .inl (cI, 12, .inl fd)), (bd 3, .inl (cI, 13, .inl u16.1.2.1)), (bd 4, .inl (cI, 13, .inl u16.1.2.2.1)), (bd 5, .inl (cI, 13, .inl u16.1.2.2.2.1)), (bd 6, .inl (cI, 8, .inl Y)), (bd 7, .inl (cI, 8, .inl Z)), (bd 8, .inl (cZ, 8, .inl X)), (bd 9, .inl (cI, 40, .inl g))] := hD
                    refine lv_iinc (lv' := [(2, .int (nI ((i + 1) + 1))), (0, .ref (bd 0)), (1, .int 1)]) (v := (nI ((i + 1) + 1))) (k := 2) hx hb dn_M_power_88 hl rfl (nI_add (i + 1) 1) (by decide) rfl (fun ls hl => ?_)
                    refine lv_goto (tgt := 53) hx hb dn_M_power_91 (by decide) ?_
                    exact ih53 (12 - (i + 1)) (by omega) (i + 1) ls H locs rfl (lv_sub hl [1, 2, 0] rfl) hP hD hS (by omega)
          exact lp53 _ 0 ls H locs rfl (lv_sub hl [1, 2, 0] rfl) hP hD hS (Nat.zero_le _)
        · skip
          refine lv_aload_n hx hb dn_M_power_38 rfl (lv_at hl 0 rfl) ?_
          refine va_get (D := (dC, dI)) (ci := 5) (v := .ref (bd 1)) (C := rn_M) (T := tn_M) (N := 19) hx hb hw ml_M hown hK hP 0 rfl rfl 0 (by decide) (hw _ mw_473) (fun _ h9 => h9) rfl dn_M_power_39 ?_
          refine lv_iload_n hx hb dn_M_power_42 rfl (lv_at hl 2 rfl) ?_
          refine lv_iconst (v := 0) hx hb dn_M_power_43 (by decide) ?_
          refine gr_iast hx hb hK hP hD hS 1 0 rfl rfl a rfl (by omega) (by decide) dn_M_power_44 (fun H locs hP hD hS => ?_)
          have hP : va_P (dC, dI) vwCl [(bd 0, .inr (5, [.ref (bd 1), .int (nI clk), .int 1, .int lf, .ref (bd 2), .int (nI fc), .int (nI u16.2), .int (nI u16.1.1), .ref (bd 3), .ref (bd 4), .ref (bd 5), .int (nI st), .ref (bd 6), .ref (bd 7), .ref (bd 8), .int (nI ef), .int (nI ec), .int (nI fu), .ref (bd 9)])), (bd 1, .inl (cI, 292, .inl (upd (wp_p f u16.2 a) a 0))), (bd 2, .inl (cI, 12, .inl fd)), (bd 3, .inl (cI, 13, .inl u16.1.2.1)), (bd 4, .inl (cI, 13, .inl u16.1.2.2.1)), (bd 5, .inl (cI, 13, .inl u16.1.2.2.2.1)), (bd 6, .inl (cI, 8, .inl Y)), (bd 7, .inl (cI, 8, .inl Z)), (bd 8, .inl (cZ, 8, .inl X)), (bd 9, .inl (cI, 40, .inl g))] H := hP
          have hD : va_D A [(bd 0, .inr (5, [.ref (bd 1), .int (nI clk), .int 1, .int lf, .ref (bd 2), .int (nI fc), .int (nI u16.2), .int (nI u16.1.1), .ref (bd 3), .ref (bd 4), .ref (bd 5), .int (nI st), .ref (bd 6), .ref (bd 7), .ref (bd 8), .int (nI ef), .int (nI ec), .int (nI fu), .ref (bd 9)])), (bd 1, .inl (cI, 292, .inl (upd (wp_p f u16.2 a) a 0))), (bd 2, .inl (cI, 12, .inl fd)), (bd 3, .inl (cI, 13, .inl u16.1.2.1)), (bd 4, .inl (cI, 13, .inl u16.1.2.2.1)), (bd 5, .inl (cI, 13, .inl u16.1.2.2.2.1)), (bd 6, .inl (cI, 8, .inl Y)), (bd 7, .inl (cI, 8, .inl Z)), (bd 8, .inl (cZ, 8, .inl X)), (bd 9, .inl (cI, 40, .inl g))] := hD
          rw [show upd (wp_p f u16.2 a) a 0 = wp_p f u16.2 (a + 1) from (wp_p_s f (by omega))] at hP hD
          have hP : va_P (dC, dI) vwCl [(bd 0, .inr (5, [.ref (bd 1), .int (nI clk), .int 1, .int lf, .ref (bd 2), .int (nI fc), .int (nI u16.2), .int (nI u16.1.1), .ref (bd 3), .ref (bd 4), .ref (bd 5), .int (nI st), .ref (bd 6), .ref (bd 7), .ref (bd 8), .int (nI ef), .int (nI ec), .int (nI fu), .ref (bd 9)])), (bd 1, .inl (cI, 292, .inl (wp_p f u16.2 (a + 1)))), (bd 2, .inl (cI, 12, .inl fd)), (bd 3, .inl (cI, 13, .inl u16.1.2.1)), (bd 4, .inl (cI, 13, .inl u16.1.2.2.1)), (bd 5, .inl (cI, 13, .inl u16.1.2.2.2.1)), (bd 6, .inl (cI, 8, .inl Y)), (bd 7, .inl (cI, 8, .inl Z)), (bd 8, .inl (cZ, 8, .inl X)), (bd 9, .inl (cI, 40, .inl g))] H := hP
          have hD : va_D A [(bd 0, .inr (5, [.ref (bd 1), .int (nI clk), .int 1, .int lf, .ref (bd 2), .int (nI fc), .int (nI u16.2), .int (nI u16.1.1), .ref (bd 3), .ref (bd 4), .ref (bd 5), .int (nI st), .ref (bd 6), .ref (bd 7), .ref (bd 8), .int (nI ef), .int (nI ec), .int (nI fu), .ref (bd 9)])), (bd 1, .inl (cI, 292, .inl (wp_p f u16.2 (a + 1)))), (bd 2, .inl (cI, 12, .inl fd)), (bd 3, .inl (cI, 13, .inl u16.1.2.1)), (bd 4, .inl (cI, 13, .inl u16.1.2.2.1)), (bd 5, .inl (cI, 13, .inl u16.1.2.2.2.1)), (bd 6, .inl (cI, 8, .inl Y)), (bd 7, .inl (cI, 8, .inl Z)), (bd 8, .inl (cZ, 8, .inl X)), (bd 9, .inl (cI, 40, .inl g))] := hD
          refine lv_iinc (lv' := [(2, .int (nI (a + 1))), (0, .ref (bd 0)), (1, .int 1)]) (v := (nI (a + 1))) (k := 2) hx hb dn_M_power_45 hl rfl (nI_add a 1) (by decide) rfl (fun ls hl => ?_)
          refine lv_goto (tgt := 31) hx hb dn_M_power_48 (by decide) ?_
          exact ih31 (280 - (a + 1)) (by omega) (a + 1) ls H locs rfl (lv_sub hl [1, 2, 0] rfl) hP hD hS (by omega) (by omega)
    exact lp31 _ (7 * u16.2) ls H locs rfl (lv_sub hl [1, 2, 0] rfl) hP hD hS (Nat.le_refl _) (by omega)
  · skip
    refine lv_aload_n hx hb dn_M_power_0 rfl (lv_at hl 0 rfl) ?_
    refine va_get (D := (dC, dI)) (ci := 5) (v := .int 1) (C := rn_M) (T := tn_M) (N := 19) hx hb hw ml_M hown hK hP 0 rfl rfl 2 (by decide) (hw _ mw_475) (fun _ h9 => h9) rfl dn_M_power_1 ?_
    refine lv_iload_n hx hb dn_M_power_4 rfl (lv_at hl 1 rfl) ?_
    refine lv_icmp_ne (tgt := 10) hx hb dn_M_power_5 (by decide) (fun h => absurd h (by decide)) (fun _ => ?_)
    refine lv_iconst (v := (-1)) hx hb dn_M_power_8 (by decide) ?_
    have hP : va_P (dC, dI) vwCl [(bd 0, .inr (5, [.ref (bd 1), .int (nI clk), .int 1, .int lf, .ref (bd 2), .int (nI fc), .int (nI sn), .int (nI ob), .ref (bd 3), .ref (bd 4), .ref (bd 5), .int (nI st), .ref (bd 6), .ref (bd 7), .ref (bd 8), .int (nI ef), .int (nI ec), .int (nI fu), .ref (bd 9)])), (bd 1, .inl (cI, 292, .inl (nx_pow f clk 1 1))), (bd 2, .inl (cI, 12, .inl fd)), (bd 3, .inl (cI, 13, .inl S)), (bd 4, .inl (cI, 13, .inl D)), (bd 5, .inl (cI, 13, .inl G)), (bd 6, .inl (cI, 8, .inl Y)), (bd 7, .inl (cI, 8, .inl Z)), (bd 8, .inl (cZ, 8, .inl X)), (bd 9, .inl (cI, 40, .inl g))] H := by rw [← (po_same (f := f) (clk := clk) (on := 1) (pw := 1) rfl).2]; exact hP
    have hD : va_D A [(bd 0, .inr (5, [.ref (bd 1), .int (nI clk), .int 1, .int lf, .ref (bd 2), .int (nI fc), .int (nI sn), .int (nI ob), .ref (bd 3), .ref (bd 4), .ref (bd 5), .int (nI st), .ref (bd 6), .ref (bd 7), .ref (bd 8), .int (nI ef), .int (nI ec), .int (nI fu), .ref (bd 9)])), (bd 1, .inl (cI, 292, .inl (nx_pow f clk 1 1))), (bd 2, .inl (cI, 12, .inl fd)), (bd 3, .inl (cI, 13, .inl S)), (bd 4, .inl (cI, 13, .inl D)), (bd 5, .inl (cI, 13, .inl G)), (bd 6, .inl (cI, 8, .inl Y)), (bd 7, .inl (cI, 8, .inl Z)), (bd 8, .inl (cZ, 8, .inl X)), (bd 9, .inl (cI, 40, .inl g))] := by rw [← (po_same (f := f) (clk := clk) (on := 1) (pw := 1) rfl).2]; exact hD
    exact hret (-1) ((ob, S, D, G, S), sn) _ _ _ _ (po_same (f := f) (clk := clk) (on := 1) (pw := 1) rfl).1 rfl hP hD hS dn_M_power_9
