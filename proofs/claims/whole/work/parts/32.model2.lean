theorem dn_M_rule_0 : decode cn_M_rule 0 = .ok (.iload_n 1, 1) := by decide +kernel
theorem dn_M_rule_1 : decode cn_M_rule 1 = .ok (.iconst 1, 1) := by decide +kernel
theorem dn_M_rule_2 : decode cn_M_rule 2 = .ok (.if_icmp .eq 8, 3) := by decide +kernel
theorem dn_M_rule_5 : decode cn_M_rule 5 = .ok (.iload_n 1, 1) := by decide +kernel
theorem dn_M_rule_6 : decode cn_M_rule 6 = .ok (.iconst 2, 1) := by decide +kernel
theorem dn_M_rule_7 : decode cn_M_rule 7 = .ok (.if_icmp .ne 15, 3) := by decide +kernel
theorem dn_M_rule_10 : decode cn_M_rule 10 = .ok (.iload_n 3, 1) := by decide +kernel
theorem dn_M_rule_11 : decode cn_M_rule 11 = .ok (.ifCond .lt 9, 3) := by decide +kernel
theorem dn_M_rule_14 : decode cn_M_rule 14 = .ok (.iload_n 3, 1) := by decide +kernel
theorem dn_M_rule_15 : decode cn_M_rule 15 = .ok (.ldc 82, 2) := by decide +kernel
theorem dn_M_rule_17 : decode cn_M_rule 17 = .ok (.if_icmp .le 5, 3) := by decide +kernel
theorem dn_M_rule_20 : decode cn_M_rule 20 = .ok (.iconst (-1), 1) := by decide +kernel
theorem dn_M_rule_21 : decode cn_M_rule 21 = .ok (.ireturn, 1) := by decide +kernel
theorem dn_M_rule_22 : decode cn_M_rule 22 = .ok (.iload_n 1, 1) := by decide +kernel
theorem dn_M_rule_23 : decode cn_M_rule 23 = .ok (.iconst 3, 1) := by decide +kernel
theorem dn_M_rule_24 : decode cn_M_rule 24 = .ok (.if_icmp .eq 8, 3) := by decide +kernel
theorem dn_M_rule_27 : decode cn_M_rule 27 = .ok (.iload_n 1, 1) := by decide +kernel
theorem dn_M_rule_28 : decode cn_M_rule 28 = .ok (.iconst 4, 1) := by decide +kernel
theorem dn_M_rule_29 : decode cn_M_rule 29 = .ok (.if_icmp .ne 15, 3) := by decide +kernel
theorem dn_M_rule_32 : decode cn_M_rule 32 = .ok (.iload_n 3, 1) := by decide +kernel
theorem dn_M_rule_33 : decode cn_M_rule 33 = .ok (.ifCond .lt 9, 3) := by decide +kernel
theorem dn_M_rule_36 : decode cn_M_rule 36 = .ok (.iload_n 3, 1) := by decide +kernel
theorem dn_M_rule_37 : decode cn_M_rule 37 = .ok (.bipush 7, 2) := by decide +kernel
theorem dn_M_rule_39 : decode cn_M_rule 39 = .ok (.if_icmp .le 5, 3) := by decide +kernel
theorem dn_M_rule_42 : decode cn_M_rule 42 = .ok (.iconst (-1), 1) := by decide +kernel
theorem dn_M_rule_43 : decode cn_M_rule 43 = .ok (.ireturn, 1) := by decide +kernel
theorem dn_M_rule_44 : decode cn_M_rule 44 = .ok (.iload_n 1, 1) := by decide +kernel
theorem dn_M_rule_45 : decode cn_M_rule 45 = .ok (.iconst 1, 1) := by decide +kernel
theorem dn_M_rule_46 : decode cn_M_rule 46 = .ok (.if_icmp .ne 30, 3) := by decide +kernel
theorem dn_M_rule_49 : decode cn_M_rule 49 = .ok (.iload_n 3, 1) := by decide +kernel
theorem dn_M_rule_50 : decode cn_M_rule 50 = .ok (.iload 4, 2) := by decide +kernel
theorem dn_M_rule_52 : decode cn_M_rule 52 = .ok (.if_icmp .ge 8, 3) := by decide +kernel
theorem dn_M_rule_55 : decode cn_M_rule 55 = .ok (.bipush (-4), 2) := by decide +kernel
theorem dn_M_rule_57 : decode cn_M_rule 57 = .ok (.goto 18, 3) := by decide +kernel
theorem dn_M_rule_60 : decode cn_M_rule 60 = .ok (.aload_n 0, 1) := by decide +kernel
theorem dn_M_rule_61 : decode cn_M_rule 61 = .ok (.getfield 83, 3) := by decide +kernel
theorem dn_M_rule_64 : decode cn_M_rule 64 = .ok (.bipush 12, 2) := by decide +kernel
theorem dn_M_rule_66 : decode cn_M_rule 66 = .ok (.if_icmp .lt 8, 3) := by decide +kernel
theorem dn_M_rule_69 : decode cn_M_rule 69 = .ok (.bipush (-8), 2) := by decide +kernel
theorem dn_M_rule_71 : decode cn_M_rule 71 = .ok (.goto 4, 3) := by decide +kernel
theorem dn_M_rule_74 : decode cn_M_rule 74 = .ok (.iconst 0, 1) := by decide +kernel
theorem dn_M_rule_75 : decode cn_M_rule 75 = .ok (.ireturn, 1) := by decide +kernel
theorem dn_M_rule_76 : decode cn_M_rule 76 = .ok (.iload_n 2, 1) := by decide +kernel
theorem dn_M_rule_77 : decode cn_M_rule 77 = .ok (.iconst 1, 1) := by decide +kernel
theorem dn_M_rule_78 : decode cn_M_rule 78 = .ok (.if_icmp .lt 11, 3) := by decide +kernel
theorem dn_M_rule_81 : decode cn_M_rule 81 = .ok (.iload_n 2, 1) := by decide +kernel
theorem dn_M_rule_82 : decode cn_M_rule 82 = .ok (.aload_n 0, 1) := by decide +kernel
theorem dn_M_rule_83 : decode cn_M_rule 83 = .ok (.getfield 83, 3) := by decide +kernel
theorem dn_M_rule_86 : decode cn_M_rule 86 = .ok (.if_icmp .le 6, 3) := by decide +kernel
theorem dn_M_rule_89 : decode cn_M_rule 89 = .ok (.bipush (-2), 2) := by decide +kernel
theorem dn_M_rule_91 : decode cn_M_rule 91 = .ok (.ireturn, 1) := by decide +kernel
theorem dn_M_rule_92 : decode cn_M_rule 92 = .ok (.iload_n 1, 1) := by decide +kernel
theorem dn_M_rule_93 : decode cn_M_rule 93 = .ok (.bipush 6, 2) := by decide +kernel
theorem dn_M_rule_95 : decode cn_M_rule 95 = .ok (.if_icmp .ne 16, 3) := by decide +kernel
theorem dn_M_rule_98 : decode cn_M_rule 98 = .ok (.aload_n 0, 1) := by decide +kernel
theorem dn_M_rule_99 : decode cn_M_rule 99 = .ok (.getfield 16, 3) := by decide +kernel
theorem dn_M_rule_102 : decode cn_M_rule 102 = .ok (.iload_n 2, 1) := by decide +kernel
theorem dn_M_rule_103 : decode cn_M_rule 103 = .ok (.iaload, 1) := by decide +kernel
theorem dn_M_rule_104 : decode cn_M_rule 104 = .ok (.iconst 3, 1) := by decide +kernel
theorem dn_M_rule_105 : decode cn_M_rule 105 = .ok (.if_icmp .ne 19, 3) := by decide +kernel
theorem dn_M_rule_108 : decode cn_M_rule 108 = .ok (.goto 13, 3) := by decide +kernel
theorem dn_M_rule_111 : decode cn_M_rule 111 = .ok (.aload_n 0, 1) := by decide +kernel
theorem dn_M_rule_112 : decode cn_M_rule 112 = .ok (.getfield 16, 3) := by decide +kernel
theorem dn_M_rule_115 : decode cn_M_rule 115 = .ok (.iload_n 2, 1) := by decide +kernel
theorem dn_M_rule_116 : decode cn_M_rule 116 = .ok (.iaload, 1) := by decide +kernel
theorem dn_M_rule_117 : decode cn_M_rule 117 = .ok (.iconst 1, 1) := by decide +kernel
theorem dn_M_rule_118 : decode cn_M_rule 118 = .ok (.if_icmp .eq 6, 3) := by decide +kernel
theorem dn_M_rule_121 : decode cn_M_rule 121 = .ok (.bipush (-3), 2) := by decide +kernel
theorem dn_M_rule_123 : decode cn_M_rule 123 = .ok (.ireturn, 1) := by decide +kernel
theorem dn_M_rule_124 : decode cn_M_rule 124 = .ok (.iload_n 1, 1) := by decide +kernel
theorem dn_M_rule_125 : decode cn_M_rule 125 = .ok (.iconst 2, 1) := by decide +kernel
theorem dn_M_rule_126 : decode cn_M_rule 126 = .ok (.if_icmp .ne 20, 3) := by decide +kernel
theorem dn_M_rule_129 : decode cn_M_rule 129 = .ok (.iload_n 3, 1) := by decide +kernel
theorem dn_M_rule_130 : decode cn_M_rule 130 = .ok (.aload_n 0, 1) := by decide +kernel
theorem dn_M_rule_131 : decode cn_M_rule 131 = .ok (.getfield 19, 3) := by decide +kernel
theorem dn_M_rule_134 : decode cn_M_rule 134 = .ok (.iload_n 2, 1) := by decide +kernel
theorem dn_M_rule_135 : decode cn_M_rule 135 = .ok (.iaload, 1) := by decide +kernel
theorem dn_M_rule_136 : decode cn_M_rule 136 = .ok (.if_icmp .gt 8, 3) := by decide +kernel
theorem dn_M_rule_139 : decode cn_M_rule 139 = .ok (.bipush (-4), 2) := by decide +kernel
theorem dn_M_rule_141 : decode cn_M_rule 141 = .ok (.goto 4, 3) := by decide +kernel
theorem dn_M_rule_144 : decode cn_M_rule 144 = .ok (.iconst 0, 1) := by decide +kernel
theorem dn_M_rule_145 : decode cn_M_rule 145 = .ok (.ireturn, 1) := by decide +kernel
theorem dn_M_rule_146 : decode cn_M_rule 146 = .ok (.iload_n 1, 1) := by decide +kernel
theorem dn_M_rule_147 : decode cn_M_rule 147 = .ok (.iconst 5, 1) := by decide +kernel
theorem dn_M_rule_148 : decode cn_M_rule 148 = .ok (.if_icmp .lt 35, 3) := by decide +kernel
theorem dn_M_rule_151 : decode cn_M_rule 151 = .ok (.aload_n 0, 1) := by decide +kernel
theorem dn_M_rule_152 : decode cn_M_rule 152 = .ok (.getfield 22, 3) := by decide +kernel
theorem dn_M_rule_155 : decode cn_M_rule 155 = .ok (.iload_n 2, 1) := by decide +kernel
theorem dn_M_rule_156 : decode cn_M_rule 156 = .ok (.iaload, 1) := by decide +kernel
theorem dn_M_rule_157 : decode cn_M_rule 157 = .ok (.ifCond .eq 8, 3) := by decide +kernel
theorem dn_M_rule_160 : decode cn_M_rule 160 = .ok (.bipush (-6), 2) := by decide +kernel
theorem dn_M_rule_162 : decode cn_M_rule 162 = .ok (.goto 20, 3) := by decide +kernel
theorem dn_M_rule_165 : decode cn_M_rule 165 = .ok (.iload 4, 2) := by decide +kernel
theorem dn_M_rule_167 : decode cn_M_rule 167 = .ok (.aload_n 0, 1) := by decide +kernel
theorem dn_M_rule_168 : decode cn_M_rule 168 = .ok (.getfield 19, 3) := by decide +kernel
theorem dn_M_rule_171 : decode cn_M_rule 171 = .ok (.iload_n 2, 1) := by decide +kernel
theorem dn_M_rule_172 : decode cn_M_rule 172 = .ok (.iaload, 1) := by decide +kernel
theorem dn_M_rule_173 : decode cn_M_rule 173 = .ok (.if_icmp .ge 8, 3) := by decide +kernel
theorem dn_M_rule_176 : decode cn_M_rule 176 = .ok (.bipush (-7), 2) := by decide +kernel
theorem dn_M_rule_178 : decode cn_M_rule 178 = .ok (.goto 4, 3) := by decide +kernel
theorem dn_M_rule_181 : decode cn_M_rule 181 = .ok (.iconst 0, 1) := by decide +kernel
theorem dn_M_rule_182 : decode cn_M_rule 182 = .ok (.ireturn, 1) := by decide +kernel
theorem dn_M_rule_183 : decode cn_M_rule 183 = .ok (.aload_n 0, 1) := by decide +kernel
theorem dn_M_rule_184 : decode cn_M_rule 184 = .ok (.getfield 22, 3) := by decide +kernel
theorem dn_M_rule_187 : decode cn_M_rule 187 = .ok (.iload_n 2, 1) := by decide +kernel
theorem dn_M_rule_188 : decode cn_M_rule 188 = .ok (.iaload, 1) := by decide +kernel
theorem dn_M_rule_189 : decode cn_M_rule 189 = .ok (.iload_n 3, 1) := by decide +kernel
theorem dn_M_rule_190 : decode cn_M_rule 190 = .ok (.ishr, 1) := by decide +kernel
theorem dn_M_rule_191 : decode cn_M_rule 191 = .ok (.iconst 2, 1) := by decide +kernel
theorem dn_M_rule_192 : decode cn_M_rule 192 = .ok (.irem, 1) := by decide +kernel
theorem dn_M_rule_193 : decode cn_M_rule 193 = .ok (.iconst 1, 1) := by decide +kernel
theorem dn_M_rule_194 : decode cn_M_rule 194 = .ok (.if_icmp .ne 7, 3) := by decide +kernel
theorem dn_M_rule_197 : decode cn_M_rule 197 = .ok (.iconst 1, 1) := by decide +kernel
theorem dn_M_rule_198 : decode cn_M_rule 198 = .ok (.goto 4, 3) := by decide +kernel
theorem dn_M_rule_201 : decode cn_M_rule 201 = .ok (.iconst 0, 1) := by decide +kernel
theorem dn_M_rule_202 : decode cn_M_rule 202 = .ok (.istore 5, 2) := by decide +kernel
theorem dn_M_rule_204 : decode cn_M_rule 204 = .ok (.iload 5, 2) := by decide +kernel
theorem dn_M_rule_206 : decode cn_M_rule 206 = .ok (.iload_n 1, 1) := by decide +kernel
theorem dn_M_rule_207 : decode cn_M_rule 207 = .ok (.iconst 3, 1) := by decide +kernel
theorem dn_M_rule_208 : decode cn_M_rule 208 = .ok (.if_icmp .ne 7, 3) := by decide +kernel
theorem dn_M_rule_211 : decode cn_M_rule 211 = .ok (.iconst 1, 1) := by decide +kernel
theorem dn_M_rule_212 : decode cn_M_rule 212 = .ok (.goto 4, 3) := by decide +kernel
theorem dn_M_rule_215 : decode cn_M_rule 215 = .ok (.iconst 0, 1) := by decide +kernel
theorem dn_M_rule_216 : decode cn_M_rule 216 = .ok (.if_icmp .ne 8, 3) := by decide +kernel
theorem dn_M_rule_219 : decode cn_M_rule 219 = .ok (.bipush (-5), 2) := by decide +kernel
theorem dn_M_rule_221 : decode cn_M_rule 221 = .ok (.goto 4, 3) := by decide +kernel
theorem dn_M_rule_224 : decode cn_M_rule 224 = .ok (.iconst 0, 1) := by decide +kernel
theorem dn_M_rule_225 : decode cn_M_rule 225 = .ok (.ireturn, 1) := by decide +kernel
theorem dn_M_apply_0 : decode cn_M_apply 0 = .ok (.iload_n 1, 1) := by decide +kernel
theorem dn_M_apply_1 : decode cn_M_apply 1 = .ok (.iconst 1, 1) := by decide +kernel
theorem dn_M_apply_2 : decode cn_M_apply 2 = .ok (.if_icmp .ne 46, 3) := by decide +kernel
theorem dn_M_apply_5 : decode cn_M_apply 5 = .ok (.aload_n 0, 1) := by decide +kernel
theorem dn_M_apply_6 : decode cn_M_apply 6 = .ok (.aload_n 0, 1) := by decide +kernel
theorem dn_M_apply_7 : decode cn_M_apply 7 = .ok (.getfield 83, 3) := by decide +kernel
theorem dn_M_apply_10 : decode cn_M_apply 10 = .ok (.iconst 1, 1) := by decide +kernel
theorem dn_M_apply_11 : decode cn_M_apply 11 = .ok (.iadd, 1) := by decide +kernel
theorem dn_M_apply_12 : decode cn_M_apply 12 = .ok (.putfield 83, 3) := by decide +kernel
theorem dn_M_apply_15 : decode cn_M_apply 15 = .ok (.aload_n 0, 1) := by decide +kernel
theorem dn_M_apply_16 : decode cn_M_apply 16 = .ok (.getfield 16, 3) := by decide +kernel
theorem dn_M_apply_19 : decode cn_M_apply 19 = .ok (.aload_n 0, 1) := by decide +kernel
theorem dn_M_apply_20 : decode cn_M_apply 20 = .ok (.getfield 83, 3) := by decide +kernel
theorem dn_M_apply_23 : decode cn_M_apply 23 = .ok (.iconst 1, 1) := by decide +kernel
theorem dn_M_apply_24 : decode cn_M_apply 24 = .ok (.iastore, 1) := by decide +kernel
theorem dn_M_apply_25 : decode cn_M_apply 25 = .ok (.aload_n 0, 1) := by decide +kernel
theorem dn_M_apply_26 : decode cn_M_apply 26 = .ok (.getfield 19, 3) := by decide +kernel
theorem dn_M_apply_29 : decode cn_M_apply 29 = .ok (.aload_n 0, 1) := by decide +kernel
theorem dn_M_apply_30 : decode cn_M_apply 30 = .ok (.getfield 83, 3) := by decide +kernel
theorem dn_M_apply_33 : decode cn_M_apply 33 = .ok (.iload_n 3, 1) := by decide +kernel
theorem dn_M_apply_34 : decode cn_M_apply 34 = .ok (.iastore, 1) := by decide +kernel
theorem dn_M_apply_35 : decode cn_M_apply 35 = .ok (.aload_n 0, 1) := by decide +kernel
theorem dn_M_apply_36 : decode cn_M_apply 36 = .ok (.getfield 22, 3) := by decide +kernel
theorem dn_M_apply_39 : decode cn_M_apply 39 = .ok (.aload_n 0, 1) := by decide +kernel
theorem dn_M_apply_40 : decode cn_M_apply 40 = .ok (.getfield 83, 3) := by decide +kernel
theorem dn_M_apply_43 : decode cn_M_apply 43 = .ok (.iconst 0, 1) := by decide +kernel
theorem dn_M_apply_44 : decode cn_M_apply 44 = .ok (.iastore, 1) := by decide +kernel
theorem dn_M_apply_45 : decode cn_M_apply 45 = .ok (.goto 75, 3) := by decide +kernel
theorem dn_M_apply_48 : decode cn_M_apply 48 = .ok (.iload_n 1, 1) := by decide +kernel
theorem dn_M_apply_49 : decode cn_M_apply 49 = .ok (.iconst 2, 1) := by decide +kernel
theorem dn_M_apply_50 : decode cn_M_apply 50 = .ok (.if_icmp .ne 13, 3) := by decide +kernel
theorem dn_M_apply_53 : decode cn_M_apply 53 = .ok (.aload_n 0, 1) := by decide +kernel
theorem dn_M_apply_54 : decode cn_M_apply 54 = .ok (.getfield 19, 3) := by decide +kernel
theorem dn_M_apply_57 : decode cn_M_apply 57 = .ok (.iload_n 2, 1) := by decide +kernel
theorem dn_M_apply_58 : decode cn_M_apply 58 = .ok (.iload_n 3, 1) := by decide +kernel
theorem dn_M_apply_59 : decode cn_M_apply 59 = .ok (.iastore, 1) := by decide +kernel
theorem dn_M_apply_60 : decode cn_M_apply 60 = .ok (.goto 60, 3) := by decide +kernel
theorem dn_M_apply_63 : decode cn_M_apply 63 = .ok (.iload_n 1, 1) := by decide +kernel
theorem dn_M_apply_64 : decode cn_M_apply 64 = .ok (.iconst 3, 1) := by decide +kernel
theorem dn_M_apply_65 : decode cn_M_apply 65 = .ok (.if_icmp .ne 22, 3) := by decide +kernel
theorem dn_M_apply_68 : decode cn_M_apply 68 = .ok (.aload_n 0, 1) := by decide +kernel
theorem dn_M_apply_69 : decode cn_M_apply 69 = .ok (.getfield 22, 3) := by decide +kernel
theorem dn_M_apply_72 : decode cn_M_apply 72 = .ok (.iload_n 2, 1) := by decide +kernel
theorem dn_M_apply_73 : decode cn_M_apply 73 = .ok (.aload_n 0, 1) := by decide +kernel
theorem dn_M_apply_74 : decode cn_M_apply 74 = .ok (.getfield 22, 3) := by decide +kernel
theorem dn_M_apply_77 : decode cn_M_apply 77 = .ok (.iload_n 2, 1) := by decide +kernel
theorem dn_M_apply_78 : decode cn_M_apply 78 = .ok (.iaload, 1) := by decide +kernel
theorem dn_M_apply_79 : decode cn_M_apply 79 = .ok (.iconst 1, 1) := by decide +kernel
theorem dn_M_apply_80 : decode cn_M_apply 80 = .ok (.iload_n 3, 1) := by decide +kernel
theorem dn_M_apply_81 : decode cn_M_apply 81 = .ok (.ishl, 1) := by decide +kernel
theorem dn_M_apply_82 : decode cn_M_apply 82 = .ok (.iadd, 1) := by decide +kernel
theorem dn_M_apply_83 : decode cn_M_apply 83 = .ok (.iastore, 1) := by decide +kernel
theorem dn_M_apply_84 : decode cn_M_apply 84 = .ok (.goto 36, 3) := by decide +kernel
theorem dn_M_apply_87 : decode cn_M_apply 87 = .ok (.iload_n 1, 1) := by decide +kernel
theorem dn_M_apply_88 : decode cn_M_apply 88 = .ok (.iconst 4, 1) := by decide +kernel
theorem dn_M_apply_89 : decode cn_M_apply 89 = .ok (.if_icmp .ne 22, 3) := by decide +kernel
theorem dn_M_apply_92 : decode cn_M_apply 92 = .ok (.aload_n 0, 1) := by decide +kernel
theorem dn_M_apply_93 : decode cn_M_apply 93 = .ok (.getfield 22, 3) := by decide +kernel
theorem dn_M_apply_96 : decode cn_M_apply 96 = .ok (.iload_n 2, 1) := by decide +kernel
theorem dn_M_apply_97 : decode cn_M_apply 97 = .ok (.aload_n 0, 1) := by decide +kernel
theorem dn_M_apply_98 : decode cn_M_apply 98 = .ok (.getfield 22, 3) := by decide +kernel
theorem dn_M_apply_101 : decode cn_M_apply 101 = .ok (.iload_n 2, 1) := by decide +kernel
theorem dn_M_apply_102 : decode cn_M_apply 102 = .ok (.iaload, 1) := by decide +kernel
theorem dn_M_apply_103 : decode cn_M_apply 103 = .ok (.iconst 1, 1) := by decide +kernel
theorem dn_M_apply_104 : decode cn_M_apply 104 = .ok (.iload_n 3, 1) := by decide +kernel
theorem dn_M_apply_105 : decode cn_M_apply 105 = .ok (.ishl, 1) := by decide +kernel
theorem dn_M_apply_106 : decode cn_M_apply 106 = .ok (.isub, 1) := by decide +kernel
theorem dn_M_apply_107 : decode cn_M_apply 107 = .ok (.iastore, 1) := by decide +kernel
theorem dn_M_apply_108 : decode cn_M_apply 108 = .ok (.goto 12, 3) := by decide +kernel
theorem dn_M_apply_111 : decode cn_M_apply 111 = .ok (.aload_n 0, 1) := by decide +kernel
theorem dn_M_apply_112 : decode cn_M_apply 112 = .ok (.getfield 16, 3) := by decide +kernel
theorem dn_M_apply_115 : decode cn_M_apply 115 = .ok (.iload_n 2, 1) := by decide +kernel
theorem dn_M_apply_116 : decode cn_M_apply 116 = .ok (.iload_n 1, 1) := by decide +kernel
theorem dn_M_apply_117 : decode cn_M_apply 117 = .ok (.iconst 3, 1) := by decide +kernel
theorem dn_M_apply_118 : decode cn_M_apply 118 = .ok (.isub, 1) := by decide +kernel
theorem dn_M_apply_119 : decode cn_M_apply 119 = .ok (.iastore, 1) := by decide +kernel
theorem dn_M_apply_120 : decode cn_M_apply 120 = .ok (.return_, 1) := by decide +kernel
theorem dn_M_soundNext_0 : decode cn_M_soundNext 0 = .ok (.bipush 7, 2) := by decide +kernel
theorem dn_M_soundNext_2 : decode cn_M_soundNext 2 = .ok (.iload_n 1, 1) := by decide +kernel
theorem dn_M_soundNext_3 : decode cn_M_soundNext 3 = .ok (.imul, 1) := by decide +kernel
theorem dn_M_soundNext_4 : decode cn_M_soundNext 4 = .ok (.istore_n 3, 1) := by decide +kernel
theorem dn_M_soundNext_5 : decode cn_M_soundNext 5 = .ok (.aload_n 0, 1) := by decide +kernel
theorem dn_M_soundNext_6 : decode cn_M_soundNext 6 = .ok (.getfield 7, 3) := by decide +kernel
theorem dn_M_soundNext_9 : decode cn_M_soundNext 9 = .ok (.iload_n 3, 1) := by decide +kernel
theorem dn_M_soundNext_10 : decode cn_M_soundNext 10 = .ok (.iaload, 1) := by decide +kernel
theorem dn_M_soundNext_11 : decode cn_M_soundNext 11 = .ok (.istore 4, 2) := by decide +kernel
theorem dn_M_soundNext_13 : decode cn_M_soundNext 13 = .ok (.aload_n 0, 1) := by decide +kernel
theorem dn_M_soundNext_14 : decode cn_M_soundNext 14 = .ok (.getfield 7, 3) := by decide +kernel
theorem dn_M_soundNext_17 : decode cn_M_soundNext 17 = .ok (.iload_n 3, 1) := by decide +kernel
theorem dn_M_soundNext_18 : decode cn_M_soundNext 18 = .ok (.iconst 1, 1) := by decide +kernel
theorem dn_M_soundNext_19 : decode cn_M_soundNext 19 = .ok (.iadd, 1) := by decide +kernel
theorem dn_M_soundNext_20 : decode cn_M_soundNext 20 = .ok (.iaload, 1) := by decide +kernel
theorem dn_M_soundNext_21 : decode cn_M_soundNext 21 = .ok (.istore 5, 2) := by decide +kernel
theorem dn_M_soundNext_23 : decode cn_M_soundNext 23 = .ok (.aload_n 0, 1) := by decide +kernel
theorem dn_M_soundNext_24 : decode cn_M_soundNext 24 = .ok (.getfield 7, 3) := by decide +kernel
theorem dn_M_soundNext_27 : decode cn_M_soundNext 27 = .ok (.iload_n 3, 1) := by decide +kernel
theorem dn_M_soundNext_28 : decode cn_M_soundNext 28 = .ok (.iconst 2, 1) := by decide +kernel
theorem dn_M_soundNext_29 : decode cn_M_soundNext 29 = .ok (.iadd, 1) := by decide +kernel
theorem dn_M_soundNext_30 : decode cn_M_soundNext 30 = .ok (.iaload, 1) := by decide +kernel
theorem dn_M_soundNext_31 : decode cn_M_soundNext 31 = .ok (.istore 6, 2) := by decide +kernel
theorem dn_M_soundNext_33 : decode cn_M_soundNext 33 = .ok (.aload_n 0, 1) := by decide +kernel
theorem dn_M_soundNext_34 : decode cn_M_soundNext 34 = .ok (.iload_n 1, 1) := by decide +kernel
theorem dn_M_soundNext_35 : decode cn_M_soundNext 35 = .ok (.invokevirtual 51, 3) := by decide +kernel
theorem dn_M_soundNext_38 : decode cn_M_soundNext 38 = .ok (.istore 7, 2) := by decide +kernel
theorem dn_M_soundNext_40 : decode cn_M_soundNext 40 = .ok (.aload_n 0, 1) := by decide +kernel
theorem dn_M_soundNext_41 : decode cn_M_soundNext 41 = .ok (.getfield 7, 3) := by decide +kernel
theorem dn_M_soundNext_44 : decode cn_M_soundNext 44 = .ok (.iload_n 3, 1) := by decide +kernel
theorem dn_M_soundNext_45 : decode cn_M_soundNext 45 = .ok (.bipush 6, 2) := by decide +kernel
theorem dn_M_soundNext_47 : decode cn_M_soundNext 47 = .ok (.iadd, 1) := by decide +kernel
theorem dn_M_soundNext_48 : decode cn_M_soundNext 48 = .ok (.iaload, 1) := by decide +kernel
theorem dn_M_soundNext_49 : decode cn_M_soundNext 49 = .ok (.iload 7, 2) := by decide +kernel
theorem dn_M_soundNext_51 : decode cn_M_soundNext 51 = .ok (.iconst 1, 1) := by decide +kernel
theorem dn_M_soundNext_52 : decode cn_M_soundNext 52 = .ok (.ior, 1) := by decide +kernel
theorem dn_M_soundNext_53 : decode cn_M_soundNext 53 = .ok (.if_icmp .ne 43, 3) := by decide +kernel
theorem dn_M_soundNext_56 : decode cn_M_soundNext 56 = .ok (.iload 4, 2) := by decide +kernel
theorem dn_M_soundNext_58 : decode cn_M_soundNext 58 = .ok (.iconst 1, 1) := by decide +kernel
theorem dn_M_soundNext_59 : decode cn_M_soundNext 59 = .ok (.if_icmp .lt 37, 3) := by decide +kernel
theorem dn_M_soundNext_62 : decode cn_M_soundNext 62 = .ok (.iload 4, 2) := by decide +kernel
theorem dn_M_soundNext_64 : decode cn_M_soundNext 64 = .ok (.bipush 6, 2) := by decide +kernel
theorem dn_M_soundNext_66 : decode cn_M_soundNext 66 = .ok (.if_icmp .gt 30, 3) := by decide +kernel
theorem dn_M_soundNext_69 : decode cn_M_soundNext 69 = .ok (.aload_n 0, 1) := by decide +kernel
theorem dn_M_soundNext_70 : decode cn_M_soundNext 70 = .ok (.getfield 7, 3) := by decide +kernel
theorem dn_M_soundNext_73 : decode cn_M_soundNext 73 = .ok (.iload_n 3, 1) := by decide +kernel
theorem dn_M_soundNext_74 : decode cn_M_soundNext 74 = .ok (.iconst 5, 1) := by decide +kernel
theorem dn_M_soundNext_75 : decode cn_M_soundNext 75 = .ok (.iadd, 1) := by decide +kernel
theorem dn_M_soundNext_76 : decode cn_M_soundNext 76 = .ok (.iaload, 1) := by decide +kernel
theorem dn_M_soundNext_77 : decode cn_M_soundNext 77 = .ok (.iload_n 2, 1) := by decide +kernel
theorem dn_M_soundNext_78 : decode cn_M_soundNext 78 = .ok (.if_icmp .lt 18, 3) := by decide +kernel
theorem dn_M_soundNext_81 : decode cn_M_soundNext 81 = .ok (.aload_n 0, 1) := by decide +kernel
theorem dn_M_soundNext_82 : decode cn_M_soundNext 82 = .ok (.getfield 7, 3) := by decide +kernel
theorem dn_M_soundNext_85 : decode cn_M_soundNext 85 = .ok (.iload_n 3, 1) := by decide +kernel
theorem dn_M_soundNext_86 : decode cn_M_soundNext 86 = .ok (.iconst 5, 1) := by decide +kernel
theorem dn_M_soundNext_87 : decode cn_M_soundNext 87 = .ok (.iadd, 1) := by decide +kernel
theorem dn_M_soundNext_88 : decode cn_M_soundNext 88 = .ok (.iaload, 1) := by decide +kernel
theorem dn_M_soundNext_89 : decode cn_M_soundNext 89 = .ok (.aload_n 0, 1) := by decide +kernel
theorem dn_M_soundNext_90 : decode cn_M_soundNext 90 = .ok (.getfield 86, 3) := by decide +kernel
theorem dn_M_soundNext_93 : decode cn_M_soundNext 93 = .ok (.if_icmp .le 5, 3) := by decide +kernel
theorem dn_M_soundNext_96 : decode cn_M_soundNext 96 = .ok (.iconst 0, 1) := by decide +kernel
theorem dn_M_soundNext_97 : decode cn_M_soundNext 97 = .ok (.ireturn, 1) := by decide +kernel
theorem dn_M_soundNext_98 : decode cn_M_soundNext 98 = .ok (.iload 4, 2) := by decide +kernel
theorem dn_M_soundNext_100 : decode cn_M_soundNext 100 = .ok (.iconst 1, 1) := by decide +kernel
theorem dn_M_soundNext_101 : decode cn_M_soundNext 101 = .ok (.if_icmp .eq 27, 3) := by decide +kernel
theorem dn_M_soundNext_104 : decode cn_M_soundNext 104 = .ok (.aload_n 0, 1) := by decide +kernel
theorem dn_M_soundNext_105 : decode cn_M_soundNext 105 = .ok (.getfield 7, 3) := by decide +kernel
theorem dn_M_soundNext_108 : decode cn_M_soundNext 108 = .ok (.iload_n 3, 1) := by decide +kernel
theorem dn_M_soundNext_109 : decode cn_M_soundNext 109 = .ok (.iconst 3, 1) := by decide +kernel
theorem dn_M_soundNext_110 : decode cn_M_soundNext 110 = .ok (.iadd, 1) := by decide +kernel
theorem dn_M_soundNext_111 : decode cn_M_soundNext 111 = .ok (.iaload, 1) := by decide +kernel
theorem dn_M_soundNext_112 : decode cn_M_soundNext 112 = .ok (.ifCond .ne 14, 3) := by decide +kernel
theorem dn_M_soundNext_115 : decode cn_M_soundNext 115 = .ok (.aload_n 0, 1) := by decide +kernel
theorem dn_M_soundNext_116 : decode cn_M_soundNext 116 = .ok (.getfield 7, 3) := by decide +kernel
theorem dn_M_soundNext_119 : decode cn_M_soundNext 119 = .ok (.iload_n 3, 1) := by decide +kernel
theorem dn_M_soundNext_120 : decode cn_M_soundNext 120 = .ok (.iconst 4, 1) := by decide +kernel
theorem dn_M_soundNext_121 : decode cn_M_soundNext 121 = .ok (.iadd, 1) := by decide +kernel
theorem dn_M_soundNext_122 : decode cn_M_soundNext 122 = .ok (.iaload, 1) := by decide +kernel
theorem dn_M_soundNext_123 : decode cn_M_soundNext 123 = .ok (.ifCond .eq 5, 3) := by decide +kernel
theorem dn_M_soundNext_126 : decode cn_M_soundNext 126 = .ok (.iconst 0, 1) := by decide +kernel
theorem dn_M_soundNext_127 : decode cn_M_soundNext 127 = .ok (.ireturn, 1) := by decide +kernel
theorem dn_M_soundNext_128 : decode cn_M_soundNext 128 = .ok (.iload 4, 2) := by decide +kernel
theorem dn_M_soundNext_130 : decode cn_M_soundNext 130 = .ok (.iconst 5, 1) := by decide +kernel
theorem dn_M_soundNext_131 : decode cn_M_soundNext 131 = .ok (.if_icmp .lt 8, 3) := by decide +kernel
theorem dn_M_soundNext_134 : decode cn_M_soundNext 134 = .ok (.iload 6, 2) := by decide +kernel
theorem dn_M_soundNext_136 : decode cn_M_soundNext 136 = .ok (.ifCond .ne 20, 3) := by decide +kernel
theorem dn_M_soundNext_139 : decode cn_M_soundNext 139 = .ok (.iload 4, 2) := by decide +kernel
theorem dn_M_soundNext_141 : decode cn_M_soundNext 141 = .ok (.iconst 1, 1) := by decide +kernel
theorem dn_M_soundNext_142 : decode cn_M_soundNext 142 = .ok (.if_icmp .ne 16, 3) := by decide +kernel
theorem dn_M_soundNext_145 : decode cn_M_soundNext 145 = .ok (.iload 5, 2) := by decide +kernel
theorem dn_M_soundNext_147 : decode cn_M_soundNext 147 = .ok (.aload_n 0, 1) := by decide +kernel
theorem dn_M_soundNext_148 : decode cn_M_soundNext 148 = .ok (.getfield 83, 3) := by decide +kernel
theorem dn_M_soundNext_151 : decode cn_M_soundNext 151 = .ok (.iconst 1, 1) := by decide +kernel
theorem dn_M_soundNext_152 : decode cn_M_soundNext 152 = .ok (.iadd, 1) := by decide +kernel
theorem dn_M_soundNext_153 : decode cn_M_soundNext 153 = .ok (.if_icmp .eq 5, 3) := by decide +kernel
theorem dn_M_soundNext_156 : decode cn_M_soundNext 156 = .ok (.iconst 0, 1) := by decide +kernel
theorem dn_M_soundNext_157 : decode cn_M_soundNext 157 = .ok (.ireturn, 1) := by decide +kernel
theorem dn_M_soundNext_158 : decode cn_M_soundNext 158 = .ok (.aload_n 0, 1) := by decide +kernel
theorem dn_M_soundNext_159 : decode cn_M_soundNext 159 = .ok (.iload 4, 2) := by decide +kernel
theorem dn_M_soundNext_161 : decode cn_M_soundNext 161 = .ok (.iload 5, 2) := by decide +kernel
theorem dn_M_soundNext_163 : decode cn_M_soundNext 163 = .ok (.iload 6, 2) := by decide +kernel
theorem dn_M_soundNext_165 : decode cn_M_soundNext 165 = .ok (.aload_n 0, 1) := by decide +kernel
theorem dn_M_soundNext_166 : decode cn_M_soundNext 166 = .ok (.getfield 7, 3) := by decide +kernel
theorem dn_M_soundNext_169 : decode cn_M_soundNext 169 = .ok (.iload_n 3, 1) := by decide +kernel
theorem dn_M_soundNext_170 : decode cn_M_soundNext 170 = .ok (.iconst 5, 1) := by decide +kernel
theorem dn_M_soundNext_171 : decode cn_M_soundNext 171 = .ok (.iadd, 1) := by decide +kernel
theorem dn_M_soundNext_172 : decode cn_M_soundNext 172 = .ok (.iaload, 1) := by decide +kernel
theorem dn_M_soundNext_173 : decode cn_M_soundNext 173 = .ok (.invokevirtual 89, 3) := by decide +kernel
theorem dn_M_soundNext_176 : decode cn_M_soundNext 176 = .ok (.ifCond .ne 7, 3) := by decide +kernel
theorem dn_M_soundNext_179 : decode cn_M_soundNext 179 = .ok (.iconst 1, 1) := by decide +kernel
theorem dn_M_soundNext_180 : decode cn_M_soundNext 180 = .ok (.goto 4, 3) := by decide +kernel
theorem dn_M_soundNext_183 : decode cn_M_soundNext 183 = .ok (.iconst 0, 1) := by decide +kernel
theorem dn_M_soundNext_184 : decode cn_M_soundNext 184 = .ok (.ireturn, 1) := by decide +kernel
theorem dn_M_goThrough_0 : decode cn_M_goThrough 0 = .ok (.aload_n 0, 1) := by decide +kernel
theorem dn_M_goThrough_1 : decode cn_M_goThrough 1 = .ok (.iconst 0, 1) := by decide +kernel
theorem dn_M_goThrough_2 : decode cn_M_goThrough 2 = .ok (.putfield 93, 3) := by decide +kernel
theorem dn_M_goThrough_5 : decode cn_M_goThrough 5 = .ok (.aload_n 0, 1) := by decide +kernel
theorem dn_M_goThrough_6 : decode cn_M_goThrough 6 = .ok (.iconst 0, 1) := by decide +kernel
theorem dn_M_goThrough_7 : decode cn_M_goThrough 7 = .ok (.putfield 83, 3) := by decide +kernel
theorem dn_M_goThrough_10 : decode cn_M_goThrough 10 = .ok (.iconst 0, 1) := by decide +kernel
theorem dn_M_goThrough_11 : decode cn_M_goThrough 11 = .ok (.istore_n 1, 1) := by decide +kernel
theorem dn_M_goThrough_12 : decode cn_M_goThrough 12 = .ok (.iconst 1, 1) := by decide +kernel
theorem dn_M_goThrough_13 : decode cn_M_goThrough 13 = .ok (.istore_n 2, 1) := by decide +kernel
theorem dn_M_goThrough_14 : decode cn_M_goThrough 14 = .ok (.iload_n 2, 1) := by decide +kernel
theorem dn_M_goThrough_15 : decode cn_M_goThrough 15 = .ok (.ifCond .eq 98, 3) := by decide +kernel
theorem dn_M_goThrough_18 : decode cn_M_goThrough 18 = .ok (.aload_n 0, 1) := by decide +kernel
theorem dn_M_goThrough_19 : decode cn_M_goThrough 19 = .ok (.getfield 93, 3) := by decide +kernel
theorem dn_M_goThrough_22 : decode cn_M_goThrough 22 = .ok (.bipush 40, 2) := by decide +kernel
theorem dn_M_goThrough_24 : decode cn_M_goThrough 24 = .ok (.if_icmp .ge 89, 3) := by decide +kernel
theorem dn_M_goThrough_27 : decode cn_M_goThrough 27 = .ok (.aload_n 0, 1) := by decide +kernel
theorem dn_M_goThrough_28 : decode cn_M_goThrough 28 = .ok (.aload_n 0, 1) := by decide +kernel
theorem dn_M_goThrough_29 : decode cn_M_goThrough 29 = .ok (.getfield 93, 3) := by decide +kernel
theorem dn_M_goThrough_32 : decode cn_M_goThrough 32 = .ok (.iload_n 1, 1) := by decide +kernel
theorem dn_M_goThrough_33 : decode cn_M_goThrough 33 = .ok (.invokevirtual 96, 3) := by decide +kernel
theorem dn_M_goThrough_36 : decode cn_M_goThrough 36 = .ok (.istore_n 2, 1) := by decide +kernel
theorem dn_M_goThrough_37 : decode cn_M_goThrough 37 = .ok (.iload_n 2, 1) := by decide +kernel
theorem dn_M_goThrough_38 : decode cn_M_goThrough 38 = .ok (.ifCond .eq (-24), 3) := by decide +kernel
theorem dn_M_goThrough_41 : decode cn_M_goThrough 41 = .ok (.aload_n 0, 1) := by decide +kernel
theorem dn_M_goThrough_42 : decode cn_M_goThrough 42 = .ok (.aload_n 0, 1) := by decide +kernel
theorem dn_M_goThrough_43 : decode cn_M_goThrough 43 = .ok (.getfield 7, 3) := by decide +kernel
theorem dn_M_goThrough_46 : decode cn_M_goThrough 46 = .ok (.bipush 7, 2) := by decide +kernel
theorem dn_M_goThrough_48 : decode cn_M_goThrough 48 = .ok (.aload_n 0, 1) := by decide +kernel
theorem dn_M_goThrough_49 : decode cn_M_goThrough 49 = .ok (.getfield 93, 3) := by decide +kernel
theorem dn_M_goThrough_52 : decode cn_M_goThrough 52 = .ok (.imul, 1) := by decide +kernel
theorem dn_M_goThrough_53 : decode cn_M_goThrough 53 = .ok (.iaload, 1) := by decide +kernel
theorem dn_M_goThrough_54 : decode cn_M_goThrough 54 = .ok (.aload_n 0, 1) := by decide +kernel
theorem dn_M_goThrough_55 : decode cn_M_goThrough 55 = .ok (.getfield 7, 3) := by decide +kernel
theorem dn_M_goThrough_58 : decode cn_M_goThrough 58 = .ok (.bipush 7, 2) := by decide +kernel
theorem dn_M_goThrough_60 : decode cn_M_goThrough 60 = .ok (.aload_n 0, 1) := by decide +kernel
theorem dn_M_goThrough_61 : decode cn_M_goThrough 61 = .ok (.getfield 93, 3) := by decide +kernel
theorem dn_M_goThrough_64 : decode cn_M_goThrough 64 = .ok (.imul, 1) := by decide +kernel
theorem dn_M_goThrough_65 : decode cn_M_goThrough 65 = .ok (.iconst 1, 1) := by decide +kernel
theorem dn_M_goThrough_66 : decode cn_M_goThrough 66 = .ok (.iadd, 1) := by decide +kernel
theorem dn_M_goThrough_67 : decode cn_M_goThrough 67 = .ok (.iaload, 1) := by decide +kernel
theorem dn_M_goThrough_68 : decode cn_M_goThrough 68 = .ok (.aload_n 0, 1) := by decide +kernel
theorem dn_M_goThrough_69 : decode cn_M_goThrough 69 = .ok (.getfield 7, 3) := by decide +kernel
theorem dn_M_goThrough_72 : decode cn_M_goThrough 72 = .ok (.bipush 7, 2) := by decide +kernel
theorem dn_M_goThrough_74 : decode cn_M_goThrough 74 = .ok (.aload_n 0, 1) := by decide +kernel
theorem dn_M_goThrough_75 : decode cn_M_goThrough 75 = .ok (.getfield 93, 3) := by decide +kernel
theorem dn_M_goThrough_78 : decode cn_M_goThrough 78 = .ok (.imul, 1) := by decide +kernel
theorem dn_M_goThrough_79 : decode cn_M_goThrough 79 = .ok (.iconst 2, 1) := by decide +kernel
theorem dn_M_goThrough_80 : decode cn_M_goThrough 80 = .ok (.iadd, 1) := by decide +kernel
theorem dn_M_goThrough_81 : decode cn_M_goThrough 81 = .ok (.iaload, 1) := by decide +kernel
theorem dn_M_goThrough_82 : decode cn_M_goThrough 82 = .ok (.invokevirtual 100, 3) := by decide +kernel
theorem dn_M_goThrough_85 : decode cn_M_goThrough 85 = .ok (.aload_n 0, 1) := by decide +kernel
theorem dn_M_goThrough_86 : decode cn_M_goThrough 86 = .ok (.getfield 7, 3) := by decide +kernel
theorem dn_M_goThrough_89 : decode cn_M_goThrough 89 = .ok (.bipush 7, 2) := by decide +kernel
theorem dn_M_goThrough_91 : decode cn_M_goThrough 91 = .ok (.aload_n 0, 1) := by decide +kernel
theorem dn_M_goThrough_92 : decode cn_M_goThrough 92 = .ok (.getfield 93, 3) := by decide +kernel
theorem dn_M_goThrough_95 : decode cn_M_goThrough 95 = .ok (.imul, 1) := by decide +kernel
theorem dn_M_goThrough_96 : decode cn_M_goThrough 96 = .ok (.iconst 5, 1) := by decide +kernel
theorem dn_M_goThrough_97 : decode cn_M_goThrough 97 = .ok (.iadd, 1) := by decide +kernel
theorem dn_M_goThrough_98 : decode cn_M_goThrough 98 = .ok (.iaload, 1) := by decide +kernel
theorem dn_M_goThrough_99 : decode cn_M_goThrough 99 = .ok (.istore_n 1, 1) := by decide +kernel
theorem dn_M_goThrough_100 : decode cn_M_goThrough 100 = .ok (.aload_n 0, 1) := by decide +kernel
theorem dn_M_goThrough_101 : decode cn_M_goThrough 101 = .ok (.aload_n 0, 1) := by decide +kernel
theorem dn_M_goThrough_102 : decode cn_M_goThrough 102 = .ok (.getfield 93, 3) := by decide +kernel
theorem dn_M_goThrough_105 : decode cn_M_goThrough 105 = .ok (.iconst 1, 1) := by decide +kernel
theorem dn_M_goThrough_106 : decode cn_M_goThrough 106 = .ok (.iadd, 1) := by decide +kernel
theorem dn_M_goThrough_107 : decode cn_M_goThrough 107 = .ok (.putfield 93, 3) := by decide +kernel
theorem dn_M_goThrough_110 : decode cn_M_goThrough 110 = .ok (.goto (-96), 3) := by decide +kernel
theorem dn_M_goThrough_113 : decode cn_M_goThrough 113 = .ok (.return_, 1) := by decide +kernel
theorem dn_M_write_0 : decode cn_M_write 0 = .ok (.aload_n 0, 1) := by decide +kernel
theorem dn_M_write_1 : decode cn_M_write 1 = .ok (.getfield 38, 3) := by decide +kernel
theorem dn_M_write_4 : decode cn_M_write 4 = .ok (.ifCond .eq 20, 3) := by decide +kernel
theorem dn_M_write_7 : decode cn_M_write 7 = .ok (.aload_n 0, 1) := by decide +kernel
theorem dn_M_write_8 : decode cn_M_write 8 = .ok (.getfield 42, 3) := by decide +kernel
theorem dn_M_write_11 : decode cn_M_write 11 = .ok (.ifCond .ne 13, 3) := by decide +kernel
theorem dn_M_write_14 : decode cn_M_write 14 = .ok (.aload_n 0, 1) := by decide +kernel
theorem dn_M_write_15 : decode cn_M_write 15 = .ok (.iconst 0, 1) := by decide +kernel
theorem dn_M_write_16 : decode cn_M_write 16 = .ok (.putfield 38, 3) := by decide +kernel
theorem dn_M_write_19 : decode cn_M_write 19 = .ok (.aload_n 0, 1) := by decide +kernel
theorem dn_M_write_20 : decode cn_M_write 20 = .ok (.iconst (-1), 1) := by decide +kernel
theorem dn_M_write_21 : decode cn_M_write 21 = .ok (.putfield 42, 3) := by decide +kernel
theorem dn_M_write_24 : decode cn_M_write 24 = .ok (.aload_n 0, 1) := by decide +kernel
theorem dn_M_write_25 : decode cn_M_write 25 = .ok (.getfield 38, 3) := by decide +kernel
theorem dn_M_write_28 : decode cn_M_write 28 = .ok (.ifCond .eq 34, 3) := by decide +kernel
theorem dn_M_write_31 : decode cn_M_write 31 = .ok (.aload_n 0, 1) := by decide +kernel
theorem dn_M_write_32 : decode cn_M_write 32 = .ok (.getfield 7, 3) := by decide +kernel
theorem dn_M_write_35 : decode cn_M_write 35 = .ok (.iload_n 1, 1) := by decide +kernel
theorem dn_M_write_36 : decode cn_M_write 36 = .ok (.iload_n 2, 1) := by decide +kernel
theorem dn_M_write_37 : decode cn_M_write 37 = .ok (.iastore, 1) := by decide +kernel
theorem dn_M_write_38 : decode cn_M_write 38 = .ok (.aload_n 0, 1) := by decide +kernel
theorem dn_M_write_39 : decode cn_M_write 39 = .ok (.aload_n 0, 1) := by decide +kernel
theorem dn_M_write_40 : decode cn_M_write 40 = .ok (.getfield 42, 3) := by decide +kernel
theorem dn_M_write_43 : decode cn_M_write 43 = .ok (.ifCond .le 12, 3) := by decide +kernel
theorem dn_M_write_46 : decode cn_M_write 46 = .ok (.aload_n 0, 1) := by decide +kernel
theorem dn_M_write_47 : decode cn_M_write 47 = .ok (.getfield 42, 3) := by decide +kernel
theorem dn_M_write_50 : decode cn_M_write 50 = .ok (.iconst 1, 1) := by decide +kernel
theorem dn_M_write_51 : decode cn_M_write 51 = .ok (.isub, 1) := by decide +kernel
theorem dn_M_write_52 : decode cn_M_write 52 = .ok (.goto 7, 3) := by decide +kernel
theorem dn_M_write_55 : decode cn_M_write 55 = .ok (.aload_n 0, 1) := by decide +kernel
theorem dn_M_write_56 : decode cn_M_write 56 = .ok (.getfield 42, 3) := by decide +kernel
theorem dn_M_write_59 : decode cn_M_write 59 = .ok (.putfield 42, 3) := by decide +kernel
theorem dn_M_write_62 : decode cn_M_write 62 = .ok (.return_, 1) := by decide +kernel
theorem dn_M_refusal_0 : decode cn_M_refusal 0 = .ok (.aload_n 0, 1) := by decide +kernel
theorem dn_M_refusal_1 : decode cn_M_refusal 1 = .ok (.getfield 38, 3) := by decide +kernel
theorem dn_M_refusal_4 : decode cn_M_refusal 4 = .ok (.ifCond .ne 6, 3) := by decide +kernel
theorem dn_M_refusal_7 : decode cn_M_refusal 7 = .ok (.bipush (-10), 2) := by decide +kernel
theorem dn_M_refusal_9 : decode cn_M_refusal 9 = .ok (.ireturn, 1) := by decide +kernel
theorem dn_M_refusal_10 : decode cn_M_refusal 10 = .ok (.aload_n 0, 1) := by decide +kernel
theorem dn_M_refusal_11 : decode cn_M_refusal 11 = .ok (.invokevirtual 104, 3) := by decide +kernel
theorem dn_M_refusal_14 : decode cn_M_refusal 14 = .ok (.aload_n 0, 1) := by decide +kernel
theorem dn_M_refusal_15 : decode cn_M_refusal 15 = .ok (.iload_n 1, 1) := by decide +kernel
theorem dn_M_refusal_16 : decode cn_M_refusal 16 = .ok (.iload_n 2, 1) := by decide +kernel
theorem dn_M_refusal_17 : decode cn_M_refusal 17 = .ok (.iload_n 3, 1) := by decide +kernel
theorem dn_M_refusal_18 : decode cn_M_refusal 18 = .ok (.aload_n 0, 1) := by decide +kernel
theorem dn_M_refusal_19 : decode cn_M_refusal 19 = .ok (.getfield 86, 3) := by decide +kernel
theorem dn_M_refusal_22 : decode cn_M_refusal 22 = .ok (.invokevirtual 89, 3) := by decide +kernel
theorem dn_M_refusal_25 : decode cn_M_refusal 25 = .ok (.istore 4, 2) := by decide +kernel
theorem dn_M_refusal_27 : decode cn_M_refusal 27 = .ok (.iload 4, 2) := by decide +kernel
theorem dn_M_refusal_29 : decode cn_M_refusal 29 = .ok (.ifCond .eq 8, 3) := by decide +kernel
theorem dn_M_refusal_32 : decode cn_M_refusal 32 = .ok (.iload 4, 2) := by decide +kernel
theorem dn_M_refusal_34 : decode cn_M_refusal 34 = .ok (.goto 18, 3) := by decide +kernel
theorem dn_M_refusal_37 : decode cn_M_refusal 37 = .ok (.aload_n 0, 1) := by decide +kernel
theorem dn_M_refusal_38 : decode cn_M_refusal 38 = .ok (.getfield 93, 3) := by decide +kernel
theorem dn_M_refusal_41 : decode cn_M_refusal 41 = .ok (.bipush 40, 2) := by decide +kernel
theorem dn_M_refusal_43 : decode cn_M_refusal 43 = .ok (.if_icmp .lt 8, 3) := by decide +kernel
theorem dn_M_refusal_46 : decode cn_M_refusal 46 = .ok (.bipush (-8), 2) := by decide +kernel
theorem dn_M_refusal_48 : decode cn_M_refusal 48 = .ok (.goto 4, 3) := by decide +kernel
theorem dn_M_refusal_51 : decode cn_M_refusal 51 = .ok (.iconst 0, 1) := by decide +kernel
theorem dn_M_refusal_52 : decode cn_M_refusal 52 = .ok (.ireturn, 1) := by decide +kernel
theorem dn_M_enroll_0 : decode cn_M_enroll 0 = .ok (.bipush 7, 2) := by decide +kernel
theorem dn_M_enroll_2 : decode cn_M_enroll 2 = .ok (.aload_n 0, 1) := by decide +kernel
theorem dn_M_enroll_3 : decode cn_M_enroll 3 = .ok (.getfield 93, 3) := by decide +kernel
theorem dn_M_enroll_6 : decode cn_M_enroll 6 = .ok (.imul, 1) := by decide +kernel
theorem dn_M_enroll_7 : decode cn_M_enroll 7 = .ok (.istore 6, 2) := by decide +kernel
theorem dn_M_enroll_9 : decode cn_M_enroll 9 = .ok (.iconst 1, 1) := by decide +kernel
theorem dn_M_enroll_10 : decode cn_M_enroll 10 = .ok (.iload_n 1, 1) := by decide +kernel
theorem dn_M_enroll_11 : decode cn_M_enroll 11 = .ok (.invokestatic 47, 3) := by decide +kernel
theorem dn_M_enroll_14 : decode cn_M_enroll 14 = .ok (.istore 7, 2) := by decide +kernel
theorem dn_M_enroll_16 : decode cn_M_enroll 16 = .ok (.iload 7, 2) := by decide +kernel
theorem dn_M_enroll_18 : decode cn_M_enroll 18 = .ok (.iload_n 2, 1) := by decide +kernel
theorem dn_M_enroll_19 : decode cn_M_enroll 19 = .ok (.invokestatic 47, 3) := by decide +kernel
theorem dn_M_enroll_22 : decode cn_M_enroll 22 = .ok (.istore 7, 2) := by decide +kernel
theorem dn_M_enroll_24 : decode cn_M_enroll 24 = .ok (.iload 7, 2) := by decide +kernel
theorem dn_M_enroll_26 : decode cn_M_enroll 26 = .ok (.iload_n 3, 1) := by decide +kernel
theorem dn_M_enroll_27 : decode cn_M_enroll 27 = .ok (.invokestatic 47, 3) := by decide +kernel
theorem dn_M_enroll_30 : decode cn_M_enroll 30 = .ok (.istore 7, 2) := by decide +kernel
theorem dn_M_enroll_32 : decode cn_M_enroll 32 = .ok (.iload 7, 2) := by decide +kernel
theorem dn_M_enroll_34 : decode cn_M_enroll 34 = .ok (.iload 4, 2) := by decide +kernel
theorem dn_M_enroll_36 : decode cn_M_enroll 36 = .ok (.invokestatic 47, 3) := by decide +kernel
theorem dn_M_enroll_39 : decode cn_M_enroll 39 = .ok (.istore 7, 2) := by decide +kernel
theorem dn_M_enroll_41 : decode cn_M_enroll 41 = .ok (.iload 7, 2) := by decide +kernel
theorem dn_M_enroll_43 : decode cn_M_enroll 43 = .ok (.iload 5, 2) := by decide +kernel
theorem dn_M_enroll_45 : decode cn_M_enroll 45 = .ok (.invokestatic 47, 3) := by decide +kernel
theorem dn_M_enroll_48 : decode cn_M_enroll 48 = .ok (.istore 7, 2) := by decide +kernel
theorem dn_M_enroll_50 : decode cn_M_enroll 50 = .ok (.iload 7, 2) := by decide +kernel
theorem dn_M_enroll_52 : decode cn_M_enroll 52 = .ok (.aload_n 0, 1) := by decide +kernel
theorem dn_M_enroll_53 : decode cn_M_enroll 53 = .ok (.getfield 86, 3) := by decide +kernel
theorem dn_M_enroll_56 : decode cn_M_enroll 56 = .ok (.invokestatic 47, 3) := by decide +kernel
theorem dn_M_enroll_59 : decode cn_M_enroll 59 = .ok (.istore 7, 2) := by decide +kernel
theorem dn_M_enroll_61 : decode cn_M_enroll 61 = .ok (.aload_n 0, 1) := by decide +kernel
theorem dn_M_enroll_62 : decode cn_M_enroll 62 = .ok (.iload 6, 2) := by decide +kernel
theorem dn_M_enroll_64 : decode cn_M_enroll 64 = .ok (.iload_n 1, 1) := by decide +kernel
theorem dn_M_enroll_65 : decode cn_M_enroll 65 = .ok (.invokevirtual 107, 3) := by decide +kernel
theorem dn_M_enroll_68 : decode cn_M_enroll 68 = .ok (.aload_n 0, 1) := by decide +kernel
theorem dn_M_enroll_69 : decode cn_M_enroll 69 = .ok (.iload 6, 2) := by decide +kernel
theorem dn_M_enroll_71 : decode cn_M_enroll 71 = .ok (.iconst 1, 1) := by decide +kernel
theorem dn_M_enroll_72 : decode cn_M_enroll 72 = .ok (.iadd, 1) := by decide +kernel
theorem dn_M_enroll_73 : decode cn_M_enroll 73 = .ok (.iload_n 2, 1) := by decide +kernel
theorem dn_M_enroll_74 : decode cn_M_enroll 74 = .ok (.invokevirtual 107, 3) := by decide +kernel
theorem dn_M_enroll_77 : decode cn_M_enroll 77 = .ok (.aload_n 0, 1) := by decide +kernel
theorem dn_M_enroll_78 : decode cn_M_enroll 78 = .ok (.iload 6, 2) := by decide +kernel
theorem dn_M_enroll_80 : decode cn_M_enroll 80 = .ok (.iconst 2, 1) := by decide +kernel
theorem dn_M_enroll_81 : decode cn_M_enroll 81 = .ok (.iadd, 1) := by decide +kernel
theorem dn_M_enroll_82 : decode cn_M_enroll 82 = .ok (.iload_n 3, 1) := by decide +kernel
theorem dn_M_enroll_83 : decode cn_M_enroll 83 = .ok (.invokevirtual 107, 3) := by decide +kernel
theorem dn_M_enroll_86 : decode cn_M_enroll 86 = .ok (.aload_n 0, 1) := by decide +kernel
theorem dn_M_enroll_87 : decode cn_M_enroll 87 = .ok (.iload 6, 2) := by decide +kernel
theorem dn_M_enroll_89 : decode cn_M_enroll 89 = .ok (.iconst 3, 1) := by decide +kernel
theorem dn_M_enroll_90 : decode cn_M_enroll 90 = .ok (.iadd, 1) := by decide +kernel
theorem dn_M_enroll_91 : decode cn_M_enroll 91 = .ok (.iload 4, 2) := by decide +kernel
theorem dn_M_enroll_93 : decode cn_M_enroll 93 = .ok (.invokevirtual 107, 3) := by decide +kernel
theorem dn_M_enroll_96 : decode cn_M_enroll 96 = .ok (.aload_n 0, 1) := by decide +kernel
theorem dn_M_enroll_97 : decode cn_M_enroll 97 = .ok (.iload 6, 2) := by decide +kernel
theorem dn_M_enroll_99 : decode cn_M_enroll 99 = .ok (.iconst 4, 1) := by decide +kernel
theorem dn_M_enroll_100 : decode cn_M_enroll 100 = .ok (.iadd, 1) := by decide +kernel
theorem dn_M_enroll_101 : decode cn_M_enroll 101 = .ok (.iload 5, 2) := by decide +kernel
theorem dn_M_enroll_103 : decode cn_M_enroll 103 = .ok (.invokevirtual 107, 3) := by decide +kernel
theorem dn_M_enroll_106 : decode cn_M_enroll 106 = .ok (.aload_n 0, 1) := by decide +kernel
theorem dn_M_enroll_107 : decode cn_M_enroll 107 = .ok (.iload 6, 2) := by decide +kernel
theorem dn_M_enroll_109 : decode cn_M_enroll 109 = .ok (.iconst 5, 1) := by decide +kernel
theorem dn_M_enroll_110 : decode cn_M_enroll 110 = .ok (.iadd, 1) := by decide +kernel
theorem dn_M_enroll_111 : decode cn_M_enroll 111 = .ok (.aload_n 0, 1) := by decide +kernel
theorem dn_M_enroll_112 : decode cn_M_enroll 112 = .ok (.getfield 86, 3) := by decide +kernel
theorem dn_M_enroll_115 : decode cn_M_enroll 115 = .ok (.invokevirtual 107, 3) := by decide +kernel
theorem dn_M_enroll_118 : decode cn_M_enroll 118 = .ok (.aload_n 0, 1) := by decide +kernel
theorem dn_M_enroll_119 : decode cn_M_enroll 119 = .ok (.iload 6, 2) := by decide +kernel
theorem dn_M_enroll_121 : decode cn_M_enroll 121 = .ok (.bipush 6, 2) := by decide +kernel
theorem dn_M_enroll_123 : decode cn_M_enroll 123 = .ok (.iadd, 1) := by decide +kernel
theorem dn_M_enroll_124 : decode cn_M_enroll 124 = .ok (.iload 7, 2) := by decide +kernel
theorem dn_M_enroll_126 : decode cn_M_enroll 126 = .ok (.iconst 1, 1) := by decide +kernel
theorem dn_M_enroll_127 : decode cn_M_enroll 127 = .ok (.ior, 1) := by decide +kernel
theorem dn_M_enroll_128 : decode cn_M_enroll 128 = .ok (.invokevirtual 107, 3) := by decide +kernel
theorem dn_M_enroll_131 : decode cn_M_enroll 131 = .ok (.return_, 1) := by decide +kernel

set_option maxRecDepth 100000 in
set_option maxHeartbeats 4000000 in
theorem c_M_rule (l : Launch) (dC : Nat → ClassId) (dI : Nat → Nat → Nat) (cI cZ : ClassId) (bd : Nat → Nat) (clk : Nat) (pw lf : Int32) (f fd : Nat → Int32) (fc sn ob : Nat) (S D G : Nat → Int32) (st : Nat) (Y Z X : Nat → Int32) (ef ec fu : Nat) (g : Nat → Int32) (ho : ob ≤ 12) (kind id v t : Int32) (k1 : 1 ≤ kind) (k6 : kind ≤ 6) : gc_I l yn_M_rule (gw yn_M_rule cn_M_rule 6 (some .int)) (rm_ 0 0) (dC, dI) vwCl (gT cI cZ) [.ref (bd 0), .int kind, .int id, .int v, .int t] [(bd 0, .inr (5, [.ref (bd 1), .int (nI clk), .int pw, .int lf, .ref (bd 2), .int (nI fc), .int (nI sn), .int (nI ob), .ref (bd 3), .ref (bd 4), .ref (bd 5), .int (nI st), .ref (bd 6), .ref (bd 7), .ref (bd 8), .int (nI ef), .int (nI ec), .int (nI fu), .ref (bd 9)])), (bd 1, .inl (cI, 292, .inl f)), (bd 2, .inl (cI, 12, .inl fd)), (bd 3, .inl (cI, 13, .inl S)), (bd 4, .inl (cI, 13, .inl D)), (bd 5, .inl (cI, 13, .inl G)), (bd 6, .inl (cI, 8, .inl Y)), (bd 7, .inl (cI, 8, .inl Z)), (bd 8, .inl (cZ, 8, .inl X)), (bd 9, .inl (cI, 40, .inl g))] (fun r (_ : Unit) => r = ct_ru ob S D G kind id v t) (fun _ => [(bd 0, .inr (5, [.ref (bd 1), .int (nI clk), .int pw, .int lf, .ref (bd 2), .int (nI fc), .int (nI sn), .int (nI ob), .ref (bd 3), .ref (bd 4), .ref (bd 5), .int (nI st), .ref (bd 6), .ref (bd 7), .ref (bd 8), .int (nI ef), .int (nI ec), .int (nI fu), .ref (bd 9)])), (bd 1, .inl (cI, 292, .inl f)), (bd 2, .inl (cI, 12, .inl fd)), (bd 3, .inl (cI, 13, .inl S)), (bd 4, .inl (cI, 13, .inl D)), (bd 5, .inl (cI, 13, .inl G)), (bd 6, .inl (cI, 8, .inl Y)), (bd 7, .inl (cI, 8, .inl Z)), (bd 8, .inl (cZ, 8, .inl X)), (bd 9, .inl (cI, 40, .inl g))]) := by
  refine gc_I_of (cc := cn_M_rule) (maxL := 6) (ty := .int) (by decide) rfl (Nat.le_of_ble_eq_true rfl) ?_
  intro pp ee ss mm ar be me cd A Q ls H0 H locs hx hb hml hown hts hK hP hD hS hA hl hret
  have hw : ∀ w ∈ gw_T, w.before ar ss = true := fun w h => hts w (List.mem_cons_of_mem _ h)
  have hl : lv_has ls 6 [(0, .ref (bd 0)), (1, .int kind), (2, .int id), (3, .int v), (4, .int t)] := hl
  rcases ct_kind k1 k6 with rfl | rfl | rfl | rfl | rfl | rfl
  · skip
    refine lv_iload_n hx hb dn_M_rule_0 rfl (lv_at hl 1 rfl) ?_
    refine lv_iconst (v := 1) hx hb dn_M_rule_1 (by decide) ?_
    refine lv_icmp_eq (tgt := 10) hx hb dn_M_rule_2 (by decide) (fun _ => ?_) (fun h => absurd h (by decide))
    refine lv_iload_n hx hb dn_M_rule_10 rfl (lv_at hl 3 rfl) ?_
    refine lv_if_lt (tgt := 20) hx hb dn_M_rule_11 (by decide) (fun h11 => ?_) (fun h11 => ?_)
    · skip
      refine lv_iconst (v := (-1)) hx hb dn_M_rule_20 (by decide) ?_
      exact hret (-1) () _ _ _ _ (ru1_bad (by first | exact Or.inl h11 | exact Or.inr (Int32.not_le.mp h17))) rfl hP hD hS dn_M_rule_21
    · skip
      refine lv_iload_n hx hb dn_M_rule_14 rfl (lv_at hl 3 rfl) ?_
      refine lv_ldc (v := 1000000) hx hb hown (hw _ mw_559) dn_M_rule_15 ?_
      refine lv_icmp_le (tgt := 22) hx hb dn_M_rule_17 (by decide) (fun h17 => ?_) (fun h17 => ?_)
      · skip
        refine lv_iload_n hx hb dn_M_rule_22 rfl (lv_at hl 1 rfl) ?_
        refine lv_iconst (v := 3) hx hb dn_M_rule_23 (by decide) ?_
        refine lv_icmp_eq (tgt := 32) hx hb dn_M_rule_24 (by decide) (fun h => absurd h (by decide)) (fun _ => ?_)
        refine lv_iload_n hx hb dn_M_rule_27 rfl (lv_at hl 1 rfl) ?_
        refine lv_iconst (v := 4) hx hb dn_M_rule_28 (by decide) ?_
        refine lv_icmp_ne (tgt := 44) hx hb dn_M_rule_29 (by decide) (fun _ => ?_) (fun h => absurd h (by decide))
        refine lv_iload_n hx hb dn_M_rule_44 rfl (lv_at hl 1 rfl) ?_
        refine lv_iconst (v := 1) hx hb dn_M_rule_45 (by decide) ?_
        refine lv_icmp_ne (tgt := 76) hx hb dn_M_rule_46 (by decide) (fun h => absurd h (by decide)) (fun _ => ?_)
        refine lv_iload_n hx hb dn_M_rule_49 rfl (lv_at hl 3 rfl) ?_
        refine lv_iload hx hb dn_M_rule_50 (lv_at hl 4 rfl) ?_
        refine lv_icmp_ge (tgt := 60) hx hb dn_M_rule_52 (by decide) (fun h52 => ?_) (fun h52 => ?_)
        · skip
          refine lv_aload_n hx hb dn_M_rule_60 rfl (lv_at hl 0 rfl) ?_
          refine va_get (D := (dC, dI)) (ci := 5) (v := .int (nI ob)) (C := rn_M) (T := tn_M) (N := 19) hx hb hw ml_M hown hK hP 0 rfl rfl 7 (by decide) (hw _ mw_480) (fun _ h9 => h9) rfl dn_M_rule_61 ?_
          refine lv_bipush (v := 12) hx hb dn_M_rule_64 (by decide) ?_
          refine gr_clt (tgt := 74) hx hb ob 12 rfl rfl (by omega) (by decide) dn_M_rule_66 (by decide) (fun h66 => ?_) (fun h66 => ?_)
          · skip
            refine lv_iconst (v := 0) hx hb dn_M_rule_74 (by decide) ?_
            exact hret 0 () _ _ _ _ (ru1_ok (fun q => q.elim h11 (Int32.not_lt.mpr h17)) (Int32.not_lt.mpr h52) (by omega)) rfl hP hD hS dn_M_rule_75
          · skip
            refine lv_bipush (v := (-8)) hx hb dn_M_rule_69 (by decide) ?_
            refine lv_goto (tgt := 75) hx hb dn_M_rule_71 (by decide) ?_
            exact hret (-8) () _ _ _ _ (ru1_full (fun q => q.elim h11 (Int32.not_lt.mpr h17)) (Int32.not_lt.mpr h52) h66) rfl hP hD hS dn_M_rule_75
        · skip
          refine lv_bipush (v := (-4)) hx hb dn_M_rule_55 (by decide) ?_
          refine lv_goto (tgt := 75) hx hb dn_M_rule_57 (by decide) ?_
          exact hret (-4) () _ _ _ _ (ru1_short (fun q => q.elim h11 (Int32.not_lt.mpr h17)) (Int32.not_le.mp h52)) rfl hP hD hS dn_M_rule_75
      · skip
        refine lv_iconst (v := (-1)) hx hb dn_M_rule_20 (by decide) ?_
        exact hret (-1) () _ _ _ _ (ru1_bad (by first | exact Or.inl h11 | exact Or.inr (Int32.not_le.mp h17))) rfl hP hD hS dn_M_rule_21
  · skip
    refine lv_iload_n hx hb dn_M_rule_0 rfl (lv_at hl 1 rfl) ?_
    refine lv_iconst (v := 1) hx hb dn_M_rule_1 (by decide) ?_
    refine lv_icmp_eq (tgt := 10) hx hb dn_M_rule_2 (by decide) (fun h => absurd h (by decide)) (fun _ => ?_)
    refine lv_iload_n hx hb dn_M_rule_5 rfl (lv_at hl 1 rfl) ?_
    refine lv_iconst (v := 2) hx hb dn_M_rule_6 (by decide) ?_
    refine lv_icmp_ne (tgt := 22) hx hb dn_M_rule_7 (by decide) (fun h => absurd h (by decide)) (fun _ => ?_)
    refine lv_iload_n hx hb dn_M_rule_10 rfl (lv_at hl 3 rfl) ?_
    refine lv_if_lt (tgt := 20) hx hb dn_M_rule_11 (by decide) (fun h11 => ?_) (fun h11 => ?_)
    · skip
      refine lv_iconst (v := (-1)) hx hb dn_M_rule_20 (by decide) ?_
      exact hret (-1) () _ _ _ _ (ru2_bad (by first | exact Or.inl h11 | exact Or.inr (Int32.not_le.mp h17))) rfl hP hD hS dn_M_rule_21
    · skip
      refine lv_iload_n hx hb dn_M_rule_14 rfl (lv_at hl 3 rfl) ?_
      refine lv_ldc (v := 1000000) hx hb hown (hw _ mw_559) dn_M_rule_15 ?_
      refine lv_icmp_le (tgt := 22) hx hb dn_M_rule_17 (by decide) (fun h17 => ?_) (fun h17 => ?_)
      · skip
        refine lv_iload_n hx hb dn_M_rule_22 rfl (lv_at hl 1 rfl) ?_
        refine lv_iconst (v := 3) hx hb dn_M_rule_23 (by decide) ?_
        refine lv_icmp_eq (tgt := 32) hx hb dn_M_rule_24 (by decide) (fun h => absurd h (by decide)) (fun _ => ?_)
        refine lv_iload_n hx hb dn_M_rule_27 rfl (lv_at hl 1 rfl) ?_
        refine lv_iconst (v := 4) hx hb dn_M_rule_28 (by decide) ?_
        refine lv_icmp_ne (tgt := 44) hx hb dn_M_rule_29 (by decide) (fun _ => ?_) (fun h => absurd h (by decide))
        refine lv_iload_n hx hb dn_M_rule_44 rfl (lv_at hl 1 rfl) ?_
        refine lv_iconst (v := 1) hx hb dn_M_rule_45 (by decide) ?_
        refine lv_icmp_ne (tgt := 76) hx hb dn_M_rule_46 (by decide) (fun _ => ?_) (fun h => absurd h (by decide))
        refine lv_iload_n hx hb dn_M_rule_76 rfl (lv_at hl 2 rfl) ?_
        refine lv_iconst (v := 1) hx hb dn_M_rule_77 (by decide) ?_
        refine lv_icmp_lt (tgt := 89) hx hb dn_M_rule_78 (by decide) (fun h78 => ?_) (fun h78 => ?_)
        · skip
          refine lv_bipush (v := (-2)) hx hb dn_M_rule_89 (by decide) ?_
          exact hret (-2) () _ _ _ _ (ru2_abs (fun q => q.elim h11 (Int32.not_lt.mpr h17)) (by first | exact Or.inl h78 | exact Or.inr (Int32.not_le.mp h86))) rfl hP hD hS dn_M_rule_91
        · skip
          refine lv_iload_n hx hb dn_M_rule_81 rfl (lv_at hl 2 rfl) ?_
          refine lv_aload_n hx hb dn_M_rule_82 rfl (lv_at hl 0 rfl) ?_
          refine va_get (D := (dC, dI)) (ci := 5) (v := .int (nI ob)) (C := rn_M) (T := tn_M) (N := 19) hx hb hw ml_M hown hK hP 0 rfl rfl 7 (by decide) (hw _ mw_480) (fun _ h9 => h9) rfl dn_M_rule_83 ?_
          refine lv_icmp_le (tgt := 92) hx hb dn_M_rule_86 (by decide) (fun h86 => ?_) (fun h86 => ?_)
          · skip
            obtain ⟨j, j1, j2, rfl⟩ := ct_id (by omega) h78 (Int32.not_lt.mpr h86)
            refine lv_iload_n hx hb dn_M_rule_92 rfl (lv_at hl 1 rfl) ?_
            refine lv_bipush (v := 6) hx hb dn_M_rule_93 (by decide) ?_
            refine lv_icmp_ne (tgt := 111) hx hb dn_M_rule_95 (by decide) (fun _ => ?_) (fun h => absurd h (by decide))
            refine lv_aload_n hx hb dn_M_rule_111 rfl (lv_at hl 0 rfl) ?_
            refine va_get (D := (dC, dI)) (ci := 5) (v := .ref (bd 3)) (C := rn_M) (T := tn_M) (N := 19) hx hb hw ml_M hown hK hP 0 rfl rfl 8 (by decide) (hw _ mw_481) (fun _ h9 => h9) rfl dn_M_rule_112 ?_
            refine lv_iload_n hx hb dn_M_rule_115 rfl (lv_at hl 2 rfl) ?_
            refine gr_iald hx hb hK hP 3 0 rfl rfl j rfl (by omega) (by decide) dn_M_rule_116 ?_
            refine lv_iconst (v := 1) hx hb dn_M_rule_117 (by decide) ?_
            refine lv_icmp_eq (tgt := 124) hx hb dn_M_rule_118 (by decide) (fun h118 => ?_) (fun h118 => ?_)
            · skip
              refine lv_iload_n hx hb dn_M_rule_124 rfl (lv_at hl 1 rfl) ?_
              refine lv_iconst (v := 2) hx hb dn_M_rule_125 (by decide) ?_
              refine lv_icmp_ne (tgt := 146) hx hb dn_M_rule_126 (by decide) (fun h => absurd h (by decide)) (fun _ => ?_)
              refine lv_iload_n hx hb dn_M_rule_129 rfl (lv_at hl 3 rfl) ?_
              refine lv_aload_n hx hb dn_M_rule_130 rfl (lv_at hl 0 rfl) ?_
              refine va_get (D := (dC, dI)) (ci := 5) (v := .ref (bd 4)) (C := rn_M) (T := tn_M) (N := 19) hx hb hw ml_M hown hK hP 0 rfl rfl 9 (by decide) (hw _ mw_482) (fun _ h9 => h9) rfl dn_M_rule_131 ?_
              refine lv_iload_n hx hb dn_M_rule_134 rfl (lv_at hl 2 rfl) ?_
              refine gr_iald hx hb hK hP 4 0 rfl rfl j rfl (by omega) (by decide) dn_M_rule_135 ?_
              refine lv_icmp_gt (tgt := 144) hx hb dn_M_rule_136 (by decide) (fun h136 => ?_) (fun h136 => ?_)
              · skip
                refine lv_iconst (v := 0) hx hb dn_M_rule_144 (by decide) ?_
                exact hret 0 () _ _ _ _ (ru2_ok (fun q => q.elim h11 (Int32.not_lt.mpr h17)) j1 j2 ho h118 (Int32.not_le.mpr h136)) rfl hP hD hS dn_M_rule_145
              · skip
                refine lv_bipush (v := (-4)) hx hb dn_M_rule_139 (by decide) ?_
                refine lv_goto (tgt := 145) hx hb dn_M_rule_141 (by decide) ?_
                exact hret (-4) () _ _ _ _ (ru2_short (fun q => q.elim h11 (Int32.not_lt.mpr h17)) j1 j2 ho h118 (Int32.not_lt.mp h136)) rfl hP hD hS dn_M_rule_145
            · skip
              refine lv_bipush (v := (-3)) hx hb dn_M_rule_121 (by decide) ?_
              exact hret (-3) () _ _ _ _ (ru2_gone (fun q => q.elim h11 (Int32.not_lt.mpr h17)) j1 j2 ho h118) rfl hP hD hS dn_M_rule_123
          · skip
            refine lv_bipush (v := (-2)) hx hb dn_M_rule_89 (by decide) ?_
            exact hret (-2) () _ _ _ _ (ru2_abs (fun q => q.elim h11 (Int32.not_lt.mpr h17)) (by first | exact Or.inl h78 | exact Or.inr (Int32.not_le.mp h86))) rfl hP hD hS dn_M_rule_91
      · skip
        refine lv_iconst (v := (-1)) hx hb dn_M_rule_20 (by decide) ?_
        exact hret (-1) () _ _ _ _ (ru2_bad (by first | exact Or.inl h11 | exact Or.inr (Int32.not_le.mp h17))) rfl hP hD hS dn_M_rule_21
  · skip
    refine lv_iload_n hx hb dn_M_rule_0 rfl (lv_at hl 1 rfl) ?_
    refine lv_iconst (v := 1) hx hb dn_M_rule_1 (by decide) ?_
    refine lv_icmp_eq (tgt := 10) hx hb dn_M_rule_2 (by decide) (fun h => absurd h (by decide)) (fun _ => ?_)
    refine lv_iload_n hx hb dn_M_rule_5 rfl (lv_at hl 1 rfl) ?_
    refine lv_iconst (v := 2) hx hb dn_M_rule_6 (by decide) ?_
    refine lv_icmp_ne (tgt := 22) hx hb dn_M_rule_7 (by decide) (fun _ => ?_) (fun h => absurd h (by decide))
    refine lv_iload_n hx hb dn_M_rule_22 rfl (lv_at hl 1 rfl) ?_
    refine lv_iconst (v := 3) hx hb dn_M_rule_23 (by decide) ?_
    refine lv_icmp_eq (tgt := 32) hx hb dn_M_rule_24 (by decide) (fun _ => ?_) (fun h => absurd h (by decide))
    refine lv_iload_n hx hb dn_M_rule_32 rfl (lv_at hl 3 rfl) ?_
    refine lv_if_lt (tgt := 42) hx hb dn_M_rule_33 (by decide) (fun h33 => ?_) (fun h33 => ?_)
    · skip
      refine lv_iconst (v := (-1)) hx hb dn_M_rule_42 (by decide) ?_
      exact hret (-1) () _ _ _ _ (ruh_bad (Or.inl rfl) (by first | exact Or.inl h33 | exact Or.inr (Int32.not_le.mp h39))) rfl hP hD hS dn_M_rule_43
    · skip
      refine lv_iload_n hx hb dn_M_rule_36 rfl (lv_at hl 3 rfl) ?_
      refine lv_bipush (v := 7) hx hb dn_M_rule_37 (by decide) ?_
      refine lv_icmp_le (tgt := 44) hx hb dn_M_rule_39 (by decide) (fun h39 => ?_) (fun h39 => ?_)
      · skip
        refine lv_iload_n hx hb dn_M_rule_44 rfl (lv_at hl 1 rfl) ?_
        refine lv_iconst (v := 1) hx hb dn_M_rule_45 (by decide) ?_
        refine lv_icmp_ne (tgt := 76) hx hb dn_M_rule_46 (by decide) (fun _ => ?_) (fun h => absurd h (by decide))
        refine lv_iload_n hx hb dn_M_rule_76 rfl (lv_at hl 2 rfl) ?_
        refine lv_iconst (v := 1) hx hb dn_M_rule_77 (by decide) ?_
        refine lv_icmp_lt (tgt := 89) hx hb dn_M_rule_78 (by decide) (fun h78 => ?_) (fun h78 => ?_)
        · skip
          refine lv_bipush (v := (-2)) hx hb dn_M_rule_89 (by decide) ?_
          exact hret (-2) () _ _ _ _ (ruh_abs (Or.inl rfl) (fun q => q.elim h33 (Int32.not_lt.mpr h39)) (by first | exact Or.inl h78 | exact Or.inr (Int32.not_le.mp h86))) rfl hP hD hS dn_M_rule_91
        · skip
          refine lv_iload_n hx hb dn_M_rule_81 rfl (lv_at hl 2 rfl) ?_
          refine lv_aload_n hx hb dn_M_rule_82 rfl (lv_at hl 0 rfl) ?_
          refine va_get (D := (dC, dI)) (ci := 5) (v := .int (nI ob)) (C := rn_M) (T := tn_M) (N := 19) hx hb hw ml_M hown hK hP 0 rfl rfl 7 (by decide) (hw _ mw_480) (fun _ h9 => h9) rfl dn_M_rule_83 ?_
          refine lv_icmp_le (tgt := 92) hx hb dn_M_rule_86 (by decide) (fun h86 => ?_) (fun h86 => ?_)
          · skip
            obtain ⟨j, j1, j2, rfl⟩ := ct_id (by omega) h78 (Int32.not_lt.mpr h86)
            refine lv_iload_n hx hb dn_M_rule_92 rfl (lv_at hl 1 rfl) ?_
            refine lv_bipush (v := 6) hx hb dn_M_rule_93 (by decide) ?_
            refine lv_icmp_ne (tgt := 111) hx hb dn_M_rule_95 (by decide) (fun _ => ?_) (fun h => absurd h (by decide))
            refine lv_aload_n hx hb dn_M_rule_111 rfl (lv_at hl 0 rfl) ?_
            refine va_get (D := (dC, dI)) (ci := 5) (v := .ref (bd 3)) (C := rn_M) (T := tn_M) (N := 19) hx hb hw ml_M hown hK hP 0 rfl rfl 8 (by decide) (hw _ mw_481) (fun _ h9 => h9) rfl dn_M_rule_112 ?_
            refine lv_iload_n hx hb dn_M_rule_115 rfl (lv_at hl 2 rfl) ?_
            refine gr_iald hx hb hK hP 3 0 rfl rfl j rfl (by omega) (by decide) dn_M_rule_116 ?_
            refine lv_iconst (v := 1) hx hb dn_M_rule_117 (by decide) ?_
            refine lv_icmp_eq (tgt := 124) hx hb dn_M_rule_118 (by decide) (fun h118 => ?_) (fun h118 => ?_)
            · skip
              refine lv_iload_n hx hb dn_M_rule_124 rfl (lv_at hl 1 rfl) ?_
              refine lv_iconst (v := 2) hx hb dn_M_rule_125 (by decide) ?_
              refine lv_icmp_ne (tgt := 146) hx hb dn_M_rule_126 (by decide) (fun _ => ?_) (fun h => absurd h (by decide))
              refine lv_iload_n hx hb dn_M_rule_146 rfl (lv_at hl 1 rfl) ?_
              refine lv_iconst (v := 5) hx hb dn_M_rule_147 (by decide) ?_
              refine lv_icmp_lt (tgt := 183) hx hb dn_M_rule_148 (by decide) (fun _ => ?_) (fun h => absurd h (by decide))
              refine lv_aload_n hx hb dn_M_rule_183 rfl (lv_at hl 0 rfl) ?_
              refine va_get (D := (dC, dI)) (ci := 5) (v := .ref (bd 5)) (C := rn_M) (T := tn_M) (N := 19) hx hb hw ml_M hown hK hP 0 rfl rfl 10 (by decide) (hw _ mw_483) (fun _ h9 => h9) rfl dn_M_rule_184 ?_
              refine lv_iload_n hx hb dn_M_rule_187 rfl (lv_at hl 2 rfl) ?_
              refine gr_iald hx hb hK hP 5 0 rfl rfl j rfl (by omega) (by decide) dn_M_rule_188 ?_
              refine lv_iload_n hx hb dn_M_rule_189 rfl (lv_at hl 3 rfl) ?_
              refine lv_ishr hx hb dn_M_rule_190 ?_
              refine lv_iconst (v := 2) hx hb dn_M_rule_191 (by decide) ?_
              refine lv_irem hx hb dn_M_rule_192 (by decide) ?_
              refine lv_iconst (v := 1) hx hb dn_M_rule_193 (by decide) ?_
              refine lv_icmp_ne (tgt := 201) hx hb dn_M_rule_194 (by decide) (fun h194 => ?_) (fun h194 => ?_)
              · skip
                refine lv_iconst (v := 0) hx hb dn_M_rule_201 (by decide) ?_
                refine lv_istore (lv' := [(5, .int 0), (0, .ref (bd 0)), (1, .int 3), (2, .int (nI j)), (3, .int v), (4, .int t)]) hx hb dn_M_rule_202 hl (by decide) rfl (fun ls hl => ?_)
                refine lv_iload hx hb dn_M_rule_204 (lv_at hl 0 rfl) ?_
                refine lv_iload_n hx hb dn_M_rule_206 rfl (lv_at hl 2 rfl) ?_
                refine lv_iconst (v := 3) hx hb dn_M_rule_207 (by decide) ?_
                refine lv_icmp_ne (tgt := 215) hx hb dn_M_rule_208 (by decide) (fun h => absurd h (by decide)) (fun _ => ?_)
                refine lv_iconst (v := 1) hx hb dn_M_rule_211 (by decide) ?_
                refine lv_goto (tgt := 216) hx hb dn_M_rule_212 (by decide) ?_
                refine lv_icmp_ne (tgt := 224) hx hb dn_M_rule_216 (by decide) (fun _ => ?_) (fun h => absurd h (by decide))
                refine lv_iconst (v := 0) hx hb dn_M_rule_224 (by decide) ?_
                exact hret 0 () _ _ _ _ (ruh_ok (Or.inl rfl) (fun q => q.elim h33 (Int32.not_lt.mpr h39)) j1 j2 ho h118 (fun q => h194 (q.2 rfl))) rfl hP hD hS dn_M_rule_225
              · skip
                refine lv_iconst (v := 1) hx hb dn_M_rule_197 (by decide) ?_
                refine lv_goto (tgt := 202) hx hb dn_M_rule_198 (by decide) ?_
                refine lv_istore (lv' := [(5, .int 1), (0, .ref (bd 0)), (1, .int 3), (2, .int (nI j)), (3, .int v), (4, .int t)]) hx hb dn_M_rule_202 hl (by decide) rfl (fun ls hl => ?_)
                refine lv_iload hx hb dn_M_rule_204 (lv_at hl 0 rfl) ?_
                refine lv_iload_n hx hb dn_M_rule_206 rfl (lv_at hl 2 rfl) ?_
                refine lv_iconst (v := 3) hx hb dn_M_rule_207 (by decide) ?_
                refine lv_icmp_ne (tgt := 215) hx hb dn_M_rule_208 (by decide) (fun h => absurd h (by decide)) (fun _ => ?_)
                refine lv_iconst (v := 1) hx hb dn_M_rule_211 (by decide) ?_
                refine lv_goto (tgt := 216) hx hb dn_M_rule_212 (by decide) ?_
                refine lv_icmp_ne (tgt := 224) hx hb dn_M_rule_216 (by decide) (fun h => absurd h (by decide)) (fun _ => ?_)
                refine lv_bipush (v := (-5)) hx hb dn_M_rule_219 (by decide) ?_
                refine lv_goto (tgt := 225) hx hb dn_M_rule_221 (by decide) ?_
                exact hret (-5) () _ _ _ _ (ruh_same (Or.inl rfl) (fun q => q.elim h33 (Int32.not_lt.mpr h39)) j1 j2 ho h118 ⟨fun _ => rfl, fun _ => h194⟩) rfl hP hD hS dn_M_rule_225
            · skip
              refine lv_bipush (v := (-3)) hx hb dn_M_rule_121 (by decide) ?_
              exact hret (-3) () _ _ _ _ (ruh_gone (Or.inl rfl) (fun q => q.elim h33 (Int32.not_lt.mpr h39)) j1 j2 ho h118) rfl hP hD hS dn_M_rule_123
          · skip
            refine lv_bipush (v := (-2)) hx hb dn_M_rule_89 (by decide) ?_
            exact hret (-2) () _ _ _ _ (ruh_abs (Or.inl rfl) (fun q => q.elim h33 (Int32.not_lt.mpr h39)) (by first | exact Or.inl h78 | exact Or.inr (Int32.not_le.mp h86))) rfl hP hD hS dn_M_rule_91
      · skip
        refine lv_iconst (v := (-1)) hx hb dn_M_rule_42 (by decide) ?_
        exact hret (-1) () _ _ _ _ (ruh_bad (Or.inl rfl) (by first | exact Or.inl h33 | exact Or.inr (Int32.not_le.mp h39))) rfl hP hD hS dn_M_rule_43
  · skip
    refine lv_iload_n hx hb dn_M_rule_0 rfl (lv_at hl 1 rfl) ?_
    refine lv_iconst (v := 1) hx hb dn_M_rule_1 (by decide) ?_
    refine lv_icmp_eq (tgt := 10) hx hb dn_M_rule_2 (by decide) (fun h => absurd h (by decide)) (fun _ => ?_)
    refine lv_iload_n hx hb dn_M_rule_5 rfl (lv_at hl 1 rfl) ?_
    refine lv_iconst (v := 2) hx hb dn_M_rule_6 (by decide) ?_
    refine lv_icmp_ne (tgt := 22) hx hb dn_M_rule_7 (by decide) (fun _ => ?_) (fun h => absurd h (by decide))
    refine lv_iload_n hx hb dn_M_rule_22 rfl (lv_at hl 1 rfl) ?_
    refine lv_iconst (v := 3) hx hb dn_M_rule_23 (by decide) ?_
    refine lv_icmp_eq (tgt := 32) hx hb dn_M_rule_24 (by decide) (fun h => absurd h (by decide)) (fun _ => ?_)
    refine lv_iload_n hx hb dn_M_rule_27 rfl (lv_at hl 1 rfl) ?_
    refine lv_iconst (v := 4) hx hb dn_M_rule_28 (by decide) ?_
    refine lv_icmp_ne (tgt := 44) hx hb dn_M_rule_29 (by decide) (fun h => absurd h (by decide)) (fun _ => ?_)
    refine lv_iload_n hx hb dn_M_rule_32 rfl (lv_at hl 3 rfl) ?_
    refine lv_if_lt (tgt := 42) hx hb dn_M_rule_33 (by decide) (fun h33 => ?_) (fun h33 => ?_)
    · skip
      refine lv_iconst (v := (-1)) hx hb dn_M_rule_42 (by decide) ?_
      exact hret (-1) () _ _ _ _ (ruh_bad (Or.inr rfl) (by first | exact Or.inl h33 | exact Or.inr (Int32.not_le.mp h39))) rfl hP hD hS dn_M_rule_43
    · skip
      refine lv_iload_n hx hb dn_M_rule_36 rfl (lv_at hl 3 rfl) ?_
      refine lv_bipush (v := 7) hx hb dn_M_rule_37 (by decide) ?_
      refine lv_icmp_le (tgt := 44) hx hb dn_M_rule_39 (by decide) (fun h39 => ?_) (fun h39 => ?_)
      · skip
        refine lv_iload_n hx hb dn_M_rule_44 rfl (lv_at hl 1 rfl) ?_
        refine lv_iconst (v := 1) hx hb dn_M_rule_45 (by decide) ?_
        refine lv_icmp_ne (tgt := 76) hx hb dn_M_rule_46 (by decide) (fun _ => ?_) (fun h => absurd h (by decide))
        refine lv_iload_n hx hb dn_M_rule_76 rfl (lv_at hl 2 rfl) ?_
        refine lv_iconst (v := 1) hx hb dn_M_rule_77 (by decide) ?_
        refine lv_icmp_lt (tgt := 89) hx hb dn_M_rule_78 (by decide) (fun h78 => ?_) (fun h78 => ?_)
        · skip
          refine lv_bipush (v := (-2)) hx hb dn_M_rule_89 (by decide) ?_
          exact hret (-2) () _ _ _ _ (ruh_abs (Or.inr rfl) (fun q => q.elim h33 (Int32.not_lt.mpr h39)) (by first | exact Or.inl h78 | exact Or.inr (Int32.not_le.mp h86))) rfl hP hD hS dn_M_rule_91
        · skip
          refine lv_iload_n hx hb dn_M_rule_81 rfl (lv_at hl 2 rfl) ?_
          refine lv_aload_n hx hb dn_M_rule_82 rfl (lv_at hl 0 rfl) ?_
          refine va_get (D := (dC, dI)) (ci := 5) (v := .int (nI ob)) (C := rn_M) (T := tn_M) (N := 19) hx hb hw ml_M hown hK hP 0 rfl rfl 7 (by decide) (hw _ mw_480) (fun _ h9 => h9) rfl dn_M_rule_83 ?_
          refine lv_icmp_le (tgt := 92) hx hb dn_M_rule_86 (by decide) (fun h86 => ?_) (fun h86 => ?_)
          · skip
            obtain ⟨j, j1, j2, rfl⟩ := ct_id (by omega) h78 (Int32.not_lt.mpr h86)
            refine lv_iload_n hx hb dn_M_rule_92 rfl (lv_at hl 1 rfl) ?_
            refine lv_bipush (v := 6) hx hb dn_M_rule_93 (by decide) ?_
            refine lv_icmp_ne (tgt := 111) hx hb dn_M_rule_95 (by decide) (fun _ => ?_) (fun h => absurd h (by decide))
            refine lv_aload_n hx hb dn_M_rule_111 rfl (lv_at hl 0 rfl) ?_
            refine va_get (D := (dC, dI)) (ci := 5) (v := .ref (bd 3)) (C := rn_M) (T := tn_M) (N := 19) hx hb hw ml_M hown hK hP 0 rfl rfl 8 (by decide) (hw _ mw_481) (fun _ h9 => h9) rfl dn_M_rule_112 ?_
            refine lv_iload_n hx hb dn_M_rule_115 rfl (lv_at hl 2 rfl) ?_
            refine gr_iald hx hb hK hP 3 0 rfl rfl j rfl (by omega) (by decide) dn_M_rule_116 ?_
            refine lv_iconst (v := 1) hx hb dn_M_rule_117 (by decide) ?_
            refine lv_icmp_eq (tgt := 124) hx hb dn_M_rule_118 (by decide) (fun h118 => ?_) (fun h118 => ?_)
            · skip
              refine lv_iload_n hx hb dn_M_rule_124 rfl (lv_at hl 1 rfl) ?_
              refine lv_iconst (v := 2) hx hb dn_M_rule_125 (by decide) ?_
              refine lv_icmp_ne (tgt := 146) hx hb dn_M_rule_126 (by decide) (fun _ => ?_) (fun h => absurd h (by decide))
              refine lv_iload_n hx hb dn_M_rule_146 rfl (lv_at hl 1 rfl) ?_
              refine lv_iconst (v := 5) hx hb dn_M_rule_147 (by decide) ?_
              refine lv_icmp_lt (tgt := 183) hx hb dn_M_rule_148 (by decide) (fun _ => ?_) (fun h => absurd h (by decide))
              refine lv_aload_n hx hb dn_M_rule_183 rfl (lv_at hl 0 rfl) ?_
              refine va_get (D := (dC, dI)) (ci := 5) (v := .ref (bd 5)) (C := rn_M) (T := tn_M) (N := 19) hx hb hw ml_M hown hK hP 0 rfl rfl 10 (by decide) (hw _ mw_483) (fun _ h9 => h9) rfl dn_M_rule_184 ?_
              refine lv_iload_n hx hb dn_M_rule_187 rfl (lv_at hl 2 rfl) ?_
              refine gr_iald hx hb hK hP 5 0 rfl rfl j rfl (by omega) (by decide) dn_M_rule_188 ?_
              refine lv_iload_n hx hb dn_M_rule_189 rfl (lv_at hl 3 rfl) ?_
              refine lv_ishr hx hb dn_M_rule_190 ?_
              refine lv_iconst (v := 2) hx hb dn_M_rule_191 (by decide) ?_
              refine lv_irem hx hb dn_M_rule_192 (by decide) ?_
              refine lv_iconst (v := 1) hx hb dn_M_rule_193 (by decide) ?_
              refine lv_icmp_ne (tgt := 201) hx hb dn_M_rule_194 (by decide) (fun h194 => ?_) (fun h194 => ?_)
              · skip
                refine lv_iconst (v := 0) hx hb dn_M_rule_201 (by decide) ?_
                refine lv_istore (lv' := [(5, .int 0), (0, .ref (bd 0)), (1, .int 4), (2, .int (nI j)), (3, .int v), (4, .int t)]) hx hb dn_M_rule_202 hl (by decide) rfl (fun ls hl => ?_)
                refine lv_iload hx hb dn_M_rule_204 (lv_at hl 0 rfl) ?_
                refine lv_iload_n hx hb dn_M_rule_206 rfl (lv_at hl 2 rfl) ?_
                refine lv_iconst (v := 3) hx hb dn_M_rule_207 (by decide) ?_
                refine lv_icmp_ne (tgt := 215) hx hb dn_M_rule_208 (by decide) (fun _ => ?_) (fun h => absurd h (by decide))
                refine lv_iconst (v := 0) hx hb dn_M_rule_215 (by decide) ?_
                refine lv_icmp_ne (tgt := 224) hx hb dn_M_rule_216 (by decide) (fun h => absurd h (by decide)) (fun _ => ?_)
                refine lv_bipush (v := (-5)) hx hb dn_M_rule_219 (by decide) ?_
                refine lv_goto (tgt := 225) hx hb dn_M_rule_221 (by decide) ?_
                exact hret (-5) () _ _ _ _ (ruh_same (Or.inr rfl) (fun q => q.elim h33 (Int32.not_lt.mpr h39)) j1 j2 ho h118 ⟨fun q => absurd q h194, fun q => absurd q (by decide)⟩) rfl hP hD hS dn_M_rule_225
              · skip
                refine lv_iconst (v := 1) hx hb dn_M_rule_197 (by decide) ?_
                refine lv_goto (tgt := 202) hx hb dn_M_rule_198 (by decide) ?_
                refine lv_istore (lv' := [(5, .int 1), (0, .ref (bd 0)), (1, .int 4), (2, .int (nI j)), (3, .int v), (4, .int t)]) hx hb dn_M_rule_202 hl (by decide) rfl (fun ls hl => ?_)
                refine lv_iload hx hb dn_M_rule_204 (lv_at hl 0 rfl) ?_
                refine lv_iload_n hx hb dn_M_rule_206 rfl (lv_at hl 2 rfl) ?_
                refine lv_iconst (v := 3) hx hb dn_M_rule_207 (by decide) ?_
                refine lv_icmp_ne (tgt := 215) hx hb dn_M_rule_208 (by decide) (fun _ => ?_) (fun h => absurd h (by decide))
                refine lv_iconst (v := 0) hx hb dn_M_rule_215 (by decide) ?_
                refine lv_icmp_ne (tgt := 224) hx hb dn_M_rule_216 (by decide) (fun _ => ?_) (fun h => absurd h (by decide))
                refine lv_iconst (v := 0) hx hb dn_M_rule_224 (by decide) ?_
                exact hret 0 () _ _ _ _ (ruh_ok (Or.inr rfl) (fun q => q.elim h33 (Int32.not_lt.mpr h39)) j1 j2 ho h118 (fun q => absurd (q.1 h194) (by decide))) rfl hP hD hS dn_M_rule_225
            · skip
              refine lv_bipush (v := (-3)) hx hb dn_M_rule_121 (by decide) ?_
              exact hret (-3) () _ _ _ _ (ruh_gone (Or.inr rfl) (fun q => q.elim h33 (Int32.not_lt.mpr h39)) j1 j2 ho h118) rfl hP hD hS dn_M_rule_123
          · skip
            refine lv_bipush (v := (-2)) hx hb dn_M_rule_89 (by decide) ?_
            exact hret (-2) () _ _ _ _ (ruh_abs (Or.inr rfl) (fun q => q.elim h33 (Int32.not_lt.mpr h39)) (by first | exact Or.inl h78 | exact Or.inr (Int32.not_le.mp h86))) rfl hP hD hS dn_M_rule_91
      · skip
        refine lv_iconst (v := (-1)) hx hb dn_M_rule_42 (by decide) ?_
        exact hret (-1) () _ _ _ _ (ruh_bad (Or.inr rfl) (by first | exact Or.inl h33 | exact Or.inr (Int32.not_le.mp h39))) rfl hP hD hS dn_M_rule_43
  · skip
    refine lv_iload_n hx hb dn_M_rule_0 rfl (lv_at hl 1 rfl) ?_
    refine lv_iconst (v := 1) hx hb dn_M_rule_1 (by decide) ?_
    refine lv_icmp_eq (tgt := 10) hx hb dn_M_rule_2 (by decide) (fun h => absurd h (by decide)) (fun _ => ?_)
    refine lv_iload_n hx hb dn_M_rule_5 rfl (lv_at hl 1 rfl) ?_
    refine lv_iconst (v := 2) hx hb dn_M_rule_6 (by decide) ?_
    refine lv_icmp_ne (tgt := 22) hx hb dn_M_rule_7 (by decide) (fun _ => ?_) (fun h => absurd h (by decide))
    refine lv_iload_n hx hb dn_M_rule_22 rfl (lv_at hl 1 rfl) ?_
    refine lv_iconst (v := 3) hx hb dn_M_rule_23 (by decide) ?_
    refine lv_icmp_eq (tgt := 32) hx hb dn_M_rule_24 (by decide) (fun h => absurd h (by decide)) (fun _ => ?_)
    refine lv_iload_n hx hb dn_M_rule_27 rfl (lv_at hl 1 rfl) ?_
    refine lv_iconst (v := 4) hx hb dn_M_rule_28 (by decide) ?_
    refine lv_icmp_ne (tgt := 44) hx hb dn_M_rule_29 (by decide) (fun _ => ?_) (fun h => absurd h (by decide))
    refine lv_iload_n hx hb dn_M_rule_44 rfl (lv_at hl 1 rfl) ?_
    refine lv_iconst (v := 1) hx hb dn_M_rule_45 (by decide) ?_
    refine lv_icmp_ne (tgt := 76) hx hb dn_M_rule_46 (by decide) (fun _ => ?_) (fun h => absurd h (by decide))
    refine lv_iload_n hx hb dn_M_rule_76 rfl (lv_at hl 2 rfl) ?_
    refine lv_iconst (v := 1) hx hb dn_M_rule_77 (by decide) ?_
    refine lv_icmp_lt (tgt := 89) hx hb dn_M_rule_78 (by decide) (fun h78 => ?_) (fun h78 => ?_)
    · skip
      refine lv_bipush (v := (-2)) hx hb dn_M_rule_89 (by decide) ?_
      exact hret (-2) () _ _ _ _ (rue_abs (Or.inl rfl) (by first | exact Or.inl h78 | exact Or.inr (Int32.not_le.mp h86))) rfl hP hD hS dn_M_rule_91
    · skip
      refine lv_iload_n hx hb dn_M_rule_81 rfl (lv_at hl 2 rfl) ?_
      refine lv_aload_n hx hb dn_M_rule_82 rfl (lv_at hl 0 rfl) ?_
      refine va_get (D := (dC, dI)) (ci := 5) (v := .int (nI ob)) (C := rn_M) (T := tn_M) (N := 19) hx hb hw ml_M hown hK hP 0 rfl rfl 7 (by decide) (hw _ mw_480) (fun _ h9 => h9) rfl dn_M_rule_83 ?_
      refine lv_icmp_le (tgt := 92) hx hb dn_M_rule_86 (by decide) (fun h86 => ?_) (fun h86 => ?_)
      · skip
        obtain ⟨j, j1, j2, rfl⟩ := ct_id (by omega) h78 (Int32.not_lt.mpr h86)
        refine lv_iload_n hx hb dn_M_rule_92 rfl (lv_at hl 1 rfl) ?_
        refine lv_bipush (v := 6) hx hb dn_M_rule_93 (by decide) ?_
        refine lv_icmp_ne (tgt := 111) hx hb dn_M_rule_95 (by decide) (fun _ => ?_) (fun h => absurd h (by decide))
        refine lv_aload_n hx hb dn_M_rule_111 rfl (lv_at hl 0 rfl) ?_
        refine va_get (D := (dC, dI)) (ci := 5) (v := .ref (bd 3)) (C := rn_M) (T := tn_M) (N := 19) hx hb hw ml_M hown hK hP 0 rfl rfl 8 (by decide) (hw _ mw_481) (fun _ h9 => h9) rfl dn_M_rule_112 ?_
        refine lv_iload_n hx hb dn_M_rule_115 rfl (lv_at hl 2 rfl) ?_
        refine gr_iald hx hb hK hP 3 0 rfl rfl j rfl (by omega) (by decide) dn_M_rule_116 ?_
        refine lv_iconst (v := 1) hx hb dn_M_rule_117 (by decide) ?_
        refine lv_icmp_eq (tgt := 124) hx hb dn_M_rule_118 (by decide) (fun h118 => ?_) (fun h118 => ?_)
        · skip
          refine lv_iload_n hx hb dn_M_rule_124 rfl (lv_at hl 1 rfl) ?_
          refine lv_iconst (v := 2) hx hb dn_M_rule_125 (by decide) ?_
          refine lv_icmp_ne (tgt := 146) hx hb dn_M_rule_126 (by decide) (fun _ => ?_) (fun h => absurd h (by decide))
          refine lv_iload_n hx hb dn_M_rule_146 rfl (lv_at hl 1 rfl) ?_
          refine lv_iconst (v := 5) hx hb dn_M_rule_147 (by decide) ?_
          refine lv_icmp_lt (tgt := 183) hx hb dn_M_rule_148 (by decide) (fun h => absurd h (by decide)) (fun _ => ?_)
          refine lv_aload_n hx hb dn_M_rule_151 rfl (lv_at hl 0 rfl) ?_
          refine va_get (D := (dC, dI)) (ci := 5) (v := .ref (bd 5)) (C := rn_M) (T := tn_M) (N := 19) hx hb hw ml_M hown hK hP 0 rfl rfl 10 (by decide) (hw _ mw_483) (fun _ h9 => h9) rfl dn_M_rule_152 ?_
          refine lv_iload_n hx hb dn_M_rule_155 rfl (lv_at hl 2 rfl) ?_
          refine gr_iald hx hb hK hP 5 0 rfl rfl j rfl (by omega) (by decide) dn_M_rule_156 ?_
          refine lv_if_eq (tgt := 165) hx hb dn_M_rule_157 (by decide) (fun h157 => ?_) (fun h157 => ?_)
          · skip
            refine lv_iload hx hb dn_M_rule_165 (lv_at hl 4 rfl) ?_
            refine lv_aload_n hx hb dn_M_rule_167 rfl (lv_at hl 0 rfl) ?_
            refine va_get (D := (dC, dI)) (ci := 5) (v := .ref (bd 4)) (C := rn_M) (T := tn_M) (N := 19) hx hb hw ml_M hown hK hP 0 rfl rfl 9 (by decide) (hw _ mw_482) (fun _ h9 => h9) rfl dn_M_rule_168 ?_
            refine lv_iload_n hx hb dn_M_rule_171 rfl (lv_at hl 2 rfl) ?_
            refine gr_iald hx hb hK hP 4 0 rfl rfl j rfl (by omega) (by decide) dn_M_rule_172 ?_
            refine lv_icmp_ge (tgt := 181) hx hb dn_M_rule_173 (by decide) (fun h173 => ?_) (fun h173 => ?_)
            · skip
              refine lv_iconst (v := 0) hx hb dn_M_rule_181 (by decide) ?_
              exact hret 0 () _ _ _ _ (rue_ok (Or.inl rfl) j1 j2 ho (ru_live h118 (by decide)) h157 (Int32.not_lt.mpr h173)) rfl hP hD hS dn_M_rule_182
            · skip
              refine lv_bipush (v := (-7)) hx hb dn_M_rule_176 (by decide) ?_
              refine lv_goto (tgt := 182) hx hb dn_M_rule_178 (by decide) ?_
              exact hret (-7) () _ _ _ _ (rue_early (Or.inl rfl) j1 j2 ho (ru_live h118 (by decide)) h157 (Int32.not_le.mp h173)) rfl hP hD hS dn_M_rule_182
          · skip
            refine lv_bipush (v := (-6)) hx hb dn_M_rule_160 (by decide) ?_
            refine lv_goto (tgt := 182) hx hb dn_M_rule_162 (by decide) ?_
            exact hret (-6) () _ _ _ _ (rue_held (Or.inl rfl) j1 j2 ho (ru_live h118 (by decide)) h157) rfl hP hD hS dn_M_rule_182
        · skip
          refine lv_bipush (v := (-3)) hx hb dn_M_rule_121 (by decide) ?_
          exact hret (-3) () _ _ _ _ (rue_gone (Or.inl rfl) j1 j2 ho (Or.inr ⟨by decide, h118⟩)) rfl hP hD hS dn_M_rule_123
      · skip
        refine lv_bipush (v := (-2)) hx hb dn_M_rule_89 (by decide) ?_
        exact hret (-2) () _ _ _ _ (rue_abs (Or.inl rfl) (by first | exact Or.inl h78 | exact Or.inr (Int32.not_le.mp h86))) rfl hP hD hS dn_M_rule_91
  · skip
    refine lv_iload_n hx hb dn_M_rule_0 rfl (lv_at hl 1 rfl) ?_
    refine lv_iconst (v := 1) hx hb dn_M_rule_1 (by decide) ?_
    refine lv_icmp_eq (tgt := 10) hx hb dn_M_rule_2 (by decide) (fun h => absurd h (by decide)) (fun _ => ?_)
    refine lv_iload_n hx hb dn_M_rule_5 rfl (lv_at hl 1 rfl) ?_
    refine lv_iconst (v := 2) hx hb dn_M_rule_6 (by decide) ?_
    refine lv_icmp_ne (tgt := 22) hx hb dn_M_rule_7 (by decide) (fun _ => ?_) (fun h => absurd h (by decide))
    refine lv_iload_n hx hb dn_M_rule_22 rfl (lv_at hl 1 rfl) ?_
    refine lv_iconst (v := 3) hx hb dn_M_rule_23 (by decide) ?_
    refine lv_icmp_eq (tgt := 32) hx hb dn_M_rule_24 (by decide) (fun h => absurd h (by decide)) (fun _ => ?_)
    refine lv_iload_n hx hb dn_M_rule_27 rfl (lv_at hl 1 rfl) ?_
    refine lv_iconst (v := 4) hx hb dn_M_rule_28 (by decide) ?_
    refine lv_icmp_ne (tgt := 44) hx hb dn_M_rule_29 (by decide) (fun _ => ?_) (fun h => absurd h (by decide))
    refine lv_iload_n hx hb dn_M_rule_44 rfl (lv_at hl 1 rfl) ?_
    refine lv_iconst (v := 1) hx hb dn_M_rule_45 (by decide) ?_
    refine lv_icmp_ne (tgt := 76) hx hb dn_M_rule_46 (by decide) (fun _ => ?_) (fun h => absurd h (by decide))
    refine lv_iload_n hx hb dn_M_rule_76 rfl (lv_at hl 2 rfl) ?_
    refine lv_iconst (v := 1) hx hb dn_M_rule_77 (by decide) ?_
    refine lv_icmp_lt (tgt := 89) hx hb dn_M_rule_78 (by decide) (fun h78 => ?_) (fun h78 => ?_)
    · skip
      refine lv_bipush (v := (-2)) hx hb dn_M_rule_89 (by decide) ?_
      exact hret (-2) () _ _ _ _ (rue_abs (Or.inr rfl) (by first | exact Or.inl h78 | exact Or.inr (Int32.not_le.mp h86))) rfl hP hD hS dn_M_rule_91
    · skip
      refine lv_iload_n hx hb dn_M_rule_81 rfl (lv_at hl 2 rfl) ?_
      refine lv_aload_n hx hb dn_M_rule_82 rfl (lv_at hl 0 rfl) ?_
      refine va_get (D := (dC, dI)) (ci := 5) (v := .int (nI ob)) (C := rn_M) (T := tn_M) (N := 19) hx hb hw ml_M hown hK hP 0 rfl rfl 7 (by decide) (hw _ mw_480) (fun _ h9 => h9) rfl dn_M_rule_83 ?_
      refine lv_icmp_le (tgt := 92) hx hb dn_M_rule_86 (by decide) (fun h86 => ?_) (fun h86 => ?_)
      · skip
        obtain ⟨j, j1, j2, rfl⟩ := ct_id (by omega) h78 (Int32.not_lt.mpr h86)
        refine lv_iload_n hx hb dn_M_rule_92 rfl (lv_at hl 1 rfl) ?_
        refine lv_bipush (v := 6) hx hb dn_M_rule_93 (by decide) ?_
        refine lv_icmp_ne (tgt := 111) hx hb dn_M_rule_95 (by decide) (fun h => absurd h (by decide)) (fun _ => ?_)
        refine lv_aload_n hx hb dn_M_rule_98 rfl (lv_at hl 0 rfl) ?_
        refine va_get (D := (dC, dI)) (ci := 5) (v := .ref (bd 3)) (C := rn_M) (T := tn_M) (N := 19) hx hb hw ml_M hown hK hP 0 rfl rfl 8 (by decide) (hw _ mw_481) (fun _ h9 => h9) rfl dn_M_rule_99 ?_
        refine lv_iload_n hx hb dn_M_rule_102 rfl (lv_at hl 2 rfl) ?_
        refine gr_iald hx hb hK hP 3 0 rfl rfl j rfl (by omega) (by decide) dn_M_rule_103 ?_
        refine lv_iconst (v := 3) hx hb dn_M_rule_104 (by decide) ?_
        refine lv_icmp_ne (tgt := 124) hx hb dn_M_rule_105 (by decide) (fun h105 => ?_) (fun h105 => ?_)
        · skip
          refine lv_iload_n hx hb dn_M_rule_124 rfl (lv_at hl 1 rfl) ?_
          refine lv_iconst (v := 2) hx hb dn_M_rule_125 (by decide) ?_
          refine lv_icmp_ne (tgt := 146) hx hb dn_M_rule_126 (by decide) (fun _ => ?_) (fun h => absurd h (by decide))
          refine lv_iload_n hx hb dn_M_rule_146 rfl (lv_at hl 1 rfl) ?_
          refine lv_iconst (v := 5) hx hb dn_M_rule_147 (by decide) ?_
          refine lv_icmp_lt (tgt := 183) hx hb dn_M_rule_148 (by decide) (fun h => absurd h (by decide)) (fun _ => ?_)
          refine lv_aload_n hx hb dn_M_rule_151 rfl (lv_at hl 0 rfl) ?_
          refine va_get (D := (dC, dI)) (ci := 5) (v := .ref (bd 5)) (C := rn_M) (T := tn_M) (N := 19) hx hb hw ml_M hown hK hP 0 rfl rfl 10 (by decide) (hw _ mw_483) (fun _ h9 => h9) rfl dn_M_rule_152 ?_
          refine lv_iload_n hx hb dn_M_rule_155 rfl (lv_at hl 2 rfl) ?_
          refine gr_iald hx hb hK hP 5 0 rfl rfl j rfl (by omega) (by decide) dn_M_rule_156 ?_
          refine lv_if_eq (tgt := 165) hx hb dn_M_rule_157 (by decide) (fun h157 => ?_) (fun h157 => ?_)
          · skip
            refine lv_iload hx hb dn_M_rule_165 (lv_at hl 4 rfl) ?_
            refine lv_aload_n hx hb dn_M_rule_167 rfl (lv_at hl 0 rfl) ?_
            refine va_get (D := (dC, dI)) (ci := 5) (v := .ref (bd 4)) (C := rn_M) (T := tn_M) (N := 19) hx hb hw ml_M hown hK hP 0 rfl rfl 9 (by decide) (hw _ mw_482) (fun _ h9 => h9) rfl dn_M_rule_168 ?_
            refine lv_iload_n hx hb dn_M_rule_171 rfl (lv_at hl 2 rfl) ?_
            refine gr_iald hx hb hK hP 4 0 rfl rfl j rfl (by omega) (by decide) dn_M_rule_172 ?_
            refine lv_icmp_ge (tgt := 181) hx hb dn_M_rule_173 (by decide) (fun h173 => ?_) (fun h173 => ?_)
            · skip
              refine lv_iconst (v := 0) hx hb dn_M_rule_181 (by decide) ?_
              exact hret 0 () _ _ _ _ (rue_ok (Or.inr rfl) j1 j2 ho (fun q => q.elim (fun q => h105 q.2) (fun q => q.1 rfl)) h157 (Int32.not_lt.mpr h173)) rfl hP hD hS dn_M_rule_182
            · skip
              refine lv_bipush (v := (-7)) hx hb dn_M_rule_176 (by decide) ?_
              refine lv_goto (tgt := 182) hx hb dn_M_rule_178 (by decide) ?_
              exact hret (-7) () _ _ _ _ (rue_early (Or.inr rfl) j1 j2 ho (fun q => q.elim (fun q => h105 q.2) (fun q => q.1 rfl)) h157 (Int32.not_le.mp h173)) rfl hP hD hS dn_M_rule_182
          · skip
            refine lv_bipush (v := (-6)) hx hb dn_M_rule_160 (by decide) ?_
            refine lv_goto (tgt := 182) hx hb dn_M_rule_162 (by decide) ?_
            exact hret (-6) () _ _ _ _ (rue_held (Or.inr rfl) j1 j2 ho (fun q => q.elim (fun q => h105 q.2) (fun q => q.1 rfl)) h157) rfl hP hD hS dn_M_rule_182
        · skip
          refine lv_goto (tgt := 121) hx hb dn_M_rule_108 (by decide) ?_
          refine lv_bipush (v := (-3)) hx hb dn_M_rule_121 (by decide) ?_
          exact hret (-3) () _ _ _ _ (rue_gone (Or.inr rfl) j1 j2 ho (Or.inl ⟨rfl, h105⟩)) rfl hP hD hS dn_M_rule_123
      · skip
        refine lv_bipush (v := (-2)) hx hb dn_M_rule_89 (by decide) ?_
        exact hret (-2) () _ _ _ _ (rue_abs (Or.inr rfl) (by first | exact Or.inl h78 | exact Or.inr (Int32.not_le.mp h86))) rfl hP hD hS dn_M_rule_91

set_option maxRecDepth 100000 in
set_option maxHeartbeats 4000000 in
theorem c_M_apply (l : Launch) (dC : Nat → ClassId) (dI : Nat → Nat → Nat) (cI cZ : ClassId) (bd : Nat → Nat) (clk : Nat) (pw lf : Int32) (f fd : Nat → Int32) (fc sn ob : Nat) (S D G : Nat → Int32) (st : Nat) (Y Z X : Nat → Int32) (ef ec fu : Nat) (g : Nat → Int32) (ho : ob ≤ 12) (P_ : Nat → Int32) (r_ : Nat) (kind id v t : Int32) (hr : ct_ru ob S D G kind id v t = 0) (k1 : 1 ≤ kind) (k6 : kind ≤ 6) : gc_V l yn_M_apply (gw yn_M_apply cn_M_apply 4 none) (rm_ 0 0) (dC, dI) vwCl (gT cI cZ) [.ref (bd 0), .int kind, .int id, .int v] [(bd 0, .inr (5, [.ref (bd 1), .int (nI clk), .int pw, .int lf, .ref (bd 2), .int (nI fc), .int (nI sn), .int (nI ob), .ref (bd 3), .ref (bd 4), .ref (bd 5), .int (nI st), .ref (bd 6), .ref (bd 7), .ref (bd 8), .int (nI ef), .int (nI ec), .int (nI fu), .ref (bd 9)])), (bd 1, .inl (cI, 292, .inl f)), (bd 2, .inl (cI, 12, .inl fd)), (bd 3, .inl (cI, 13, .inl S)), (bd 4, .inl (cI, 13, .inl D)), (bd 5, .inl (cI, 13, .inl G)), (bd 6, .inl (cI, 8, .inl Y)), (bd 7, .inl (cI, 8, .inl Z)), (bd 8, .inl (cZ, 8, .inl X)), (bd 9, .inl (cI, 40, .inl g))] (fun (u : ct_T) => u = ct_ap (ob, S, D, G, P_) r_ kind id v) (fun u => [(bd 0, .inr (5, [.ref (bd 1), .int (nI clk), .int pw, .int lf, .ref (bd 2), .int (nI fc), .int (nI sn), .int (nI u.1), .ref (bd 3), .ref (bd 4), .ref (bd 5), .int (nI st), .ref (bd 6), .ref (bd 7), .ref (bd 8), .int (nI ef), .int (nI ec), .int (nI fu), .ref (bd 9)])), (bd 1, .inl (cI, 292, .inl f)), (bd 2, .inl (cI, 12, .inl fd)), (bd 3, .inl (cI, 13, .inl u.2.1)), (bd 4, .inl (cI, 13, .inl u.2.2.1)), (bd 5, .inl (cI, 13, .inl u.2.2.2.1)), (bd 6, .inl (cI, 8, .inl Y)), (bd 7, .inl (cI, 8, .inl Z)), (bd 8, .inl (cZ, 8, .inl X)), (bd 9, .inl (cI, 40, .inl g))]) := by
  refine gc_V_of (cc := cn_M_apply) (maxL := 4) (by decide) rfl (Nat.le_of_ble_eq_true rfl) ?_
  intro pp ee ss mm ar be me cd A Q ls H0 H locs hx hb hml hown hts hK hP hD hS hA hl hret
  have hw : ∀ w ∈ gw_T, w.before ar ss = true := fun w h => hts w (List.mem_cons_of_mem _ h)
  have hl : lv_has ls 4 [(0, .ref (bd 0)), (1, .int kind), (2, .int id), (3, .int v)] := hl
  rcases ct_kind k1 k6 with rfl | rfl | rfl | rfl | rfl | rfl
  · skip
    have hlt : ob < 12 := (ct_ru_put hr).1
    refine lv_iload_n hx hb dn_M_apply_0 rfl (lv_at hl 1 rfl) ?_
    refine lv_iconst (v := 1) hx hb dn_M_apply_1 (by decide) ?_
    refine lv_icmp_ne (tgt := 48) hx hb dn_M_apply_2 (by decide) (fun h => absurd h (by decide)) (fun _ => ?_)
    refine lv_aload_n hx hb dn_M_apply_5 rfl (lv_at hl 0 rfl) ?_
    refine lv_aload_n hx hb dn_M_apply_6 rfl (lv_at hl 0 rfl) ?_
    refine va_get (D := (dC, dI)) (ci := 5) (v := .int (nI ob)) (C := rn_M) (T := tn_M) (N := 19) hx hb hw ml_M hown hK hP 0 rfl rfl 7 (by decide) (hw _ mw_480) (fun _ h9 => h9) rfl dn_M_apply_7 ?_
    refine lv_iconst (v := 1) hx hb dn_M_apply_10 (by decide) ?_
    refine gr_addN hx hb ob 1 rfl rfl dn_M_apply_11 ?_
    refine va_put (D := (dC, dI)) (ci := 5) (v := .int (nI (ob + 1))) (ty := .int) (C := rn_M) (T := tn_M) (N := 19) hx hb hw ml_M tt_M to_M nd_M hown hK hP hD hS 0 rfl rfl 7 (by decide) (hw _ mw_480) (fun _ h9 => h9) rfl (by decide +kernel) rfl rfl (Nat.le_of_ble_eq_true rfl) dn_M_apply_12 (fun H locs hP hD hS => ?_)
    have hP : va_P (dC, dI) vwCl [(bd 0, .inr (5, [.ref (bd 1), .int (nI clk), .int pw, .int lf, .ref (bd 2), .int (nI fc), .int (nI sn), .int (nI (ob + 1)), .ref (bd 3), .ref (bd 4), .ref (bd 5), .int (nI st), .ref (bd 6), .ref (bd 7), .ref (bd 8), .int (nI ef), .int (nI ec), .int (nI fu), .ref (bd 9)])), (bd 1, .inl (cI, 292, .inl f)), (bd 2, .inl (cI, 12, .inl fd)), (bd 3, .inl (cI, 13, .inl S)), (bd 4, .inl (cI, 13, .inl D)), (bd 5, .inl (cI, 13, .inl G)), (bd 6, .inl (cI, 8, .inl Y)), (bd 7, .inl (cI, 8, .inl Z)), (bd 8, .inl (cZ, 8, .inl X)), (bd 9, .inl (cI, 40, .inl g))] H := hP
    have hD : va_D A [(bd 0, .inr (5, [.ref (bd 1), .int (nI clk), .int pw, .int lf, .ref (bd 2), .int (nI fc), .int (nI sn), .int (nI (ob + 1)), .ref (bd 3), .ref (bd 4), .ref (bd 5), .int (nI st), .ref (bd 6), .ref (bd 7), .ref (bd 8), .int (nI ef), .int (nI ec), .int (nI fu), .ref (bd 9)])), (bd 1, .inl (cI, 292, .inl f)), (bd 2, .inl (cI, 12, .inl fd)), (bd 3, .inl (cI, 13, .inl S)), (bd 4, .inl (cI, 13, .inl D)), (bd 5, .inl (cI, 13, .inl G)), (bd 6, .inl (cI, 8, .inl Y)), (bd 7, .inl (cI, 8, .inl Z)), (bd 8, .inl (cZ, 8, .inl X)), (bd 9, .inl (cI, 40, .inl g))] := hD
    refine lv_aload_n hx hb dn_M_apply_15 rfl (lv_at hl 0 rfl) ?_
    refine va_get (D := (dC, dI)) (ci := 5) (v := .ref (bd 3)) (C := rn_M) (T := tn_M) (N := 19) hx hb hw ml_M hown hK hP 0 rfl rfl 8 (by decide) (hw _ mw_481) (fun _ h9 => h9) rfl dn_M_apply_16 ?_
    refine lv_aload_n hx hb dn_M_apply_19 rfl (lv_at hl 0 rfl) ?_
    refine va_get (D := (dC, dI)) (ci := 5) (v := .int (nI (ob + 1))) (C := rn_M) (T := tn_M) (N := 19) hx hb hw ml_M hown hK hP 0 rfl rfl 7 (by decide) (hw _ mw_480) (fun _ h9 => h9) rfl dn_M_apply_20 ?_
    refine lv_iconst (v := 1) hx hb dn_M_apply_23 (by decide) ?_
    refine gr_iast hx hb hK hP hD hS 3 0 rfl rfl (ob + 1) rfl (by omega) (by decide) dn_M_apply_24 (fun H locs hP hD hS => ?_)
    have hP : va_P (dC, dI) vwCl [(bd 0, .inr (5, [.ref (bd 1), .int (nI clk), .int pw, .int lf, .ref (bd 2), .int (nI fc), .int (nI sn), .int (nI (ob + 1)), .ref (bd 3), .ref (bd 4), .ref (bd 5), .int (nI st), .ref (bd 6), .ref (bd 7), .ref (bd 8), .int (nI ef), .int (nI ec), .int (nI fu), .ref (bd 9)])), (bd 1, .inl (cI, 292, .inl f)), (bd 2, .inl (cI, 12, .inl fd)), (bd 3, .inl (cI, 13, .inl (upd S (ob + 1) 1))), (bd 4, .inl (cI, 13, .inl D)), (bd 5, .inl (cI, 13, .inl G)), (bd 6, .inl (cI, 8, .inl Y)), (bd 7, .inl (cI, 8, .inl Z)), (bd 8, .inl (cZ, 8, .inl X)), (bd 9, .inl (cI, 40, .inl g))] H := hP
    have hD : va_D A [(bd 0, .inr (5, [.ref (bd 1), .int (nI clk), .int pw, .int lf, .ref (bd 2), .int (nI fc), .int (nI sn), .int (nI (ob + 1)), .ref (bd 3), .ref (bd 4), .ref (bd 5), .int (nI st), .ref (bd 6), .ref (bd 7), .ref (bd 8), .int (nI ef), .int (nI ec), .int (nI fu), .ref (bd 9)])), (bd 1, .inl (cI, 292, .inl f)), (bd 2, .inl (cI, 12, .inl fd)), (bd 3, .inl (cI, 13, .inl (upd S (ob + 1) 1))), (bd 4, .inl (cI, 13, .inl D)), (bd 5, .inl (cI, 13, .inl G)), (bd 6, .inl (cI, 8, .inl Y)), (bd 7, .inl (cI, 8, .inl Z)), (bd 8, .inl (cZ, 8, .inl X)), (bd 9, .inl (cI, 40, .inl g))] := hD
    refine lv_aload_n hx hb dn_M_apply_25 rfl (lv_at hl 0 rfl) ?_
    refine va_get (D := (dC, dI)) (ci := 5) (v := .ref (bd 4)) (C := rn_M) (T := tn_M) (N := 19) hx hb hw ml_M hown hK hP 0 rfl rfl 9 (by decide) (hw _ mw_482) (fun _ h9 => h9) rfl dn_M_apply_26 ?_
    refine lv_aload_n hx hb dn_M_apply_29 rfl (lv_at hl 0 rfl) ?_
    refine va_get (D := (dC, dI)) (ci := 5) (v := .int (nI (ob + 1))) (C := rn_M) (T := tn_M) (N := 19) hx hb hw ml_M hown hK hP 0 rfl rfl 7 (by decide) (hw _ mw_480) (fun _ h9 => h9) rfl dn_M_apply_30 ?_
    refine lv_iload_n hx hb dn_M_apply_33 rfl (lv_at hl 3 rfl) ?_
    refine gr_iast hx hb hK hP hD hS 4 0 rfl rfl (ob + 1) rfl (by omega) (by decide) dn_M_apply_34 (fun H locs hP hD hS => ?_)
    have hP : va_P (dC, dI) vwCl [(bd 0, .inr (5, [.ref (bd 1), .int (nI clk), .int pw, .int lf, .ref (bd 2), .int (nI fc), .int (nI sn), .int (nI (ob + 1)), .ref (bd 3), .ref (bd 4), .ref (bd 5), .int (nI st), .ref (bd 6), .ref (bd 7), .ref (bd 8), .int (nI ef), .int (nI ec), .int (nI fu), .ref (bd 9)])), (bd 1, .inl (cI, 292, .inl f)), (bd 2, .inl (cI, 12, .inl fd)), (bd 3, .inl (cI, 13, .inl (upd S (ob + 1) 1))), (bd 4, .inl (cI, 13, .inl (upd D (ob + 1) v))), (bd 5, .inl (cI, 13, .inl G)), (bd 6, .inl (cI, 8, .inl Y)), (bd 7, .inl (cI, 8, .inl Z)), (bd 8, .inl (cZ, 8, .inl X)), (bd 9, .inl (cI, 40, .inl g))] H := hP
    have hD : va_D A [(bd 0, .inr (5, [.ref (bd 1), .int (nI clk), .int pw, .int lf, .ref (bd 2), .int (nI fc), .int (nI sn), .int (nI (ob + 1)), .ref (bd 3), .ref (bd 4), .ref (bd 5), .int (nI st), .ref (bd 6), .ref (bd 7), .ref (bd 8), .int (nI ef), .int (nI ec), .int (nI fu), .ref (bd 9)])), (bd 1, .inl (cI, 292, .inl f)), (bd 2, .inl (cI, 12, .inl fd)), (bd 3, .inl (cI, 13, .inl (upd S (ob + 1) 1))), (bd 4, .inl (cI, 13, .inl (upd D (ob + 1) v))), (bd 5, .inl (cI, 13, .inl G)), (bd 6, .inl (cI, 8, .inl Y)), (bd 7, .inl (cI, 8, .inl Z)), (bd 8, .inl (cZ, 8, .inl X)), (bd 9, .inl (cI, 40, .inl g))] := hD
    refine lv_aload_n hx hb dn_M_apply_35 rfl (lv_at hl 0 rfl) ?_
    refine va_get (D := (dC, dI)) (ci := 5) (v := .ref (bd 5)) (C := rn_M) (T := tn_M) (N := 19) hx hb hw ml_M hown hK hP 0 rfl rfl 10 (by decide) (hw _ mw_483) (fun _ h9 => h9) rfl dn_M_apply_36 ?_
    refine lv_aload_n hx hb dn_M_apply_39 rfl (lv_at hl 0 rfl) ?_
    refine va_get (D := (dC, dI)) (ci := 5) (v := .int (nI (ob + 1))) (C := rn_M) (T := tn_M) (N := 19) hx hb hw ml_M hown hK hP 0 rfl rfl 7 (by decide) (hw _ mw_480) (fun _ h9 => h9) rfl dn_M_apply_40 ?_
    refine lv_iconst (v := 0) hx hb dn_M_apply_43 (by decide) ?_
    refine gr_iast hx hb hK hP hD hS 5 0 rfl rfl (ob + 1) rfl (by omega) (by decide) dn_M_apply_44 (fun H locs hP hD hS => ?_)
    have hP : va_P (dC, dI) vwCl [(bd 0, .inr (5, [.ref (bd 1), .int (nI clk), .int pw, .int lf, .ref (bd 2), .int (nI fc), .int (nI sn), .int (nI (ob + 1)), .ref (bd 3), .ref (bd 4), .ref (bd 5), .int (nI st), .ref (bd 6), .ref (bd 7), .ref (bd 8), .int (nI ef), .int (nI ec), .int (nI fu), .ref (bd 9)])), (bd 1, .inl (cI, 292, .inl f)), (bd 2, .inl (cI, 12, .inl fd)), (bd 3, .inl (cI, 13, .inl (upd S (ob + 1) 1))), (bd 4, .inl (cI, 13, .inl (upd D (ob + 1) v))), (bd 5, .inl (cI, 13, .inl (upd G (ob + 1) 0))), (bd 6, .inl (cI, 8, .inl Y)), (bd 7, .inl (cI, 8, .inl Z)), (bd 8, .inl (cZ, 8, .inl X)), (bd 9, .inl (cI, 40, .inl g))] H := hP
    have hD : va_D A [(bd 0, .inr (5, [.ref (bd 1), .int (nI clk), .int pw, .int lf, .ref (bd 2), .int (nI fc), .int (nI sn), .int (nI (ob + 1)), .ref (bd 3), .ref (bd 4), .ref (bd 5), .int (nI st), .ref (bd 6), .ref (bd 7), .ref (bd 8), .int (nI ef), .int (nI ec), .int (nI fu), .ref (bd 9)])), (bd 1, .inl (cI, 292, .inl f)), (bd 2, .inl (cI, 12, .inl fd)), (bd 3, .inl (cI, 13, .inl (upd S (ob + 1) 1))), (bd 4, .inl (cI, 13, .inl (upd D (ob + 1) v))), (bd 5, .inl (cI, 13, .inl (upd G (ob + 1) 0))), (bd 6, .inl (cI, 8, .inl Y)), (bd 7, .inl (cI, 8, .inl Z)), (bd 8, .inl (cZ, 8, .inl X)), (bd 9, .inl (cI, 40, .inl g))] := hD
    refine lv_goto (tgt := 120) hx hb dn_M_apply_45 (by decide) ?_
    exact hret ((ob + 1), upd S (ob + 1) 1, upd D (ob + 1) v, upd G (ob + 1) 0, upd P_ (ob + 1) (nI r_)) _ _ _ _ (ap_1 (ob, S, D, G, P_) r_ id v) hP hD hS dn_M_apply_120
  · skip
    obtain ⟨j, j1, j2, rfl⟩ := ct_ru_there (by omega) (by decide) hr
    refine lv_iload_n hx hb dn_M_apply_0 rfl (lv_at hl 1 rfl) ?_
    refine lv_iconst (v := 1) hx hb dn_M_apply_1 (by decide) ?_
    refine lv_icmp_ne (tgt := 48) hx hb dn_M_apply_2 (by decide) (fun _ => ?_) (fun h => absurd h (by decide))
    refine lv_iload_n hx hb dn_M_apply_48 rfl (lv_at hl 1 rfl) ?_
    refine lv_iconst (v := 2) hx hb dn_M_apply_49 (by decide) ?_
    refine lv_icmp_ne (tgt := 63) hx hb dn_M_apply_50 (by decide) (fun h => absurd h (by decide)) (fun _ => ?_)
    refine lv_aload_n hx hb dn_M_apply_53 rfl (lv_at hl 0 rfl) ?_
    refine va_get (D := (dC, dI)) (ci := 5) (v := .ref (bd 4)) (C := rn_M) (T := tn_M) (N := 19) hx hb hw ml_M hown hK hP 0 rfl rfl 9 (by decide) (hw _ mw_482) (fun _ h9 => h9) rfl dn_M_apply_54 ?_
    refine lv_iload_n hx hb dn_M_apply_57 rfl (lv_at hl 2 rfl) ?_
    refine lv_iload_n hx hb dn_M_apply_58 rfl (lv_at hl 3 rfl) ?_
    refine gr_iast hx hb hK hP hD hS 4 0 rfl rfl j rfl (by omega) (by decide) dn_M_apply_59 (fun H locs hP hD hS => ?_)
    have hP : va_P (dC, dI) vwCl [(bd 0, .inr (5, [.ref (bd 1), .int (nI clk), .int pw, .int lf, .ref (bd 2), .int (nI fc), .int (nI sn), .int (nI ob), .ref (bd 3), .ref (bd 4), .ref (bd 5), .int (nI st), .ref (bd 6), .ref (bd 7), .ref (bd 8), .int (nI ef), .int (nI ec), .int (nI fu), .ref (bd 9)])), (bd 1, .inl (cI, 292, .inl f)), (bd 2, .inl (cI, 12, .inl fd)), (bd 3, .inl (cI, 13, .inl S)), (bd 4, .inl (cI, 13, .inl (upd D j v))), (bd 5, .inl (cI, 13, .inl G)), (bd 6, .inl (cI, 8, .inl Y)), (bd 7, .inl (cI, 8, .inl Z)), (bd 8, .inl (cZ, 8, .inl X)), (bd 9, .inl (cI, 40, .inl g))] H := hP
    have hD : va_D A [(bd 0, .inr (5, [.ref (bd 1), .int (nI clk), .int pw, .int lf, .ref (bd 2), .int (nI fc), .int (nI sn), .int (nI ob), .ref (bd 3), .ref (bd 4), .ref (bd 5), .int (nI st), .ref (bd 6), .ref (bd 7), .ref (bd 8), .int (nI ef), .int (nI ec), .int (nI fu), .ref (bd 9)])), (bd 1, .inl (cI, 292, .inl f)), (bd 2, .inl (cI, 12, .inl fd)), (bd 3, .inl (cI, 13, .inl S)), (bd 4, .inl (cI, 13, .inl (upd D j v))), (bd 5, .inl (cI, 13, .inl G)), (bd 6, .inl (cI, 8, .inl Y)), (bd 7, .inl (cI, 8, .inl Z)), (bd 8, .inl (cZ, 8, .inl X)), (bd 9, .inl (cI, 40, .inl g))] := hD
    refine lv_goto (tgt := 120) hx hb dn_M_apply_60 (by decide) ?_
    exact hret (ob, S, upd D j v, G, P_) _ _ _ _ (ap_2 (ob, S, D, G, P_) r_ (by omega) v) hP hD hS dn_M_apply_120
  · skip
    obtain ⟨j, j1, j2, rfl⟩ := ct_ru_there (by omega) (by decide) hr
    refine lv_iload_n hx hb dn_M_apply_0 rfl (lv_at hl 1 rfl) ?_
    refine lv_iconst (v := 1) hx hb dn_M_apply_1 (by decide) ?_
    refine lv_icmp_ne (tgt := 48) hx hb dn_M_apply_2 (by decide) (fun _ => ?_) (fun h => absurd h (by decide))
    refine lv_iload_n hx hb dn_M_apply_48 rfl (lv_at hl 1 rfl) ?_
    refine lv_iconst (v := 2) hx hb dn_M_apply_49 (by decide) ?_
    refine lv_icmp_ne (tgt := 63) hx hb dn_M_apply_50 (by decide) (fun _ => ?_) (fun h => absurd h (by decide))
    refine lv_iload_n hx hb dn_M_apply_63 rfl (lv_at hl 1 rfl) ?_
    refine lv_iconst (v := 3) hx hb dn_M_apply_64 (by decide) ?_
    refine lv_icmp_ne (tgt := 87) hx hb dn_M_apply_65 (by decide) (fun h => absurd h (by decide)) (fun _ => ?_)
    refine lv_aload_n hx hb dn_M_apply_68 rfl (lv_at hl 0 rfl) ?_
    refine va_get (D := (dC, dI)) (ci := 5) (v := .ref (bd 5)) (C := rn_M) (T := tn_M) (N := 19) hx hb hw ml_M hown hK hP 0 rfl rfl 10 (by decide) (hw _ mw_483) (fun _ h9 => h9) rfl dn_M_apply_69 ?_
    refine lv_iload_n hx hb dn_M_apply_72 rfl (lv_at hl 2 rfl) ?_
    refine lv_aload_n hx hb dn_M_apply_73 rfl (lv_at hl 0 rfl) ?_
    refine va_get (D := (dC, dI)) (ci := 5) (v := .ref (bd 5)) (C := rn_M) (T := tn_M) (N := 19) hx hb hw ml_M hown hK hP 0 rfl rfl 10 (by decide) (hw _ mw_483) (fun _ h9 => h9) rfl dn_M_apply_74 ?_
    refine lv_iload_n hx hb dn_M_apply_77 rfl (lv_at hl 2 rfl) ?_
    refine gr_iald hx hb hK hP 5 0 rfl rfl j rfl (by omega) (by decide) dn_M_apply_78 ?_
    refine lv_iconst (v := 1) hx hb dn_M_apply_79 (by decide) ?_
    refine lv_iload_n hx hb dn_M_apply_80 rfl (lv_at hl 3 rfl) ?_
    refine lv_ishl hx hb dn_M_apply_81 ?_
    refine lv_iadd hx hb dn_M_apply_82 ?_
    refine gr_iast hx hb hK hP hD hS 5 0 rfl rfl j rfl (by omega) (by decide) dn_M_apply_83 (fun H locs hP hD hS => ?_)
    have hP : va_P (dC, dI) vwCl [(bd 0, .inr (5, [.ref (bd 1), .int (nI clk), .int pw, .int lf, .ref (bd 2), .int (nI fc), .int (nI sn), .int (nI ob), .ref (bd 3), .ref (bd 4), .ref (bd 5), .int (nI st), .ref (bd 6), .ref (bd 7), .ref (bd 8), .int (nI ef), .int (nI ec), .int (nI fu), .ref (bd 9)])), (bd 1, .inl (cI, 292, .inl f)), (bd 2, .inl (cI, 12, .inl fd)), (bd 3, .inl (cI, 13, .inl S)), (bd 4, .inl (cI, 13, .inl D)), (bd 5, .inl (cI, 13, .inl (upd G j ((G j) + (1 <<< (v &&& 31)))))), (bd 6, .inl (cI, 8, .inl Y)), (bd 7, .inl (cI, 8, .inl Z)), (bd 8, .inl (cZ, 8, .inl X)), (bd 9, .inl (cI, 40, .inl g))] H := hP
    have hD : va_D A [(bd 0, .inr (5, [.ref (bd 1), .int (nI clk), .int pw, .int lf, .ref (bd 2), .int (nI fc), .int (nI sn), .int (nI ob), .ref (bd 3), .ref (bd 4), .ref (bd 5), .int (nI st), .ref (bd 6), .ref (bd 7), .ref (bd 8), .int (nI ef), .int (nI ec), .int (nI fu), .ref (bd 9)])), (bd 1, .inl (cI, 292, .inl f)), (bd 2, .inl (cI, 12, .inl fd)), (bd 3, .inl (cI, 13, .inl S)), (bd 4, .inl (cI, 13, .inl D)), (bd 5, .inl (cI, 13, .inl (upd G j ((G j) + (1 <<< (v &&& 31)))))), (bd 6, .inl (cI, 8, .inl Y)), (bd 7, .inl (cI, 8, .inl Z)), (bd 8, .inl (cZ, 8, .inl X)), (bd 9, .inl (cI, 40, .inl g))] := hD
    refine lv_goto (tgt := 120) hx hb dn_M_apply_84 (by decide) ?_
    exact hret (ob, S, D, upd G j ((G j) + (1 <<< (v &&& 31))), P_) _ _ _ _ (am_3 (ob, S, D, G, P_) r_ (by omega) v) hP hD hS dn_M_apply_120
  · skip
    obtain ⟨j, j1, j2, rfl⟩ := ct_ru_there (by omega) (by decide) hr
    refine lv_iload_n hx hb dn_M_apply_0 rfl (lv_at hl 1 rfl) ?_
    refine lv_iconst (v := 1) hx hb dn_M_apply_1 (by decide) ?_
    refine lv_icmp_ne (tgt := 48) hx hb dn_M_apply_2 (by decide) (fun _ => ?_) (fun h => absurd h (by decide))
    refine lv_iload_n hx hb dn_M_apply_48 rfl (lv_at hl 1 rfl) ?_
    refine lv_iconst (v := 2) hx hb dn_M_apply_49 (by decide) ?_
    refine lv_icmp_ne (tgt := 63) hx hb dn_M_apply_50 (by decide) (fun _ => ?_) (fun h => absurd h (by decide))
    refine lv_iload_n hx hb dn_M_apply_63 rfl (lv_at hl 1 rfl) ?_
    refine lv_iconst (v := 3) hx hb dn_M_apply_64 (by decide) ?_
    refine lv_icmp_ne (tgt := 87) hx hb dn_M_apply_65 (by decide) (fun _ => ?_) (fun h => absurd h (by decide))
    refine lv_iload_n hx hb dn_M_apply_87 rfl (lv_at hl 1 rfl) ?_
    refine lv_iconst (v := 4) hx hb dn_M_apply_88 (by decide) ?_
    refine lv_icmp_ne (tgt := 111) hx hb dn_M_apply_89 (by decide) (fun h => absurd h (by decide)) (fun _ => ?_)
    refine lv_aload_n hx hb dn_M_apply_92 rfl (lv_at hl 0 rfl) ?_
    refine va_get (D := (dC, dI)) (ci := 5) (v := .ref (bd 5)) (C := rn_M) (T := tn_M) (N := 19) hx hb hw ml_M hown hK hP 0 rfl rfl 10 (by decide) (hw _ mw_483) (fun _ h9 => h9) rfl dn_M_apply_93 ?_
    refine lv_iload_n hx hb dn_M_apply_96 rfl (lv_at hl 2 rfl) ?_
    refine lv_aload_n hx hb dn_M_apply_97 rfl (lv_at hl 0 rfl) ?_
    refine va_get (D := (dC, dI)) (ci := 5) (v := .ref (bd 5)) (C := rn_M) (T := tn_M) (N := 19) hx hb hw ml_M hown hK hP 0 rfl rfl 10 (by decide) (hw _ mw_483) (fun _ h9 => h9) rfl dn_M_apply_98 ?_
    refine lv_iload_n hx hb dn_M_apply_101 rfl (lv_at hl 2 rfl) ?_
    refine gr_iald hx hb hK hP 5 0 rfl rfl j rfl (by omega) (by decide) dn_M_apply_102 ?_
    refine lv_iconst (v := 1) hx hb dn_M_apply_103 (by decide) ?_
    refine lv_iload_n hx hb dn_M_apply_104 rfl (lv_at hl 3 rfl) ?_
    refine lv_ishl hx hb dn_M_apply_105 ?_
    refine lv_isub hx hb dn_M_apply_106 ?_
    refine gr_iast hx hb hK hP hD hS 5 0 rfl rfl j rfl (by omega) (by decide) dn_M_apply_107 (fun H locs hP hD hS => ?_)
    have hP : va_P (dC, dI) vwCl [(bd 0, .inr (5, [.ref (bd 1), .int (nI clk), .int pw, .int lf, .ref (bd 2), .int (nI fc), .int (nI sn), .int (nI ob), .ref (bd 3), .ref (bd 4), .ref (bd 5), .int (nI st), .ref (bd 6), .ref (bd 7), .ref (bd 8), .int (nI ef), .int (nI ec), .int (nI fu), .ref (bd 9)])), (bd 1, .inl (cI, 292, .inl f)), (bd 2, .inl (cI, 12, .inl fd)), (bd 3, .inl (cI, 13, .inl S)), (bd 4, .inl (cI, 13, .inl D)), (bd 5, .inl (cI, 13, .inl (upd G j ((G j) - (1 <<< (v &&& 31)))))), (bd 6, .inl (cI, 8, .inl Y)), (bd 7, .inl (cI, 8, .inl Z)), (bd 8, .inl (cZ, 8, .inl X)), (bd 9, .inl (cI, 40, .inl g))] H := hP
    have hD : va_D A [(bd 0, .inr (5, [.ref (bd 1), .int (nI clk), .int pw, .int lf, .ref (bd 2), .int (nI fc), .int (nI sn), .int (nI ob), .ref (bd 3), .ref (bd 4), .ref (bd 5), .int (nI st), .ref (bd 6), .ref (bd 7), .ref (bd 8), .int (nI ef), .int (nI ec), .int (nI fu), .ref (bd 9)])), (bd 1, .inl (cI, 292, .inl f)), (bd 2, .inl (cI, 12, .inl fd)), (bd 3, .inl (cI, 13, .inl S)), (bd 4, .inl (cI, 13, .inl D)), (bd 5, .inl (cI, 13, .inl (upd G j ((G j) - (1 <<< (v &&& 31)))))), (bd 6, .inl (cI, 8, .inl Y)), (bd 7, .inl (cI, 8, .inl Z)), (bd 8, .inl (cZ, 8, .inl X)), (bd 9, .inl (cI, 40, .inl g))] := hD
    refine lv_goto (tgt := 120) hx hb dn_M_apply_108 (by decide) ?_
    exact hret (ob, S, D, upd G j ((G j) - (1 <<< (v &&& 31))), P_) _ _ _ _ (am_4 (ob, S, D, G, P_) r_ (by omega) v) hP hD hS dn_M_apply_120
  · skip
    obtain ⟨j, j1, j2, rfl⟩ := ct_ru_there (by omega) (by decide) hr
    refine lv_iload_n hx hb dn_M_apply_0 rfl (lv_at hl 1 rfl) ?_
    refine lv_iconst (v := 1) hx hb dn_M_apply_1 (by decide) ?_
    refine lv_icmp_ne (tgt := 48) hx hb dn_M_apply_2 (by decide) (fun _ => ?_) (fun h => absurd h (by decide))
    refine lv_iload_n hx hb dn_M_apply_48 rfl (lv_at hl 1 rfl) ?_
    refine lv_iconst (v := 2) hx hb dn_M_apply_49 (by decide) ?_
    refine lv_icmp_ne (tgt := 63) hx hb dn_M_apply_50 (by decide) (fun _ => ?_) (fun h => absurd h (by decide))
    refine lv_iload_n hx hb dn_M_apply_63 rfl (lv_at hl 1 rfl) ?_
    refine lv_iconst (v := 3) hx hb dn_M_apply_64 (by decide) ?_
    refine lv_icmp_ne (tgt := 87) hx hb dn_M_apply_65 (by decide) (fun _ => ?_) (fun h => absurd h (by decide))
    refine lv_iload_n hx hb dn_M_apply_87 rfl (lv_at hl 1 rfl) ?_
    refine lv_iconst (v := 4) hx hb dn_M_apply_88 (by decide) ?_
    refine lv_icmp_ne (tgt := 111) hx hb dn_M_apply_89 (by decide) (fun _ => ?_) (fun h => absurd h (by decide))
    refine lv_aload_n hx hb dn_M_apply_111 rfl (lv_at hl 0 rfl) ?_
    refine va_get (D := (dC, dI)) (ci := 5) (v := .ref (bd 3)) (C := rn_M) (T := tn_M) (N := 19) hx hb hw ml_M hown hK hP 0 rfl rfl 8 (by decide) (hw _ mw_481) (fun _ h9 => h9) rfl dn_M_apply_112 ?_
    refine lv_iload_n hx hb dn_M_apply_115 rfl (lv_at hl 2 rfl) ?_
    refine lv_iload_n hx hb dn_M_apply_116 rfl (lv_at hl 1 rfl) ?_
    refine lv_iconst (v := 3) hx hb dn_M_apply_117 (by decide) ?_
    refine gr_subN hx hb 5 3 rfl rfl (by omega) dn_M_apply_118 ?_
    refine gr_iast hx hb hK hP hD hS 3 0 rfl rfl j rfl (by omega) (by decide) dn_M_apply_119 (fun H locs hP hD hS => ?_)
    have hP : va_P (dC, dI) vwCl [(bd 0, .inr (5, [.ref (bd 1), .int (nI clk), .int pw, .int lf, .ref (bd 2), .int (nI fc), .int (nI sn), .int (nI ob), .ref (bd 3), .ref (bd 4), .ref (bd 5), .int (nI st), .ref (bd 6), .ref (bd 7), .ref (bd 8), .int (nI ef), .int (nI ec), .int (nI fu), .ref (bd 9)])), (bd 1, .inl (cI, 292, .inl f)), (bd 2, .inl (cI, 12, .inl fd)), (bd 3, .inl (cI, 13, .inl (upd S j 2))), (bd 4, .inl (cI, 13, .inl D)), (bd 5, .inl (cI, 13, .inl G)), (bd 6, .inl (cI, 8, .inl Y)), (bd 7, .inl (cI, 8, .inl Z)), (bd 8, .inl (cZ, 8, .inl X)), (bd 9, .inl (cI, 40, .inl g))] H := hP
    have hD : va_D A [(bd 0, .inr (5, [.ref (bd 1), .int (nI clk), .int pw, .int lf, .ref (bd 2), .int (nI fc), .int (nI sn), .int (nI ob), .ref (bd 3), .ref (bd 4), .ref (bd 5), .int (nI st), .ref (bd 6), .ref (bd 7), .ref (bd 8), .int (nI ef), .int (nI ec), .int (nI fu), .ref (bd 9)])), (bd 1, .inl (cI, 292, .inl f)), (bd 2, .inl (cI, 12, .inl fd)), (bd 3, .inl (cI, 13, .inl (upd S j 2))), (bd 4, .inl (cI, 13, .inl D)), (bd 5, .inl (cI, 13, .inl G)), (bd 6, .inl (cI, 8, .inl Y)), (bd 7, .inl (cI, 8, .inl Z)), (bd 8, .inl (cZ, 8, .inl X)), (bd 9, .inl (cI, 40, .inl g))] := hD
    exact hret (ob, upd S j 2, D, G, P_) _ _ _ _ (ap_5 (ob, S, D, G, P_) r_ (by omega) v) hP hD hS dn_M_apply_120
  · skip
    obtain ⟨j, j1, j2, rfl⟩ := ct_ru_there (by omega) (by decide) hr
    refine lv_iload_n hx hb dn_M_apply_0 rfl (lv_at hl 1 rfl) ?_
    refine lv_iconst (v := 1) hx hb dn_M_apply_1 (by decide) ?_
    refine lv_icmp_ne (tgt := 48) hx hb dn_M_apply_2 (by decide) (fun _ => ?_) (fun h => absurd h (by decide))
    refine lv_iload_n hx hb dn_M_apply_48 rfl (lv_at hl 1 rfl) ?_
    refine lv_iconst (v := 2) hx hb dn_M_apply_49 (by decide) ?_
    refine lv_icmp_ne (tgt := 63) hx hb dn_M_apply_50 (by decide) (fun _ => ?_) (fun h => absurd h (by decide))
    refine lv_iload_n hx hb dn_M_apply_63 rfl (lv_at hl 1 rfl) ?_
    refine lv_iconst (v := 3) hx hb dn_M_apply_64 (by decide) ?_
    refine lv_icmp_ne (tgt := 87) hx hb dn_M_apply_65 (by decide) (fun _ => ?_) (fun h => absurd h (by decide))
    refine lv_iload_n hx hb dn_M_apply_87 rfl (lv_at hl 1 rfl) ?_
    refine lv_iconst (v := 4) hx hb dn_M_apply_88 (by decide) ?_
    refine lv_icmp_ne (tgt := 111) hx hb dn_M_apply_89 (by decide) (fun _ => ?_) (fun h => absurd h (by decide))
    refine lv_aload_n hx hb dn_M_apply_111 rfl (lv_at hl 0 rfl) ?_
    refine va_get (D := (dC, dI)) (ci := 5) (v := .ref (bd 3)) (C := rn_M) (T := tn_M) (N := 19) hx hb hw ml_M hown hK hP 0 rfl rfl 8 (by decide) (hw _ mw_481) (fun _ h9 => h9) rfl dn_M_apply_112 ?_
    refine lv_iload_n hx hb dn_M_apply_115 rfl (lv_at hl 2 rfl) ?_
    refine lv_iload_n hx hb dn_M_apply_116 rfl (lv_at hl 1 rfl) ?_
    refine lv_iconst (v := 3) hx hb dn_M_apply_117 (by decide) ?_
    refine gr_subN hx hb 6 3 rfl rfl (by omega) dn_M_apply_118 ?_
    refine gr_iast hx hb hK hP hD hS 3 0 rfl rfl j rfl (by omega) (by decide) dn_M_apply_119 (fun H locs hP hD hS => ?_)
    have hP : va_P (dC, dI) vwCl [(bd 0, .inr (5, [.ref (bd 1), .int (nI clk), .int pw, .int lf, .ref (bd 2), .int (nI fc), .int (nI sn), .int (nI ob), .ref (bd 3), .ref (bd 4), .ref (bd 5), .int (nI st), .ref (bd 6), .ref (bd 7), .ref (bd 8), .int (nI ef), .int (nI ec), .int (nI fu), .ref (bd 9)])), (bd 1, .inl (cI, 292, .inl f)), (bd 2, .inl (cI, 12, .inl fd)), (bd 3, .inl (cI, 13, .inl (upd S j 3))), (bd 4, .inl (cI, 13, .inl D)), (bd 5, .inl (cI, 13, .inl G)), (bd 6, .inl (cI, 8, .inl Y)), (bd 7, .inl (cI, 8, .inl Z)), (bd 8, .inl (cZ, 8, .inl X)), (bd 9, .inl (cI, 40, .inl g))] H := hP
    have hD : va_D A [(bd 0, .inr (5, [.ref (bd 1), .int (nI clk), .int pw, .int lf, .ref (bd 2), .int (nI fc), .int (nI sn), .int (nI ob), .ref (bd 3), .ref (bd 4), .ref (bd 5), .int (nI st), .ref (bd 6), .ref (bd 7), .ref (bd 8), .int (nI ef), .int (nI ec), .int (nI fu), .ref (bd 9)])), (bd 1, .inl (cI, 292, .inl f)), (bd 2, .inl (cI, 12, .inl fd)), (bd 3, .inl (cI, 13, .inl (upd S j 3))), (bd 4, .inl (cI, 13, .inl D)), (bd 5, .inl (cI, 13, .inl G)), (bd 6, .inl (cI, 8, .inl Y)), (bd 7, .inl (cI, 8, .inl Z)), (bd 8, .inl (cZ, 8, .inl X)), (bd 9, .inl (cI, 40, .inl g))] := hD
    exact hret (ob, upd S j 3, D, G, P_) _ _ _ _ (ap_6 (ob, S, D, G, P_) r_ (by omega) v) hP hD hS dn_M_apply_120

set_option maxRecDepth 100000 in
set_option maxHeartbeats 4000000 in
theorem c_M_soundNext (l : Launch) (dC : Nat → ClassId) (dI : Nat → Nat → Nat) (cI cZ : ClassId) (bd : Nat → Nat) (clk : Nat) (pw lf : Int32) (f fd : Nat → Int32) (fc sn ob : Nat) (S D G : Nat → Int32) (st : Nat) (Y Z X : Nat → Int32) (ef ec fu : Nat) (g : Nat → Int32) (ho : ob ≤ 12) (r : Nat) (tm : Int32) (hr : r < 40) (heq : ct_eqm ob S D G (ct_st f r)) (htm : tm = ct_bf f r) : gc_I l yn_M_soundNext (gw yn_M_soundNext cn_M_soundNext 8 (some .boolean)) (rm_ 2 46) (dC, dI) vwCl (gT cI cZ) [.ref (bd 0), .int (nI r), .int tm] [(bd 0, .inr (5, [.ref (bd 1), .int (nI clk), .int pw, .int lf, .ref (bd 2), .int (nI fc), .int (nI sn), .int (nI ob), .ref (bd 3), .ref (bd 4), .ref (bd 5), .int (nI st), .ref (bd 6), .ref (bd 7), .ref (bd 8), .int (nI ef), .int (nI ec), .int (nI fu), .ref (bd 9)])), (bd 1, .inl (cI, 292, .inl f)), (bd 2, .inl (cI, 12, .inl fd)), (bd 3, .inl (cI, 13, .inl S)), (bd 4, .inl (cI, 13, .inl D)), (bd 5, .inl (cI, 13, .inl G)), (bd 6, .inl (cI, 8, .inl Y)), (bd 7, .inl (cI, 8, .inl Z)), (bd 8, .inl (cZ, 8, .inl X)), (bd 9, .inl (cI, 40, .inl g))] (fun x (_ : Unit) => (x = 1 ∧ ct_ok f (nI clk) r) ∨ (x = 0 ∧ ¬ ct_ok f (nI clk) r)) (fun _ => [(bd 0, .inr (5, [.ref (bd 1), .int (nI clk), .int pw, .int lf, .ref (bd 2), .int (nI fc), .int (nI sn), .int (nI ob), .ref (bd 3), .ref (bd 4), .ref (bd 5), .int (nI st), .ref (bd 6), .ref (bd 7), .ref (bd 8), .int (nI ef), .int (nI ec), .int (nI fu), .ref (bd 9)])), (bd 1, .inl (cI, 292, .inl f)), (bd 2, .inl (cI, 12, .inl fd)), (bd 3, .inl (cI, 13, .inl S)), (bd 4, .inl (cI, 13, .inl D)), (bd 5, .inl (cI, 13, .inl G)), (bd 6, .inl (cI, 8, .inl Y)), (bd 7, .inl (cI, 8, .inl Z)), (bd 8, .inl (cZ, 8, .inl X)), (bd 9, .inl (cI, 40, .inl g))]) := by
  refine gc_I_of (cc := cn_M_soundNext) (maxL := 8) (ty := .boolean) (by decide) rfl (Nat.le_of_ble_eq_true rfl) ?_
  intro pp ee ss mm ar be me cd A Q ls H0 H locs hx hb hml hown hts hK hP hD hS hA hl hret
  have hw : ∀ w ∈ gw_T, w.before ar ss = true := fun w h => hts w (List.mem_cons_of_mem _ h)
  have hl : lv_has ls 8 [(0, .ref (bd 0)), (1, .int (nI r)), (2, .int tm)] := hl
  refine lv_bipush (v := 7) hx hb dn_M_soundNext_0 (by decide) ?_
  refine lv_iload_n hx hb dn_M_soundNext_2 rfl (lv_at hl 1 rfl) ?_
  refine gr_mulN hx hb 7 r rfl rfl dn_M_soundNext_3 ?_
  refine lv_istore_n (lv' := [(3, .int (nI (7 * r))), (0, .ref (bd 0)), (1, .int (nI r)), (2, .int tm)]) hx hb dn_M_soundNext_4 rfl hl (by decide) rfl (fun ls hl => ?_)
  refine lv_aload_n hx hb dn_M_soundNext_5 rfl (lv_at hl 1 rfl) ?_
  refine va_get (D := (dC, dI)) (ci := 5) (v := .ref (bd 1)) (C := rn_M) (T := tn_M) (N := 19) hx hb hw ml_M hown hK hP 0 rfl rfl 0 (by decide) (hw _ mw_473) (fun _ h9 => h9) rfl dn_M_soundNext_6 ?_
  refine lv_iload_n hx hb dn_M_soundNext_9 rfl (lv_at hl 0 rfl) ?_
  refine gr_iald hx hb hK hP 1 0 rfl rfl (7 * r) rfl (by omega) (by decide) dn_M_soundNext_10 ?_
  refine lv_istore (lv' := [(4, .int (f (7 * r))), (3, .int (nI (7 * r))), (0, .ref (bd 0)), (1, .int (nI r)), (2, .int tm)]) hx hb dn_M_soundNext_11 hl (by decide) rfl (fun ls hl => ?_)
  refine lv_aload_n hx hb dn_M_soundNext_13 rfl (lv_at hl 2 rfl) ?_
  refine va_get (D := (dC, dI)) (ci := 5) (v := .ref (bd 1)) (C := rn_M) (T := tn_M) (N := 19) hx hb hw ml_M hown hK hP 0 rfl rfl 0 (by decide) (hw _ mw_473) (fun _ h9 => h9) rfl dn_M_soundNext_14 ?_
  refine lv_iload_n hx hb dn_M_soundNext_17 rfl (lv_at hl 1 rfl) ?_
  refine lv_iconst (v := 1) hx hb dn_M_soundNext_18 (by decide) ?_
  refine gr_addN hx hb (7 * r) 1 rfl rfl dn_M_soundNext_19 ?_
  refine gr_iald hx hb hK hP 1 0 rfl rfl ((7 * r) + 1) rfl (by omega) (by decide) dn_M_soundNext_20 ?_
  refine lv_istore (lv' := [(5, .int (f ((7 * r) + 1))), (4, .int (f (7 * r))), (3, .int (nI (7 * r))), (0, .ref (bd 0)), (1, .int (nI r)), (2, .int tm)]) hx hb dn_M_soundNext_21 hl (by decide) rfl (fun ls hl => ?_)
  refine lv_aload_n hx hb dn_M_soundNext_23 rfl (lv_at hl 3 rfl) ?_
  refine va_get (D := (dC, dI)) (ci := 5) (v := .ref (bd 1)) (C := rn_M) (T := tn_M) (N := 19) hx hb hw ml_M hown hK hP 0 rfl rfl 0 (by decide) (hw _ mw_473) (fun _ h9 => h9) rfl dn_M_soundNext_24 ?_
  refine lv_iload_n hx hb dn_M_soundNext_27 rfl (lv_at hl 2 rfl) ?_
  refine lv_iconst (v := 2) hx hb dn_M_soundNext_28 (by decide) ?_
  refine gr_addN hx hb (7 * r) 2 rfl rfl dn_M_soundNext_29 ?_
  refine gr_iald hx hb hK hP 1 0 rfl rfl ((7 * r) + 2) rfl (by omega) (by decide) dn_M_soundNext_30 ?_
  refine lv_istore (lv' := [(6, .int (f ((7 * r) + 2))), (5, .int (f ((7 * r) + 1))), (4, .int (f (7 * r))), (3, .int (nI (7 * r))), (0, .ref (bd 0)), (1, .int (nI r)), (2, .int tm)]) hx hb dn_M_soundNext_31 hl (by decide) rfl (fun ls hl => ?_)
  refine lv_aload_n hx hb dn_M_soundNext_33 rfl (lv_at hl 4 rfl) ?_
  refine lv_iload_n hx hb dn_M_soundNext_34 rfl (lv_at hl 5 rfl) ?_
  refine gc_vi (pre := []) (wc := [(bd 0, .inr (5, [.ref (bd 1), .int (nI clk), .int pw, .int lf, .ref (bd 2), .int (nI fc), .int (nI sn), .int (nI ob), .ref (bd 3), .ref (bd 4), .ref (bd 5), .int (nI st), .ref (bd 6), .ref (bd 7), .ref (bd 8), .int (nI ef), .int (nI ec), .int (nI fu), .ref (bd 9)])), (bd 1, .inl (cI, 292, .inl f)), (bd 2, .inl (cI, 12, .inl fd)), (bd 3, .inl (cI, 13, .inl S)), (bd 4, .inl (cI, 13, .inl D)), (bd 5, .inl (cI, 13, .inl G)), (bd 6, .inl (cI, 8, .inl Y)), (bd 7, .inl (cI, 8, .inl Z)), (bd 8, .inl (cZ, 8, .inl X)), (bd 9, .inl (cI, 40, .inl g))]) (po := []) (As := [.int (nI r)]) (rest := []) ⟨hx, hb, hml, hown, hw⟩ (c_M_leaf l dC dI cI cZ bd clk pw lf f fd fc sn ob S D G st Y Z X ef ec fu g r (by omega)) (gw_cV 1 hw mw_547 mw_549 mv_24 mw_6 mw_550 hd_M_leaf ⟨Nat.le_of_ble_eq_true rfl, Nat.le_of_ble_eq_true rfl⟩) (ci := 5) rfl rfl rfl hK hP hD hS hA rfl hl.1 rfl (Nat.le_of_ble_eq_true rfl) dn_M_soundNext_35 ⟨Nat.zero_le _, Nat.zero_le _⟩ (fun r35 u35 H locs hc35 hP hD hS => ?_)
  subst hc35
  have hP : va_P (dC, dI) vwCl [(bd 0, .inr (5, [.ref (bd 1), .int (nI clk), .int pw, .int lf, .ref (bd 2), .int (nI fc), .int (nI sn), .int (nI ob), .ref (bd 3), .ref (bd 4), .ref (bd 5), .int (nI st), .ref (bd 6), .ref (bd 7), .ref (bd 8), .int (nI ef), .int (nI ec), .int (nI fu), .ref (bd 9)])), (bd 1, .inl (cI, 292, .inl f)), (bd 2, .inl (cI, 12, .inl fd)), (bd 3, .inl (cI, 13, .inl S)), (bd 4, .inl (cI, 13, .inl D)), (bd 5, .inl (cI, 13, .inl G)), (bd 6, .inl (cI, 8, .inl Y)), (bd 7, .inl (cI, 8, .inl Z)), (bd 8, .inl (cZ, 8, .inl X)), (bd 9, .inl (cI, 40, .inl g))] H := hP
  have hD : va_D A [(bd 0, .inr (5, [.ref (bd 1), .int (nI clk), .int pw, .int lf, .ref (bd 2), .int (nI fc), .int (nI sn), .int (nI ob), .ref (bd 3), .ref (bd 4), .ref (bd 5), .int (nI st), .ref (bd 6), .ref (bd 7), .ref (bd 8), .int (nI ef), .int (nI ec), .int (nI fu), .ref (bd 9)])), (bd 1, .inl (cI, 292, .inl f)), (bd 2, .inl (cI, 12, .inl fd)), (bd 3, .inl (cI, 13, .inl S)), (bd 4, .inl (cI, 13, .inl D)), (bd 5, .inl (cI, 13, .inl G)), (bd 6, .inl (cI, 8, .inl Y)), (bd 7, .inl (cI, 8, .inl Z)), (bd 8, .inl (cZ, 8, .inl X)), (bd 9, .inl (cI, 40, .inl g))] := hD
  refine lv_istore (lv' := [(7, .int (hf_leaf f (7 * r))), (6, .int (f ((7 * r) + 2))), (5, .int (f ((7 * r) + 1))), (4, .int (f (7 * r))), (3, .int (nI (7 * r))), (0, .ref (bd 0)), (1, .int (nI r)), (2, .int tm)]) hx hb dn_M_soundNext_38 hl (by decide) rfl (fun ls hl => ?_)
  refine lv_aload_n hx hb dn_M_soundNext_40 rfl (lv_at hl 5 rfl) ?_
  refine va_get (D := (dC, dI)) (ci := 5) (v := .ref (bd 1)) (C := rn_M) (T := tn_M) (N := 19) hx hb hw ml_M hown hK hP 0 rfl rfl 0 (by decide) (hw _ mw_473) (fun _ h9 => h9) rfl dn_M_soundNext_41 ?_
  refine lv_iload_n hx hb dn_M_soundNext_44 rfl (lv_at hl 4 rfl) ?_
  refine lv_bipush (v := 6) hx hb dn_M_soundNext_45 (by decide) ?_
  refine gr_addN hx hb (7 * r) 6 rfl rfl dn_M_soundNext_47 ?_
  refine gr_iald hx hb hK hP 1 0 rfl rfl ((7 * r) + 6) rfl (by omega) (by decide) dn_M_soundNext_48 ?_
  refine lv_iload hx hb dn_M_soundNext_49 (lv_at hl 0 rfl) ?_
  refine lv_iconst (v := 1) hx hb dn_M_soundNext_51 (by decide) ?_
  refine lv_ior hx hb dn_M_soundNext_52 ?_
  refine lv_icmp_ne (tgt := 96) hx hb dn_M_soundNext_53 (by decide) (fun h53 => ?_) (fun h53 => ?_)
  · skip
    refine lv_iconst (v := 0) hx hb dn_M_soundNext_96 (by decide) ?_
    exact hret 0 () _ _ _ _ (Or.inr ⟨rfl, fun q => by first | exact h53 q.1 | exact absurd q.2.1 (Int32.not_le.mpr h59) | exact absurd q.2.2.1 (Int32.not_le.mpr h66) | exact absurd q.2.2.2.1 (Int32.not_le.mpr (htm ▸ h78)) | exact h93 q.2.2.2.2.1 | exact h112 (q.2.2.2.2.2.1 h101).1 | exact h123 (q.2.2.2.2.2.1 h101).2 | exact h136 (q.2.2.2.2.2.2.1 (Int32.not_lt.mp h131)) | exact h153 (by rw [heq.1]; exact q.2.2.2.2.2.2.2.1 h142) | exact h176 ((ct_ru_eqm heq (by omega) _ _ _ _).trans q.2.2.2.2.2.2.2.2)⟩) rfl hP hD hS dn_M_soundNext_97
  · skip
    refine lv_iload hx hb dn_M_soundNext_56 (lv_at hl 3 rfl) ?_
    refine lv_iconst (v := 1) hx hb dn_M_soundNext_58 (by decide) ?_
    refine lv_icmp_lt (tgt := 96) hx hb dn_M_soundNext_59 (by decide) (fun h59 => ?_) (fun h59 => ?_)
    · skip
      refine lv_iconst (v := 0) hx hb dn_M_soundNext_96 (by decide) ?_
      exact hret 0 () _ _ _ _ (Or.inr ⟨rfl, fun q => by first | exact h53 q.1 | exact absurd q.2.1 (Int32.not_le.mpr h59) | exact absurd q.2.2.1 (Int32.not_le.mpr h66) | exact absurd q.2.2.2.1 (Int32.not_le.mpr (htm ▸ h78)) | exact h93 q.2.2.2.2.1 | exact h112 (q.2.2.2.2.2.1 h101).1 | exact h123 (q.2.2.2.2.2.1 h101).2 | exact h136 (q.2.2.2.2.2.2.1 (Int32.not_lt.mp h131)) | exact h153 (by rw [heq.1]; exact q.2.2.2.2.2.2.2.1 h142) | exact h176 ((ct_ru_eqm heq (by omega) _ _ _ _).trans q.2.2.2.2.2.2.2.2)⟩) rfl hP hD hS dn_M_soundNext_97
    · skip
      refine lv_iload hx hb dn_M_soundNext_62 (lv_at hl 3 rfl) ?_
      refine lv_bipush (v := 6) hx hb dn_M_soundNext_64 (by decide) ?_
      refine lv_icmp_gt (tgt := 96) hx hb dn_M_soundNext_66 (by decide) (fun h66 => ?_) (fun h66 => ?_)
      · skip
        refine lv_iconst (v := 0) hx hb dn_M_soundNext_96 (by decide) ?_
        exact hret 0 () _ _ _ _ (Or.inr ⟨rfl, fun q => by first | exact h53 q.1 | exact absurd q.2.1 (Int32.not_le.mpr h59) | exact absurd q.2.2.1 (Int32.not_le.mpr h66) | exact absurd q.2.2.2.1 (Int32.not_le.mpr (htm ▸ h78)) | exact h93 q.2.2.2.2.1 | exact h112 (q.2.2.2.2.2.1 h101).1 | exact h123 (q.2.2.2.2.2.1 h101).2 | exact h136 (q.2.2.2.2.2.2.1 (Int32.not_lt.mp h131)) | exact h153 (by rw [heq.1]; exact q.2.2.2.2.2.2.2.1 h142) | exact h176 ((ct_ru_eqm heq (by omega) _ _ _ _).trans q.2.2.2.2.2.2.2.2)⟩) rfl hP hD hS dn_M_soundNext_97
      · skip
        refine lv_aload_n hx hb dn_M_soundNext_69 rfl (lv_at hl 5 rfl) ?_
        refine va_get (D := (dC, dI)) (ci := 5) (v := .ref (bd 1)) (C := rn_M) (T := tn_M) (N := 19) hx hb hw ml_M hown hK hP 0 rfl rfl 0 (by decide) (hw _ mw_473) (fun _ h9 => h9) rfl dn_M_soundNext_70 ?_
        refine lv_iload_n hx hb dn_M_soundNext_73 rfl (lv_at hl 4 rfl) ?_
        refine lv_iconst (v := 5) hx hb dn_M_soundNext_74 (by decide) ?_
        refine gr_addN hx hb (7 * r) 5 rfl rfl dn_M_soundNext_75 ?_
        refine gr_iald hx hb hK hP 1 0 rfl rfl ((7 * r) + 5) rfl (by omega) (by decide) dn_M_soundNext_76 ?_
        refine lv_iload_n hx hb dn_M_soundNext_77 rfl (lv_at hl 7 rfl) ?_
        refine lv_icmp_lt (tgt := 96) hx hb dn_M_soundNext_78 (by decide) (fun h78 => ?_) (fun h78 => ?_)
        · skip
          refine lv_iconst (v := 0) hx hb dn_M_soundNext_96 (by decide) ?_
          exact hret 0 () _ _ _ _ (Or.inr ⟨rfl, fun q => by first | exact h53 q.1 | exact absurd q.2.1 (Int32.not_le.mpr h59) | exact absurd q.2.2.1 (Int32.not_le.mpr h66) | exact absurd q.2.2.2.1 (Int32.not_le.mpr (htm ▸ h78)) | exact h93 q.2.2.2.2.1 | exact h112 (q.2.2.2.2.2.1 h101).1 | exact h123 (q.2.2.2.2.2.1 h101).2 | exact h136 (q.2.2.2.2.2.2.1 (Int32.not_lt.mp h131)) | exact h153 (by rw [heq.1]; exact q.2.2.2.2.2.2.2.1 h142) | exact h176 ((ct_ru_eqm heq (by omega) _ _ _ _).trans q.2.2.2.2.2.2.2.2)⟩) rfl hP hD hS dn_M_soundNext_97
        · skip
          refine lv_aload_n hx hb dn_M_soundNext_81 rfl (lv_at hl 5 rfl) ?_
          refine va_get (D := (dC, dI)) (ci := 5) (v := .ref (bd 1)) (C := rn_M) (T := tn_M) (N := 19) hx hb hw ml_M hown hK hP 0 rfl rfl 0 (by decide) (hw _ mw_473) (fun _ h9 => h9) rfl dn_M_soundNext_82 ?_
          refine lv_iload_n hx hb dn_M_soundNext_85 rfl (lv_at hl 4 rfl) ?_
          refine lv_iconst (v := 5) hx hb dn_M_soundNext_86 (by decide) ?_
          refine gr_addN hx hb (7 * r) 5 rfl rfl dn_M_soundNext_87 ?_
          refine gr_iald hx hb hK hP 1 0 rfl rfl ((7 * r) + 5) rfl (by omega) (by decide) dn_M_soundNext_88 ?_
          refine lv_aload_n hx hb dn_M_soundNext_89 rfl (lv_at hl 5 rfl) ?_
          refine va_get (D := (dC, dI)) (ci := 5) (v := .int (nI clk)) (C := rn_M) (T := tn_M) (N := 19) hx hb hw ml_M hown hK hP 0 rfl rfl 1 (by decide) (hw _ mw_474) (fun _ h9 => h9) rfl dn_M_soundNext_90 ?_
          refine lv_icmp_le (tgt := 98) hx hb dn_M_soundNext_93 (by decide) (fun h93 => ?_) (fun h93 => ?_)
          · skip
            refine lv_iload hx hb dn_M_soundNext_98 (lv_at hl 3 rfl) ?_
            refine lv_iconst (v := 1) hx hb dn_M_soundNext_100 (by decide) ?_
            refine lv_icmp_eq (tgt := 128) hx hb dn_M_soundNext_101 (by decide) (fun h101 => ?_) (fun h101 => ?_)
            · skip
              refine lv_iload hx hb dn_M_soundNext_128 (lv_at hl 3 rfl) ?_
              refine lv_iconst (v := 5) hx hb dn_M_soundNext_130 (by decide) ?_
              refine lv_icmp_lt (tgt := 139) hx hb dn_M_soundNext_131 (by decide) (fun h131 => ?_) (fun h131 => ?_)
              · skip
                refine lv_iload hx hb dn_M_soundNext_139 (lv_at hl 3 rfl) ?_
                refine lv_iconst (v := 1) hx hb dn_M_soundNext_141 (by decide) ?_
                refine lv_icmp_ne (tgt := 158) hx hb dn_M_soundNext_142 (by decide) (fun h142 => ?_) (fun h142 => ?_)
                · skip
                  refine lv_aload_n hx hb dn_M_soundNext_158 rfl (lv_at hl 5 rfl) ?_
                  refine lv_iload hx hb dn_M_soundNext_159 (lv_at hl 3 rfl) ?_
                  refine lv_iload hx hb dn_M_soundNext_161 (lv_at hl 2 rfl) ?_
                  refine lv_iload hx hb dn_M_soundNext_163 (lv_at hl 1 rfl) ?_
                  refine lv_aload_n hx hb dn_M_soundNext_165 rfl (lv_at hl 5 rfl) ?_
                  refine va_get (D := (dC, dI)) (ci := 5) (v := .ref (bd 1)) (C := rn_M) (T := tn_M) (N := 19) hx hb hw ml_M hown hK hP 0 rfl rfl 0 (by decide) (hw _ mw_473) (fun _ h9 => h9) rfl dn_M_soundNext_166 ?_
                  refine lv_iload_n hx hb dn_M_soundNext_169 rfl (lv_at hl 4 rfl) ?_
                  refine lv_iconst (v := 5) hx hb dn_M_soundNext_170 (by decide) ?_
                  refine gr_addN hx hb (7 * r) 5 rfl rfl dn_M_soundNext_171 ?_
                  refine gr_iald hx hb hK hP 1 0 rfl rfl ((7 * r) + 5) rfl (by omega) (by decide) dn_M_soundNext_172 ?_
                  refine gc_vi (pre := []) (wc := [(bd 0, .inr (5, [.ref (bd 1), .int (nI clk), .int pw, .int lf, .ref (bd 2), .int (nI fc), .int (nI sn), .int (nI ob), .ref (bd 3), .ref (bd 4), .ref (bd 5), .int (nI st), .ref (bd 6), .ref (bd 7), .ref (bd 8), .int (nI ef), .int (nI ec), .int (nI fu), .ref (bd 9)])), (bd 1, .inl (cI, 292, .inl f)), (bd 2, .inl (cI, 12, .inl fd)), (bd 3, .inl (cI, 13, .inl S)), (bd 4, .inl (cI, 13, .inl D)), (bd 5, .inl (cI, 13, .inl G)), (bd 6, .inl (cI, 8, .inl Y)), (bd 7, .inl (cI, 8, .inl Z)), (bd 8, .inl (cZ, 8, .inl X)), (bd 9, .inl (cI, 40, .inl g))]) (po := []) (As := [.int (f (7 * r)), .int (f ((7 * r) + 1)), .int (f ((7 * r) + 2)), .int (f ((7 * r) + 5))]) (rest := []) ⟨hx, hb, hml, hown, hw⟩ (c_M_rule l dC dI cI cZ bd clk pw lf f fd fc sn ob S D G st Y Z X ef ec fu g (by omega) (f (7 * r)) (f ((7 * r) + 1)) (f ((7 * r) + 2)) (f ((7 * r) + 5)) (Int32.not_lt.mp h59) (Int32.not_lt.mp h66)) (gw_cV 4 hw mw_555 mw_557 mv_25 mw_6 mw_558 hd_M_rule ⟨Nat.le_of_ble_eq_true rfl, Nat.le_of_ble_eq_true rfl⟩) (ci := 5) rfl rfl rfl hK hP hD hS hA rfl hl.1 rfl (Nat.le_of_ble_eq_true rfl) dn_M_soundNext_173 ⟨Nat.zero_le _, Nat.zero_le _⟩ (fun r173 u173 H locs hc173 hP hD hS => ?_)
                  subst hc173
                  have hP : va_P (dC, dI) vwCl [(bd 0, .inr (5, [.ref (bd 1), .int (nI clk), .int pw, .int lf, .ref (bd 2), .int (nI fc), .int (nI sn), .int (nI ob), .ref (bd 3), .ref (bd 4), .ref (bd 5), .int (nI st), .ref (bd 6), .ref (bd 7), .ref (bd 8), .int (nI ef), .int (nI ec), .int (nI fu), .ref (bd 9)])), (bd 1, .inl (cI, 292, .inl f)), (bd 2, .inl (cI, 12, .inl fd)), (bd 3, .inl (cI, 13, .inl S)), (bd 4, .inl (cI, 13, .inl D)), (bd 5, .inl (cI, 13, .inl G)), (bd 6, .inl (cI, 8, .inl Y)), (bd 7, .inl (cI, 8, .inl Z)), (bd 8, .inl (cZ, 8, .inl X)), (bd 9, .inl (cI, 40, .inl g))] H := hP
                  have hD : va_D A [(bd 0, .inr (5, [.ref (bd 1), .int (nI clk), .int pw, .int lf, .ref (bd 2), .int (nI fc), .int (nI sn), .int (nI ob), .ref (bd 3), .ref (bd 4), .ref (bd 5), .int (nI st), .ref (bd 6), .ref (bd 7), .ref (bd 8), .int (nI ef), .int (nI ec), .int (nI fu), .ref (bd 9)])), (bd 1, .inl (cI, 292, .inl f)), (bd 2, .inl (cI, 12, .inl fd)), (bd 3, .inl (cI, 13, .inl S)), (bd 4, .inl (cI, 13, .inl D)), (bd 5, .inl (cI, 13, .inl G)), (bd 6, .inl (cI, 8, .inl Y)), (bd 7, .inl (cI, 8, .inl Z)), (bd 8, .inl (cZ, 8, .inl X)), (bd 9, .inl (cI, 40, .inl g))] := hD
                  refine lv_if_ne (tgt := 183) hx hb dn_M_soundNext_176 (by decide) (fun h176 => ?_) (fun h176 => ?_)
                  · skip
                    refine lv_iconst (v := 0) hx hb dn_M_soundNext_183 (by decide) ?_
                    exact hret 0 () _ _ _ _ (Or.inr ⟨rfl, fun q => by first | exact h53 q.1 | exact absurd q.2.1 (Int32.not_le.mpr h59) | exact absurd q.2.2.1 (Int32.not_le.mpr h66) | exact absurd q.2.2.2.1 (Int32.not_le.mpr (htm ▸ h78)) | exact h93 q.2.2.2.2.1 | exact h112 (q.2.2.2.2.2.1 h101).1 | exact h123 (q.2.2.2.2.2.1 h101).2 | exact h136 (q.2.2.2.2.2.2.1 (Int32.not_lt.mp h131)) | exact h153 (by rw [heq.1]; exact q.2.2.2.2.2.2.2.1 h142) | exact h176 ((ct_ru_eqm heq (by omega) _ _ _ _).trans q.2.2.2.2.2.2.2.2)⟩) rfl hP hD hS dn_M_soundNext_184
                  · skip
                    refine lv_iconst (v := 1) hx hb dn_M_soundNext_179 (by decide) ?_
                    refine lv_goto (tgt := 184) hx hb dn_M_soundNext_180 (by decide) ?_
                    exact hret 1 () _ _ _ _ (Or.inl ⟨rfl, h53, Int32.not_lt.mp h59, Int32.not_lt.mp h66, htm ▸ Int32.not_lt.mp h78, h93, (fun q => by first | exact absurd h101 q | exact ⟨h112, h123⟩), (fun q => by first | exact h136 | exact absurd q (Int32.not_le.mpr h131)), (fun q => by rw [← heq.1]; first | exact absurd q h142 | exact h153), (ct_ru_eqm heq (by omega) _ _ _ _).symm.trans h176⟩) rfl hP hD hS dn_M_soundNext_184
                · skip
                  refine lv_iload hx hb dn_M_soundNext_145 (lv_at hl 2 rfl) ?_
                  refine lv_aload_n hx hb dn_M_soundNext_147 rfl (lv_at hl 5 rfl) ?_
                  refine va_get (D := (dC, dI)) (ci := 5) (v := .int (nI ob)) (C := rn_M) (T := tn_M) (N := 19) hx hb hw ml_M hown hK hP 0 rfl rfl 7 (by decide) (hw _ mw_480) (fun _ h9 => h9) rfl dn_M_soundNext_148 ?_
                  refine lv_iconst (v := 1) hx hb dn_M_soundNext_151 (by decide) ?_
                  refine gr_addN hx hb ob 1 rfl rfl dn_M_soundNext_152 ?_
                  refine lv_icmp_eq (tgt := 158) hx hb dn_M_soundNext_153 (by decide) (fun h153 => ?_) (fun h153 => ?_)
                  · skip
                    refine lv_aload_n hx hb dn_M_soundNext_158 rfl (lv_at hl 5 rfl) ?_
                    refine lv_iload hx hb dn_M_soundNext_159 (lv_at hl 3 rfl) ?_
                    refine lv_iload hx hb dn_M_soundNext_161 (lv_at hl 2 rfl) ?_
                    refine lv_iload hx hb dn_M_soundNext_163 (lv_at hl 1 rfl) ?_
                    refine lv_aload_n hx hb dn_M_soundNext_165 rfl (lv_at hl 5 rfl) ?_
                    refine va_get (D := (dC, dI)) (ci := 5) (v := .ref (bd 1)) (C := rn_M) (T := tn_M) (N := 19) hx hb hw ml_M hown hK hP 0 rfl rfl 0 (by decide) (hw _ mw_473) (fun _ h9 => h9) rfl dn_M_soundNext_166 ?_
                    refine lv_iload_n hx hb dn_M_soundNext_169 rfl (lv_at hl 4 rfl) ?_
                    refine lv_iconst (v := 5) hx hb dn_M_soundNext_170 (by decide) ?_
                    refine gr_addN hx hb (7 * r) 5 rfl rfl dn_M_soundNext_171 ?_
                    refine gr_iald hx hb hK hP 1 0 rfl rfl ((7 * r) + 5) rfl (by omega) (by decide) dn_M_soundNext_172 ?_
                    refine gc_vi (pre := []) (wc := [(bd 0, .inr (5, [.ref (bd 1), .int (nI clk), .int pw, .int lf, .ref (bd 2), .int (nI fc), .int (nI sn), .int (nI ob), .ref (bd 3), .ref (bd 4), .ref (bd 5), .int (nI st), .ref (bd 6), .ref (bd 7), .ref (bd 8), .int (nI ef), .int (nI ec), .int (nI fu), .ref (bd 9)])), (bd 1, .inl (cI, 292, .inl f)), (bd 2, .inl (cI, 12, .inl fd)), (bd 3, .inl (cI, 13, .inl S)), (bd 4, .inl (cI, 13, .inl D)), (bd 5, .inl (cI, 13, .inl G)), (bd 6, .inl (cI, 8, .inl Y)), (bd 7, .inl (cI, 8, .inl Z)), (bd 8, .inl (cZ, 8, .inl X)), (bd 9, .inl (cI, 40, .inl g))]) (po := []) (As := [.int (f (7 * r)), .int (f ((7 * r) + 1)), .int (f ((7 * r) + 2)), .int (f ((7 * r) + 5))]) (rest := []) ⟨hx, hb, hml, hown, hw⟩ (c_M_rule l dC dI cI cZ bd clk pw lf f fd fc sn ob S D G st Y Z X ef ec fu g (by omega) (f (7 * r)) (f ((7 * r) + 1)) (f ((7 * r) + 2)) (f ((7 * r) + 5)) (Int32.not_lt.mp h59) (Int32.not_lt.mp h66)) (gw_cV 4 hw mw_555 mw_557 mv_25 mw_6 mw_558 hd_M_rule ⟨Nat.le_of_ble_eq_true rfl, Nat.le_of_ble_eq_true rfl⟩) (ci := 5) rfl rfl rfl hK hP hD hS hA rfl hl.1 rfl (Nat.le_of_ble_eq_true rfl) dn_M_soundNext_173 ⟨Nat.zero_le _, Nat.zero_le _⟩ (fun r173 u173 H locs hc173 hP hD hS => ?_)
                    subst hc173
                    have hP : va_P (dC, dI) vwCl [(bd 0, .inr (5, [.ref (bd 1), .int (nI clk), .int pw, .int lf, .ref (bd 2), .int (nI fc), .int (nI sn), .int (nI ob), .ref (bd 3), .ref (bd 4), .ref (bd 5), .int (nI st), .ref (bd 6), .ref (bd 7), .ref (bd 8), .int (nI ef), .int (nI ec), .int (nI fu), .ref (bd 9)])), (bd 1, .inl (cI, 292, .inl f)), (bd 2, .inl (cI, 12, .inl fd)), (bd 3, .inl (cI, 13, .inl S)), (bd 4, .inl (cI, 13, .inl D)), (bd 5, .inl (cI, 13, .inl G)), (bd 6, .inl (cI, 8, .inl Y)), (bd 7, .inl (cI, 8, .inl Z)), (bd 8, .inl (cZ, 8, .inl X)), (bd 9, .inl (cI, 40, .inl g))] H := hP
                    have hD : va_D A [(bd 0, .inr (5, [.ref (bd 1), .int (nI clk), .int pw, .int lf, .ref (bd 2), .int (nI fc), .int (nI sn), .int (nI ob), .ref (bd 3), .ref (bd 4), .ref (bd 5), .int (nI st), .ref (bd 6), .ref (bd 7), .ref (bd 8), .int (nI ef), .int (nI ec), .int (nI fu), .ref (bd 9)])), (bd 1, .inl (cI, 292, .inl f)), (bd 2, .inl (cI, 12, .inl fd)), (bd 3, .inl (cI, 13, .inl S)), (bd 4, .inl (cI, 13, .inl D)), (bd 5, .inl (cI, 13, .inl G)), (bd 6, .inl (cI, 8, .inl Y)), (bd 7, .inl (cI, 8, .inl Z)), (bd 8, .inl (cZ, 8, .inl X)), (bd 9, .inl (cI, 40, .inl g))] := hD
                    refine lv_if_ne (tgt := 183) hx hb dn_M_soundNext_176 (by decide) (fun h176 => ?_) (fun h176 => ?_)
                    · skip
                      refine lv_iconst (v := 0) hx hb dn_M_soundNext_183 (by decide) ?_
                      exact hret 0 () _ _ _ _ (Or.inr ⟨rfl, fun q => by first | exact h53 q.1 | exact absurd q.2.1 (Int32.not_le.mpr h59) | exact absurd q.2.2.1 (Int32.not_le.mpr h66) | exact absurd q.2.2.2.1 (Int32.not_le.mpr (htm ▸ h78)) | exact h93 q.2.2.2.2.1 | exact h112 (q.2.2.2.2.2.1 h101).1 | exact h123 (q.2.2.2.2.2.1 h101).2 | exact h136 (q.2.2.2.2.2.2.1 (Int32.not_lt.mp h131)) | exact h153 (by rw [heq.1]; exact q.2.2.2.2.2.2.2.1 h142) | exact h176 ((ct_ru_eqm heq (by omega) _ _ _ _).trans q.2.2.2.2.2.2.2.2)⟩) rfl hP hD hS dn_M_soundNext_184
                    · skip
                      refine lv_iconst (v := 1) hx hb dn_M_soundNext_179 (by decide) ?_
                      refine lv_goto (tgt := 184) hx hb dn_M_soundNext_180 (by decide) ?_
                      exact hret 1 () _ _ _ _ (Or.inl ⟨rfl, h53, Int32.not_lt.mp h59, Int32.not_lt.mp h66, htm ▸ Int32.not_lt.mp h78, h93, (fun q => by first | exact absurd h101 q | exact ⟨h112, h123⟩), (fun q => by first | exact h136 | exact absurd q (Int32.not_le.mpr h131)), (fun q => by rw [← heq.1]; first | exact absurd q h142 | exact h153), (ct_ru_eqm heq (by omega) _ _ _ _).symm.trans h176⟩) rfl hP hD hS dn_M_soundNext_184
                  · skip
                    refine lv_iconst (v := 0) hx hb dn_M_soundNext_156 (by decide) ?_
                    exact hret 0 () _ _ _ _ (Or.inr ⟨rfl, fun q => by first | exact h53 q.1 | exact absurd q.2.1 (Int32.not_le.mpr h59) | exact absurd q.2.2.1 (Int32.not_le.mpr h66) | exact absurd q.2.2.2.1 (Int32.not_le.mpr (htm ▸ h78)) | exact h93 q.2.2.2.2.1 | exact h112 (q.2.2.2.2.2.1 h101).1 | exact h123 (q.2.2.2.2.2.1 h101).2 | exact h136 (q.2.2.2.2.2.2.1 (Int32.not_lt.mp h131)) | exact h153 (by rw [heq.1]; exact q.2.2.2.2.2.2.2.1 h142) | exact h176 ((ct_ru_eqm heq (by omega) _ _ _ _).trans q.2.2.2.2.2.2.2.2)⟩) rfl hP hD hS dn_M_soundNext_157
              · skip
                refine lv_iload hx hb dn_M_soundNext_134 (lv_at hl 1 rfl) ?_
                refine lv_if_ne (tgt := 156) hx hb dn_M_soundNext_136 (by decide) (fun h136 => ?_) (fun h136 => ?_)
                · skip
                  refine lv_iconst (v := 0) hx hb dn_M_soundNext_156 (by decide) ?_
                  exact hret 0 () _ _ _ _ (Or.inr ⟨rfl, fun q => by first | exact h53 q.1 | exact absurd q.2.1 (Int32.not_le.mpr h59) | exact absurd q.2.2.1 (Int32.not_le.mpr h66) | exact absurd q.2.2.2.1 (Int32.not_le.mpr (htm ▸ h78)) | exact h93 q.2.2.2.2.1 | exact h112 (q.2.2.2.2.2.1 h101).1 | exact h123 (q.2.2.2.2.2.1 h101).2 | exact h136 (q.2.2.2.2.2.2.1 (Int32.not_lt.mp h131)) | exact h153 (by rw [heq.1]; exact q.2.2.2.2.2.2.2.1 h142) | exact h176 ((ct_ru_eqm heq (by omega) _ _ _ _).trans q.2.2.2.2.2.2.2.2)⟩) rfl hP hD hS dn_M_soundNext_157
                · skip
                  refine lv_iload hx hb dn_M_soundNext_139 (lv_at hl 3 rfl) ?_
                  refine lv_iconst (v := 1) hx hb dn_M_soundNext_141 (by decide) ?_
                  refine lv_icmp_ne (tgt := 158) hx hb dn_M_soundNext_142 (by decide) (fun h142 => ?_) (fun h142 => ?_)
                  · skip
                    refine lv_aload_n hx hb dn_M_soundNext_158 rfl (lv_at hl 5 rfl) ?_
                    refine lv_iload hx hb dn_M_soundNext_159 (lv_at hl 3 rfl) ?_
                    refine lv_iload hx hb dn_M_soundNext_161 (lv_at hl 2 rfl) ?_
                    refine lv_iload hx hb dn_M_soundNext_163 (lv_at hl 1 rfl) ?_
                    refine lv_aload_n hx hb dn_M_soundNext_165 rfl (lv_at hl 5 rfl) ?_
                    refine va_get (D := (dC, dI)) (ci := 5) (v := .ref (bd 1)) (C := rn_M) (T := tn_M) (N := 19) hx hb hw ml_M hown hK hP 0 rfl rfl 0 (by decide) (hw _ mw_473) (fun _ h9 => h9) rfl dn_M_soundNext_166 ?_
                    refine lv_iload_n hx hb dn_M_soundNext_169 rfl (lv_at hl 4 rfl) ?_
                    refine lv_iconst (v := 5) hx hb dn_M_soundNext_170 (by decide) ?_
                    refine gr_addN hx hb (7 * r) 5 rfl rfl dn_M_soundNext_171 ?_
                    refine gr_iald hx hb hK hP 1 0 rfl rfl ((7 * r) + 5) rfl (by omega) (by decide) dn_M_soundNext_172 ?_
                    refine gc_vi (pre := []) (wc := [(bd 0, .inr (5, [.ref (bd 1), .int (nI clk), .int pw, .int lf, .ref (bd 2), .int (nI fc), .int (nI sn), .int (nI ob), .ref (bd 3), .ref (bd 4), .ref (bd 5), .int (nI st), .ref (bd 6), .ref (bd 7), .ref (bd 8), .int (nI ef), .int (nI ec), .int (nI fu), .ref (bd 9)])), (bd 1, .inl (cI, 292, .inl f)), (bd 2, .inl (cI, 12, .inl fd)), (bd 3, .inl (cI, 13, .inl S)), (bd 4, .inl (cI, 13, .inl D)), (bd 5, .inl (cI, 13, .inl G)), (bd 6, .inl (cI, 8, .inl Y)), (bd 7, .inl (cI, 8, .inl Z)), (bd 8, .inl (cZ, 8, .inl X)), (bd 9, .inl (cI, 40, .inl g))]) (po := []) (As := [.int (f (7 * r)), .int (f ((7 * r) + 1)), .int (f ((7 * r) + 2)), .int (f ((7 * r) + 5))]) (rest := []) ⟨hx, hb, hml, hown, hw⟩ (c_M_rule l dC dI cI cZ bd clk pw lf f fd fc sn ob S D G st Y Z X ef ec fu g (by omega) (f (7 * r)) (f ((7 * r) + 1)) (f ((7 * r) + 2)) (f ((7 * r) + 5)) (Int32.not_lt.mp h59) (Int32.not_lt.mp h66)) (gw_cV 4 hw mw_555 mw_557 mv_25 mw_6 mw_558 hd_M_rule ⟨Nat.le_of_ble_eq_true rfl, Nat.le_of_ble_eq_true rfl⟩) (ci := 5) rfl rfl rfl hK hP hD hS hA rfl hl.1 rfl (Nat.le_of_ble_eq_true rfl) dn_M_soundNext_173 ⟨Nat.zero_le _, Nat.zero_le _⟩ (fun r173 u173 H locs hc173 hP hD hS => ?_)
                    subst hc173
                    have hP : va_P (dC, dI) vwCl [(bd 0, .inr (5, [.ref (bd 1), .int (nI clk), .int pw, .int lf, .ref (bd 2), .int (nI fc), .int (nI sn), .int (nI ob), .ref (bd 3), .ref (bd 4), .ref (bd 5), .int (nI st), .ref (bd 6), .ref (bd 7), .ref (bd 8), .int (nI ef), .int (nI ec), .int (nI fu), .ref (bd 9)])), (bd 1, .inl (cI, 292, .inl f)), (bd 2, .inl (cI, 12, .inl fd)), (bd 3, .inl (cI, 13, .inl S)), (bd 4, .inl (cI, 13, .inl D)), (bd 5, .inl (cI, 13, .inl G)), (bd 6, .inl (cI, 8, .inl Y)), (bd 7, .inl (cI, 8, .inl Z)), (bd 8, .inl (cZ, 8, .inl X)), (bd 9, .inl (cI, 40, .inl g))] H := hP
                    have hD : va_D A [(bd 0, .inr (5, [.ref (bd 1), .int (nI clk), .int pw, .int lf, .ref (bd 2), .int (nI fc), .int (nI sn), .int (nI ob), .ref (bd 3), .ref (bd 4), .ref (bd 5), .int (nI st), .ref (bd 6), .ref (bd 7), .ref (bd 8), .int (nI ef), .int (nI ec), .int (nI fu), .ref (bd 9)])), (bd 1, .inl (cI, 292, .inl f)), (bd 2, .inl (cI, 12, .inl fd)), (bd 3, .inl (cI, 13, .inl S)), (bd 4, .inl (cI, 13, .inl D)), (bd 5, .inl (cI, 13, .inl G)), (bd 6, .inl (cI, 8, .inl Y)), (bd 7, .inl (cI, 8, .inl Z)), (bd 8, .inl (cZ, 8, .inl X)), (bd 9, .inl (cI, 40, .inl g))] := hD
                    refine lv_if_ne (tgt := 183) hx hb dn_M_soundNext_176 (by decide) (fun h176 => ?_) (fun h176 => ?_)
                    · skip
                      refine lv_iconst (v := 0) hx hb dn_M_soundNext_183 (by decide) ?_
                      exact hret 0 () _ _ _ _ (Or.inr ⟨rfl, fun q => by first | exact h53 q.1 | exact absurd q.2.1 (Int32.not_le.mpr h59) | exact absurd q.2.2.1 (Int32.not_le.mpr h66) | exact absurd q.2.2.2.1 (Int32.not_le.mpr (htm ▸ h78)) | exact h93 q.2.2.2.2.1 | exact h112 (q.2.2.2.2.2.1 h101).1 | exact h123 (q.2.2.2.2.2.1 h101).2 | exact h136 (q.2.2.2.2.2.2.1 (Int32.not_lt.mp h131)) | exact h153 (by rw [heq.1]; exact q.2.2.2.2.2.2.2.1 h142) | exact h176 ((ct_ru_eqm heq (by omega) _ _ _ _).trans q.2.2.2.2.2.2.2.2)⟩) rfl hP hD hS dn_M_soundNext_184
                    · skip
                      refine lv_iconst (v := 1) hx hb dn_M_soundNext_179 (by decide) ?_
                      refine lv_goto (tgt := 184) hx hb dn_M_soundNext_180 (by decide) ?_
                      exact hret 1 () _ _ _ _ (Or.inl ⟨rfl, h53, Int32.not_lt.mp h59, Int32.not_lt.mp h66, htm ▸ Int32.not_lt.mp h78, h93, (fun q => by first | exact absurd h101 q | exact ⟨h112, h123⟩), (fun q => by first | exact h136 | exact absurd q (Int32.not_le.mpr h131)), (fun q => by rw [← heq.1]; first | exact absurd q h142 | exact h153), (ct_ru_eqm heq (by omega) _ _ _ _).symm.trans h176⟩) rfl hP hD hS dn_M_soundNext_184
                  · skip
                    refine lv_iload hx hb dn_M_soundNext_145 (lv_at hl 2 rfl) ?_
                    refine lv_aload_n hx hb dn_M_soundNext_147 rfl (lv_at hl 5 rfl) ?_
                    refine va_get (D := (dC, dI)) (ci := 5) (v := .int (nI ob)) (C := rn_M) (T := tn_M) (N := 19) hx hb hw ml_M hown hK hP 0 rfl rfl 7 (by decide) (hw _ mw_480) (fun _ h9 => h9) rfl dn_M_soundNext_148 ?_
                    refine lv_iconst (v := 1) hx hb dn_M_soundNext_151 (by decide) ?_
                    refine gr_addN hx hb ob 1 rfl rfl dn_M_soundNext_152 ?_
                    refine lv_icmp_eq (tgt := 158) hx hb dn_M_soundNext_153 (by decide) (fun h153 => ?_) (fun h153 => ?_)
                    · skip
                      refine lv_aload_n hx hb dn_M_soundNext_158 rfl (lv_at hl 5 rfl) ?_
                      refine lv_iload hx hb dn_M_soundNext_159 (lv_at hl 3 rfl) ?_
                      refine lv_iload hx hb dn_M_soundNext_161 (lv_at hl 2 rfl) ?_
                      refine lv_iload hx hb dn_M_soundNext_163 (lv_at hl 1 rfl) ?_
                      refine lv_aload_n hx hb dn_M_soundNext_165 rfl (lv_at hl 5 rfl) ?_
                      refine va_get (D := (dC, dI)) (ci := 5) (v := .ref (bd 1)) (C := rn_M) (T := tn_M) (N := 19) hx hb hw ml_M hown hK hP 0 rfl rfl 0 (by decide) (hw _ mw_473) (fun _ h9 => h9) rfl dn_M_soundNext_166 ?_
                      refine lv_iload_n hx hb dn_M_soundNext_169 rfl (lv_at hl 4 rfl) ?_
                      refine lv_iconst (v := 5) hx hb dn_M_soundNext_170 (by decide) ?_
                      refine gr_addN hx hb (7 * r) 5 rfl rfl dn_M_soundNext_171 ?_
                      refine gr_iald hx hb hK hP 1 0 rfl rfl ((7 * r) + 5) rfl (by omega) (by decide) dn_M_soundNext_172 ?_
                      refine gc_vi (pre := []) (wc := [(bd 0, .inr (5, [.ref (bd 1), .int (nI clk), .int pw, .int lf, .ref (bd 2), .int (nI fc), .int (nI sn), .int (nI ob), .ref (bd 3), .ref (bd 4), .ref (bd 5), .int (nI st), .ref (bd 6), .ref (bd 7), .ref (bd 8), .int (nI ef), .int (nI ec), .int (nI fu), .ref (bd 9)])), (bd 1, .inl (cI, 292, .inl f)), (bd 2, .inl (cI, 12, .inl fd)), (bd 3, .inl (cI, 13, .inl S)), (bd 4, .inl (cI, 13, .inl D)), (bd 5, .inl (cI, 13, .inl G)), (bd 6, .inl (cI, 8, .inl Y)), (bd 7, .inl (cI, 8, .inl Z)), (bd 8, .inl (cZ, 8, .inl X)), (bd 9, .inl (cI, 40, .inl g))]) (po := []) (As := [.int (f (7 * r)), .int (f ((7 * r) + 1)), .int (f ((7 * r) + 2)), .int (f ((7 * r) + 5))]) (rest := []) ⟨hx, hb, hml, hown, hw⟩ (c_M_rule l dC dI cI cZ bd clk pw lf f fd fc sn ob S D G st Y Z X ef ec fu g (by omega) (f (7 * r)) (f ((7 * r) + 1)) (f ((7 * r) + 2)) (f ((7 * r) + 5)) (Int32.not_lt.mp h59) (Int32.not_lt.mp h66)) (gw_cV 4 hw mw_555 mw_557 mv_25 mw_6 mw_558 hd_M_rule ⟨Nat.le_of_ble_eq_true rfl, Nat.le_of_ble_eq_true rfl⟩) (ci := 5) rfl rfl rfl hK hP hD hS hA rfl hl.1 rfl (Nat.le_of_ble_eq_true rfl) dn_M_soundNext_173 ⟨Nat.zero_le _, Nat.zero_le _⟩ (fun r173 u173 H locs hc173 hP hD hS => ?_)
                      subst hc173
                      have hP : va_P (dC, dI) vwCl [(bd 0, .inr (5, [.ref (bd 1), .int (nI clk), .int pw, .int lf, .ref (bd 2), .int (nI fc), .int (nI sn), .int (nI ob), .ref (bd 3), .ref (bd 4), .ref (bd 5), .int (nI st), .ref (bd 6), .ref (bd 7), .ref (bd 8), .int (nI ef), .int (nI ec), .int (nI fu), .ref (bd 9)])), (bd 1, .inl (cI, 292, .inl f)), (bd 2, .inl (cI, 12, .inl fd)), (bd 3, .inl (cI, 13, .inl S)), (bd 4, .inl (cI, 13, .inl D)), (bd 5, .inl (cI, 13, .inl G)), (bd 6, .inl (cI, 8, .inl Y)), (bd 7, .inl (cI, 8, .inl Z)), (bd 8, .inl (cZ, 8, .inl X)), (bd 9, .inl (cI, 40, .inl g))] H := hP
                      have hD : va_D A [(bd 0, .inr (5, [.ref (bd 1), .int (nI clk), .int pw, .int lf, .ref (bd 2), .int (nI fc), .int (nI sn), .int (nI ob), .ref (bd 3), .ref (bd 4), .ref (bd 5), .int (nI st), .ref (bd 6), .ref (bd 7), .ref (bd 8), .int (nI ef), .int (nI ec), .int (nI fu), .ref (bd 9)])), (bd 1, .inl (cI, 292, .inl f)), (bd 2, .inl (cI, 12, .inl fd)), (bd 3, .inl (cI, 13, .inl S)), (bd 4, .inl (cI, 13, .inl D)), (bd 5, .inl (cI, 13, .inl G)), (bd 6, .inl (cI, 8, .inl Y)), (bd 7, .inl (cI, 8, .inl Z)), (bd 8, .inl (cZ, 8, .inl X)), (bd 9, .inl (cI, 40, .inl g))] := hD
                      refine lv_if_ne (tgt := 183) hx hb dn_M_soundNext_176 (by decide) (fun h176 => ?_) (fun h176 => ?_)
                      · skip
                        refine lv_iconst (v := 0) hx hb dn_M_soundNext_183 (by decide) ?_
                        exact hret 0 () _ _ _ _ (Or.inr ⟨rfl, fun q => by first | exact h53 q.1 | exact absurd q.2.1 (Int32.not_le.mpr h59) | exact absurd q.2.2.1 (Int32.not_le.mpr h66) | exact absurd q.2.2.2.1 (Int32.not_le.mpr (htm ▸ h78)) | exact h93 q.2.2.2.2.1 | exact h112 (q.2.2.2.2.2.1 h101).1 | exact h123 (q.2.2.2.2.2.1 h101).2 | exact h136 (q.2.2.2.2.2.2.1 (Int32.not_lt.mp h131)) | exact h153 (by rw [heq.1]; exact q.2.2.2.2.2.2.2.1 h142) | exact h176 ((ct_ru_eqm heq (by omega) _ _ _ _).trans q.2.2.2.2.2.2.2.2)⟩) rfl hP hD hS dn_M_soundNext_184
                      · skip
                        refine lv_iconst (v := 1) hx hb dn_M_soundNext_179 (by decide) ?_
                        refine lv_goto (tgt := 184) hx hb dn_M_soundNext_180 (by decide) ?_
                        exact hret 1 () _ _ _ _ (Or.inl ⟨rfl, h53, Int32.not_lt.mp h59, Int32.not_lt.mp h66, htm ▸ Int32.not_lt.mp h78, h93, (fun q => by first | exact absurd h101 q | exact ⟨h112, h123⟩), (fun q => by first | exact h136 | exact absurd q (Int32.not_le.mpr h131)), (fun q => by rw [← heq.1]; first | exact absurd q h142 | exact h153), (ct_ru_eqm heq (by omega) _ _ _ _).symm.trans h176⟩) rfl hP hD hS dn_M_soundNext_184
                    · skip
                      refine lv_iconst (v := 0) hx hb dn_M_soundNext_156 (by decide) ?_
                      exact hret 0 () _ _ _ _ (Or.inr ⟨rfl, fun q => by first | exact h53 q.1 | exact absurd q.2.1 (Int32.not_le.mpr h59) | exact absurd q.2.2.1 (Int32.not_le.mpr h66) | exact absurd q.2.2.2.1 (Int32.not_le.mpr (htm ▸ h78)) | exact h93 q.2.2.2.2.1 | exact h112 (q.2.2.2.2.2.1 h101).1 | exact h123 (q.2.2.2.2.2.1 h101).2 | exact h136 (q.2.2.2.2.2.2.1 (Int32.not_lt.mp h131)) | exact h153 (by rw [heq.1]; exact q.2.2.2.2.2.2.2.1 h142) | exact h176 ((ct_ru_eqm heq (by omega) _ _ _ _).trans q.2.2.2.2.2.2.2.2)⟩) rfl hP hD hS dn_M_soundNext_157
            · skip
              refine lv_aload_n hx hb dn_M_soundNext_104 rfl (lv_at hl 5 rfl) ?_
              refine va_get (D := (dC, dI)) (ci := 5) (v := .ref (bd 1)) (C := rn_M) (T := tn_M) (N := 19) hx hb hw ml_M hown hK hP 0 rfl rfl 0 (by decide) (hw _ mw_473) (fun _ h9 => h9) rfl dn_M_soundNext_105 ?_
              refine lv_iload_n hx hb dn_M_soundNext_108 rfl (lv_at hl 4 rfl) ?_
              refine lv_iconst (v := 3) hx hb dn_M_soundNext_109 (by decide) ?_
              refine gr_addN hx hb (7 * r) 3 rfl rfl dn_M_soundNext_110 ?_
              refine gr_iald hx hb hK hP 1 0 rfl rfl ((7 * r) + 3) rfl (by omega) (by decide) dn_M_soundNext_111 ?_
              refine lv_if_ne (tgt := 126) hx hb dn_M_soundNext_112 (by decide) (fun h112 => ?_) (fun h112 => ?_)
              · skip
                refine lv_iconst (v := 0) hx hb dn_M_soundNext_126 (by decide) ?_
                exact hret 0 () _ _ _ _ (Or.inr ⟨rfl, fun q => by first | exact h53 q.1 | exact absurd q.2.1 (Int32.not_le.mpr h59) | exact absurd q.2.2.1 (Int32.not_le.mpr h66) | exact absurd q.2.2.2.1 (Int32.not_le.mpr (htm ▸ h78)) | exact h93 q.2.2.2.2.1 | exact h112 (q.2.2.2.2.2.1 h101).1 | exact h123 (q.2.2.2.2.2.1 h101).2 | exact h136 (q.2.2.2.2.2.2.1 (Int32.not_lt.mp h131)) | exact h153 (by rw [heq.1]; exact q.2.2.2.2.2.2.2.1 h142) | exact h176 ((ct_ru_eqm heq (by omega) _ _ _ _).trans q.2.2.2.2.2.2.2.2)⟩) rfl hP hD hS dn_M_soundNext_127
              · skip
                refine lv_aload_n hx hb dn_M_soundNext_115 rfl (lv_at hl 5 rfl) ?_
                refine va_get (D := (dC, dI)) (ci := 5) (v := .ref (bd 1)) (C := rn_M) (T := tn_M) (N := 19) hx hb hw ml_M hown hK hP 0 rfl rfl 0 (by decide) (hw _ mw_473) (fun _ h9 => h9) rfl dn_M_soundNext_116 ?_
                refine lv_iload_n hx hb dn_M_soundNext_119 rfl (lv_at hl 4 rfl) ?_
                refine lv_iconst (v := 4) hx hb dn_M_soundNext_120 (by decide) ?_
                refine gr_addN hx hb (7 * r) 4 rfl rfl dn_M_soundNext_121 ?_
                refine gr_iald hx hb hK hP 1 0 rfl rfl ((7 * r) + 4) rfl (by omega) (by decide) dn_M_soundNext_122 ?_
                refine lv_if_eq (tgt := 128) hx hb dn_M_soundNext_123 (by decide) (fun h123 => ?_) (fun h123 => ?_)
                · skip
                  refine lv_iload hx hb dn_M_soundNext_128 (lv_at hl 3 rfl) ?_
                  refine lv_iconst (v := 5) hx hb dn_M_soundNext_130 (by decide) ?_
                  refine lv_icmp_lt (tgt := 139) hx hb dn_M_soundNext_131 (by decide) (fun h131 => ?_) (fun h131 => ?_)
                  · skip
                    refine lv_iload hx hb dn_M_soundNext_139 (lv_at hl 3 rfl) ?_
                    refine lv_iconst (v := 1) hx hb dn_M_soundNext_141 (by decide) ?_
                    refine lv_icmp_ne (tgt := 158) hx hb dn_M_soundNext_142 (by decide) (fun h142 => ?_) (fun h142 => ?_)
                    · skip
                      refine lv_aload_n hx hb dn_M_soundNext_158 rfl (lv_at hl 5 rfl) ?_
                      refine lv_iload hx hb dn_M_soundNext_159 (lv_at hl 3 rfl) ?_
                      refine lv_iload hx hb dn_M_soundNext_161 (lv_at hl 2 rfl) ?_
                      refine lv_iload hx hb dn_M_soundNext_163 (lv_at hl 1 rfl) ?_
                      refine lv_aload_n hx hb dn_M_soundNext_165 rfl (lv_at hl 5 rfl) ?_
                      refine va_get (D := (dC, dI)) (ci := 5) (v := .ref (bd 1)) (C := rn_M) (T := tn_M) (N := 19) hx hb hw ml_M hown hK hP 0 rfl rfl 0 (by decide) (hw _ mw_473) (fun _ h9 => h9) rfl dn_M_soundNext_166 ?_
                      refine lv_iload_n hx hb dn_M_soundNext_169 rfl (lv_at hl 4 rfl) ?_
                      refine lv_iconst (v := 5) hx hb dn_M_soundNext_170 (by decide) ?_
                      refine gr_addN hx hb (7 * r) 5 rfl rfl dn_M_soundNext_171 ?_
                      refine gr_iald hx hb hK hP 1 0 rfl rfl ((7 * r) + 5) rfl (by omega) (by decide) dn_M_soundNext_172 ?_
                      refine gc_vi (pre := []) (wc := [(bd 0, .inr (5, [.ref (bd 1), .int (nI clk), .int pw, .int lf, .ref (bd 2), .int (nI fc), .int (nI sn), .int (nI ob), .ref (bd 3), .ref (bd 4), .ref (bd 5), .int (nI st), .ref (bd 6), .ref (bd 7), .ref (bd 8), .int (nI ef), .int (nI ec), .int (nI fu), .ref (bd 9)])), (bd 1, .inl (cI, 292, .inl f)), (bd 2, .inl (cI, 12, .inl fd)), (bd 3, .inl (cI, 13, .inl S)), (bd 4, .inl (cI, 13, .inl D)), (bd 5, .inl (cI, 13, .inl G)), (bd 6, .inl (cI, 8, .inl Y)), (bd 7, .inl (cI, 8, .inl Z)), (bd 8, .inl (cZ, 8, .inl X)), (bd 9, .inl (cI, 40, .inl g))]) (po := []) (As := [.int (f (7 * r)), .int (f ((7 * r) + 1)), .int (f ((7 * r) + 2)), .int (f ((7 * r) + 5))]) (rest := []) ⟨hx, hb, hml, hown, hw⟩ (c_M_rule l dC dI cI cZ bd clk pw lf f fd fc sn ob S D G st Y Z X ef ec fu g (by omega) (f (7 * r)) (f ((7 * r) + 1)) (f ((7 * r) + 2)) (f ((7 * r) + 5)) (Int32.not_lt.mp h59) (Int32.not_lt.mp h66)) (gw_cV 4 hw mw_555 mw_557 mv_25 mw_6 mw_558 hd_M_rule ⟨Nat.le_of_ble_eq_true rfl, Nat.le_of_ble_eq_true rfl⟩) (ci := 5) rfl rfl rfl hK hP hD hS hA rfl hl.1 rfl (Nat.le_of_ble_eq_true rfl) dn_M_soundNext_173 ⟨Nat.zero_le _, Nat.zero_le _⟩ (fun r173 u173 H locs hc173 hP hD hS => ?_)
                      subst hc173
                      have hP : va_P (dC, dI) vwCl [(bd 0, .inr (5, [.ref (bd 1), .int (nI clk), .int pw, .int lf, .ref (bd 2), .int (nI fc), .int (nI sn), .int (nI ob), .ref (bd 3), .ref (bd 4), .ref (bd 5), .int (nI st), .ref (bd 6), .ref (bd 7), .ref (bd 8), .int (nI ef), .int (nI ec), .int (nI fu), .ref (bd 9)])), (bd 1, .inl (cI, 292, .inl f)), (bd 2, .inl (cI, 12, .inl fd)), (bd 3, .inl (cI, 13, .inl S)), (bd 4, .inl (cI, 13, .inl D)), (bd 5, .inl (cI, 13, .inl G)), (bd 6, .inl (cI, 8, .inl Y)), (bd 7, .inl (cI, 8, .inl Z)), (bd 8, .inl (cZ, 8, .inl X)), (bd 9, .inl (cI, 40, .inl g))] H := hP
                      have hD : va_D A [(bd 0, .inr (5, [.ref (bd 1), .int (nI clk), .int pw, .int lf, .ref (bd 2), .int (nI fc), .int (nI sn), .int (nI ob), .ref (bd 3), .ref (bd 4), .ref (bd 5), .int (nI st), .ref (bd 6), .ref (bd 7), .ref (bd 8), .int (nI ef), .int (nI ec), .int (nI fu), .ref (bd 9)])), (bd 1, .inl (cI, 292, .inl f)), (bd 2, .inl (cI, 12, .inl fd)), (bd 3, .inl (cI, 13, .inl S)), (bd 4, .inl (cI, 13, .inl D)), (bd 5, .inl (cI, 13, .inl G)), (bd 6, .inl (cI, 8, .inl Y)), (bd 7, .inl (cI, 8, .inl Z)), (bd 8, .inl (cZ, 8, .inl X)), (bd 9, .inl (cI, 40, .inl g))] := hD
                      refine lv_if_ne (tgt := 183) hx hb dn_M_soundNext_176 (by decide) (fun h176 => ?_) (fun h176 => ?_)
                      · skip
                        refine lv_iconst (v := 0) hx hb dn_M_soundNext_183 (by decide) ?_
                        exact hret 0 () _ _ _ _ (Or.inr ⟨rfl, fun q => by first | exact h53 q.1 | exact absurd q.2.1 (Int32.not_le.mpr h59) | exact absurd q.2.2.1 (Int32.not_le.mpr h66) | exact absurd q.2.2.2.1 (Int32.not_le.mpr (htm ▸ h78)) | exact h93 q.2.2.2.2.1 | exact h112 (q.2.2.2.2.2.1 h101).1 | exact h123 (q.2.2.2.2.2.1 h101).2 | exact h136 (q.2.2.2.2.2.2.1 (Int32.not_lt.mp h131)) | exact h153 (by rw [heq.1]; exact q.2.2.2.2.2.2.2.1 h142) | exact h176 ((ct_ru_eqm heq (by omega) _ _ _ _).trans q.2.2.2.2.2.2.2.2)⟩) rfl hP hD hS dn_M_soundNext_184
                      · skip
                        refine lv_iconst (v := 1) hx hb dn_M_soundNext_179 (by decide) ?_
                        refine lv_goto (tgt := 184) hx hb dn_M_soundNext_180 (by decide) ?_
                        exact hret 1 () _ _ _ _ (Or.inl ⟨rfl, h53, Int32.not_lt.mp h59, Int32.not_lt.mp h66, htm ▸ Int32.not_lt.mp h78, h93, (fun q => by first | exact absurd h101 q | exact ⟨h112, h123⟩), (fun q => by first | exact h136 | exact absurd q (Int32.not_le.mpr h131)), (fun q => by rw [← heq.1]; first | exact absurd q h142 | exact h153), (ct_ru_eqm heq (by omega) _ _ _ _).symm.trans h176⟩) rfl hP hD hS dn_M_soundNext_184
                    · skip
                      refine lv_iload hx hb dn_M_soundNext_145 (lv_at hl 2 rfl) ?_
                      refine lv_aload_n hx hb dn_M_soundNext_147 rfl (lv_at hl 5 rfl) ?_
                      refine va_get (D := (dC, dI)) (ci := 5) (v := .int (nI ob)) (C := rn_M) (T := tn_M) (N := 19) hx hb hw ml_M hown hK hP 0 rfl rfl 7 (by decide) (hw _ mw_480) (fun _ h9 => h9) rfl dn_M_soundNext_148 ?_
                      refine lv_iconst (v := 1) hx hb dn_M_soundNext_151 (by decide) ?_
                      refine gr_addN hx hb ob 1 rfl rfl dn_M_soundNext_152 ?_
                      refine lv_icmp_eq (tgt := 158) hx hb dn_M_soundNext_153 (by decide) (fun h153 => ?_) (fun h153 => ?_)
                      · skip
                        refine lv_aload_n hx hb dn_M_soundNext_158 rfl (lv_at hl 5 rfl) ?_
                        refine lv_iload hx hb dn_M_soundNext_159 (lv_at hl 3 rfl) ?_
                        refine lv_iload hx hb dn_M_soundNext_161 (lv_at hl 2 rfl) ?_
                        refine lv_iload hx hb dn_M_soundNext_163 (lv_at hl 1 rfl) ?_
                        refine lv_aload_n hx hb dn_M_soundNext_165 rfl (lv_at hl 5 rfl) ?_
                        refine va_get (D := (dC, dI)) (ci := 5) (v := .ref (bd 1)) (C := rn_M) (T := tn_M) (N := 19) hx hb hw ml_M hown hK hP 0 rfl rfl 0 (by decide) (hw _ mw_473) (fun _ h9 => h9) rfl dn_M_soundNext_166 ?_
                        refine lv_iload_n hx hb dn_M_soundNext_169 rfl (lv_at hl 4 rfl) ?_
                        refine lv_iconst (v := 5) hx hb dn_M_soundNext_170 (by decide) ?_
                        refine gr_addN hx hb (7 * r) 5 rfl rfl dn_M_soundNext_171 ?_
                        refine gr_iald hx hb hK hP 1 0 rfl rfl ((7 * r) + 5) rfl (by omega) (by decide) dn_M_soundNext_172 ?_
                        refine gc_vi (pre := []) (wc := [(bd 0, .inr (5, [.ref (bd 1), .int (nI clk), .int pw, .int lf, .ref (bd 2), .int (nI fc), .int (nI sn), .int (nI ob), .ref (bd 3), .ref (bd 4), .ref (bd 5), .int (nI st), .ref (bd 6), .ref (bd 7), .ref (bd 8), .int (nI ef), .int (nI ec), .int (nI fu), .ref (bd 9)])), (bd 1, .inl (cI, 292, .inl f)), (bd 2, .inl (cI, 12, .inl fd)), (bd 3, .inl (cI, 13, .inl S)), (bd 4, .inl (cI, 13, .inl D)), (bd 5, .inl (cI, 13, .inl G)), (bd 6, .inl (cI, 8, .inl Y)), (bd 7, .inl (cI, 8, .inl Z)), (bd 8, .inl (cZ, 8, .inl X)), (bd 9, .inl (cI, 40, .inl g))]) (po := []) (As := [.int (f (7 * r)), .int (f ((7 * r) + 1)), .int (f ((7 * r) + 2)), .int (f ((7 * r) + 5))]) (rest := []) ⟨hx, hb, hml, hown, hw⟩ (c_M_rule l dC dI cI cZ bd clk pw lf f fd fc sn ob S D G st Y Z X ef ec fu g (by omega) (f (7 * r)) (f ((7 * r) + 1)) (f ((7 * r) + 2)) (f ((7 * r) + 5)) (Int32.not_lt.mp h59) (Int32.not_lt.mp h66)) (gw_cV 4 hw mw_555 mw_557 mv_25 mw_6 mw_558 hd_M_rule ⟨Nat.le_of_ble_eq_true rfl, Nat.le_of_ble_eq_true rfl⟩) (ci := 5) rfl rfl rfl hK hP hD hS hA rfl hl.1 rfl (Nat.le_of_ble_eq_true rfl) dn_M_soundNext_173 ⟨Nat.zero_le _, Nat.zero_le _⟩ (fun r173 u173 H locs hc173 hP hD hS => ?_)
                        subst hc173
                        have hP : va_P (dC, dI) vwCl [(bd 0, .inr (5, [.ref (bd 1), .int (nI clk), .int pw, .int lf, .ref (bd 2), .int (nI fc), .int (nI sn), .int (nI ob), .ref (bd 3), .ref (bd 4), .ref (bd 5), .int (nI st), .ref (bd 6), .ref (bd 7), .ref (bd 8), .int (nI ef), .int (nI ec), .int (nI fu), .ref (bd 9)])), (bd 1, .inl (cI, 292, .inl f)), (bd 2, .inl (cI, 12, .inl fd)), (bd 3, .inl (cI, 13, .inl S)), (bd 4, .inl (cI, 13, .inl D)), (bd 5, .inl (cI, 13, .inl G)), (bd 6, .inl (cI, 8, .inl Y)), (bd 7, .inl (cI, 8, .inl Z)), (bd 8, .inl (cZ, 8, .inl X)), (bd 9, .inl (cI, 40, .inl g))] H := hP
                        have hD : va_D A [(bd 0, .inr (5, [.ref (bd 1), .int (nI clk), .int pw, .int lf, .ref (bd 2), .int (nI fc), .int (nI sn), .int (nI ob), .ref (bd 3), .ref (bd 4), .ref (bd 5), .int (nI st), .ref (bd 6), .ref (bd 7), .ref (bd 8), .int (nI ef), .int (nI ec), .int (nI fu), .ref (bd 9)])), (bd 1, .inl (cI, 292, .inl f)), (bd 2, .inl (cI, 12, .inl fd)), (bd 3, .inl (cI, 13, .inl S)), (bd 4, .inl (cI, 13, .inl D)), (bd 5, .inl (cI, 13, .inl G)), (bd 6, .inl (cI, 8, .inl Y)), (bd 7, .inl (cI, 8, .inl Z)), (bd 8, .inl (cZ, 8, .inl X)), (bd 9, .inl (cI, 40, .inl g))] := hD
                        refine lv_if_ne (tgt := 183) hx hb dn_M_soundNext_176 (by decide) (fun h176 => ?_) (fun h176 => ?_)
                        · skip
                          refine lv_iconst (v := 0) hx hb dn_M_soundNext_183 (by decide) ?_
                          exact hret 0 () _ _ _ _ (Or.inr ⟨rfl, fun q => by first | exact h53 q.1 | exact absurd q.2.1 (Int32.not_le.mpr h59) | exact absurd q.2.2.1 (Int32.not_le.mpr h66) | exact absurd q.2.2.2.1 (Int32.not_le.mpr (htm ▸ h78)) | exact h93 q.2.2.2.2.1 | exact h112 (q.2.2.2.2.2.1 h101).1 | exact h123 (q.2.2.2.2.2.1 h101).2 | exact h136 (q.2.2.2.2.2.2.1 (Int32.not_lt.mp h131)) | exact h153 (by rw [heq.1]; exact q.2.2.2.2.2.2.2.1 h142) | exact h176 ((ct_ru_eqm heq (by omega) _ _ _ _).trans q.2.2.2.2.2.2.2.2)⟩) rfl hP hD hS dn_M_soundNext_184
                        · skip
                          refine lv_iconst (v := 1) hx hb dn_M_soundNext_179 (by decide) ?_
                          refine lv_goto (tgt := 184) hx hb dn_M_soundNext_180 (by decide) ?_
                          exact hret 1 () _ _ _ _ (Or.inl ⟨rfl, h53, Int32.not_lt.mp h59, Int32.not_lt.mp h66, htm ▸ Int32.not_lt.mp h78, h93, (fun q => by first | exact absurd h101 q | exact ⟨h112, h123⟩), (fun q => by first | exact h136 | exact absurd q (Int32.not_le.mpr h131)), (fun q => by rw [← heq.1]; first | exact absurd q h142 | exact h153), (ct_ru_eqm heq (by omega) _ _ _ _).symm.trans h176⟩) rfl hP hD hS dn_M_soundNext_184
                      · skip
                        refine lv_iconst (v := 0) hx hb dn_M_soundNext_156 (by decide) ?_
                        exact hret 0 () _ _ _ _ (Or.inr ⟨rfl, fun q => by first | exact h53 q.1 | exact absurd q.2.1 (Int32.not_le.mpr h59) | exact absurd q.2.2.1 (Int32.not_le.mpr h66) | exact absurd q.2.2.2.1 (Int32.not_le.mpr (htm ▸ h78)) | exact h93 q.2.2.2.2.1 | exact h112 (q.2.2.2.2.2.1 h101).1 | exact h123 (q.2.2.2.2.2.1 h101).2 | exact h136 (q.2.2.2.2.2.2.1 (Int32.not_lt.mp h131)) | exact h153 (by rw [heq.1]; exact q.2.2.2.2.2.2.2.1 h142) | exact h176 ((ct_ru_eqm heq (by omega) _ _ _ _).trans q.2.2.2.2.2.2.2.2)⟩) rfl hP hD hS dn_M_soundNext_157
                  · skip
                    refine lv_iload hx hb dn_M_soundNext_134 (lv_at hl 1 rfl) ?_
                    refine lv_if_ne (tgt := 156) hx hb dn_M_soundNext_136 (by decide) (fun h136 => ?_) (fun h136 => ?_)
                    · skip
                      refine lv_iconst (v := 0) hx hb dn_M_soundNext_156 (by decide) ?_
                      exact hret 0 () _ _ _ _ (Or.inr ⟨rfl, fun q => by first | exact h53 q.1 | exact absurd q.2.1 (Int32.not_le.mpr h59) | exact absurd q.2.2.1 (Int32.not_le.mpr h66) | exact absurd q.2.2.2.1 (Int32.not_le.mpr (htm ▸ h78)) | exact h93 q.2.2.2.2.1 | exact h112 (q.2.2.2.2.2.1 h101).1 | exact h123 (q.2.2.2.2.2.1 h101).2 | exact h136 (q.2.2.2.2.2.2.1 (Int32.not_lt.mp h131)) | exact h153 (by rw [heq.1]; exact q.2.2.2.2.2.2.2.1 h142) | exact h176 ((ct_ru_eqm heq (by omega) _ _ _ _).trans q.2.2.2.2.2.2.2.2)⟩) rfl hP hD hS dn_M_soundNext_157
                    · skip
                      refine lv_iload hx hb dn_M_soundNext_139 (lv_at hl 3 rfl) ?_
                      refine lv_iconst (v := 1) hx hb dn_M_soundNext_141 (by decide) ?_
                      refine lv_icmp_ne (tgt := 158) hx hb dn_M_soundNext_142 (by decide) (fun h142 => ?_) (fun h142 => ?_)
                      · skip
                        refine lv_aload_n hx hb dn_M_soundNext_158 rfl (lv_at hl 5 rfl) ?_
                        refine lv_iload hx hb dn_M_soundNext_159 (lv_at hl 3 rfl) ?_
                        refine lv_iload hx hb dn_M_soundNext_161 (lv_at hl 2 rfl) ?_
                        refine lv_iload hx hb dn_M_soundNext_163 (lv_at hl 1 rfl) ?_
                        refine lv_aload_n hx hb dn_M_soundNext_165 rfl (lv_at hl 5 rfl) ?_
                        refine va_get (D := (dC, dI)) (ci := 5) (v := .ref (bd 1)) (C := rn_M) (T := tn_M) (N := 19) hx hb hw ml_M hown hK hP 0 rfl rfl 0 (by decide) (hw _ mw_473) (fun _ h9 => h9) rfl dn_M_soundNext_166 ?_
                        refine lv_iload_n hx hb dn_M_soundNext_169 rfl (lv_at hl 4 rfl) ?_
                        refine lv_iconst (v := 5) hx hb dn_M_soundNext_170 (by decide) ?_
                        refine gr_addN hx hb (7 * r) 5 rfl rfl dn_M_soundNext_171 ?_
                        refine gr_iald hx hb hK hP 1 0 rfl rfl ((7 * r) + 5) rfl (by omega) (by decide) dn_M_soundNext_172 ?_
                        refine gc_vi (pre := []) (wc := [(bd 0, .inr (5, [.ref (bd 1), .int (nI clk), .int pw, .int lf, .ref (bd 2), .int (nI fc), .int (nI sn), .int (nI ob), .ref (bd 3), .ref (bd 4), .ref (bd 5), .int (nI st), .ref (bd 6), .ref (bd 7), .ref (bd 8), .int (nI ef), .int (nI ec), .int (nI fu), .ref (bd 9)])), (bd 1, .inl (cI, 292, .inl f)), (bd 2, .inl (cI, 12, .inl fd)), (bd 3, .inl (cI, 13, .inl S)), (bd 4, .inl (cI, 13, .inl D)), (bd 5, .inl (cI, 13, .inl G)), (bd 6, .inl (cI, 8, .inl Y)), (bd 7, .inl (cI, 8, .inl Z)), (bd 8, .inl (cZ, 8, .inl X)), (bd 9, .inl (cI, 40, .inl g))]) (po := []) (As := [.int (f (7 * r)), .int (f ((7 * r) + 1)), .int (f ((7 * r) + 2)), .int (f ((7 * r) + 5))]) (rest := []) ⟨hx, hb, hml, hown, hw⟩ (c_M_rule l dC dI cI cZ bd clk pw lf f fd fc sn ob S D G st Y Z X ef ec fu g (by omega) (f (7 * r)) (f ((7 * r) + 1)) (f ((7 * r) + 2)) (f ((7 * r) + 5)) (Int32.not_lt.mp h59) (Int32.not_lt.mp h66)) (gw_cV 4 hw mw_555 mw_557 mv_25 mw_6 mw_558 hd_M_rule ⟨Nat.le_of_ble_eq_true rfl, Nat.le_of_ble_eq_true rfl⟩) (ci := 5) rfl rfl rfl hK hP hD hS hA rfl hl.1 rfl (Nat.le_of_ble_eq_true rfl) dn_M_soundNext_173 ⟨Nat.zero_le _, Nat.zero_le _⟩ (fun r173 u173 H locs hc173 hP hD hS => ?_)
                        subst hc173
                        have hP : va_P (dC, dI) vwCl [(bd 0, .inr (5, [.ref (bd 1), .int (nI clk), .int pw, .int lf, .ref (bd 2), .int (nI fc), .int (nI sn), .int (nI ob), .ref (bd 3), .ref (bd 4), .ref (bd 5), .int (nI st), .ref (bd 6), .ref (bd 7), .ref (bd 8), .int (nI ef), .int (nI ec), .int (nI fu), .ref (bd 9)])), (bd 1, .inl (cI, 292, .inl f)), (bd 2, .inl (cI, 12, .inl fd)), (bd 3, .inl (cI, 13, .inl S)), (bd 4, .inl (cI, 13, .inl D)), (bd 5, .inl (cI, 13, .inl G)), (bd 6, .inl (cI, 8, .inl Y)), (bd 7, .inl (cI, 8, .inl Z)), (bd 8, .inl (cZ, 8, .inl X)), (bd 9, .inl (cI, 40, .inl g))] H := hP
                        have hD : va_D A [(bd 0, .inr (5, [.ref (bd 1), .int (nI clk), .int pw, .int lf, .ref (bd 2), .int (nI fc), .int (nI sn), .int (nI ob), .ref (bd 3), .ref (bd 4), .ref (bd 5), .int (nI st), .ref (bd 6), .ref (bd 7), .ref (bd 8), .int (nI ef), .int (nI ec), .int (nI fu), .ref (bd 9)])), (bd 1, .inl (cI, 292, .inl f)), (bd 2, .inl (cI, 12, .inl fd)), (bd 3, .inl (cI, 13, .inl S)), (bd 4, .inl (cI, 13, .inl D)), (bd 5, .inl (cI, 13, .inl G)), (bd 6, .inl (cI, 8, .inl Y)), (bd 7, .inl (cI, 8, .inl Z)), (bd 8, .inl (cZ, 8, .inl X)), (bd 9, .inl (cI, 40, .inl g))] := hD
                        refine lv_if_ne (tgt := 183) hx hb dn_M_soundNext_176 (by decide) (fun h176 => ?_) (fun h176 => ?_)
                        · skip
                          refine lv_iconst (v := 0) hx hb dn_M_soundNext_183 (by decide) ?_
                          exact hret 0 () _ _ _ _ (Or.inr ⟨rfl, fun q => by first | exact h53 q.1 | exact absurd q.2.1 (Int32.not_le.mpr h59) | exact absurd q.2.2.1 (Int32.not_le.mpr h66) | exact absurd q.2.2.2.1 (Int32.not_le.mpr (htm ▸ h78)) | exact h93 q.2.2.2.2.1 | exact h112 (q.2.2.2.2.2.1 h101).1 | exact h123 (q.2.2.2.2.2.1 h101).2 | exact h136 (q.2.2.2.2.2.2.1 (Int32.not_lt.mp h131)) | exact h153 (by rw [heq.1]; exact q.2.2.2.2.2.2.2.1 h142) | exact h176 ((ct_ru_eqm heq (by omega) _ _ _ _).trans q.2.2.2.2.2.2.2.2)⟩) rfl hP hD hS dn_M_soundNext_184
                        · skip
                          refine lv_iconst (v := 1) hx hb dn_M_soundNext_179 (by decide) ?_
                          refine lv_goto (tgt := 184) hx hb dn_M_soundNext_180 (by decide) ?_
                          exact hret 1 () _ _ _ _ (Or.inl ⟨rfl, h53, Int32.not_lt.mp h59, Int32.not_lt.mp h66, htm ▸ Int32.not_lt.mp h78, h93, (fun q => by first | exact absurd h101 q | exact ⟨h112, h123⟩), (fun q => by first | exact h136 | exact absurd q (Int32.not_le.mpr h131)), (fun q => by rw [← heq.1]; first | exact absurd q h142 | exact h153), (ct_ru_eqm heq (by omega) _ _ _ _).symm.trans h176⟩) rfl hP hD hS dn_M_soundNext_184
                      · skip
                        refine lv_iload hx hb dn_M_soundNext_145 (lv_at hl 2 rfl) ?_
                        refine lv_aload_n hx hb dn_M_soundNext_147 rfl (lv_at hl 5 rfl) ?_
                        refine va_get (D := (dC, dI)) (ci := 5) (v := .int (nI ob)) (C := rn_M) (T := tn_M) (N := 19) hx hb hw ml_M hown hK hP 0 rfl rfl 7 (by decide) (hw _ mw_480) (fun _ h9 => h9) rfl dn_M_soundNext_148 ?_
                        refine lv_iconst (v := 1) hx hb dn_M_soundNext_151 (by decide) ?_
                        refine gr_addN hx hb ob 1 rfl rfl dn_M_soundNext_152 ?_
                        refine lv_icmp_eq (tgt := 158) hx hb dn_M_soundNext_153 (by decide) (fun h153 => ?_) (fun h153 => ?_)
                        · skip
                          refine lv_aload_n hx hb dn_M_soundNext_158 rfl (lv_at hl 5 rfl) ?_
                          refine lv_iload hx hb dn_M_soundNext_159 (lv_at hl 3 rfl) ?_
                          refine lv_iload hx hb dn_M_soundNext_161 (lv_at hl 2 rfl) ?_
                          refine lv_iload hx hb dn_M_soundNext_163 (lv_at hl 1 rfl) ?_
                          refine lv_aload_n hx hb dn_M_soundNext_165 rfl (lv_at hl 5 rfl) ?_
                          refine va_get (D := (dC, dI)) (ci := 5) (v := .ref (bd 1)) (C := rn_M) (T := tn_M) (N := 19) hx hb hw ml_M hown hK hP 0 rfl rfl 0 (by decide) (hw _ mw_473) (fun _ h9 => h9) rfl dn_M_soundNext_166 ?_
                          refine lv_iload_n hx hb dn_M_soundNext_169 rfl (lv_at hl 4 rfl) ?_
                          refine lv_iconst (v := 5) hx hb dn_M_soundNext_170 (by decide) ?_
                          refine gr_addN hx hb (7 * r) 5 rfl rfl dn_M_soundNext_171 ?_
                          refine gr_iald hx hb hK hP 1 0 rfl rfl ((7 * r) + 5) rfl (by omega) (by decide) dn_M_soundNext_172 ?_
                          refine gc_vi (pre := []) (wc := [(bd 0, .inr (5, [.ref (bd 1), .int (nI clk), .int pw, .int lf, .ref (bd 2), .int (nI fc), .int (nI sn), .int (nI ob), .ref (bd 3), .ref (bd 4), .ref (bd 5), .int (nI st), .ref (bd 6), .ref (bd 7), .ref (bd 8), .int (nI ef), .int (nI ec), .int (nI fu), .ref (bd 9)])), (bd 1, .inl (cI, 292, .inl f)), (bd 2, .inl (cI, 12, .inl fd)), (bd 3, .inl (cI, 13, .inl S)), (bd 4, .inl (cI, 13, .inl D)), (bd 5, .inl (cI, 13, .inl G)), (bd 6, .inl (cI, 8, .inl Y)), (bd 7, .inl (cI, 8, .inl Z)), (bd 8, .inl (cZ, 8, .inl X)), (bd 9, .inl (cI, 40, .inl g))]) (po := []) (As := [.int (f (7 * r)), .int (f ((7 * r) + 1)), .int (f ((7 * r) + 2)), .int (f ((7 * r) + 5))]) (rest := []) ⟨hx, hb, hml, hown, hw⟩ (c_M_rule l dC dI cI cZ bd clk pw lf f fd fc sn ob S D G st Y Z X ef ec fu g (by omega) (f (7 * r)) (f ((7 * r) + 1)) (f ((7 * r) + 2)) (f ((7 * r) + 5)) (Int32.not_lt.mp h59) (Int32.not_lt.mp h66)) (gw_cV 4 hw mw_555 mw_557 mv_25 mw_6 mw_558 hd_M_rule ⟨Nat.le_of_ble_eq_true rfl, Nat.le_of_ble_eq_true rfl⟩) (ci := 5) rfl rfl rfl hK hP hD hS hA rfl hl.1 rfl (Nat.le_of_ble_eq_true rfl) dn_M_soundNext_173 ⟨Nat.zero_le _, Nat.zero_le _⟩ (fun r173 u173 H locs hc173 hP hD hS => ?_)
                          subst hc173
                          have hP : va_P (dC, dI) vwCl [(bd 0, .inr (5, [.ref (bd 1), .int (nI clk), .int pw, .int lf, .ref (bd 2), .int (nI fc), .int (nI sn), .int (nI ob), .ref (bd 3), .ref (bd 4), .ref (bd 5), .int (nI st), .ref (bd 6), .ref (bd 7), .ref (bd 8), .int (nI ef), .int (nI ec), .int (nI fu), .ref (bd 9)])), (bd 1, .inl (cI, 292, .inl f)), (bd 2, .inl (cI, 12, .inl fd)), (bd 3, .inl (cI, 13, .inl S)), (bd 4, .inl (cI, 13, .inl D)), (bd 5, .inl (cI, 13, .inl G)), (bd 6, .inl (cI, 8, .inl Y)), (bd 7, .inl (cI, 8, .inl Z)), (bd 8, .inl (cZ, 8, .inl X)), (bd 9, .inl (cI, 40, .inl g))] H := hP
                          have hD : va_D A [(bd 0, .inr (5, [.ref (bd 1), .int (nI clk), .int pw, .int lf, .ref (bd 2), .int (nI fc), .int (nI sn), .int (nI ob), .ref (bd 3), .ref (bd 4), .ref (bd 5), .int (nI st), .ref (bd 6), .ref (bd 7), .ref (bd 8), .int (nI ef), .int (nI ec), .int (nI fu), .ref (bd 9)])), (bd 1, .inl (cI, 292, .inl f)), (bd 2, .inl (cI, 12, .inl fd)), (bd 3, .inl (cI, 13, .inl S)), (bd 4, .inl (cI, 13, .inl D)), (bd 5, .inl (cI, 13, .inl G)), (bd 6, .inl (cI, 8, .inl Y)), (bd 7, .inl (cI, 8, .inl Z)), (bd 8, .inl (cZ, 8, .inl X)), (bd 9, .inl (cI, 40, .inl g))] := hD
                          refine lv_if_ne (tgt := 183) hx hb dn_M_soundNext_176 (by decide) (fun h176 => ?_) (fun h176 => ?_)
                          · skip
                            refine lv_iconst (v := 0) hx hb dn_M_soundNext_183 (by decide) ?_
                            exact hret 0 () _ _ _ _ (Or.inr ⟨rfl, fun q => by first | exact h53 q.1 | exact absurd q.2.1 (Int32.not_le.mpr h59) | exact absurd q.2.2.1 (Int32.not_le.mpr h66) | exact absurd q.2.2.2.1 (Int32.not_le.mpr (htm ▸ h78)) | exact h93 q.2.2.2.2.1 | exact h112 (q.2.2.2.2.2.1 h101).1 | exact h123 (q.2.2.2.2.2.1 h101).2 | exact h136 (q.2.2.2.2.2.2.1 (Int32.not_lt.mp h131)) | exact h153 (by rw [heq.1]; exact q.2.2.2.2.2.2.2.1 h142) | exact h176 ((ct_ru_eqm heq (by omega) _ _ _ _).trans q.2.2.2.2.2.2.2.2)⟩) rfl hP hD hS dn_M_soundNext_184
                          · skip
                            refine lv_iconst (v := 1) hx hb dn_M_soundNext_179 (by decide) ?_
                            refine lv_goto (tgt := 184) hx hb dn_M_soundNext_180 (by decide) ?_
                            exact hret 1 () _ _ _ _ (Or.inl ⟨rfl, h53, Int32.not_lt.mp h59, Int32.not_lt.mp h66, htm ▸ Int32.not_lt.mp h78, h93, (fun q => by first | exact absurd h101 q | exact ⟨h112, h123⟩), (fun q => by first | exact h136 | exact absurd q (Int32.not_le.mpr h131)), (fun q => by rw [← heq.1]; first | exact absurd q h142 | exact h153), (ct_ru_eqm heq (by omega) _ _ _ _).symm.trans h176⟩) rfl hP hD hS dn_M_soundNext_184
                        · skip
                          refine lv_iconst (v := 0) hx hb dn_M_soundNext_156 (by decide) ?_
                          exact hret 0 () _ _ _ _ (Or.inr ⟨rfl, fun q => by first | exact h53 q.1 | exact absurd q.2.1 (Int32.not_le.mpr h59) | exact absurd q.2.2.1 (Int32.not_le.mpr h66) | exact absurd q.2.2.2.1 (Int32.not_le.mpr (htm ▸ h78)) | exact h93 q.2.2.2.2.1 | exact h112 (q.2.2.2.2.2.1 h101).1 | exact h123 (q.2.2.2.2.2.1 h101).2 | exact h136 (q.2.2.2.2.2.2.1 (Int32.not_lt.mp h131)) | exact h153 (by rw [heq.1]; exact q.2.2.2.2.2.2.2.1 h142) | exact h176 ((ct_ru_eqm heq (by omega) _ _ _ _).trans q.2.2.2.2.2.2.2.2)⟩) rfl hP hD hS dn_M_soundNext_157
                · skip
                  refine lv_iconst (v := 0) hx hb dn_M_soundNext_126 (by decide) ?_
                  exact hret 0 () _ _ _ _ (Or.inr ⟨rfl, fun q => by first | exact h53 q.1 | exact absurd q.2.1 (Int32.not_le.mpr h59) | exact absurd q.2.2.1 (Int32.not_le.mpr h66) | exact absurd q.2.2.2.1 (Int32.not_le.mpr (htm ▸ h78)) | exact h93 q.2.2.2.2.1 | exact h112 (q.2.2.2.2.2.1 h101).1 | exact h123 (q.2.2.2.2.2.1 h101).2 | exact h136 (q.2.2.2.2.2.2.1 (Int32.not_lt.mp h131)) | exact h153 (by rw [heq.1]; exact q.2.2.2.2.2.2.2.1 h142) | exact h176 ((ct_ru_eqm heq (by omega) _ _ _ _).trans q.2.2.2.2.2.2.2.2)⟩) rfl hP hD hS dn_M_soundNext_127
          · skip
            refine lv_iconst (v := 0) hx hb dn_M_soundNext_96 (by decide) ?_
            exact hret 0 () _ _ _ _ (Or.inr ⟨rfl, fun q => by first | exact h53 q.1 | exact absurd q.2.1 (Int32.not_le.mpr h59) | exact absurd q.2.2.1 (Int32.not_le.mpr h66) | exact absurd q.2.2.2.1 (Int32.not_le.mpr (htm ▸ h78)) | exact h93 q.2.2.2.2.1 | exact h112 (q.2.2.2.2.2.1 h101).1 | exact h123 (q.2.2.2.2.2.1 h101).2 | exact h136 (q.2.2.2.2.2.2.1 (Int32.not_lt.mp h131)) | exact h153 (by rw [heq.1]; exact q.2.2.2.2.2.2.2.1 h142) | exact h176 ((ct_ru_eqm heq (by omega) _ _ _ _).trans q.2.2.2.2.2.2.2.2)⟩) rfl hP hD hS dn_M_soundNext_97

set_option maxRecDepth 100000 in
set_option maxHeartbeats 4000000 in
theorem c_M_goThrough (l : Launch) (dC : Nat → ClassId) (dI : Nat → Nat → Nat) (cI cZ : ClassId) (bd : Nat → Nat) (clk : Nat) (pw lf : Int32) (f fd : Nat → Int32) (fc sn ob : Nat) (S D G : Nat → Int32) (st : Nat) (Y Z X : Nat → Int32) (ef ec fu : Nat) (g : Nat → Int32)  : gc_V l yn_M_goThrough (gw yn_M_goThrough cn_M_goThrough 3 none) (rm_ 3 73) (dC, dI) vwCl (gT cI cZ) [.ref (bd 0)] [(bd 0, .inr (5, [.ref (bd 1), .int (nI clk), .int pw, .int lf, .ref (bd 2), .int (nI fc), .int (nI sn), .int (nI ob), .ref (bd 3), .ref (bd 4), .ref (bd 5), .int (nI st), .ref (bd 6), .ref (bd 7), .ref (bd 8), .int (nI ef), .int (nI ec), .int (nI fu), .ref (bd 9)])), (bd 1, .inl (cI, 292, .inl f)), (bd 2, .inl (cI, 12, .inl fd)), (bd 3, .inl (cI, 13, .inl S)), (bd 4, .inl (cI, 13, .inl D)), (bd 5, .inl (cI, 13, .inl G)), (bd 6, .inl (cI, 8, .inl Y)), (bd 7, .inl (cI, 8, .inl Z)), (bd 8, .inl (cZ, 8, .inl X)), (bd 9, .inl (cI, 40, .inl g))] (fun (u : ct_T × Nat) => ct_n f (nI clk) u.2 ∧ ct_eq u.1 (ct_st f u.2)) (fun u => [(bd 0, .inr (5, [.ref (bd 1), .int (nI clk), .int pw, .int lf, .ref (bd 2), .int (nI fc), .int (nI u.2), .int (nI u.1.1), .ref (bd 3), .ref (bd 4), .ref (bd 5), .int (nI st), .ref (bd 6), .ref (bd 7), .ref (bd 8), .int (nI ef), .int (nI ec), .int (nI fu), .ref (bd 9)])), (bd 1, .inl (cI, 292, .inl f)), (bd 2, .inl (cI, 12, .inl fd)), (bd 3, .inl (cI, 13, .inl u.1.2.1)), (bd 4, .inl (cI, 13, .inl u.1.2.2.1)), (bd 5, .inl (cI, 13, .inl u.1.2.2.2.1)), (bd 6, .inl (cI, 8, .inl Y)), (bd 7, .inl (cI, 8, .inl Z)), (bd 8, .inl (cZ, 8, .inl X)), (bd 9, .inl (cI, 40, .inl g))]) := by
  refine gc_V_of (cc := cn_M_goThrough) (maxL := 3) (by decide) rfl (Nat.le_of_ble_eq_true rfl) ?_
  intro pp ee ss mm ar be me cd A Q ls H0 H locs hx hb hml hown hts hK hP hD hS hA hl hret
  have hw : ∀ w ∈ gw_T, w.before ar ss = true := fun w h => hts w (List.mem_cons_of_mem _ h)
  have hl : lv_has ls 3 [(0, .ref (bd 0))] := hl
  refine lv_aload_n hx hb dn_M_goThrough_0 rfl (lv_at hl 0 rfl) ?_
  refine lv_iconst (v := 0) hx hb dn_M_goThrough_1 (by decide) ?_
  refine va_put (D := (dC, dI)) (ci := 5) (v := .int 0) (ty := .int) (C := rn_M) (T := tn_M) (N := 19) hx hb hw ml_M tt_M to_M nd_M hown hK hP hD hS 0 rfl rfl 6 (by decide) (hw _ mw_479) (fun _ h9 => h9) rfl (by decide +kernel) rfl rfl (Nat.le_of_ble_eq_true rfl) dn_M_goThrough_2 (fun H locs hP hD hS => ?_)
  have hP : va_P (dC, dI) vwCl [(bd 0, .inr (5, [.ref (bd 1), .int (nI clk), .int pw, .int lf, .ref (bd 2), .int (nI fc), .int 0, .int (nI ob), .ref (bd 3), .ref (bd 4), .ref (bd 5), .int (nI st), .ref (bd 6), .ref (bd 7), .ref (bd 8), .int (nI ef), .int (nI ec), .int (nI fu), .ref (bd 9)])), (bd 1, .inl (cI, 292, .inl f)), (bd 2, .inl (cI, 12, .inl fd)), (bd 3, .inl (cI, 13, .inl S)), (bd 4, .inl (cI, 13, .inl D)), (bd 5, .inl (cI, 13, .inl G)), (bd 6, .inl (cI, 8, .inl Y)), (bd 7, .inl (cI, 8, .inl Z)), (bd 8, .inl (cZ, 8, .inl X)), (bd 9, .inl (cI, 40, .inl g))] H := hP
  have hD : va_D A [(bd 0, .inr (5, [.ref (bd 1), .int (nI clk), .int pw, .int lf, .ref (bd 2), .int (nI fc), .int 0, .int (nI ob), .ref (bd 3), .ref (bd 4), .ref (bd 5), .int (nI st), .ref (bd 6), .ref (bd 7), .ref (bd 8), .int (nI ef), .int (nI ec), .int (nI fu), .ref (bd 9)])), (bd 1, .inl (cI, 292, .inl f)), (bd 2, .inl (cI, 12, .inl fd)), (bd 3, .inl (cI, 13, .inl S)), (bd 4, .inl (cI, 13, .inl D)), (bd 5, .inl (cI, 13, .inl G)), (bd 6, .inl (cI, 8, .inl Y)), (bd 7, .inl (cI, 8, .inl Z)), (bd 8, .inl (cZ, 8, .inl X)), (bd 9, .inl (cI, 40, .inl g))] := hD
  refine lv_aload_n hx hb dn_M_goThrough_5 rfl (lv_at hl 0 rfl) ?_
  refine lv_iconst (v := 0) hx hb dn_M_goThrough_6 (by decide) ?_
  refine va_put (D := (dC, dI)) (ci := 5) (v := .int 0) (ty := .int) (C := rn_M) (T := tn_M) (N := 19) hx hb hw ml_M tt_M to_M nd_M hown hK hP hD hS 0 rfl rfl 7 (by decide) (hw _ mw_480) (fun _ h9 => h9) rfl (by decide +kernel) rfl rfl (Nat.le_of_ble_eq_true rfl) dn_M_goThrough_7 (fun H locs hP hD hS => ?_)
  have hP : va_P (dC, dI) vwCl [(bd 0, .inr (5, [.ref (bd 1), .int (nI clk), .int pw, .int lf, .ref (bd 2), .int (nI fc), .int 0, .int 0, .ref (bd 3), .ref (bd 4), .ref (bd 5), .int (nI st), .ref (bd 6), .ref (bd 7), .ref (bd 8), .int (nI ef), .int (nI ec), .int (nI fu), .ref (bd 9)])), (bd 1, .inl (cI, 292, .inl f)), (bd 2, .inl (cI, 12, .inl fd)), (bd 3, .inl (cI, 13, .inl S)), (bd 4, .inl (cI, 13, .inl D)), (bd 5, .inl (cI, 13, .inl G)), (bd 6, .inl (cI, 8, .inl Y)), (bd 7, .inl (cI, 8, .inl Z)), (bd 8, .inl (cZ, 8, .inl X)), (bd 9, .inl (cI, 40, .inl g))] H := hP
  have hD : va_D A [(bd 0, .inr (5, [.ref (bd 1), .int (nI clk), .int pw, .int lf, .ref (bd 2), .int (nI fc), .int 0, .int 0, .ref (bd 3), .ref (bd 4), .ref (bd 5), .int (nI st), .ref (bd 6), .ref (bd 7), .ref (bd 8), .int (nI ef), .int (nI ec), .int (nI fu), .ref (bd 9)])), (bd 1, .inl (cI, 292, .inl f)), (bd 2, .inl (cI, 12, .inl fd)), (bd 3, .inl (cI, 13, .inl S)), (bd 4, .inl (cI, 13, .inl D)), (bd 5, .inl (cI, 13, .inl G)), (bd 6, .inl (cI, 8, .inl Y)), (bd 7, .inl (cI, 8, .inl Z)), (bd 8, .inl (cZ, 8, .inl X)), (bd 9, .inl (cI, 40, .inl g))] := hD
  refine lv_iconst (v := 0) hx hb dn_M_goThrough_10 (by decide) ?_
  refine lv_istore_n (lv' := [(1, .int 0), (0, .ref (bd 0))]) hx hb dn_M_goThrough_11 rfl hl (by decide) rfl (fun ls hl => ?_)
  refine lv_iconst (v := 1) hx hb dn_M_goThrough_12 (by decide) ?_
  refine lv_istore_n (lv' := [(2, .int 1), (1, .int 0), (0, .ref (bd 0))]) hx hb dn_M_goThrough_13 rfl hl (by decide) rfl (fun ls hl => ?_)
  have lp14 : ∀ (n14_ : Nat) (r : Nat) (Kc : ct_T) (ls : Array Slot) (H : Heap) (locs : List Loc), 40 - r = n14_ → lv_has ls 3 [(0, .ref (bd 0)), (1, .int (ct_bf f r)), (2, .int 1)] → va_P (dC, dI) vwCl [(bd 0, .inr (5, [.ref (bd 1), .int (nI clk), .int pw, .int lf, .ref (bd 2), .int (nI fc), .int (nI r), .int (nI Kc.1), .ref (bd 3), .ref (bd 4), .ref (bd 5), .int (nI st), .ref (bd 6), .ref (bd 7), .ref (bd 8), .int (nI ef), .int (nI ec), .int (nI fu), .ref (bd 9)])), (bd 1, .inl (cI, 292, .inl f)), (bd 2, .inl (cI, 12, .inl fd)), (bd 3, .inl (cI, 13, .inl Kc.2.1)), (bd 4, .inl (cI, 13, .inl Kc.2.2.1)), (bd 5, .inl (cI, 13, .inl Kc.2.2.2.1)), (bd 6, .inl (cI, 8, .inl Y)), (bd 7, .inl (cI, 8, .inl Z)), (bd 8, .inl (cZ, 8, .inl X)), (bd 9, .inl (cI, 40, .inl g))] H → va_D A [(bd 0, .inr (5, [.ref (bd 1), .int (nI clk), .int pw, .int lf, .ref (bd 2), .int (nI fc), .int (nI r), .int (nI Kc.1), .ref (bd 3), .ref (bd 4), .ref (bd 5), .int (nI st), .ref (bd 6), .ref (bd 7), .ref (bd 8), .int (nI ef), .int (nI ec), .int (nI fu), .ref (bd 9)])), (bd 1, .inl (cI, 292, .inl f)), (bd 2, .inl (cI, 12, .inl fd)), (bd 3, .inl (cI, 13, .inl Kc.2.1)), (bd 4, .inl (cI, 13, .inl Kc.2.2.1)), (bd 5, .inl (cI, 13, .inl Kc.2.2.2.1)), (bd 6, .inl (cI, 8, .inl Y)), (bd 7, .inl (cI, 8, .inl Z)), (bd 8, .inl (cZ, 8, .inl X)), (bd 9, .inl (cI, 40, .inl g))] → va_S A H0 H locs → (r ≤ 40) → (∀ q, q < r → ct_ok f (nI clk) q) → (ct_eq Kc (ct_st f r)) → W pp l ee (headSpec (gw yn_M_goThrough cn_M_goThrough 3 none) (rm_ 3 73)).room ss mm ar be me cd H locs 0 0 Q (F0 mm 14 ls []) := by
    intro n14_
    induction n14_ using Nat.strongRecOn with
    | ind n14_ ih14 =>
      intro r Kc ls H locs hn14_ hl hP hD hS hr hok heq
      refine lv_iload_n hx hb dn_M_goThrough_14 rfl (lv_at hl 2 rfl) ?_
      refine lv_if_eq (tgt := 113) hx hb dn_M_goThrough_15 (by decide) (fun h => absurd h (by decide)) (fun _ => ?_)
      refine lv_aload_n hx hb dn_M_goThrough_18 rfl (lv_at hl 0 rfl) ?_
      refine va_get (D := (dC, dI)) (ci := 5) (v := .int (nI r)) (C := rn_M) (T := tn_M) (N := 19) hx hb hw ml_M hown hK hP 0 rfl rfl 6 (by decide) (hw _ mw_479) (fun _ h9 => h9) rfl dn_M_goThrough_19 ?_
      refine lv_bipush (v := 40) hx hb dn_M_goThrough_22 (by decide) ?_
      refine gr_cge (tgt := 113) hx hb r 40 rfl rfl (by omega) (by decide) dn_M_goThrough_24 (by decide) (fun h24 => ?_) (fun h24 => ?_)
      · skip
        exact hret (Kc, r) _ _ _ _ ⟨⟨by omega, hok, fun q => by first | exact hs33 | exact absurd q (by omega)⟩, heq⟩ hP hD hS dn_M_goThrough_113
      · skip
        refine lv_aload_n hx hb dn_M_goThrough_27 rfl (lv_at hl 0 rfl) ?_
        refine lv_aload_n hx hb dn_M_goThrough_28 rfl (lv_at hl 0 rfl) ?_
        refine va_get (D := (dC, dI)) (ci := 5) (v := .int (nI r)) (C := rn_M) (T := tn_M) (N := 19) hx hb hw ml_M hown hK hP 0 rfl rfl 6 (by decide) (hw _ mw_479) (fun _ h9 => h9) rfl dn_M_goThrough_29 ?_
        refine lv_iload_n hx hb dn_M_goThrough_32 rfl (lv_at hl 1 rfl) ?_
        refine gc_vi (pre := []) (wc := [(bd 0, .inr (5, [.ref (bd 1), .int (nI clk), .int pw, .int lf, .ref (bd 2), .int (nI fc), .int (nI r), .int (nI Kc.1), .ref (bd 3), .ref (bd 4), .ref (bd 5), .int (nI st), .ref (bd 6), .ref (bd 7), .ref (bd 8), .int (nI ef), .int (nI ec), .int (nI fu), .ref (bd 9)])), (bd 1, .inl (cI, 292, .inl f)), (bd 2, .inl (cI, 12, .inl fd)), (bd 3, .inl (cI, 13, .inl Kc.2.1)), (bd 4, .inl (cI, 13, .inl Kc.2.2.1)), (bd 5, .inl (cI, 13, .inl Kc.2.2.2.1)), (bd 6, .inl (cI, 8, .inl Y)), (bd 7, .inl (cI, 8, .inl Z)), (bd 8, .inl (cZ, 8, .inl X)), (bd 9, .inl (cI, 40, .inl g))]) (po := []) (As := [.int (nI r), .int (ct_bf f r)]) (rest := []) ⟨hx, hb, hml, hown, hw⟩ (c_M_soundNext l dC dI cI cZ bd clk pw lf f fd fc r Kc.1 Kc.2.1 Kc.2.2.1 Kc.2.2.2.1 st Y Z X ef ec fu g (ce_12 heq hok) r (ct_bf f r) (by omega) (ce_m heq) rfl) (gw_cV 2 hw mw_543 mw_545 mv_23 mw_6 mw_546 hd_M_soundNext ⟨Nat.le_of_ble_eq_true rfl, Nat.le_of_ble_eq_true rfl⟩) (ci := 5) rfl rfl rfl hK hP hD hS hA rfl hl.1 rfl (Nat.le_of_ble_eq_true rfl) dn_M_goThrough_33 ⟨Nat.zero_le _, Nat.zero_le _⟩ (fun r33 u33 H locs hc33 hP hD hS => ?_)
        have hP : va_P (dC, dI) vwCl [(bd 0, .inr (5, [.ref (bd 1), .int (nI clk), .int pw, .int lf, .ref (bd 2), .int (nI fc), .int (nI r), .int (nI Kc.1), .ref (bd 3), .ref (bd 4), .ref (bd 5), .int (nI st), .ref (bd 6), .ref (bd 7), .ref (bd 8), .int (nI ef), .int (nI ec), .int (nI fu), .ref (bd 9)])), (bd 1, .inl (cI, 292, .inl f)), (bd 2, .inl (cI, 12, .inl fd)), (bd 3, .inl (cI, 13, .inl Kc.2.1)), (bd 4, .inl (cI, 13, .inl Kc.2.2.1)), (bd 5, .inl (cI, 13, .inl Kc.2.2.2.1)), (bd 6, .inl (cI, 8, .inl Y)), (bd 7, .inl (cI, 8, .inl Z)), (bd 8, .inl (cZ, 8, .inl X)), (bd 9, .inl (cI, 40, .inl g))] H := hP
        have hD : va_D A [(bd 0, .inr (5, [.ref (bd 1), .int (nI clk), .int pw, .int lf, .ref (bd 2), .int (nI fc), .int (nI r), .int (nI Kc.1), .ref (bd 3), .ref (bd 4), .ref (bd 5), .int (nI st), .ref (bd 6), .ref (bd 7), .ref (bd 8), .int (nI ef), .int (nI ec), .int (nI fu), .ref (bd 9)])), (bd 1, .inl (cI, 292, .inl f)), (bd 2, .inl (cI, 12, .inl fd)), (bd 3, .inl (cI, 13, .inl Kc.2.1)), (bd 4, .inl (cI, 13, .inl Kc.2.2.1)), (bd 5, .inl (cI, 13, .inl Kc.2.2.2.1)), (bd 6, .inl (cI, 8, .inl Y)), (bd 7, .inl (cI, 8, .inl Z)), (bd 8, .inl (cZ, 8, .inl X)), (bd 9, .inl (cI, 40, .inl g))] := hD
        rcases hc33 with ⟨rfl, hs33⟩ | ⟨rfl, hs33⟩
        · skip
          refine lv_istore_n (lv' := [(2, .int 1), (0, .ref (bd 0)), (1, .int (ct_bf f r))]) hx hb dn_M_goThrough_36 rfl hl (by decide) rfl (fun ls hl => ?_)
          refine lv_iload_n hx hb dn_M_goThrough_37 rfl (lv_at hl 0 rfl) ?_
          refine lv_if_eq (tgt := 14) hx hb dn_M_goThrough_38 (by decide) (fun h => absurd h (by decide)) (fun _ => ?_)
          refine lv_aload_n hx hb dn_M_goThrough_41 rfl (lv_at hl 1 rfl) ?_
          refine lv_aload_n hx hb dn_M_goThrough_42 rfl (lv_at hl 1 rfl) ?_
          refine va_get (D := (dC, dI)) (ci := 5) (v := .ref (bd 1)) (C := rn_M) (T := tn_M) (N := 19) hx hb hw ml_M hown hK hP 0 rfl rfl 0 (by decide) (hw _ mw_473) (fun _ h9 => h9) rfl dn_M_goThrough_43 ?_
          refine lv_bipush (v := 7) hx hb dn_M_goThrough_46 (by decide) ?_
          refine lv_aload_n hx hb dn_M_goThrough_48 rfl (lv_at hl 1 rfl) ?_
          refine va_get (D := (dC, dI)) (ci := 5) (v := .int (nI r)) (C := rn_M) (T := tn_M) (N := 19) hx hb hw ml_M hown hK hP 0 rfl rfl 6 (by decide) (hw _ mw_479) (fun _ h9 => h9) rfl dn_M_goThrough_49 ?_
          refine gr_mulN hx hb 7 r rfl rfl dn_M_goThrough_52 ?_
          refine gr_iald hx hb hK hP 1 0 rfl rfl (7 * r) rfl (by omega) (by decide) dn_M_goThrough_53 ?_
          refine lv_aload_n hx hb dn_M_goThrough_54 rfl (lv_at hl 1 rfl) ?_
          refine va_get (D := (dC, dI)) (ci := 5) (v := .ref (bd 1)) (C := rn_M) (T := tn_M) (N := 19) hx hb hw ml_M hown hK hP 0 rfl rfl 0 (by decide) (hw _ mw_473) (fun _ h9 => h9) rfl dn_M_goThrough_55 ?_
          refine lv_bipush (v := 7) hx hb dn_M_goThrough_58 (by decide) ?_
          refine lv_aload_n hx hb dn_M_goThrough_60 rfl (lv_at hl 1 rfl) ?_
          refine va_get (D := (dC, dI)) (ci := 5) (v := .int (nI r)) (C := rn_M) (T := tn_M) (N := 19) hx hb hw ml_M hown hK hP 0 rfl rfl 6 (by decide) (hw _ mw_479) (fun _ h9 => h9) rfl dn_M_goThrough_61 ?_
          refine gr_mulN hx hb 7 r rfl rfl dn_M_goThrough_64 ?_
          refine lv_iconst (v := 1) hx hb dn_M_goThrough_65 (by decide) ?_
          refine gr_addN hx hb (7 * r) 1 rfl rfl dn_M_goThrough_66 ?_
          refine gr_iald hx hb hK hP 1 0 rfl rfl ((7 * r) + 1) rfl (by omega) (by decide) dn_M_goThrough_67 ?_
          refine lv_aload_n hx hb dn_M_goThrough_68 rfl (lv_at hl 1 rfl) ?_
          refine va_get (D := (dC, dI)) (ci := 5) (v := .ref (bd 1)) (C := rn_M) (T := tn_M) (N := 19) hx hb hw ml_M hown hK hP 0 rfl rfl 0 (by decide) (hw _ mw_473) (fun _ h9 => h9) rfl dn_M_goThrough_69 ?_
          refine lv_bipush (v := 7) hx hb dn_M_goThrough_72 (by decide) ?_
          refine lv_aload_n hx hb dn_M_goThrough_74 rfl (lv_at hl 1 rfl) ?_
          refine va_get (D := (dC, dI)) (ci := 5) (v := .int (nI r)) (C := rn_M) (T := tn_M) (N := 19) hx hb hw ml_M hown hK hP 0 rfl rfl 6 (by decide) (hw _ mw_479) (fun _ h9 => h9) rfl dn_M_goThrough_75 ?_
          refine gr_mulN hx hb 7 r rfl rfl dn_M_goThrough_78 ?_
          refine lv_iconst (v := 2) hx hb dn_M_goThrough_79 (by decide) ?_
          refine gr_addN hx hb (7 * r) 2 rfl rfl dn_M_goThrough_80 ?_
          refine gr_iald hx hb hK hP 1 0 rfl rfl ((7 * r) + 2) rfl (by omega) (by decide) dn_M_goThrough_81 ?_
          refine gc_vv (pre := []) (wc := [(bd 0, .inr (5, [.ref (bd 1), .int (nI clk), .int pw, .int lf, .ref (bd 2), .int (nI fc), .int (nI r), .int (nI Kc.1), .ref (bd 3), .ref (bd 4), .ref (bd 5), .int (nI st), .ref (bd 6), .ref (bd 7), .ref (bd 8), .int (nI ef), .int (nI ec), .int (nI fu), .ref (bd 9)])), (bd 1, .inl (cI, 292, .inl f)), (bd 2, .inl (cI, 12, .inl fd)), (bd 3, .inl (cI, 13, .inl Kc.2.1)), (bd 4, .inl (cI, 13, .inl Kc.2.2.1)), (bd 5, .inl (cI, 13, .inl Kc.2.2.2.1)), (bd 6, .inl (cI, 8, .inl Y)), (bd 7, .inl (cI, 8, .inl Z)), (bd 8, .inl (cZ, 8, .inl X)), (bd 9, .inl (cI, 40, .inl g))]) (po := []) (As := [.int (f (7 * r)), .int (f ((7 * r) + 1)), .int (f ((7 * r) + 2))]) (rest := []) ⟨hx, hb, hml, hown, hw⟩ (c_M_apply l dC dI cI cZ bd clk pw lf f fd fc r Kc.1 Kc.2.1 Kc.2.2.1 Kc.2.2.2.1 st Y Z X ef ec fu g (ce_12 heq hok) (ct_st f r).2.2.2.2 r (f (7 * r)) (f ((7 * r) + 1)) (f ((7 * r) + 2)) (f (7 * r + 5)) ((ct_ru_eqm (ce_m heq) (by have := (ce_12 heq hok); omega) _ _ _ _).trans hs33.2.2.2.2.2.2.2.2) hs33.2.1 hs33.2.2.1) (gw_cV 3 hw mw_560 mw_562 mv_26 mw_6 mw_563 hd_M_apply ⟨Nat.le_of_ble_eq_true rfl, Nat.le_of_ble_eq_true rfl⟩) (ci := 5) rfl rfl rfl hK hP hD hS hA rfl hl.1 rfl (Nat.le_of_ble_eq_true rfl) dn_M_goThrough_82 ⟨Nat.zero_le _, Nat.zero_le _⟩ (fun u82 H locs hc82 hP hD hS => ?_)
          have hP : va_P (dC, dI) vwCl [(bd 0, .inr (5, [.ref (bd 1), .int (nI clk), .int pw, .int lf, .ref (bd 2), .int (nI fc), .int (nI r), .int (nI u82.1), .ref (bd 3), .ref (bd 4), .ref (bd 5), .int (nI st), .ref (bd 6), .ref (bd 7), .ref (bd 8), .int (nI ef), .int (nI ec), .int (nI fu), .ref (bd 9)])), (bd 1, .inl (cI, 292, .inl f)), (bd 2, .inl (cI, 12, .inl fd)), (bd 3, .inl (cI, 13, .inl u82.2.1)), (bd 4, .inl (cI, 13, .inl u82.2.2.1)), (bd 5, .inl (cI, 13, .inl u82.2.2.2.1)), (bd 6, .inl (cI, 8, .inl Y)), (bd 7, .inl (cI, 8, .inl Z)), (bd 8, .inl (cZ, 8, .inl X)), (bd 9, .inl (cI, 40, .inl g))] H := hP
          have hD : va_D A [(bd 0, .inr (5, [.ref (bd 1), .int (nI clk), .int pw, .int lf, .ref (bd 2), .int (nI fc), .int (nI r), .int (nI u82.1), .ref (bd 3), .ref (bd 4), .ref (bd 5), .int (nI st), .ref (bd 6), .ref (bd 7), .ref (bd 8), .int (nI ef), .int (nI ec), .int (nI fu), .ref (bd 9)])), (bd 1, .inl (cI, 292, .inl f)), (bd 2, .inl (cI, 12, .inl fd)), (bd 3, .inl (cI, 13, .inl u82.2.1)), (bd 4, .inl (cI, 13, .inl u82.2.2.1)), (bd 5, .inl (cI, 13, .inl u82.2.2.2.1)), (bd 6, .inl (cI, 8, .inl Y)), (bd 7, .inl (cI, 8, .inl Z)), (bd 8, .inl (cZ, 8, .inl X)), (bd 9, .inl (cI, 40, .inl g))] := hD
          refine lv_aload_n hx hb dn_M_goThrough_85 rfl (lv_at hl 1 rfl) ?_
          refine va_get (D := (dC, dI)) (ci := 5) (v := .ref (bd 1)) (C := rn_M) (T := tn_M) (N := 19) hx hb hw ml_M hown hK hP 0 rfl rfl 0 (by decide) (hw _ mw_473) (fun _ h9 => h9) rfl dn_M_goThrough_86 ?_
          refine lv_bipush (v := 7) hx hb dn_M_goThrough_89 (by decide) ?_
          refine lv_aload_n hx hb dn_M_goThrough_91 rfl (lv_at hl 1 rfl) ?_
          refine va_get (D := (dC, dI)) (ci := 5) (v := .int (nI r)) (C := rn_M) (T := tn_M) (N := 19) hx hb hw ml_M hown hK hP 0 rfl rfl 6 (by decide) (hw _ mw_479) (fun _ h9 => h9) rfl dn_M_goThrough_92 ?_
          refine gr_mulN hx hb 7 r rfl rfl dn_M_goThrough_95 ?_
          refine lv_iconst (v := 5) hx hb dn_M_goThrough_96 (by decide) ?_
          refine gr_addN hx hb (7 * r) 5 rfl rfl dn_M_goThrough_97 ?_
          refine gr_iald hx hb hK hP 1 0 rfl rfl ((7 * r) + 5) rfl (by omega) (by decide) dn_M_goThrough_98 ?_
          refine gr_top (y := ct_bf f (r + 1)) (by unfold ct_bf; rw [if_neg (by omega), Nat.add_sub_cancel]) ?_
          refine lv_istore_n (lv' := [(1, .int (ct_bf f (r + 1))), (2, .int 1), (0, .ref (bd 0))]) hx hb dn_M_goThrough_99 rfl hl (by decide) rfl (fun ls hl => ?_)
          refine lv_aload_n hx hb dn_M_goThrough_100 rfl (lv_at hl 2 rfl) ?_
          refine lv_aload_n hx hb dn_M_goThrough_101 rfl (lv_at hl 2 rfl) ?_
          refine va_get (D := (dC, dI)) (ci := 5) (v := .int (nI r)) (C := rn_M) (T := tn_M) (N := 19) hx hb hw ml_M hown hK hP 0 rfl rfl 6 (by decide) (hw _ mw_479) (fun _ h9 => h9) rfl dn_M_goThrough_102 ?_
          refine lv_iconst (v := 1) hx hb dn_M_goThrough_105 (by decide) ?_
          refine gr_addN hx hb r 1 rfl rfl dn_M_goThrough_106 ?_
          refine va_put (D := (dC, dI)) (ci := 5) (v := .int (nI (r + 1))) (ty := .int) (C := rn_M) (T := tn_M) (N := 19) hx hb hw ml_M tt_M to_M nd_M hown hK hP hD hS 0 rfl rfl 6 (by decide) (hw _ mw_479) (fun _ h9 => h9) rfl (by decide +kernel) rfl rfl (Nat.le_of_ble_eq_true rfl) dn_M_goThrough_107 (fun H locs hP hD hS => ?_)
          have hP : va_P (dC, dI) vwCl [(bd 0, .inr (5, [.ref (bd 1), .int (nI clk), .int pw, .int lf, .ref (bd 2), .int (nI fc), .int (nI (r + 1)), .int (nI u82.1), .ref (bd 3), .ref (bd 4), .ref (bd 5), .int (nI st), .ref (bd 6), .ref (bd 7), .ref (bd 8), .int (nI ef), .int (nI ec), .int (nI fu), .ref (bd 9)])), (bd 1, .inl (cI, 292, .inl f)), (bd 2, .inl (cI, 12, .inl fd)), (bd 3, .inl (cI, 13, .inl u82.2.1)), (bd 4, .inl (cI, 13, .inl u82.2.2.1)), (bd 5, .inl (cI, 13, .inl u82.2.2.2.1)), (bd 6, .inl (cI, 8, .inl Y)), (bd 7, .inl (cI, 8, .inl Z)), (bd 8, .inl (cZ, 8, .inl X)), (bd 9, .inl (cI, 40, .inl g))] H := hP
          have hD : va_D A [(bd 0, .inr (5, [.ref (bd 1), .int (nI clk), .int pw, .int lf, .ref (bd 2), .int (nI fc), .int (nI (r + 1)), .int (nI u82.1), .ref (bd 3), .ref (bd 4), .ref (bd 5), .int (nI st), .ref (bd 6), .ref (bd 7), .ref (bd 8), .int (nI ef), .int (nI ec), .int (nI fu), .ref (bd 9)])), (bd 1, .inl (cI, 292, .inl f)), (bd 2, .inl (cI, 12, .inl fd)), (bd 3, .inl (cI, 13, .inl u82.2.1)), (bd 4, .inl (cI, 13, .inl u82.2.2.1)), (bd 5, .inl (cI, 13, .inl u82.2.2.2.1)), (bd 6, .inl (cI, 8, .inl Y)), (bd 7, .inl (cI, 8, .inl Z)), (bd 8, .inl (cZ, 8, .inl X)), (bd 9, .inl (cI, 40, .inl g))] := hD
          refine lv_goto (tgt := 14) hx hb dn_M_goThrough_110 (by decide) ?_
          exact ih14 (40 - (r + 1)) (by omega) (r + 1) u82 ls H locs rfl (lv_sub hl [2, 0, 1] rfl) hP hD hS (by omega) (lt_s hok hs33) (by rw [hc82]; exact ce_ap (C := (Kc.1, Kc.2.1, Kc.2.2.1, Kc.2.2.2.1, (ct_st f r).2.2.2.2)) ⟨heq.1, fun j h1 h2 => ⟨(heq.2 j h1 h2).1, (heq.2 j h1 h2).2.1, (heq.2 j h1 h2).2.2.1, rfl⟩⟩ r (ok_id hok hs33) (ct_iv_n r hok).1)
        · skip
          refine lv_istore_n (lv' := [(2, .int 0), (0, .ref (bd 0)), (1, .int (ct_bf f r))]) hx hb dn_M_goThrough_36 rfl hl (by decide) rfl (fun ls hl => ?_)
          refine lv_iload_n hx hb dn_M_goThrough_37 rfl (lv_at hl 0 rfl) ?_
          refine lv_if_eq (tgt := 14) hx hb dn_M_goThrough_38 (by decide) (fun _ => ?_) (fun h => absurd h (by decide))
          refine lv_iload_n hx hb dn_M_goThrough_14 rfl (lv_at hl 0 rfl) ?_
          refine lv_if_eq (tgt := 113) hx hb dn_M_goThrough_15 (by decide) (fun _ => ?_) (fun h => absurd h (by decide))
          exact hret (Kc, r) _ _ _ _ ⟨⟨by omega, hok, fun q => by first | exact hs33 | exact absurd q (by omega)⟩, heq⟩ hP hD hS dn_M_goThrough_113
  exact lp14 _ 0 (0, S, D, G, S) ls H locs rfl (lv_sub hl [2, 1, 0] rfl) hP hD hS (Nat.zero_le _) (fun q h => absurd h (Nat.not_lt_zero q)) (⟨rfl, fun j h1 h2 => absurd (Nat.le_trans h1 h2) (Nat.not_succ_le_zero 0)⟩)
