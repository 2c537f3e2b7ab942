theorem sw_0_19 (x : Int32) : x = 0 ∨ x = 1 ∨ x = 2 ∨ x = 3 ∨ x = 4 ∨ x = 5 ∨ x = 6 ∨ x = 7 ∨ x = 8 ∨ x = 9 ∨ x = 10 ∨ x = 11 ∨ x = 12 ∨ x = 13 ∨ x = 14 ∨ x = 15 ∨ x = 16 ∨ x = 17 ∨ x = 18 ∨ x = 19 ∨ (x.toInt < 0 ∨ 19 < x.toInt) := by
  by_cases h : x.toInt < 0 ∨ 19 < x.toInt
  · exact Or.inr (Or.inr (Or.inr (Or.inr (Or.inr (Or.inr (Or.inr (Or.inr (Or.inr (Or.inr (Or.inr (Or.inr (Or.inr (Or.inr (Or.inr (Or.inr (Or.inr (Or.inr (Or.inr (Or.inr (h))))))))))))))))))))
  · have q : x.toInt = 0 ∨ x.toInt = 1 ∨ x.toInt = 2 ∨ x.toInt = 3 ∨ x.toInt = 4 ∨ x.toInt = 5 ∨ x.toInt = 6 ∨ x.toInt = 7 ∨ x.toInt = 8 ∨ x.toInt = 9 ∨ x.toInt = 10 ∨ x.toInt = 11 ∨ x.toInt = 12 ∨ x.toInt = 13 ∨ x.toInt = 14 ∨ x.toInt = 15 ∨ x.toInt = 16 ∨ x.toInt = 17 ∨ x.toInt = 18 ∨ x.toInt = 19 := by omega
    rcases q with q | q | q | q | q | q | q | q | q | q | q | q | q | q | q | q | q | q | q | q
    · exact Or.inl (Int32.toInt_inj.mp (q.trans (by decide)))
    · exact Or.inr (Or.inl (Int32.toInt_inj.mp (q.trans (by decide))))
    · exact Or.inr (Or.inr (Or.inl (Int32.toInt_inj.mp (q.trans (by decide)))))
    · exact Or.inr (Or.inr (Or.inr (Or.inl (Int32.toInt_inj.mp (q.trans (by decide))))))
    · exact Or.inr (Or.inr (Or.inr (Or.inr (Or.inl (Int32.toInt_inj.mp (q.trans (by decide)))))))
    · exact Or.inr (Or.inr (Or.inr (Or.inr (Or.inr (Or.inl (Int32.toInt_inj.mp (q.trans (by decide))))))))
    · exact Or.inr (Or.inr (Or.inr (Or.inr (Or.inr (Or.inr (Or.inl (Int32.toInt_inj.mp (q.trans (by decide)))))))))
    · exact Or.inr (Or.inr (Or.inr (Or.inr (Or.inr (Or.inr (Or.inr (Or.inl (Int32.toInt_inj.mp (q.trans (by decide))))))))))
    · exact Or.inr (Or.inr (Or.inr (Or.inr (Or.inr (Or.inr (Or.inr (Or.inr (Or.inl (Int32.toInt_inj.mp (q.trans (by decide)))))))))))
    · exact Or.inr (Or.inr (Or.inr (Or.inr (Or.inr (Or.inr (Or.inr (Or.inr (Or.inr (Or.inl (Int32.toInt_inj.mp (q.trans (by decide))))))))))))
    · exact Or.inr (Or.inr (Or.inr (Or.inr (Or.inr (Or.inr (Or.inr (Or.inr (Or.inr (Or.inr (Or.inl (Int32.toInt_inj.mp (q.trans (by decide)))))))))))))
    · exact Or.inr (Or.inr (Or.inr (Or.inr (Or.inr (Or.inr (Or.inr (Or.inr (Or.inr (Or.inr (Or.inr (Or.inl (Int32.toInt_inj.mp (q.trans (by decide))))))))))))))
    · exact Or.inr (Or.inr (Or.inr (Or.inr (Or.inr (Or.inr (Or.inr (Or.inr (Or.inr (Or.inr (Or.inr (Or.inr (Or.inl (Int32.toInt_inj.mp (q.trans (by decide)))))))))))))))
    · exact Or.inr (Or.inr (Or.inr (Or.inr (Or.inr (Or.inr (Or.inr (Or.inr (Or.inr (Or.inr (Or.inr (Or.inr (Or.inr (Or.inl (Int32.toInt_inj.mp (q.trans (by decide))))))))))))))))
    · exact Or.inr (Or.inr (Or.inr (Or.inr (Or.inr (Or.inr (Or.inr (Or.inr (Or.inr (Or.inr (Or.inr (Or.inr (Or.inr (Or.inr (Or.inl (Int32.toInt_inj.mp (q.trans (by decide)))))))))))))))))
    · exact Or.inr (Or.inr (Or.inr (Or.inr (Or.inr (Or.inr (Or.inr (Or.inr (Or.inr (Or.inr (Or.inr (Or.inr (Or.inr (Or.inr (Or.inr (Or.inl (Int32.toInt_inj.mp (q.trans (by decide))))))))))))))))))
    · exact Or.inr (Or.inr (Or.inr (Or.inr (Or.inr (Or.inr (Or.inr (Or.inr (Or.inr (Or.inr (Or.inr (Or.inr (Or.inr (Or.inr (Or.inr (Or.inr (Or.inl (Int32.toInt_inj.mp (q.trans (by decide)))))))))))))))))))
    · exact Or.inr (Or.inr (Or.inr (Or.inr (Or.inr (Or.inr (Or.inr (Or.inr (Or.inr (Or.inr (Or.inr (Or.inr (Or.inr (Or.inr (Or.inr (Or.inr (Or.inr (Or.inl (Int32.toInt_inj.mp (q.trans (by decide))))))))))))))))))))
    · exact Or.inr (Or.inr (Or.inr (Or.inr (Or.inr (Or.inr (Or.inr (Or.inr (Or.inr (Or.inr (Or.inr (Or.inr (Or.inr (Or.inr (Or.inr (Or.inr (Or.inr (Or.inr (Or.inl (Int32.toInt_inj.mp (q.trans (by decide)))))))))))))))))))))
    · exact Or.inr (Or.inr (Or.inr (Or.inr (Or.inr (Or.inr (Or.inr (Or.inr (Or.inr (Or.inr (Or.inr (Or.inr (Or.inr (Or.inr (Or.inr (Or.inr (Or.inr (Or.inr (Or.inr (Or.inl (Int32.toInt_inj.mp (q.trans (by decide))))))))))))))))))))))

section GL
variable {p : Program} {l : Launch} {e : Env} {R : Room} {s : State} {m : MethodId} {args : Array Value} {below : List Frame} {meth : Method} {c : Code} {H : Heap} {locs : List Loc} {cells slots : Nat} {Q : State → Prop}
variable {cc : ByteArray} {pc : Nat} {ls : Array Slot} {rest : List Value} {A : Nat → Prop} {H0 : Heap}
theorem gr_sld (hx : p.tables.exec = Jvm.exec) (hb : c.code = cc) {b L : Nat} {xs : Nat → Int32} (hX : va_X b L xs s H0) (hbl : b < H0.size) (hbA : ¬ A b) (hS : va_S A H0 H locs) {i : Int32} (k : Nat) (hi : i = nI k) (hk : k < L) (hL : L < 2 ^ 31) (hdg : decode cc pc = .ok (.iaload, 1))
    (kk : W p l e R s m args below meth c H locs cells slots Q (F0 m (pc + 1) ls (.int (xs k) :: rest))) : W p l e R s m args below meth c H locs cells slots Q (F0 m pc ls (.int i :: .ref b :: rest)) := by
  subst hi
  refine va_sld hx hb hX hbl hbA hS (vp_in_nI hk hL) hdg ?_
  rw [nI_clamp (Nat.lt_trans hk hL)]; exact kk
end GL
theorem lw_cmp0 (x : Int64) : lg_cmp x x = 0 := by
  unfold lg_cmp
  rw [if_neg (fun h => absurd h (by simp)), if_pos rfl]
theorem lw_gt {L k : Nat} (hL : L ≤ 2560) (hk : 5 * k ≤ L) : (nI L - 5 < nI (5 * k)) ↔ L < 5 * k + 5 := by
  rw [Int32.lt_iff_toInt_lt, nI_toInt (by omega), show (5 : Int32) = nI 5 from rfl, pk_sub_toInt (by omega) (by decide)]
  omega
theorem xr_tk {f : Nat → Int32} {clk : Nat} {pw n : Int32} {K : ct_T} {en : Nat} (hx : xr f clk pw K en) (hc : clk < 2 ^ 30) : xr f (nx_tick clk n) pw K en ∧ nx_tick clk n ≤ clk + 1000 := by
  by_cases h : n < 0 ∨ 1000 < n
  · rw [← (tk_no h).2]; exact ⟨hx, by omega⟩
  · obtain ⟨k, hk, rfl⟩ := tk_k (fun q => h (Or.inl q)) (Int32.not_lt.mp (fun q => h (Or.inr q)))
    rw [← (tk_ok (clk := clk) hk).2]
    exact ⟨xr_tick hx (by omega), by omega⟩
theorem xr_alt {f : Nat → Int32} {clk : Nat} {pw x v : Int32} {K : ct_T} {en : Nat} (hx : xr f clk pw K en) : xr (nx_alt f pw x v) clk pw K en := by
  rcases hx.1 with h | h
  · subst h; exact ⟨Or.inl rfl, hx.2.1, hx.2.2.1, fun q => absurd q (by decide)⟩
  · subst h; rw [← (al_no (f := f) (v := v) (Or.inl rfl)).2]; exact hx
theorem fc_le {fc : Nat} (h : fc ≤ 12) : nx_fc fc ≤ 12 := by unfold nx_fc; split <;> omega

theorem dn_L_law_0 : decode cn_L_law 0 = .ok (.new 7, 3) := by decide +kernel
theorem dn_L_law_3 : decode cn_L_law 3 = .ok (.dup, 1) := by decide +kernel
theorem dn_L_law_4 : decode cn_L_law 4 = .ok (.invokespecial 9, 3) := by decide +kernel
theorem dn_L_law_7 : decode cn_L_law 7 = .ok (.astore_n 1, 1) := by decide +kernel
theorem dn_L_law_8 : decode cn_L_law 8 = .ok (.new 10, 3) := by decide +kernel
theorem dn_L_law_11 : decode cn_L_law 11 = .ok (.dup, 1) := by decide +kernel
theorem dn_L_law_12 : decode cn_L_law 12 = .ok (.invokespecial 12, 3) := by decide +kernel
theorem dn_L_law_15 : decode cn_L_law 15 = .ok (.astore_n 2, 1) := by decide +kernel
theorem dn_L_law_16 : decode cn_L_law 16 = .ok (.iconst 0, 1) := by decide +kernel
theorem dn_L_law_17 : decode cn_L_law 17 = .ok (.istore_n 3, 1) := by decide +kernel
theorem dn_L_law_18 : decode cn_L_law 18 = .ok (.iload_n 3, 1) := by decide +kernel
theorem dn_L_law_19 : decode cn_L_law 19 = .ok (.aload_n 0, 1) := by decide +kernel
theorem dn_L_law_20 : decode cn_L_law 20 = .ok (.arraylength, 1) := by decide +kernel
theorem dn_L_law_21 : decode cn_L_law 21 = .ok (.iconst 5, 1) := by decide +kernel
theorem dn_L_law_22 : decode cn_L_law 22 = .ok (.isub, 1) := by decide +kernel
theorem dn_L_law_23 : decode cn_L_law 23 = .ok (.if_icmp .gt 788, 3) := by decide +kernel
theorem dn_L_law_26 : decode cn_L_law 26 = .ok (.aload_n 0, 1) := by decide +kernel
theorem dn_L_law_27 : decode cn_L_law 27 = .ok (.iload_n 3, 1) := by decide +kernel
theorem dn_L_law_28 : decode cn_L_law 28 = .ok (.iaload, 1) := by decide +kernel
theorem dn_L_law_29 : decode cn_L_law 29 = .ok (.bipush 31, 2) := by decide +kernel
theorem dn_L_law_31 : decode cn_L_law 31 = .ok (.iand, 1) := by decide +kernel
theorem dn_L_law_32 : decode cn_L_law 32 = .ok (.tableswitch 773 0 19 #[96, 149, 182, 241, 264, 287, 310, 344, 377, 390, 414, 458, 502, 525, 568, 621, 645, 678, 717, 740], 96) := by decide +kernel
theorem dn_L_law_128 : decode cn_L_law 128 = .ok (.aload_n 1, 1) := by decide +kernel
theorem dn_L_law_129 : decode cn_L_law 129 = .ok (.aload_n 0, 1) := by decide +kernel
theorem dn_L_law_130 : decode cn_L_law 130 = .ok (.iload_n 3, 1) := by decide +kernel
theorem dn_L_law_131 : decode cn_L_law 131 = .ok (.iconst 1, 1) := by decide +kernel
theorem dn_L_law_132 : decode cn_L_law 132 = .ok (.iadd, 1) := by decide +kernel
theorem dn_L_law_133 : decode cn_L_law 133 = .ok (.iaload, 1) := by decide +kernel
theorem dn_L_law_134 : decode cn_L_law 134 = .ok (.aload_n 0, 1) := by decide +kernel
theorem dn_L_law_135 : decode cn_L_law 135 = .ok (.iload_n 3, 1) := by decide +kernel
theorem dn_L_law_136 : decode cn_L_law 136 = .ok (.iconst 2, 1) := by decide +kernel
theorem dn_L_law_137 : decode cn_L_law 137 = .ok (.iadd, 1) := by decide +kernel
theorem dn_L_law_138 : decode cn_L_law 138 = .ok (.iaload, 1) := by decide +kernel
theorem dn_L_law_139 : decode cn_L_law 139 = .ok (.aload_n 0, 1) := by decide +kernel
theorem dn_L_law_140 : decode cn_L_law 140 = .ok (.iload_n 3, 1) := by decide +kernel
theorem dn_L_law_141 : decode cn_L_law 141 = .ok (.iconst 3, 1) := by decide +kernel
theorem dn_L_law_142 : decode cn_L_law 142 = .ok (.iadd, 1) := by decide +kernel
theorem dn_L_law_143 : decode cn_L_law 143 = .ok (.iaload, 1) := by decide +kernel
theorem dn_L_law_144 : decode cn_L_law 144 = .ok (.aload_n 0, 1) := by decide +kernel
theorem dn_L_law_145 : decode cn_L_law 145 = .ok (.iload_n 3, 1) := by decide +kernel
theorem dn_L_law_146 : decode cn_L_law 146 = .ok (.iconst 4, 1) := by decide +kernel
theorem dn_L_law_147 : decode cn_L_law 147 = .ok (.iadd, 1) := by decide +kernel
theorem dn_L_law_148 : decode cn_L_law 148 = .ok (.iaload, 1) := by decide +kernel
theorem dn_L_law_149 : decode cn_L_law 149 = .ok (.invokevirtual 13, 3) := by decide +kernel
theorem dn_L_law_152 : decode cn_L_law 152 = .ok (.aload_n 2, 1) := by decide +kernel
theorem dn_L_law_153 : decode cn_L_law 153 = .ok (.aload_n 0, 1) := by decide +kernel
theorem dn_L_law_154 : decode cn_L_law 154 = .ok (.iload_n 3, 1) := by decide +kernel
theorem dn_L_law_155 : decode cn_L_law 155 = .ok (.iconst 1, 1) := by decide +kernel
theorem dn_L_law_156 : decode cn_L_law 156 = .ok (.iadd, 1) := by decide +kernel
theorem dn_L_law_157 : decode cn_L_law 157 = .ok (.iaload, 1) := by decide +kernel
theorem dn_L_law_158 : decode cn_L_law 158 = .ok (.aload_n 0, 1) := by decide +kernel
theorem dn_L_law_159 : decode cn_L_law 159 = .ok (.iload_n 3, 1) := by decide +kernel
theorem dn_L_law_160 : decode cn_L_law 160 = .ok (.iconst 2, 1) := by decide +kernel
theorem dn_L_law_161 : decode cn_L_law 161 = .ok (.iadd, 1) := by decide +kernel
theorem dn_L_law_162 : decode cn_L_law 162 = .ok (.iaload, 1) := by decide +kernel
theorem dn_L_law_163 : decode cn_L_law 163 = .ok (.aload_n 0, 1) := by decide +kernel
theorem dn_L_law_164 : decode cn_L_law 164 = .ok (.iload_n 3, 1) := by decide +kernel
theorem dn_L_law_165 : decode cn_L_law 165 = .ok (.iconst 3, 1) := by decide +kernel
theorem dn_L_law_166 : decode cn_L_law 166 = .ok (.iadd, 1) := by decide +kernel
theorem dn_L_law_167 : decode cn_L_law 167 = .ok (.iaload, 1) := by decide +kernel
theorem dn_L_law_168 : decode cn_L_law 168 = .ok (.aload_n 0, 1) := by decide +kernel
theorem dn_L_law_169 : decode cn_L_law 169 = .ok (.iload_n 3, 1) := by decide +kernel
theorem dn_L_law_170 : decode cn_L_law 170 = .ok (.iconst 4, 1) := by decide +kernel
theorem dn_L_law_171 : decode cn_L_law 171 = .ok (.iadd, 1) := by decide +kernel
theorem dn_L_law_172 : decode cn_L_law 172 = .ok (.iaload, 1) := by decide +kernel
theorem dn_L_law_173 : decode cn_L_law 173 = .ok (.invokevirtual 17, 3) := by decide +kernel
theorem dn_L_law_176 : decode cn_L_law 176 = .ok (.if_icmp .eq 629, 3) := by decide +kernel
theorem dn_L_law_179 : decode cn_L_law 179 = .ok (.iconst 0, 1) := by decide +kernel
theorem dn_L_law_180 : decode cn_L_law 180 = .ok (.ireturn, 1) := by decide +kernel
theorem dn_L_law_181 : decode cn_L_law 181 = .ok (.aload_n 1, 1) := by decide +kernel
theorem dn_L_law_182 : decode cn_L_law 182 = .ok (.aload_n 0, 1) := by decide +kernel
theorem dn_L_law_183 : decode cn_L_law 183 = .ok (.iload_n 3, 1) := by decide +kernel
theorem dn_L_law_184 : decode cn_L_law 184 = .ok (.iconst 1, 1) := by decide +kernel
theorem dn_L_law_185 : decode cn_L_law 185 = .ok (.iadd, 1) := by decide +kernel
theorem dn_L_law_186 : decode cn_L_law 186 = .ok (.iaload, 1) := by decide +kernel
theorem dn_L_law_187 : decode cn_L_law 187 = .ok (.aload_n 0, 1) := by decide +kernel
theorem dn_L_law_188 : decode cn_L_law 188 = .ok (.iload_n 3, 1) := by decide +kernel
theorem dn_L_law_189 : decode cn_L_law 189 = .ok (.iconst 2, 1) := by decide +kernel
theorem dn_L_law_190 : decode cn_L_law 190 = .ok (.iadd, 1) := by decide +kernel
theorem dn_L_law_191 : decode cn_L_law 191 = .ok (.iaload, 1) := by decide +kernel
theorem dn_L_law_192 : decode cn_L_law 192 = .ok (.invokevirtual 18, 3) := by decide +kernel
theorem dn_L_law_195 : decode cn_L_law 195 = .ok (.aload_n 2, 1) := by decide +kernel
theorem dn_L_law_196 : decode cn_L_law 196 = .ok (.aload_n 0, 1) := by decide +kernel
theorem dn_L_law_197 : decode cn_L_law 197 = .ok (.iload_n 3, 1) := by decide +kernel
theorem dn_L_law_198 : decode cn_L_law 198 = .ok (.iconst 1, 1) := by decide +kernel
theorem dn_L_law_199 : decode cn_L_law 199 = .ok (.iadd, 1) := by decide +kernel
theorem dn_L_law_200 : decode cn_L_law 200 = .ok (.iaload, 1) := by decide +kernel
theorem dn_L_law_201 : decode cn_L_law 201 = .ok (.aload_n 0, 1) := by decide +kernel
theorem dn_L_law_202 : decode cn_L_law 202 = .ok (.iload_n 3, 1) := by decide +kernel
theorem dn_L_law_203 : decode cn_L_law 203 = .ok (.iconst 2, 1) := by decide +kernel
theorem dn_L_law_204 : decode cn_L_law 204 = .ok (.iadd, 1) := by decide +kernel
theorem dn_L_law_205 : decode cn_L_law 205 = .ok (.iaload, 1) := by decide +kernel
theorem dn_L_law_206 : decode cn_L_law 206 = .ok (.invokevirtual 22, 3) := by decide +kernel
theorem dn_L_law_209 : decode cn_L_law 209 = .ok (.if_icmp .eq 596, 3) := by decide +kernel
theorem dn_L_law_212 : decode cn_L_law 212 = .ok (.iconst 0, 1) := by decide +kernel
theorem dn_L_law_213 : decode cn_L_law 213 = .ok (.ireturn, 1) := by decide +kernel
theorem dn_L_law_214 : decode cn_L_law 214 = .ok (.aload_n 1, 1) := by decide +kernel
theorem dn_L_law_215 : decode cn_L_law 215 = .ok (.aload_n 0, 1) := by decide +kernel
theorem dn_L_law_216 : decode cn_L_law 216 = .ok (.iload_n 3, 1) := by decide +kernel
theorem dn_L_law_217 : decode cn_L_law 217 = .ok (.iconst 1, 1) := by decide +kernel
theorem dn_L_law_218 : decode cn_L_law 218 = .ok (.iadd, 1) := by decide +kernel
theorem dn_L_law_219 : decode cn_L_law 219 = .ok (.iaload, 1) := by decide +kernel
theorem dn_L_law_220 : decode cn_L_law 220 = .ok (.aload_n 0, 1) := by decide +kernel
theorem dn_L_law_221 : decode cn_L_law 221 = .ok (.iload_n 3, 1) := by decide +kernel
theorem dn_L_law_222 : decode cn_L_law 222 = .ok (.iconst 2, 1) := by decide +kernel
theorem dn_L_law_223 : decode cn_L_law 223 = .ok (.iadd, 1) := by decide +kernel
theorem dn_L_law_224 : decode cn_L_law 224 = .ok (.iaload, 1) := by decide +kernel
theorem dn_L_law_225 : decode cn_L_law 225 = .ok (.aload_n 0, 1) := by decide +kernel
theorem dn_L_law_226 : decode cn_L_law 226 = .ok (.iload_n 3, 1) := by decide +kernel
theorem dn_L_law_227 : decode cn_L_law 227 = .ok (.iconst 3, 1) := by decide +kernel
theorem dn_L_law_228 : decode cn_L_law 228 = .ok (.iadd, 1) := by decide +kernel
theorem dn_L_law_229 : decode cn_L_law 229 = .ok (.iaload, 1) := by decide +kernel
theorem dn_L_law_230 : decode cn_L_law 230 = .ok (.ifCond .eq 7, 3) := by decide +kernel
theorem dn_L_law_233 : decode cn_L_law 233 = .ok (.iconst 1, 1) := by decide +kernel
theorem dn_L_law_234 : decode cn_L_law 234 = .ok (.goto 4, 3) := by decide +kernel
theorem dn_L_law_237 : decode cn_L_law 237 = .ok (.iconst 0, 1) := by decide +kernel
theorem dn_L_law_238 : decode cn_L_law 238 = .ok (.invokevirtual 23, 3) := by decide +kernel
theorem dn_L_law_241 : decode cn_L_law 241 = .ok (.aload_n 2, 1) := by decide +kernel
theorem dn_L_law_242 : decode cn_L_law 242 = .ok (.aload_n 0, 1) := by decide +kernel
theorem dn_L_law_243 : decode cn_L_law 243 = .ok (.iload_n 3, 1) := by decide +kernel
theorem dn_L_law_244 : decode cn_L_law 244 = .ok (.iconst 1, 1) := by decide +kernel
theorem dn_L_law_245 : decode cn_L_law 245 = .ok (.iadd, 1) := by decide +kernel
theorem dn_L_law_246 : decode cn_L_law 246 = .ok (.iaload, 1) := by decide +kernel
theorem dn_L_law_247 : decode cn_L_law 247 = .ok (.aload_n 0, 1) := by decide +kernel
theorem dn_L_law_248 : decode cn_L_law 248 = .ok (.iload_n 3, 1) := by decide +kernel
theorem dn_L_law_249 : decode cn_L_law 249 = .ok (.iconst 2, 1) := by decide +kernel
theorem dn_L_law_250 : decode cn_L_law 250 = .ok (.iadd, 1) := by decide +kernel
theorem dn_L_law_251 : decode cn_L_law 251 = .ok (.iaload, 1) := by decide +kernel
theorem dn_L_law_252 : decode cn_L_law 252 = .ok (.aload_n 0, 1) := by decide +kernel
theorem dn_L_law_253 : decode cn_L_law 253 = .ok (.iload_n 3, 1) := by decide +kernel
theorem dn_L_law_254 : decode cn_L_law 254 = .ok (.iconst 3, 1) := by decide +kernel
theorem dn_L_law_255 : decode cn_L_law 255 = .ok (.iadd, 1) := by decide +kernel
theorem dn_L_law_256 : decode cn_L_law 256 = .ok (.iaload, 1) := by decide +kernel
theorem dn_L_law_257 : decode cn_L_law 257 = .ok (.ifCond .eq 7, 3) := by decide +kernel
theorem dn_L_law_260 : decode cn_L_law 260 = .ok (.iconst 1, 1) := by decide +kernel
theorem dn_L_law_261 : decode cn_L_law 261 = .ok (.goto 4, 3) := by decide +kernel
theorem dn_L_law_264 : decode cn_L_law 264 = .ok (.iconst 0, 1) := by decide +kernel
theorem dn_L_law_265 : decode cn_L_law 265 = .ok (.invokevirtual 27, 3) := by decide +kernel
theorem dn_L_law_268 : decode cn_L_law 268 = .ok (.if_icmp .eq 537, 3) := by decide +kernel
theorem dn_L_law_271 : decode cn_L_law 271 = .ok (.iconst 0, 1) := by decide +kernel
theorem dn_L_law_272 : decode cn_L_law 272 = .ok (.ireturn, 1) := by decide +kernel
theorem dn_L_law_273 : decode cn_L_law 273 = .ok (.aload_n 1, 1) := by decide +kernel
theorem dn_L_law_274 : decode cn_L_law 274 = .ok (.aload_n 0, 1) := by decide +kernel
theorem dn_L_law_275 : decode cn_L_law 275 = .ok (.iload_n 3, 1) := by decide +kernel
theorem dn_L_law_276 : decode cn_L_law 276 = .ok (.iconst 1, 1) := by decide +kernel
theorem dn_L_law_277 : decode cn_L_law 277 = .ok (.iadd, 1) := by decide +kernel
theorem dn_L_law_278 : decode cn_L_law 278 = .ok (.iaload, 1) := by decide +kernel
theorem dn_L_law_279 : decode cn_L_law 279 = .ok (.invokevirtual 28, 3) := by decide +kernel
theorem dn_L_law_282 : decode cn_L_law 282 = .ok (.aload_n 2, 1) := by decide +kernel
theorem dn_L_law_283 : decode cn_L_law 283 = .ok (.aload_n 0, 1) := by decide +kernel
theorem dn_L_law_284 : decode cn_L_law 284 = .ok (.iload_n 3, 1) := by decide +kernel
theorem dn_L_law_285 : decode cn_L_law 285 = .ok (.iconst 1, 1) := by decide +kernel
theorem dn_L_law_286 : decode cn_L_law 286 = .ok (.iadd, 1) := by decide +kernel
theorem dn_L_law_287 : decode cn_L_law 287 = .ok (.iaload, 1) := by decide +kernel
theorem dn_L_law_288 : decode cn_L_law 288 = .ok (.invokevirtual 32, 3) := by decide +kernel
theorem dn_L_law_291 : decode cn_L_law 291 = .ok (.if_icmp .eq 514, 3) := by decide +kernel
theorem dn_L_law_294 : decode cn_L_law 294 = .ok (.iconst 0, 1) := by decide +kernel
theorem dn_L_law_295 : decode cn_L_law 295 = .ok (.ireturn, 1) := by decide +kernel
theorem dn_L_law_296 : decode cn_L_law 296 = .ok (.aload_n 1, 1) := by decide +kernel
theorem dn_L_law_297 : decode cn_L_law 297 = .ok (.aload_n 0, 1) := by decide +kernel
theorem dn_L_law_298 : decode cn_L_law 298 = .ok (.iload_n 3, 1) := by decide +kernel
theorem dn_L_law_299 : decode cn_L_law 299 = .ok (.iconst 1, 1) := by decide +kernel
theorem dn_L_law_300 : decode cn_L_law 300 = .ok (.iadd, 1) := by decide +kernel
theorem dn_L_law_301 : decode cn_L_law 301 = .ok (.iaload, 1) := by decide +kernel
theorem dn_L_law_302 : decode cn_L_law 302 = .ok (.invokevirtual 33, 3) := by decide +kernel
theorem dn_L_law_305 : decode cn_L_law 305 = .ok (.aload_n 2, 1) := by decide +kernel
theorem dn_L_law_306 : decode cn_L_law 306 = .ok (.aload_n 0, 1) := by decide +kernel
theorem dn_L_law_307 : decode cn_L_law 307 = .ok (.iload_n 3, 1) := by decide +kernel
theorem dn_L_law_308 : decode cn_L_law 308 = .ok (.iconst 1, 1) := by decide +kernel
theorem dn_L_law_309 : decode cn_L_law 309 = .ok (.iadd, 1) := by decide +kernel
theorem dn_L_law_310 : decode cn_L_law 310 = .ok (.iaload, 1) := by decide +kernel
theorem dn_L_law_311 : decode cn_L_law 311 = .ok (.invokevirtual 36, 3) := by decide +kernel
theorem dn_L_law_314 : decode cn_L_law 314 = .ok (.if_icmp .eq 491, 3) := by decide +kernel
theorem dn_L_law_317 : decode cn_L_law 317 = .ok (.iconst 0, 1) := by decide +kernel
theorem dn_L_law_318 : decode cn_L_law 318 = .ok (.ireturn, 1) := by decide +kernel
theorem dn_L_law_319 : decode cn_L_law 319 = .ok (.aload_n 1, 1) := by decide +kernel
theorem dn_L_law_320 : decode cn_L_law 320 = .ok (.aload_n 0, 1) := by decide +kernel
theorem dn_L_law_321 : decode cn_L_law 321 = .ok (.iload_n 3, 1) := by decide +kernel
theorem dn_L_law_322 : decode cn_L_law 322 = .ok (.iconst 1, 1) := by decide +kernel
theorem dn_L_law_323 : decode cn_L_law 323 = .ok (.iadd, 1) := by decide +kernel
theorem dn_L_law_324 : decode cn_L_law 324 = .ok (.iaload, 1) := by decide +kernel
theorem dn_L_law_325 : decode cn_L_law 325 = .ok (.invokevirtual 37, 3) := by decide +kernel
theorem dn_L_law_328 : decode cn_L_law 328 = .ok (.aload_n 2, 1) := by decide +kernel
theorem dn_L_law_329 : decode cn_L_law 329 = .ok (.aload_n 0, 1) := by decide +kernel
theorem dn_L_law_330 : decode cn_L_law 330 = .ok (.iload_n 3, 1) := by decide +kernel
theorem dn_L_law_331 : decode cn_L_law 331 = .ok (.iconst 1, 1) := by decide +kernel
theorem dn_L_law_332 : decode cn_L_law 332 = .ok (.iadd, 1) := by decide +kernel
theorem dn_L_law_333 : decode cn_L_law 333 = .ok (.iaload, 1) := by decide +kernel
theorem dn_L_law_334 : decode cn_L_law 334 = .ok (.invokevirtual 40, 3) := by decide +kernel
theorem dn_L_law_337 : decode cn_L_law 337 = .ok (.if_icmp .eq 468, 3) := by decide +kernel
theorem dn_L_law_340 : decode cn_L_law 340 = .ok (.iconst 0, 1) := by decide +kernel
theorem dn_L_law_341 : decode cn_L_law 341 = .ok (.ireturn, 1) := by decide +kernel
theorem dn_L_law_342 : decode cn_L_law 342 = .ok (.aload_n 1, 1) := by decide +kernel
theorem dn_L_law_343 : decode cn_L_law 343 = .ok (.aload_n 0, 1) := by decide +kernel
theorem dn_L_law_344 : decode cn_L_law 344 = .ok (.iload_n 3, 1) := by decide +kernel
theorem dn_L_law_345 : decode cn_L_law 345 = .ok (.iconst 1, 1) := by decide +kernel
theorem dn_L_law_346 : decode cn_L_law 346 = .ok (.iadd, 1) := by decide +kernel
theorem dn_L_law_347 : decode cn_L_law 347 = .ok (.iaload, 1) := by decide +kernel
theorem dn_L_law_348 : decode cn_L_law 348 = .ok (.aload_n 0, 1) := by decide +kernel
theorem dn_L_law_349 : decode cn_L_law 349 = .ok (.iload_n 3, 1) := by decide +kernel
theorem dn_L_law_350 : decode cn_L_law 350 = .ok (.iconst 2, 1) := by decide +kernel
theorem dn_L_law_351 : decode cn_L_law 351 = .ok (.iadd, 1) := by decide +kernel
theorem dn_L_law_352 : decode cn_L_law 352 = .ok (.iaload, 1) := by decide +kernel
theorem dn_L_law_353 : decode cn_L_law 353 = .ok (.invokevirtual 41, 3) := by decide +kernel
theorem dn_L_law_356 : decode cn_L_law 356 = .ok (.aload_n 2, 1) := by decide +kernel
theorem dn_L_law_357 : decode cn_L_law 357 = .ok (.aload_n 0, 1) := by decide +kernel
theorem dn_L_law_358 : decode cn_L_law 358 = .ok (.iload_n 3, 1) := by decide +kernel
theorem dn_L_law_359 : decode cn_L_law 359 = .ok (.iconst 1, 1) := by decide +kernel
theorem dn_L_law_360 : decode cn_L_law 360 = .ok (.iadd, 1) := by decide +kernel
theorem dn_L_law_361 : decode cn_L_law 361 = .ok (.iaload, 1) := by decide +kernel
theorem dn_L_law_362 : decode cn_L_law 362 = .ok (.aload_n 0, 1) := by decide +kernel
theorem dn_L_law_363 : decode cn_L_law 363 = .ok (.iload_n 3, 1) := by decide +kernel
theorem dn_L_law_364 : decode cn_L_law 364 = .ok (.iconst 2, 1) := by decide +kernel
theorem dn_L_law_365 : decode cn_L_law 365 = .ok (.iadd, 1) := by decide +kernel
theorem dn_L_law_366 : decode cn_L_law 366 = .ok (.iaload, 1) := by decide +kernel
theorem dn_L_law_367 : decode cn_L_law 367 = .ok (.invokevirtual 45, 3) := by decide +kernel
theorem dn_L_law_370 : decode cn_L_law 370 = .ok (.lcmp, 1) := by decide +kernel
theorem dn_L_law_371 : decode cn_L_law 371 = .ok (.ifCond .eq 434, 3) := by decide +kernel
theorem dn_L_law_374 : decode cn_L_law 374 = .ok (.iconst 0, 1) := by decide +kernel
theorem dn_L_law_375 : decode cn_L_law 375 = .ok (.ireturn, 1) := by decide +kernel
theorem dn_L_law_376 : decode cn_L_law 376 = .ok (.aload_n 1, 1) := by decide +kernel
theorem dn_L_law_377 : decode cn_L_law 377 = .ok (.aload_n 0, 1) := by decide +kernel
theorem dn_L_law_378 : decode cn_L_law 378 = .ok (.iload_n 3, 1) := by decide +kernel
theorem dn_L_law_379 : decode cn_L_law 379 = .ok (.iconst 1, 1) := by decide +kernel
theorem dn_L_law_380 : decode cn_L_law 380 = .ok (.iadd, 1) := by decide +kernel
theorem dn_L_law_381 : decode cn_L_law 381 = .ok (.iaload, 1) := by decide +kernel
theorem dn_L_law_382 : decode cn_L_law 382 = .ok (.aload_n 0, 1) := by decide +kernel
theorem dn_L_law_383 : decode cn_L_law 383 = .ok (.iload_n 3, 1) := by decide +kernel
theorem dn_L_law_384 : decode cn_L_law 384 = .ok (.iconst 2, 1) := by decide +kernel
theorem dn_L_law_385 : decode cn_L_law 385 = .ok (.iadd, 1) := by decide +kernel
theorem dn_L_law_386 : decode cn_L_law 386 = .ok (.iaload, 1) := by decide +kernel
theorem dn_L_law_387 : decode cn_L_law 387 = .ok (.invokevirtual 46, 3) := by decide +kernel
theorem dn_L_law_390 : decode cn_L_law 390 = .ok (.aload_n 2, 1) := by decide +kernel
theorem dn_L_law_391 : decode cn_L_law 391 = .ok (.aload_n 0, 1) := by decide +kernel
theorem dn_L_law_392 : decode cn_L_law 392 = .ok (.iload_n 3, 1) := by decide +kernel
theorem dn_L_law_393 : decode cn_L_law 393 = .ok (.iconst 1, 1) := by decide +kernel
theorem dn_L_law_394 : decode cn_L_law 394 = .ok (.iadd, 1) := by decide +kernel
theorem dn_L_law_395 : decode cn_L_law 395 = .ok (.iaload, 1) := by decide +kernel
theorem dn_L_law_396 : decode cn_L_law 396 = .ok (.aload_n 0, 1) := by decide +kernel
theorem dn_L_law_397 : decode cn_L_law 397 = .ok (.iload_n 3, 1) := by decide +kernel
theorem dn_L_law_398 : decode cn_L_law 398 = .ok (.iconst 2, 1) := by decide +kernel
theorem dn_L_law_399 : decode cn_L_law 399 = .ok (.iadd, 1) := by decide +kernel
theorem dn_L_law_400 : decode cn_L_law 400 = .ok (.iaload, 1) := by decide +kernel
theorem dn_L_law_401 : decode cn_L_law 401 = .ok (.invokevirtual 49, 3) := by decide +kernel
theorem dn_L_law_404 : decode cn_L_law 404 = .ok (.if_icmp .eq 401, 3) := by decide +kernel
theorem dn_L_law_407 : decode cn_L_law 407 = .ok (.iconst 0, 1) := by decide +kernel
theorem dn_L_law_408 : decode cn_L_law 408 = .ok (.ireturn, 1) := by decide +kernel
theorem dn_L_law_409 : decode cn_L_law 409 = .ok (.aload_n 1, 1) := by decide +kernel
theorem dn_L_law_410 : decode cn_L_law 410 = .ok (.invokevirtual 50, 3) := by decide +kernel
theorem dn_L_law_413 : decode cn_L_law 413 = .ok (.aload_n 2, 1) := by decide +kernel
theorem dn_L_law_414 : decode cn_L_law 414 = .ok (.invokevirtual 54, 3) := by decide +kernel
theorem dn_L_law_417 : decode cn_L_law 417 = .ok (.if_icmp .eq 388, 3) := by decide +kernel
theorem dn_L_law_420 : decode cn_L_law 420 = .ok (.iconst 0, 1) := by decide +kernel
theorem dn_L_law_421 : decode cn_L_law 421 = .ok (.ireturn, 1) := by decide +kernel
theorem dn_L_law_422 : decode cn_L_law 422 = .ok (.aload_n 1, 1) := by decide +kernel
theorem dn_L_law_423 : decode cn_L_law 423 = .ok (.aload_n 0, 1) := by decide +kernel
theorem dn_L_law_424 : decode cn_L_law 424 = .ok (.iload_n 3, 1) := by decide +kernel
theorem dn_L_law_425 : decode cn_L_law 425 = .ok (.iconst 1, 1) := by decide +kernel
theorem dn_L_law_426 : decode cn_L_law 426 = .ok (.iadd, 1) := by decide +kernel
theorem dn_L_law_427 : decode cn_L_law 427 = .ok (.iaload, 1) := by decide +kernel
theorem dn_L_law_428 : decode cn_L_law 428 = .ok (.invokevirtual 55, 3) := by decide +kernel
theorem dn_L_law_431 : decode cn_L_law 431 = .ok (.aload_n 2, 1) := by decide +kernel
theorem dn_L_law_432 : decode cn_L_law 432 = .ok (.aload_n 0, 1) := by decide +kernel
theorem dn_L_law_433 : decode cn_L_law 433 = .ok (.iload_n 3, 1) := by decide +kernel
theorem dn_L_law_434 : decode cn_L_law 434 = .ok (.iconst 1, 1) := by decide +kernel
theorem dn_L_law_435 : decode cn_L_law 435 = .ok (.iadd, 1) := by decide +kernel
theorem dn_L_law_436 : decode cn_L_law 436 = .ok (.iaload, 1) := by decide +kernel
theorem dn_L_law_437 : decode cn_L_law 437 = .ok (.invokevirtual 59, 3) := by decide +kernel
theorem dn_L_law_440 : decode cn_L_law 440 = .ok (.lcmp, 1) := by decide +kernel
theorem dn_L_law_441 : decode cn_L_law 441 = .ok (.ifCond .eq 364, 3) := by decide +kernel
theorem dn_L_law_444 : decode cn_L_law 444 = .ok (.iconst 0, 1) := by decide +kernel
theorem dn_L_law_445 : decode cn_L_law 445 = .ok (.ireturn, 1) := by decide +kernel
theorem dn_L_law_446 : decode cn_L_law 446 = .ok (.aload_n 1, 1) := by decide +kernel
theorem dn_L_law_447 : decode cn_L_law 447 = .ok (.aload_n 0, 1) := by decide +kernel
theorem dn_L_law_448 : decode cn_L_law 448 = .ok (.iload_n 3, 1) := by decide +kernel
theorem dn_L_law_449 : decode cn_L_law 449 = .ok (.iconst 1, 1) := by decide +kernel
theorem dn_L_law_450 : decode cn_L_law 450 = .ok (.iadd, 1) := by decide +kernel
theorem dn_L_law_451 : decode cn_L_law 451 = .ok (.iaload, 1) := by decide +kernel
theorem dn_L_law_452 : decode cn_L_law 452 = .ok (.aload_n 0, 1) := by decide +kernel
theorem dn_L_law_453 : decode cn_L_law 453 = .ok (.iload_n 3, 1) := by decide +kernel
theorem dn_L_law_454 : decode cn_L_law 454 = .ok (.iconst 2, 1) := by decide +kernel
theorem dn_L_law_455 : decode cn_L_law 455 = .ok (.iadd, 1) := by decide +kernel
theorem dn_L_law_456 : decode cn_L_law 456 = .ok (.iaload, 1) := by decide +kernel
theorem dn_L_law_457 : decode cn_L_law 457 = .ok (.aload_n 0, 1) := by decide +kernel
theorem dn_L_law_458 : decode cn_L_law 458 = .ok (.iload_n 3, 1) := by decide +kernel
theorem dn_L_law_459 : decode cn_L_law 459 = .ok (.iconst 3, 1) := by decide +kernel
theorem dn_L_law_460 : decode cn_L_law 460 = .ok (.iadd, 1) := by decide +kernel
theorem dn_L_law_461 : decode cn_L_law 461 = .ok (.iaload, 1) := by decide +kernel
theorem dn_L_law_462 : decode cn_L_law 462 = .ok (.invokevirtual 60, 3) := by decide +kernel
theorem dn_L_law_465 : decode cn_L_law 465 = .ok (.aload_n 2, 1) := by decide +kernel
theorem dn_L_law_466 : decode cn_L_law 466 = .ok (.aload_n 0, 1) := by decide +kernel
theorem dn_L_law_467 : decode cn_L_law 467 = .ok (.iload_n 3, 1) := by decide +kernel
theorem dn_L_law_468 : decode cn_L_law 468 = .ok (.iconst 1, 1) := by decide +kernel
theorem dn_L_law_469 : decode cn_L_law 469 = .ok (.iadd, 1) := by decide +kernel
theorem dn_L_law_470 : decode cn_L_law 470 = .ok (.iaload, 1) := by decide +kernel
theorem dn_L_law_471 : decode cn_L_law 471 = .ok (.aload_n 0, 1) := by decide +kernel
theorem dn_L_law_472 : decode cn_L_law 472 = .ok (.iload_n 3, 1) := by decide +kernel
theorem dn_L_law_473 : decode cn_L_law 473 = .ok (.iconst 2, 1) := by decide +kernel
theorem dn_L_law_474 : decode cn_L_law 474 = .ok (.iadd, 1) := by decide +kernel
theorem dn_L_law_475 : decode cn_L_law 475 = .ok (.iaload, 1) := by decide +kernel
theorem dn_L_law_476 : decode cn_L_law 476 = .ok (.aload_n 0, 1) := by decide +kernel
theorem dn_L_law_477 : decode cn_L_law 477 = .ok (.iload_n 3, 1) := by decide +kernel
theorem dn_L_law_478 : decode cn_L_law 478 = .ok (.iconst 3, 1) := by decide +kernel
theorem dn_L_law_479 : decode cn_L_law 479 = .ok (.iadd, 1) := by decide +kernel
theorem dn_L_law_480 : decode cn_L_law 480 = .ok (.iaload, 1) := by decide +kernel
theorem dn_L_law_481 : decode cn_L_law 481 = .ok (.invokevirtual 64, 3) := by decide +kernel
theorem dn_L_law_484 : decode cn_L_law 484 = .ok (.lcmp, 1) := by decide +kernel
theorem dn_L_law_485 : decode cn_L_law 485 = .ok (.ifCond .eq 320, 3) := by decide +kernel
theorem dn_L_law_488 : decode cn_L_law 488 = .ok (.iconst 0, 1) := by decide +kernel
theorem dn_L_law_489 : decode cn_L_law 489 = .ok (.ireturn, 1) := by decide +kernel
theorem dn_L_law_490 : decode cn_L_law 490 = .ok (.aload_n 1, 1) := by decide +kernel
theorem dn_L_law_491 : decode cn_L_law 491 = .ok (.aload_n 0, 1) := by decide +kernel
theorem dn_L_law_492 : decode cn_L_law 492 = .ok (.iload_n 3, 1) := by decide +kernel
theorem dn_L_law_493 : decode cn_L_law 493 = .ok (.iconst 1, 1) := by decide +kernel
theorem dn_L_law_494 : decode cn_L_law 494 = .ok (.iadd, 1) := by decide +kernel
theorem dn_L_law_495 : decode cn_L_law 495 = .ok (.iaload, 1) := by decide +kernel
theorem dn_L_law_496 : decode cn_L_law 496 = .ok (.aload_n 0, 1) := by decide +kernel
theorem dn_L_law_497 : decode cn_L_law 497 = .ok (.iload_n 3, 1) := by decide +kernel
theorem dn_L_law_498 : decode cn_L_law 498 = .ok (.iconst 2, 1) := by decide +kernel
theorem dn_L_law_499 : decode cn_L_law 499 = .ok (.iadd, 1) := by decide +kernel
theorem dn_L_law_500 : decode cn_L_law 500 = .ok (.iaload, 1) := by decide +kernel
theorem dn_L_law_501 : decode cn_L_law 501 = .ok (.aload_n 0, 1) := by decide +kernel
theorem dn_L_law_502 : decode cn_L_law 502 = .ok (.iload_n 3, 1) := by decide +kernel
theorem dn_L_law_503 : decode cn_L_law 503 = .ok (.iconst 3, 1) := by decide +kernel
theorem dn_L_law_504 : decode cn_L_law 504 = .ok (.iadd, 1) := by decide +kernel
theorem dn_L_law_505 : decode cn_L_law 505 = .ok (.iaload, 1) := by decide +kernel
theorem dn_L_law_506 : decode cn_L_law 506 = .ok (.invokevirtual 65, 3) := by decide +kernel
theorem dn_L_law_509 : decode cn_L_law 509 = .ok (.aload_n 2, 1) := by decide +kernel
theorem dn_L_law_510 : decode cn_L_law 510 = .ok (.aload_n 0, 1) := by decide +kernel
theorem dn_L_law_511 : decode cn_L_law 511 = .ok (.iload_n 3, 1) := by decide +kernel
theorem dn_L_law_512 : decode cn_L_law 512 = .ok (.iconst 1, 1) := by decide +kernel
theorem dn_L_law_513 : decode cn_L_law 513 = .ok (.iadd, 1) := by decide +kernel
theorem dn_L_law_514 : decode cn_L_law 514 = .ok (.iaload, 1) := by decide +kernel
theorem dn_L_law_515 : decode cn_L_law 515 = .ok (.aload_n 0, 1) := by decide +kernel
theorem dn_L_law_516 : decode cn_L_law 516 = .ok (.iload_n 3, 1) := by decide +kernel
theorem dn_L_law_517 : decode cn_L_law 517 = .ok (.iconst 2, 1) := by decide +kernel
theorem dn_L_law_518 : decode cn_L_law 518 = .ok (.iadd, 1) := by decide +kernel
theorem dn_L_law_519 : decode cn_L_law 519 = .ok (.iaload, 1) := by decide +kernel
theorem dn_L_law_520 : decode cn_L_law 520 = .ok (.aload_n 0, 1) := by decide +kernel
theorem dn_L_law_521 : decode cn_L_law 521 = .ok (.iload_n 3, 1) := by decide +kernel
theorem dn_L_law_522 : decode cn_L_law 522 = .ok (.iconst 3, 1) := by decide +kernel
theorem dn_L_law_523 : decode cn_L_law 523 = .ok (.iadd, 1) := by decide +kernel
theorem dn_L_law_524 : decode cn_L_law 524 = .ok (.iaload, 1) := by decide +kernel
theorem dn_L_law_525 : decode cn_L_law 525 = .ok (.invokevirtual 68, 3) := by decide +kernel
theorem dn_L_law_528 : decode cn_L_law 528 = .ok (.lcmp, 1) := by decide +kernel
theorem dn_L_law_529 : decode cn_L_law 529 = .ok (.ifCond .eq 276, 3) := by decide +kernel
theorem dn_L_law_532 : decode cn_L_law 532 = .ok (.iconst 0, 1) := by decide +kernel
theorem dn_L_law_533 : decode cn_L_law 533 = .ok (.ireturn, 1) := by decide +kernel
theorem dn_L_law_534 : decode cn_L_law 534 = .ok (.aload_n 1, 1) := by decide +kernel
theorem dn_L_law_535 : decode cn_L_law 535 = .ok (.aload_n 0, 1) := by decide +kernel
theorem dn_L_law_536 : decode cn_L_law 536 = .ok (.iload_n 3, 1) := by decide +kernel
theorem dn_L_law_537 : decode cn_L_law 537 = .ok (.iconst 1, 1) := by decide +kernel
theorem dn_L_law_538 : decode cn_L_law 538 = .ok (.iadd, 1) := by decide +kernel
theorem dn_L_law_539 : decode cn_L_law 539 = .ok (.iaload, 1) := by decide +kernel
theorem dn_L_law_540 : decode cn_L_law 540 = .ok (.invokevirtual 69, 3) := by decide +kernel
theorem dn_L_law_543 : decode cn_L_law 543 = .ok (.aload_n 2, 1) := by decide +kernel
theorem dn_L_law_544 : decode cn_L_law 544 = .ok (.aload_n 0, 1) := by decide +kernel
theorem dn_L_law_545 : decode cn_L_law 545 = .ok (.iload_n 3, 1) := by decide +kernel
theorem dn_L_law_546 : decode cn_L_law 546 = .ok (.iconst 1, 1) := by decide +kernel
theorem dn_L_law_547 : decode cn_L_law 547 = .ok (.iadd, 1) := by decide +kernel
theorem dn_L_law_548 : decode cn_L_law 548 = .ok (.iaload, 1) := by decide +kernel
theorem dn_L_law_549 : decode cn_L_law 549 = .ok (.invokevirtual 73, 3) := by decide +kernel
theorem dn_L_law_552 : decode cn_L_law 552 = .ok (.if_icmp .eq 253, 3) := by decide +kernel
theorem dn_L_law_555 : decode cn_L_law 555 = .ok (.iconst 0, 1) := by decide +kernel
theorem dn_L_law_556 : decode cn_L_law 556 = .ok (.ireturn, 1) := by decide +kernel
theorem dn_L_law_557 : decode cn_L_law 557 = .ok (.aload_n 1, 1) := by decide +kernel
theorem dn_L_law_558 : decode cn_L_law 558 = .ok (.aload_n 0, 1) := by decide +kernel
theorem dn_L_law_559 : decode cn_L_law 559 = .ok (.iload_n 3, 1) := by decide +kernel
theorem dn_L_law_560 : decode cn_L_law 560 = .ok (.iconst 1, 1) := by decide +kernel
theorem dn_L_law_561 : decode cn_L_law 561 = .ok (.iadd, 1) := by decide +kernel
theorem dn_L_law_562 : decode cn_L_law 562 = .ok (.iaload, 1) := by decide +kernel
theorem dn_L_law_563 : decode cn_L_law 563 = .ok (.aload_n 0, 1) := by decide +kernel
theorem dn_L_law_564 : decode cn_L_law 564 = .ok (.iload_n 3, 1) := by decide +kernel
theorem dn_L_law_565 : decode cn_L_law 565 = .ok (.iconst 2, 1) := by decide +kernel
theorem dn_L_law_566 : decode cn_L_law 566 = .ok (.iadd, 1) := by decide +kernel
theorem dn_L_law_567 : decode cn_L_law 567 = .ok (.iaload, 1) := by decide +kernel
theorem dn_L_law_568 : decode cn_L_law 568 = .ok (.aload_n 0, 1) := by decide +kernel
theorem dn_L_law_569 : decode cn_L_law 569 = .ok (.iload_n 3, 1) := by decide +kernel
theorem dn_L_law_570 : decode cn_L_law 570 = .ok (.iconst 3, 1) := by decide +kernel
theorem dn_L_law_571 : decode cn_L_law 571 = .ok (.iadd, 1) := by decide +kernel
theorem dn_L_law_572 : decode cn_L_law 572 = .ok (.iaload, 1) := by decide +kernel
theorem dn_L_law_573 : decode cn_L_law 573 = .ok (.invokevirtual 74, 3) := by decide +kernel
theorem dn_L_law_576 : decode cn_L_law 576 = .ok (.aload_n 2, 1) := by decide +kernel
theorem dn_L_law_577 : decode cn_L_law 577 = .ok (.aload_n 0, 1) := by decide +kernel
theorem dn_L_law_578 : decode cn_L_law 578 = .ok (.iload_n 3, 1) := by decide +kernel
theorem dn_L_law_579 : decode cn_L_law 579 = .ok (.iconst 1, 1) := by decide +kernel
theorem dn_L_law_580 : decode cn_L_law 580 = .ok (.iadd, 1) := by decide +kernel
theorem dn_L_law_581 : decode cn_L_law 581 = .ok (.iaload, 1) := by decide +kernel
theorem dn_L_law_582 : decode cn_L_law 582 = .ok (.aload_n 0, 1) := by decide +kernel
theorem dn_L_law_583 : decode cn_L_law 583 = .ok (.iload_n 3, 1) := by decide +kernel
theorem dn_L_law_584 : decode cn_L_law 584 = .ok (.iconst 2, 1) := by decide +kernel
theorem dn_L_law_585 : decode cn_L_law 585 = .ok (.iadd, 1) := by decide +kernel
theorem dn_L_law_586 : decode cn_L_law 586 = .ok (.iaload, 1) := by decide +kernel
theorem dn_L_law_587 : decode cn_L_law 587 = .ok (.aload_n 0, 1) := by decide +kernel
theorem dn_L_law_588 : decode cn_L_law 588 = .ok (.iload_n 3, 1) := by decide +kernel
theorem dn_L_law_589 : decode cn_L_law 589 = .ok (.iconst 3, 1) := by decide +kernel
theorem dn_L_law_590 : decode cn_L_law 590 = .ok (.iadd, 1) := by decide +kernel
theorem dn_L_law_591 : decode cn_L_law 591 = .ok (.iaload, 1) := by decide +kernel
theorem dn_L_law_592 : decode cn_L_law 592 = .ok (.invokevirtual 78, 3) := by decide +kernel
theorem dn_L_law_595 : decode cn_L_law 595 = .ok (.if_icmp .eq 210, 3) := by decide +kernel
theorem dn_L_law_598 : decode cn_L_law 598 = .ok (.iconst 0, 1) := by decide +kernel
theorem dn_L_law_599 : decode cn_L_law 599 = .ok (.ireturn, 1) := by decide +kernel
theorem dn_L_law_600 : decode cn_L_law 600 = .ok (.aload_n 1, 1) := by decide +kernel
theorem dn_L_law_601 : decode cn_L_law 601 = .ok (.aload_n 0, 1) := by decide +kernel
theorem dn_L_law_602 : decode cn_L_law 602 = .ok (.iload_n 3, 1) := by decide +kernel
theorem dn_L_law_603 : decode cn_L_law 603 = .ok (.iconst 1, 1) := by decide +kernel
theorem dn_L_law_604 : decode cn_L_law 604 = .ok (.iadd, 1) := by decide +kernel
theorem dn_L_law_605 : decode cn_L_law 605 = .ok (.iaload, 1) := by decide +kernel
theorem dn_L_law_606 : decode cn_L_law 606 = .ok (.aload_n 0, 1) := by decide +kernel
theorem dn_L_law_607 : decode cn_L_law 607 = .ok (.iload_n 3, 1) := by decide +kernel
theorem dn_L_law_608 : decode cn_L_law 608 = .ok (.iconst 2, 1) := by decide +kernel
theorem dn_L_law_609 : decode cn_L_law 609 = .ok (.iadd, 1) := by decide +kernel
theorem dn_L_law_610 : decode cn_L_law 610 = .ok (.iaload, 1) := by decide +kernel
theorem dn_L_law_611 : decode cn_L_law 611 = .ok (.aload_n 0, 1) := by decide +kernel
theorem dn_L_law_612 : decode cn_L_law 612 = .ok (.iload_n 3, 1) := by decide +kernel
theorem dn_L_law_613 : decode cn_L_law 613 = .ok (.iconst 3, 1) := by decide +kernel
theorem dn_L_law_614 : decode cn_L_law 614 = .ok (.iadd, 1) := by decide +kernel
theorem dn_L_law_615 : decode cn_L_law 615 = .ok (.iaload, 1) := by decide +kernel
theorem dn_L_law_616 : decode cn_L_law 616 = .ok (.aload_n 0, 1) := by decide +kernel
theorem dn_L_law_617 : decode cn_L_law 617 = .ok (.iload_n 3, 1) := by decide +kernel
theorem dn_L_law_618 : decode cn_L_law 618 = .ok (.iconst 4, 1) := by decide +kernel
theorem dn_L_law_619 : decode cn_L_law 619 = .ok (.iadd, 1) := by decide +kernel
theorem dn_L_law_620 : decode cn_L_law 620 = .ok (.iaload, 1) := by decide +kernel
theorem dn_L_law_621 : decode cn_L_law 621 = .ok (.invokevirtual 79, 3) := by decide +kernel
theorem dn_L_law_624 : decode cn_L_law 624 = .ok (.aload_n 2, 1) := by decide +kernel
theorem dn_L_law_625 : decode cn_L_law 625 = .ok (.aload_n 0, 1) := by decide +kernel
theorem dn_L_law_626 : decode cn_L_law 626 = .ok (.iload_n 3, 1) := by decide +kernel
theorem dn_L_law_627 : decode cn_L_law 627 = .ok (.iconst 1, 1) := by decide +kernel
theorem dn_L_law_628 : decode cn_L_law 628 = .ok (.iadd, 1) := by decide +kernel
theorem dn_L_law_629 : decode cn_L_law 629 = .ok (.iaload, 1) := by decide +kernel
theorem dn_L_law_630 : decode cn_L_law 630 = .ok (.aload_n 0, 1) := by decide +kernel
theorem dn_L_law_631 : decode cn_L_law 631 = .ok (.iload_n 3, 1) := by decide +kernel
theorem dn_L_law_632 : decode cn_L_law 632 = .ok (.iconst 2, 1) := by decide +kernel
theorem dn_L_law_633 : decode cn_L_law 633 = .ok (.iadd, 1) := by decide +kernel
theorem dn_L_law_634 : decode cn_L_law 634 = .ok (.iaload, 1) := by decide +kernel
theorem dn_L_law_635 : decode cn_L_law 635 = .ok (.aload_n 0, 1) := by decide +kernel
theorem dn_L_law_636 : decode cn_L_law 636 = .ok (.iload_n 3, 1) := by decide +kernel
theorem dn_L_law_637 : decode cn_L_law 637 = .ok (.iconst 3, 1) := by decide +kernel
theorem dn_L_law_638 : decode cn_L_law 638 = .ok (.iadd, 1) := by decide +kernel
theorem dn_L_law_639 : decode cn_L_law 639 = .ok (.iaload, 1) := by decide +kernel
theorem dn_L_law_640 : decode cn_L_law 640 = .ok (.aload_n 0, 1) := by decide +kernel
theorem dn_L_law_641 : decode cn_L_law 641 = .ok (.iload_n 3, 1) := by decide +kernel
theorem dn_L_law_642 : decode cn_L_law 642 = .ok (.iconst 4, 1) := by decide +kernel
theorem dn_L_law_643 : decode cn_L_law 643 = .ok (.iadd, 1) := by decide +kernel
theorem dn_L_law_644 : decode cn_L_law 644 = .ok (.iaload, 1) := by decide +kernel
theorem dn_L_law_645 : decode cn_L_law 645 = .ok (.invokevirtual 83, 3) := by decide +kernel
theorem dn_L_law_648 : decode cn_L_law 648 = .ok (.if_icmp .eq 157, 3) := by decide +kernel
theorem dn_L_law_651 : decode cn_L_law 651 = .ok (.iconst 0, 1) := by decide +kernel
theorem dn_L_law_652 : decode cn_L_law 652 = .ok (.ireturn, 1) := by decide +kernel
theorem dn_L_law_653 : decode cn_L_law 653 = .ok (.aload_n 1, 1) := by decide +kernel
theorem dn_L_law_654 : decode cn_L_law 654 = .ok (.aload_n 0, 1) := by decide +kernel
theorem dn_L_law_655 : decode cn_L_law 655 = .ok (.iload_n 3, 1) := by decide +kernel
theorem dn_L_law_656 : decode cn_L_law 656 = .ok (.iconst 1, 1) := by decide +kernel
theorem dn_L_law_657 : decode cn_L_law 657 = .ok (.iadd, 1) := by decide +kernel
theorem dn_L_law_658 : decode cn_L_law 658 = .ok (.iaload, 1) := by decide +kernel
theorem dn_L_law_659 : decode cn_L_law 659 = .ok (.invokevirtual 84, 3) := by decide +kernel
theorem dn_L_law_662 : decode cn_L_law 662 = .ok (.aload_n 2, 1) := by decide +kernel
theorem dn_L_law_663 : decode cn_L_law 663 = .ok (.aload_n 0, 1) := by decide +kernel
theorem dn_L_law_664 : decode cn_L_law 664 = .ok (.iload_n 3, 1) := by decide +kernel
theorem dn_L_law_665 : decode cn_L_law 665 = .ok (.iconst 1, 1) := by decide +kernel
theorem dn_L_law_666 : decode cn_L_law 666 = .ok (.iadd, 1) := by decide +kernel
theorem dn_L_law_667 : decode cn_L_law 667 = .ok (.iaload, 1) := by decide +kernel
theorem dn_L_law_668 : decode cn_L_law 668 = .ok (.invokevirtual 87, 3) := by decide +kernel
theorem dn_L_law_671 : decode cn_L_law 671 = .ok (.lcmp, 1) := by decide +kernel
theorem dn_L_law_672 : decode cn_L_law 672 = .ok (.ifCond .eq 133, 3) := by decide +kernel
theorem dn_L_law_675 : decode cn_L_law 675 = .ok (.iconst 0, 1) := by decide +kernel
theorem dn_L_law_676 : decode cn_L_law 676 = .ok (.ireturn, 1) := by decide +kernel
theorem dn_L_law_677 : decode cn_L_law 677 = .ok (.aload_n 1, 1) := by decide +kernel
theorem dn_L_law_678 : decode cn_L_law 678 = .ok (.aload_n 0, 1) := by decide +kernel
theorem dn_L_law_679 : decode cn_L_law 679 = .ok (.iload_n 3, 1) := by decide +kernel
theorem dn_L_law_680 : decode cn_L_law 680 = .ok (.iconst 1, 1) := by decide +kernel
theorem dn_L_law_681 : decode cn_L_law 681 = .ok (.iadd, 1) := by decide +kernel
theorem dn_L_law_682 : decode cn_L_law 682 = .ok (.iaload, 1) := by decide +kernel
theorem dn_L_law_683 : decode cn_L_law 683 = .ok (.aload_n 0, 1) := by decide +kernel
theorem dn_L_law_684 : decode cn_L_law 684 = .ok (.iload_n 3, 1) := by decide +kernel
theorem dn_L_law_685 : decode cn_L_law 685 = .ok (.iconst 2, 1) := by decide +kernel
theorem dn_L_law_686 : decode cn_L_law 686 = .ok (.iadd, 1) := by decide +kernel
theorem dn_L_law_687 : decode cn_L_law 687 = .ok (.iaload, 1) := by decide +kernel
theorem dn_L_law_688 : decode cn_L_law 688 = .ok (.invokevirtual 88, 3) := by decide +kernel
theorem dn_L_law_691 : decode cn_L_law 691 = .ok (.aload_n 2, 1) := by decide +kernel
theorem dn_L_law_692 : decode cn_L_law 692 = .ok (.aload_n 0, 1) := by decide +kernel
theorem dn_L_law_693 : decode cn_L_law 693 = .ok (.iload_n 3, 1) := by decide +kernel
theorem dn_L_law_694 : decode cn_L_law 694 = .ok (.iconst 1, 1) := by decide +kernel
theorem dn_L_law_695 : decode cn_L_law 695 = .ok (.iadd, 1) := by decide +kernel
theorem dn_L_law_696 : decode cn_L_law 696 = .ok (.iaload, 1) := by decide +kernel
theorem dn_L_law_697 : decode cn_L_law 697 = .ok (.aload_n 0, 1) := by decide +kernel
theorem dn_L_law_698 : decode cn_L_law 698 = .ok (.iload_n 3, 1) := by decide +kernel
theorem dn_L_law_699 : decode cn_L_law 699 = .ok (.iconst 2, 1) := by decide +kernel
theorem dn_L_law_700 : decode cn_L_law 700 = .ok (.iadd, 1) := by decide +kernel
theorem dn_L_law_701 : decode cn_L_law 701 = .ok (.iaload, 1) := by decide +kernel
theorem dn_L_law_702 : decode cn_L_law 702 = .ok (.invokevirtual 92, 3) := by decide +kernel
theorem dn_L_law_705 : decode cn_L_law 705 = .ok (.if_icmp .eq 100, 3) := by decide +kernel
theorem dn_L_law_708 : decode cn_L_law 708 = .ok (.iconst 0, 1) := by decide +kernel
theorem dn_L_law_709 : decode cn_L_law 709 = .ok (.ireturn, 1) := by decide +kernel
theorem dn_L_law_710 : decode cn_L_law 710 = .ok (.aload_n 1, 1) := by decide +kernel
theorem dn_L_law_711 : decode cn_L_law 711 = .ok (.aload_n 0, 1) := by decide +kernel
theorem dn_L_law_712 : decode cn_L_law 712 = .ok (.iload_n 3, 1) := by decide +kernel
theorem dn_L_law_713 : decode cn_L_law 713 = .ok (.iconst 1, 1) := by decide +kernel
theorem dn_L_law_714 : decode cn_L_law 714 = .ok (.iadd, 1) := by decide +kernel
theorem dn_L_law_715 : decode cn_L_law 715 = .ok (.iaload, 1) := by decide +kernel
theorem dn_L_law_716 : decode cn_L_law 716 = .ok (.ifCond .eq 7, 3) := by decide +kernel
theorem dn_L_law_719 : decode cn_L_law 719 = .ok (.iconst 1, 1) := by decide +kernel
theorem dn_L_law_720 : decode cn_L_law 720 = .ok (.goto 4, 3) := by decide +kernel
theorem dn_L_law_723 : decode cn_L_law 723 = .ok (.iconst 0, 1) := by decide +kernel
theorem dn_L_law_724 : decode cn_L_law 724 = .ok (.invokevirtual 93, 3) := by decide +kernel
theorem dn_L_law_727 : decode cn_L_law 727 = .ok (.aload_n 2, 1) := by decide +kernel
theorem dn_L_law_728 : decode cn_L_law 728 = .ok (.aload_n 0, 1) := by decide +kernel
theorem dn_L_law_729 : decode cn_L_law 729 = .ok (.iload_n 3, 1) := by decide +kernel
theorem dn_L_law_730 : decode cn_L_law 730 = .ok (.iconst 1, 1) := by decide +kernel
theorem dn_L_law_731 : decode cn_L_law 731 = .ok (.iadd, 1) := by decide +kernel
theorem dn_L_law_732 : decode cn_L_law 732 = .ok (.iaload, 1) := by decide +kernel
theorem dn_L_law_733 : decode cn_L_law 733 = .ok (.ifCond .eq 7, 3) := by decide +kernel
theorem dn_L_law_736 : decode cn_L_law 736 = .ok (.iconst 1, 1) := by decide +kernel
theorem dn_L_law_737 : decode cn_L_law 737 = .ok (.goto 4, 3) := by decide +kernel
theorem dn_L_law_740 : decode cn_L_law 740 = .ok (.iconst 0, 1) := by decide +kernel
theorem dn_L_law_741 : decode cn_L_law 741 = .ok (.invokevirtual 97, 3) := by decide +kernel
theorem dn_L_law_744 : decode cn_L_law 744 = .ok (.if_icmp .eq 61, 3) := by decide +kernel
theorem dn_L_law_747 : decode cn_L_law 747 = .ok (.iconst 0, 1) := by decide +kernel
theorem dn_L_law_748 : decode cn_L_law 748 = .ok (.ireturn, 1) := by decide +kernel
theorem dn_L_law_749 : decode cn_L_law 749 = .ok (.aload_n 1, 1) := by decide +kernel
theorem dn_L_law_750 : decode cn_L_law 750 = .ok (.aload_n 0, 1) := by decide +kernel
theorem dn_L_law_751 : decode cn_L_law 751 = .ok (.iload_n 3, 1) := by decide +kernel
theorem dn_L_law_752 : decode cn_L_law 752 = .ok (.iconst 1, 1) := by decide +kernel
theorem dn_L_law_753 : decode cn_L_law 753 = .ok (.iadd, 1) := by decide +kernel
theorem dn_L_law_754 : decode cn_L_law 754 = .ok (.iaload, 1) := by decide +kernel
theorem dn_L_law_755 : decode cn_L_law 755 = .ok (.invokevirtual 98, 3) := by decide +kernel
theorem dn_L_law_758 : decode cn_L_law 758 = .ok (.aload_n 2, 1) := by decide +kernel
theorem dn_L_law_759 : decode cn_L_law 759 = .ok (.aload_n 0, 1) := by decide +kernel
theorem dn_L_law_760 : decode cn_L_law 760 = .ok (.iload_n 3, 1) := by decide +kernel
theorem dn_L_law_761 : decode cn_L_law 761 = .ok (.iconst 1, 1) := by decide +kernel
theorem dn_L_law_762 : decode cn_L_law 762 = .ok (.iadd, 1) := by decide +kernel
theorem dn_L_law_763 : decode cn_L_law 763 = .ok (.iaload, 1) := by decide +kernel
theorem dn_L_law_764 : decode cn_L_law 764 = .ok (.invokevirtual 101, 3) := by decide +kernel
theorem dn_L_law_767 : decode cn_L_law 767 = .ok (.if_icmp .eq 38, 3) := by decide +kernel
theorem dn_L_law_770 : decode cn_L_law 770 = .ok (.iconst 0, 1) := by decide +kernel
theorem dn_L_law_771 : decode cn_L_law 771 = .ok (.ireturn, 1) := by decide +kernel
theorem dn_L_law_772 : decode cn_L_law 772 = .ok (.aload_n 1, 1) := by decide +kernel
theorem dn_L_law_773 : decode cn_L_law 773 = .ok (.aload_n 0, 1) := by decide +kernel
theorem dn_L_law_774 : decode cn_L_law 774 = .ok (.iload_n 3, 1) := by decide +kernel
theorem dn_L_law_775 : decode cn_L_law 775 = .ok (.iconst 1, 1) := by decide +kernel
theorem dn_L_law_776 : decode cn_L_law 776 = .ok (.iadd, 1) := by decide +kernel
theorem dn_L_law_777 : decode cn_L_law 777 = .ok (.iaload, 1) := by decide +kernel
theorem dn_L_law_778 : decode cn_L_law 778 = .ok (.aload_n 0, 1) := by decide +kernel
theorem dn_L_law_779 : decode cn_L_law 779 = .ok (.iload_n 3, 1) := by decide +kernel
theorem dn_L_law_780 : decode cn_L_law 780 = .ok (.iconst 2, 1) := by decide +kernel
theorem dn_L_law_781 : decode cn_L_law 781 = .ok (.iadd, 1) := by decide +kernel
theorem dn_L_law_782 : decode cn_L_law 782 = .ok (.iaload, 1) := by decide +kernel
theorem dn_L_law_783 : decode cn_L_law 783 = .ok (.invokevirtual 102, 3) := by decide +kernel
theorem dn_L_law_786 : decode cn_L_law 786 = .ok (.aload_n 2, 1) := by decide +kernel
theorem dn_L_law_787 : decode cn_L_law 787 = .ok (.aload_n 0, 1) := by decide +kernel
theorem dn_L_law_788 : decode cn_L_law 788 = .ok (.iload_n 3, 1) := by decide +kernel
theorem dn_L_law_789 : decode cn_L_law 789 = .ok (.iconst 1, 1) := by decide +kernel
theorem dn_L_law_790 : decode cn_L_law 790 = .ok (.iadd, 1) := by decide +kernel
theorem dn_L_law_791 : decode cn_L_law 791 = .ok (.iaload, 1) := by decide +kernel
theorem dn_L_law_792 : decode cn_L_law 792 = .ok (.aload_n 0, 1) := by decide +kernel
theorem dn_L_law_793 : decode cn_L_law 793 = .ok (.iload_n 3, 1) := by decide +kernel
theorem dn_L_law_794 : decode cn_L_law 794 = .ok (.iconst 2, 1) := by decide +kernel
theorem dn_L_law_795 : decode cn_L_law 795 = .ok (.iadd, 1) := by decide +kernel
theorem dn_L_law_796 : decode cn_L_law 796 = .ok (.iaload, 1) := by decide +kernel
theorem dn_L_law_797 : decode cn_L_law 797 = .ok (.invokevirtual 105, 3) := by decide +kernel
theorem dn_L_law_800 : decode cn_L_law 800 = .ok (.if_icmp .eq 5, 3) := by decide +kernel
theorem dn_L_law_803 : decode cn_L_law 803 = .ok (.iconst 0, 1) := by decide +kernel
theorem dn_L_law_804 : decode cn_L_law 804 = .ok (.ireturn, 1) := by decide +kernel
theorem dn_L_law_805 : decode cn_L_law 805 = .ok (.iinc 3 5, 3) := by decide +kernel
theorem dn_L_law_808 : decode cn_L_law 808 = .ok (.goto (-790), 3) := by decide +kernel
theorem dn_L_law_811 : decode cn_L_law 811 = .ok (.iconst 1, 1) := by decide +kernel
theorem dn_L_law_812 : decode cn_L_law 812 = .ok (.ireturn, 1) := by decide +kernel

def lw_kk (pp : Program) (l : Launch) (ee : Env) (ss : State) (mm : MethodId) (be : List Frame) (me : Method) (cd : Code) (sb : Nat) (dC : Nat → ClassId) (dI : Nat → Nat → Nat) (cI cZ : ClassId) (ad bd : Nat → Nat) (H0 : Heap) (A : Nat → Prop) (Q : State → Prop) (k pc : Nat) (B : Nat) : Prop := ∀ (clk : Nat) (pw lf : Int32) (f g fd : Nat → Int32) (fc : Nat) (dr : Nat → Int32) (K : ct_T) (en : Nat) (U : ct_T) (ea : Nat) (X Y Z : Nat → Int32) (sa ff fn bq : Nat) (sn ob : Nat) (S D G : Nat → Int32) (sm : Nat) (Ym Zm Xm : Nat → Int32) (ef ec fu : Nat) (ls : Array Slot) (H : Heap) (locs : List Loc), xr f clk pw K en → fc ≤ 12 → clk ≤ B → lv_has ls 4 [(0, .ref sb), (1, .ref (ad 0)), (2, .ref (bd 0)), (3, .int (nI (5 * k)))] → va_P (dC, dI) vwCl [(ad 0, .inr (4, [.ref (ad 7), .ref (ad 2), .ref (ad 10), .ref (ad 17), .ref (ad 15), .ref (ad 1), .int (nI clk), .int pw, .int lf])), (ad 1, .inl (cI, 7, .inl dr)), (ad 2, .inr (0, [.ref (ad 3), .ref (ad 4), .ref (ad 5), .ref (ad 6), .int (nI K.1), .int (nI en)])), (ad 3, .inl (cI, 13, .inl K.2.1)), (ad 4, .inl (cI, 13, .inl K.2.2.1)), (ad 5, .inl (cI, 13, .inl K.2.2.2.1)), (ad 6, .inl (cI, 13, .inl K.2.2.2.2)), (ad 7, .inr (3, [.ref (ad 8), .ref (ad 9)])), (ad 8, .inl (cI, 292, .inl f)), (ad 9, .inl (cI, 40, .inl g)), (ad 10, .inr (0, [.ref (ad 11), .ref (ad 12), .ref (ad 13), .ref (ad 14), .int (nI U.1), .int (nI ea)])), (ad 11, .inl (cI, 13, .inl U.2.1)), (ad 12, .inl (cI, 13, .inl U.2.2.1)), (ad 13, .inl (cI, 13, .inl U.2.2.2.1)), (ad 14, .inl (cI, 13, .inl U.2.2.2.2)), (ad 15, .inr (2, [.ref (ad 16), .int (nI fc)])), (ad 16, .inl (cI, 12, .inl fd)), (ad 17, .inr (1, [.ref (ad 18), .ref (ad 19), .ref (ad 20), .int (nI sa), .int (nI ff), .int (nI fn), .int (nI bq)])), (ad 18, .inl (cZ, 6, .inl X)), (ad 19, .inl (cI, 6, .inl Y)), (ad 20, .inl (cI, 6, .inl Z)), (bd 0, .inr (5, [.ref (bd 1), .int (nI clk), .int pw, .int lf, .ref (bd 2), .int (nI fc), .int (nI sn), .int (nI ob), .ref (bd 3), .ref (bd 4), .ref (bd 5), .int (nI sm), .ref (bd 6), .ref (bd 7), .ref (bd 8), .int (nI ef), .int (nI ec), .int (nI fu), .ref (bd 9)])), (bd 1, .inl (cI, 292, .inl f)), (bd 2, .inl (cI, 12, .inl fd)), (bd 3, .inl (cI, 13, .inl S)), (bd 4, .inl (cI, 13, .inl D)), (bd 5, .inl (cI, 13, .inl G)), (bd 6, .inl (cI, 8, .inl Ym)), (bd 7, .inl (cI, 8, .inl Zm)), (bd 8, .inl (cZ, 8, .inl Xm)), (bd 9, .inl (cI, 40, .inl g))] H → va_D A [(ad 0, .inr (4, [.ref (ad 7), .ref (ad 2), .ref (ad 10), .ref (ad 17), .ref (ad 15), .ref (ad 1), .int (nI clk), .int pw, .int lf])), (ad 1, .inl (cI, 7, .inl dr)), (ad 2, .inr (0, [.ref (ad 3), .ref (ad 4), .ref (ad 5), .ref (ad 6), .int (nI K.1), .int (nI en)])), (ad 3, .inl (cI, 13, .inl K.2.1)), (ad 4, .inl (cI, 13, .inl K.2.2.1)), (ad 5, .inl (cI, 13, .inl K.2.2.2.1)), (ad 6, .inl (cI, 13, .inl K.2.2.2.2)), (ad 7, .inr (3, [.ref (ad 8), .ref (ad 9)])), (ad 8, .inl (cI, 292, .inl f)), (ad 9, .inl (cI, 40, .inl g)), (ad 10, .inr (0, [.ref (ad 11), .ref (ad 12), .ref (ad 13), .ref (ad 14), .int (nI U.1), .int (nI ea)])), (ad 11, .inl (cI, 13, .inl U.2.1)), (ad 12, .inl (cI, 13, .inl U.2.2.1)), (ad 13, .inl (cI, 13, .inl U.2.2.2.1)), (ad 14, .inl (cI, 13, .inl U.2.2.2.2)), (ad 15, .inr (2, [.ref (ad 16), .int (nI fc)])), (ad 16, .inl (cI, 12, .inl fd)), (ad 17, .inr (1, [.ref (ad 18), .ref (ad 19), .ref (ad 20), .int (nI sa), .int (nI ff), .int (nI fn), .int (nI bq)])), (ad 18, .inl (cZ, 6, .inl X)), (ad 19, .inl (cI, 6, .inl Y)), (ad 20, .inl (cI, 6, .inl Z)), (bd 0, .inr (5, [.ref (bd 1), .int (nI clk), .int pw, .int lf, .ref (bd 2), .int (nI fc), .int (nI sn), .int (nI ob), .ref (bd 3), .ref (bd 4), .ref (bd 5), .int (nI sm), .ref (bd 6), .ref (bd 7), .ref (bd 8), .int (nI ef), .int (nI ec), .int (nI fu), .ref (bd 9)])), (bd 1, .inl (cI, 292, .inl f)), (bd 2, .inl (cI, 12, .inl fd)), (bd 3, .inl (cI, 13, .inl S)), (bd 4, .inl (cI, 13, .inl D)), (bd 5, .inl (cI, 13, .inl G)), (bd 6, .inl (cI, 8, .inl Ym)), (bd 7, .inl (cI, 8, .inl Zm)), (bd 8, .inl (cZ, 8, .inl Xm)), (bd 9, .inl (cI, 40, .inl g))] → va_S A H0 H locs → W pp l ee room_1 ss mm #[Value.ref sb] be me cd H locs 31 931 Q (F0 mm pc ls [])
