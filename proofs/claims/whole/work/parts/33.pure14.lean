/-! answers by what the reference's replay found -/
section MD
variable {f g : Nat → Int32} {clk n : Nat} {pw id j w : Int32} {K : ct_T}
theorem md_C (hn : ct_n f (nI clk) n) : ct_C f clk = ct_st f n := by unfold ct_C; rw [ct_N_is hn]
theorem md_off {A : Prop} (h : pw = 0) : ¬ (pw = 1 ∧ A) := fun q => absurd (h.symm.trans q.1) (by decide)
theorem md_so (hn : ct_n f (nI clk) n) (heq : ct_eq K (ct_st f n)) {i : Nat} (i1 : 1 ≤ i) (i2 : i ≤ K.1) : ct_so (ct_C f clk) (ct_C f clk).2.1 (nI i) = K.2.1 i := by
  have h12 := (ct_iv_n n hn.2.1).1
  rw [md_C hn, ct_so_in i1 (by rw [← heq.1]; exact i2) h12]
  exact (heq.2 i i1 (by rw [← heq.1]; exact i2)).1.symm
theorem md_abs (hn : ct_n f (nI clk) n) (heq : ct_eq K (ct_st f n)) (h : id < 1 ∨ nI K.1 < id) : NN = an_get f clk 1 id j ∧ ∀ w, (-1 : Int32) = an_look f clk 1 id w := by
  have e : (ct_C f clk).1 = K.1 := by rw [md_C hn, heq.1]
  refine ⟨?_, fun w => ?_⟩
  · unfold an_get
    rw [if_neg (fun q => ?_)]
    have := q.2.1
    rw [ct_so_out (by rw [e]; exact h)] at this
    exact absurd this (by decide)
  · unfold an_look; rw [e, if_neg (fun q => q.2 h)]
theorem md_dead (hn : ct_n f (nI clk) n) (heq : ct_eq K (ct_st f n)) {i : Nat} (i1 : 1 ≤ i) (i2 : i ≤ K.1) (h : ¬ K.2.1 i = 1) : NN = an_get f clk 1 (nI i) j := by
  unfold an_get; rw [if_neg (fun q => h (by rw [← md_so hn heq i1 i2]; exact q.2.1))]
theorem md_put (hn : ct_n f (nI clk) n) (heq : ct_eq K (ct_st f n)) {i : Nat} (i1 : 1 ≤ i) (i2 : i ≤ K.1) : ∃ p, p < 40 ∧ (ct_C f clk).2.2.2.2 i = nI p ∧ f (7 * p) = 1 ∧ f (7 * p + 1) = nI i ∧ ∀ q, q < p → ¬ (f (7 * q) = 1 ∧ f (7 * q + 1) = nI i) := by
  obtain ⟨-, p, p1, p2, p3, p4, p5⟩ := (ct_iv_n n hn.2.1).2.1 i i1 (by rw [← heq.1]; exact i2)
  have := hn.1
  exact ⟨p, by omega, by rw [md_C hn]; exact p2, p3, p4, p5⟩
theorem md_get {i p jj : Nat} (hn : ct_n f (nI clk) n) (heq : ct_eq K (ct_st f n)) (ho : K.1 ≤ 12) (i1 : 1 ≤ i) (i2 : i ≤ K.1) (h : K.2.1 i = 1) (hp : p < 40) (hP : (ct_C f clk).2.2.2.2 i = nI p) (hj : jj ≤ 1) : (f (7 * p + 3 + jj) ^^^ hf_mix (hf_mix (f (279 + i)) (nI i)) (nI jj)).toInt64 = an_get f clk 1 (nI i) (nI jj) := by
  have h0 : ¬ (nI jj < 0 ∨ 1 < nI jj) := by
    rintro (q | q)
    · exact nI_pos (by omega) q
    · exact absurd ((nI_ltI (a := 1) (by decide) (by omega)).1 q) (by omega)
  unfold an_get hf_pad
  rw [if_pos ⟨rfl, (md_so hn heq i1 i2).trans h, h0⟩, nI_clamp (by omega), nI_clamp (by omega), hP, nI_clamp (by omega), Nat.add_assoc]
theorem md_look {i : Nat} (hn : ct_n f (nI clk) n) (heq : ct_eq K (ct_st f n)) (ho : K.1 ≤ 12) (i1 : 1 ≤ i) (i2 : i ≤ K.1) (w : Int32) : an_look f clk 1 (nI i) w = if w = 0 then K.2.1 i else if w = 1 then K.2.2.1 i else if w = 2 then K.2.2.2.1 i else -1 := by
  have e : (ct_C f clk).1 = K.1 := by rw [md_C hn, heq.1]
  obtain ⟨e1, e2, e3, -⟩ := heq.2 i i1 (by rw [← heq.1]; exact i2)
  unfold an_look
  rw [e, if_pos ⟨rfl, ru_in i1 i2 ho⟩, nI_clamp (by omega), md_C hn, e1, e2, e3]
theorem lk_2 {w : Int32} (h0 : ¬ w < 0) (h2 : w ≤ 2) (a : ¬ w = 0) (b : ¬ w = 1) : w = 2 := by
  obtain ⟨k, hk, rfl⟩ := nI_of2 (M := 2) (n := 2) (by decide) h0 h2
  rcases (by omega : k = 0 ∨ k = 1 ∨ k = 2) with rfl | rfl | rfl
  · exact absurd rfl a
  · exact absurd rfl b
  · rfl
theorem lk_no {w : Int32} (h : w < 0 ∨ 2 < w) : ¬ w = 0 ∧ ¬ w = 1 ∧ ¬ w = 2 := by
  refine ⟨fun q => ?_, fun q => ?_, fun q => ?_⟩ <;> subst q <;> revert h <;> decide
theorem md_rec (hn : ct_n f (nI clk) n) : nI n = an_rec f clk 1 := by unfold an_rec; rw [if_pos rfl, ct_N_is hn]
theorem md_rono (hn : ct_n f (nI clk) n) (h : w < 0 ∨ nI n < w) : NN = an_root f g clk 1 w ∧ g = nx_root f g clk 1 w := by
  unfold an_root nx_root; rw [ct_N_is hn, if_neg (fun q => q.2 h), if_neg (fun q => q.2 h)]; exact ⟨rfl, rfl⟩
theorem md_ro {m : Nat} (hn : ct_n f (nI clk) n) (h : m ≤ n) : an_root f g clk 1 (nI m) = (rt_v f g m).toInt64 ∧ nx_root f g clk 1 (nI m) = rt_g f g m := by
  have := hn.1
  unfold an_root nx_root; rw [ct_N_is hn, if_pos ⟨rfl, nI_nin h (by omega)⟩, if_pos ⟨rfl, nI_nin h (by omega)⟩, nI_clamp (by omega)]; exact ⟨rfl, rfl⟩
theorem rt_0 : rt_v f g 0 = 0 ∧ rt_g f g 0 = g := by unfold rt_v rt_g; rw [if_pos rfl, if_pos rfl]; exact ⟨rfl, rfl⟩
theorem rt_s {m : Nat} (h : m ≠ 0) : rt_v f g m = tr_of f g 0 m 0 ∧ rt_g f g m = tr_of f g 0 m := by unfold rt_v rt_g; rw [if_neg h, if_neg h]; exact ⟨rfl, rfl⟩
theorem pl_in1 {x : Int32} (h0 : ¬ x < 0) (h1 : x ≤ 291) : ∃ k, k < 292 ∧ x = nI k := by
  obtain ⟨k, hk, e⟩ := nI_of2 (M := 291) (n := 291) (by decide) h0 h1
  exact ⟨k, by omega, e⟩
theorem pl_out1 {x : Int32} (h : x < 0 ∨ ¬ x ≤ 291) : x < 0 ∨ 292 ≤ x := by
  rcases h with h | h
  · exact Or.inl h
  · right
    rw [Int32.le_iff_toInt_le] at h ⊢
    have e1 : (291 : Int32).toInt = 291 := by decide
    have e2 : (292 : Int32).toInt = 292 := by decide
    omega
end MD
