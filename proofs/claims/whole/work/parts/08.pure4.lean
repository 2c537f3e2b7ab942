/-! words that are written: image, power, words left -/
abbrev wr_T : Type := (Nat → Int32) × Int32 × Int32
def wr_1 (x : wr_T) (a : Nat) (v : Int32) : wr_T := if x.2.1 = 1 then (if x.2.2 = 0 then (x.1, 0, -1) else (upd x.1 a v, 1, if 0 < x.2.2 then x.2.2 - 1 else x.2.2)) else x
def wr_n (x : wr_T) (a : Nat) (g : Nat → Int32) : Nat → wr_T
  | 0 => x
  | k + 1 => wr_1 (wr_n x a g k) (a + k) (g k)
theorem wr_1_off {x : wr_T} (a : Nat) (v : Int32) (h : x.2.1 ≠ 1) : wr_1 x a v = x := by rw [wr_1, if_neg h]
theorem wr_1_pw {x : wr_T} (a : Nat) (v : Int32) (h : x.2.1 = 0 ∨ x.2.1 = 1) : (wr_1 x a v).2.1 = 0 ∨ (wr_1 x a v).2.1 = 1 := by
  unfold wr_1
  by_cases h1 : x.2.1 = 1
  · rw [if_pos h1]
    by_cases h2 : x.2.2 = 0
    · rw [if_pos h2]; exact Or.inl rfl
    · rw [if_neg h2]; exact Or.inr rfl
  · rw [if_neg h1]; exact h
theorem wr_n_pw {x : wr_T} (a : Nat) (g : Nat → Int32) (h : x.2.1 = 0 ∨ x.2.1 = 1) : ∀ k, (wr_n x a g k).2.1 = 0 ∨ (wr_n x a g k).2.1 = 1
  | 0 => h
  | k + 1 => wr_1_pw _ _ (wr_n_pw a g h k)
theorem wr_n_off {x : wr_T} {a : Nat} {g : Nat → Int32} {k : Nat} (h : (wr_n x a g k).2.1 ≠ 1) : ∀ i, wr_n x a g (k + i) = wr_n x a g k
  | 0 => rfl
  | i + 1 => by
    have e := wr_n_off h i
    rw [← Nat.add_assoc, wr_n, e, wr_1_off _ _ h]
theorem wr_n_off0 {x : wr_T} {a : Nat} {g : Nat → Int32} (h : x.2.1 ≠ 1) (k : Nat) : wr_n x a g k = x := by
  have := wr_n_off (x := x) (a := a) (g := g) (k := 0) h k
  rw [Nat.zero_add] at this
  exact this
theorem wr_1_on {x : wr_T} {a : Nat} {v : Int32} (h : (wr_1 x a v).2.1 = 1) : x.2.1 = 1 ∧ (wr_1 x a v).1 = upd x.1 a v := by
  unfold wr_1 at h ⊢
  by_cases h1 : x.2.1 = 1
  · rw [if_pos h1] at h ⊢
    by_cases h2 : x.2.2 = 0
    · rw [if_pos h2] at h; exact absurd (show (0 : Int32) = 1 from h) (by decide)
    · rw [if_neg h2]; exact ⟨h1, rfl⟩
  · rw [if_neg h1] at h; exact absurd h h1
theorem wr_n_on {x : wr_T} {a : Nat} {g : Nat → Int32} : ∀ k, (wr_n x a g k).2.1 = 1 → x.2.1 = 1 ∧ ∀ j, (wr_n x a g k).1 j = if a ≤ j ∧ j < a + k then g (j - a) else x.1 j
  | 0, h => ⟨h, fun j => by rw [if_neg (by omega)]; rfl⟩
  | k + 1, h => by
    obtain ⟨h1, h2⟩ := wr_1_on h
    obtain ⟨h3, h4⟩ := wr_n_on k h1
    refine ⟨h3, fun j => ?_⟩
    rw [wr_n, h2]
    by_cases hj : j = a + k
    · subst hj
      rw [ct_us, if_pos ⟨by omega, by omega⟩, Nat.add_sub_cancel_left]
    · rw [ct_un hj, h4 j]
      by_cases hq : a ≤ j ∧ j < a + k
      · rw [if_pos hq, if_pos ⟨hq.1, by omega⟩]
      · rw [if_neg hq, if_neg (fun z => hq ⟨z.1, by omega⟩)]
/-- a record's words -/
def rc_w (kind id v c0 c1 t : Int32) : Nat → Int32 := fun j => if j = 0 then kind else if j = 1 then id else if j = 2 then v else if j = 3 then c0 else if j = 4 then c1 else if j = 5 then t else hf_mix (hf_mix (hf_mix (hf_mix (hf_mix (hf_mix 1 kind) id) v) c0) c1) t ||| 1
theorem rc_leaf {f : Nat → Int32} {a : Nat} {kind id v c0 c1 t : Int32} (h : ∀ j, j < 7 → f (a + j) = rc_w kind id v c0 c1 t j) : f (a + 6) = (hf_leaf f a ||| 1) := by
  rw [h 6 (by decide)]
  unfold hf_leaf
  simp only [hf_lf]
  rw [h 0 (by decide), h 1 (by decide), h 2 (by decide), h 3 (by decide), h 4 (by decide), h 5 (by decide)]
  rfl
/-- the record of an allowed request is sound -/
theorem rc_ok {f f' : Nat → Int32} {k : Int32} {n : Nat} {kind id v c0 c1 : Int32} (h : ct_n f k n) (hk0 : 0 ≤ k) (h0 : ∀ j, j < 7 * n → f' j = f j) (hw : ∀ j, j < 7 → f' (7 * n + j) = rc_w kind id v c0 c1 k j)
    (k1 : 1 ≤ kind) (k6 : kind ≤ 6) (hc : kind ≠ 1 → c0 = 0 ∧ c1 = 0) (hv : 5 ≤ kind → v = 0) (hi : kind = 1 → id = nI ((ct_st f n).1 + 1)) (hr : ct_ruC (ct_st f n) kind id v k = 0) : ct_ok f' k n := by
  have e0 := hw 0 (by decide)
  have e1 := hw 1 (by decide)
  have e2 := hw 2 (by decide)
  have e3 := hw 3 (by decide)
  have e4 := hw 4 (by decide)
  have e5 := hw 5 (by decide)
  rw [Nat.add_zero] at e0
  have r0 : rc_w kind id v c0 c1 k 0 = kind := rfl
  have r1 : rc_w kind id v c0 c1 k 1 = id := rfl
  have r2 : rc_w kind id v c0 c1 k 2 = v := rfl
  have r3 : rc_w kind id v c0 c1 k 3 = c0 := rfl
  have r4 : rc_w kind id v c0 c1 k 4 = c1 := rfl
  have r5 : rc_w kind id v c0 c1 k 5 = k := rfl
  unfold ct_ok
  rw [ct_st_cg h0 n (Nat.le_refl n), e0, e1, e2, e3, e4, e5, r0, r1, r2, r3, r4, r5]
  refine ⟨rc_leaf hw, k1, k6, ?_, Int32.le_refl k, hc, hv, hi, hr⟩
  unfold ct_bf
  by_cases hn : n = 0
  · rw [if_pos hn]; exact hk0
  · rw [if_neg hn, h0 _ (by omega)]
    exact (h.2.1 (n - 1) (by omega)).2.2.2.2.1
