/-! what the power's return wipes -/
def wp_p (f : Nat → Int32) (n a : Nat) : Nat → Int32 := fun j => if 7 * n ≤ j ∧ j < a then 0 else f j
def wp_k (f : Nat → Int32) (C : ct_T) (i : Nat) : Nat → Int32 := fun j => if 280 ≤ j ∧ j < 280 + i ∧ (C.1 < j - 279 ∨ C.2.1 (j - 279) = 3) then 0 else f j
def wp_all (f : Nat → Int32) (n : Nat) : Nat → Int32 := wp_k (wp_p f n 280) (ct_st f n) 12
theorem wp_p_0 (f : Nat → Int32) (n : Nat) : wp_p f n (7 * n) = f := by
  funext j
  unfold wp_p
  rw [if_neg (by omega)]
theorem wp_p_s (f : Nat → Int32) {n a : Nat} (h : 7 * n ≤ a) : upd (wp_p f n a) a 0 = wp_p f n (a + 1) := by
  funext j
  unfold upd wp_p
  by_cases hj : j = a
  · subst hj
    rw [if_pos rfl, if_pos ⟨h, by omega⟩]
  · rw [if_neg hj]
    by_cases q : 7 * n ≤ j ∧ j < a
    · rw [if_pos q, if_pos ⟨q.1, by omega⟩]
    · rw [if_neg q, if_neg (fun z => q ⟨z.1, by omega⟩)]
theorem wp_k_0 (f : Nat → Int32) (C : ct_T) : wp_k f C 0 = f := by
  funext j
  unfold wp_k
  rw [if_neg (by omega)]
theorem wp_k_s (f : Nat → Int32) (C : ct_T) (i : Nat) (h : C.1 < i + 1 ∨ C.2.1 (i + 1) = 3) : upd (wp_k f C i) (280 + i) 0 = wp_k f C (i + 1) := by
  funext j
  unfold upd wp_k
  by_cases hj : j = 280 + i
  · subst hj
    have e : 280 + i - 279 = i + 1 := by omega
    rw [if_pos rfl, e, if_pos ⟨by omega, by omega, h⟩]
  · rw [if_neg hj]
    by_cases q : 280 ≤ j ∧ j < 280 + i ∧ (C.1 < j - 279 ∨ C.2.1 (j - 279) = 3)
    · rw [if_pos q, if_pos ⟨q.1, by omega, q.2.2⟩]
    · rw [if_neg q, if_neg (fun z => q ⟨z.1, by omega, z.2.2⟩)]
theorem wp_k_n (f : Nat → Int32) (C : ct_T) (i : Nat) (h : ¬ (C.1 < i + 1 ∨ C.2.1 (i + 1) = 3)) : wp_k f C i = wp_k f C (i + 1) := by
  funext j
  unfold wp_k
  by_cases hj : j = 280 + i
  · subst hj
    have e : 280 + i - 279 = i + 1 := by omega
    rw [e, if_neg (by omega), if_neg (fun z => h z.2.2)]
  · by_cases q : 280 ≤ j ∧ j < 280 + i ∧ (C.1 < j - 279 ∨ C.2.1 (j - 279) = 3)
    · rw [if_pos q, if_pos ⟨q.1, by omega, q.2.2⟩]
    · rw [if_neg q, if_neg (fun z => q ⟨z.1, by omega, z.2.2⟩)]
theorem wp_all_lo {f : Nat → Int32} {n j : Nat} (h : j < 7 * n) (hn : n ≤ 40) : wp_all f n j = f j := by
  unfold wp_all wp_k wp_p
  rw [if_neg (by omega), if_neg (by omega)]
theorem wp_all_z {f : Nat → Int32} {n j : Nat} (h : 7 * n ≤ j) (h2 : j < 280) : wp_all f n j = 0 := by
  unfold wp_all wp_k wp_p
  rw [if_neg (by omega), if_pos ⟨h, h2⟩]
theorem wp_all_n {f : Nat → Int32} {k : Int32} {n : Nat} (h : ct_n f k n) : ct_n (wp_all f n) k n := by
  have hn := h.1
  exact ⟨hn, fun r hr => (ct_ok_cg (n := n) (fun j hj => wp_all_lo hj hn) k hr).2 (h.2.1 r hr), fun q => ct_no (wp_all_z (by omega) (by omega))⟩
theorem wp_all_st {f : Nat → Int32} {n : Nat} (hn : n ≤ 40) : ct_st (wp_all f n) n = ct_st f n := ct_st_cg (n := n) (fun j hj => wp_all_lo hj hn) n (Nat.le_refl n)
