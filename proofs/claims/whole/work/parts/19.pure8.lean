/-! the way down, as the class keeps it -/
def ds_nz (k : Nat) : Nat := if k < 2 then 31 else if k < 4 then 30 else if k < 8 then 29 else if k < 16 then 28 else if k < 32 then 27 else 26
theorem ds_top : ∀ c, c < 41 → 2 ≤ c → (nI (c - 1) &&& ((-2147483648 : Int32).toUInt32 >>> ((nI (ds_nz (c - 1))).toUInt32 &&& Int32.toUInt32 31)).toInt32) = nI (ds_hb c) := by decide +kernel
def ds_nx (t a c : Nat) : Nat × Nat := if t < a + ds_hb c then (a, ds_hb c) else (a + ds_hb c, c - ds_hb c)
def ds_r (t a c : Nat) : Int32 := if t < a + ds_hb c then 0 else 1
def ds_f (t a c : Nat) : Nat := if t < a + ds_hb c then a + ds_hb c else a
def ds_c (t a c : Nat) : Nat := if t < a + ds_hb c then c - ds_hb c else ds_hb c
section DSL
variable {t a c : Nat}
theorem ds_lx (h : t < a + ds_hb c) : ds_nx t a c = (a, ds_hb c) := by unfold ds_nx; rw [if_pos h]
theorem ds_lr (h : t < a + ds_hb c) : ds_r t a c = 0 := by unfold ds_r; rw [if_pos h]
theorem ds_lf (h : t < a + ds_hb c) : ds_f t a c = a + ds_hb c := by unfold ds_f; rw [if_pos h]
theorem ds_lc (h : t < a + ds_hb c) : ds_c t a c = c - ds_hb c := by unfold ds_c; rw [if_pos h]
theorem ds_rx (h : a + ds_hb c ≤ t) : ds_nx t a c = (a + ds_hb c, c - ds_hb c) := by unfold ds_nx; rw [if_neg (by omega)]
theorem ds_rr (h : a + ds_hb c ≤ t) : ds_r t a c = 1 := by unfold ds_r; rw [if_neg (by omega)]
theorem ds_rf (h : a + ds_hb c ≤ t) : ds_f t a c = a := by unfold ds_f; rw [if_neg (by omega)]
theorem ds_rc (h : a + ds_hb c ≤ t) : ds_c t a c = ds_hb c := by unfold ds_c; rw [if_neg (by omega)]
end DSL
theorem ar_s {X : Nat → Int32} {F : Nat → Int32} {s : Nat} (h : ∀ i, i < s → X i = F i) : ∀ i, i < s + 1 → upd X s (F s) i = F i := by
  intro i hi
  by_cases e : i = s
  · subst e; rw [ct_us]
  · rw [ct_un e]; exact h i (by omega)
theorem ds_rt01 (t n s : Nat) : ds_rt t n s = 0 ∨ ds_rt t n s = 1 := by
  unfold ds_rt; split
  · exact Or.inl rfl
  · exact Or.inr rfl
/-- the arrays hold the steps -/
def de_ar (t n s : Nat) (X Y Z : Nat → Int32) : Prop := (∀ i, i < s → X i = ds_rt t n i) ∧ (∀ i, i < s → Y i = nI (ds_sf t n i)) ∧ ∀ i, i < s → Z i = nI (ds_sc t n i)
theorem de_ar_s {t n s : Nat} {X Y Z : Nat → Int32} (h : de_ar t n s X Y Z) : de_ar t n (s + 1) (upd X s (ds_rt t n s)) (upd Y s (nI (ds_sf t n s))) (upd Z s (nI (ds_sc t n s))) :=
  ⟨ar_s (F := fun i => ds_rt t n i) h.1, ar_s (F := fun i => nI (ds_sf t n i)) h.2.1, ar_s (F := fun i => nI (ds_sc t n i)) h.2.2⟩
/-- the tree under digest k of a row -/
def du_f (t n st b k : Nat) : Nat := if st + b - 1 - k < st then ds_sf t n (st + b - 1 - k) else (ds_at t n st).1
def du_c (t n st b k : Nat) : Nat := if st + b - 1 - k < st then ds_sc t n (st + b - 1 - k) else (ds_at t n st).2
theorem du_in {e : Bool} {t n st b k : Nat} (ht : t < n) (hn : n ≤ 40) (h : ds_is e t n st) : 1 ≤ du_c t n st b k ∧ du_f t n st b k + du_c t n st b k ≤ n := by
  unfold du_c du_f
  by_cases q : st + b - 1 - k < st
  · rw [if_pos q, if_pos q]; exact ds_side ht hn h.1 q
  · rw [if_neg q, if_neg q]
    obtain ⟨a1, a2, a3, -⟩ := ds_iv ht hn st h.1
    omega
/-- is the foot shown: always in a path; in a bridge if it isn't the first -/
def ds_b (a : Nat) : Nat := if a = 0 then 0 else 1
theorem ds_b_le (a : Nat) : ds_b a ≤ 1 := by unfold ds_b; split <;> omega
