/-! the way down a tree -/
def ds_hb (c : Nat) : Nat := if c ≤ 2 then 1 else if c ≤ 4 then 2 else if c ≤ 8 then 4 else if c ≤ 16 then 8 else if c ≤ 32 then 16 else 32
theorem ds_hb_in {c : Nat} (h : 2 ≤ c) (h2 : c ≤ 64) : 1 ≤ ds_hb c ∧ ds_hb c < c ∧ c ≤ 2 * ds_hb c := by
  unfold ds_hb
  repeat' split
  all_goals omega
/-- where the way to t stands after s steps: first leaf, number of leaves -/
def ds_at (t n : Nat) : Nat → Nat × Nat
  | 0 => (0, n)
  | s + 1 => if t < (ds_at t n s).1 + ds_hb (ds_at t n s).2 then ((ds_at t n s).1, ds_hb (ds_at t n s).2) else ((ds_at t n s).1 + ds_hb (ds_at t n s).2, (ds_at t n s).2 - ds_hb (ds_at t n s).2)
/-- the step to the right: 1, to the left: 0 -/
def ds_rt (t n s : Nat) : Int32 := if t < (ds_at t n s).1 + ds_hb (ds_at t n s).2 then 0 else 1
/-- the side tree that step s passes -/
def ds_sf (t n s : Nat) : Nat := if t < (ds_at t n s).1 + ds_hb (ds_at t n s).2 then (ds_at t n s).1 + ds_hb (ds_at t n s).2 else (ds_at t n s).1
def ds_sc (t n s : Nat) : Nat := if t < (ds_at t n s).1 + ds_hb (ds_at t n s).2 then (ds_at t n s).2 - ds_hb (ds_at t n s).2 else ds_hb (ds_at t n s).2
/-- no step so far stood at its end (e: does it end where the tree ends with t) -/
def ds_end (e : Bool) (t n s : Nat) : Prop := (ds_at t n s).2 ≤ 1 ∨ (e = true ∧ t + 1 = (ds_at t n s).1 + (ds_at t n s).2)
def ds_run (e : Bool) (t n s : Nat) : Prop := ∀ i, i < s → ¬ ds_end e t n i
/-- s steps, and there it ends -/
def ds_is (e : Bool) (t n s : Nat) : Prop := ds_run e t n s ∧ ds_end e t n s
theorem ds_iv {e : Bool} {t n : Nat} (ht : t < n) (hn : n ≤ 40) : ∀ s, ds_run e t n s → (ds_at t n s).1 ≤ t ∧ t < (ds_at t n s).1 + (ds_at t n s).2 ∧ (ds_at t n s).1 + (ds_at t n s).2 ≤ n ∧ ((ds_at t n s).2 ≤ 64 / 2 ^ s ∨ s > 6)
  | 0, _ => by
    refine ⟨Nat.zero_le _, ?_, ?_, Or.inl ?_⟩ <;> simp [ds_at] <;> omega
  | s + 1, h => by
    obtain ⟨a1, a2, a3, a4⟩ := ds_iv ht hn s (fun i hi => h i (by omega))
    have he := h s (by omega)
    have hc : 2 ≤ (ds_at t n s).2 := by
      rcases Nat.lt_or_ge 1 (ds_at t n s).2 with q | q
      · exact q
      · exact absurd (Or.inl q) he
    obtain ⟨b1, b2, b3⟩ := ds_hb_in hc (by omega)
    have hb : ds_hb (ds_at t n s).2 ≤ 64 / 2 ^ (s + 1) ∨ s + 1 > 6 := by
      rcases a4 with a4 | a4
      · rcases Nat.lt_or_ge s 6 with q | q
        · left
          generalize (ds_at t n s).2 = c at *
          rcases (by omega : s = 0 ∨ s = 1 ∨ s = 2 ∨ s = 3 ∨ s = 4 ∨ s = 5) with rfl | rfl | rfl | rfl | rfl | rfl <;> simp at a4 ⊢ <;> unfold ds_hb <;> repeat' split
          all_goals omega
        · right; omega
      · right; omega
    rw [ds_at]
    by_cases q : t < (ds_at t n s).1 + ds_hb (ds_at t n s).2
    · rw [if_pos q]
      exact ⟨a1, q, by simp only; omega, hb⟩
    · rw [if_neg q]
      refine ⟨by simp only; omega, by simp only; omega, by simp only; omega, ?_⟩
      rcases hb with hb | hb
      · left; simp only; omega
      · right; exact hb
theorem ds_le6 {e : Bool} {t n s : Nat} (ht : t < n) (hn : n ≤ 40) (h : ds_run e t n s) : s ≤ 6 := by
  rcases Nat.lt_or_ge 6 s with q | q
  · have h6 : ds_run e t n 6 := fun i hi => h i (by omega)
    obtain ⟨a1, a2, a3, a4⟩ := ds_iv ht hn 6 h6
    have : (ds_at t n 6).2 ≤ 1 := by
      rcases a4 with a4 | a4
      · simpa using a4
      · omega
    exact absurd (Or.inl this) (h 6 q)
  · exact q
theorem ds_6 {e : Bool} {t n : Nat} (ht : t < n) (hn : n ≤ 40) (h : ds_run e t n 6) : ds_end e t n 6 := by
  obtain ⟨a1, a2, a3, a4⟩ := ds_iv ht hn 6 h
  left
  rcases a4 with a4 | a4
  · simpa using a4
  · omega
theorem ds_is_uq {e : Bool} {t n s s' : Nat} (h : ds_is e t n s) (h' : ds_is e t n s') : s = s' := by
  rcases Nat.lt_trichotomy s s' with q | q | q
  · exact absurd h.2 (h'.1 s q)
  · exact q
  · exact absurd h'.2 (h.1 s' q)
/-- side trees lie in the tree -/
theorem ds_side {e : Bool} {t n s i : Nat} (ht : t < n) (hn : n ≤ 40) (h : ds_run e t n s) (hi : i < s) : 1 ≤ ds_sc t n i ∧ ds_sf t n i + ds_sc t n i ≤ n := by
  obtain ⟨a1, a2, a3, a4⟩ := ds_iv ht hn i (fun j hj => h j (by omega))
  have he := h i hi
  have hc : 2 ≤ (ds_at t n i).2 := by
    rcases Nat.lt_or_ge 1 (ds_at t n i).2 with q | q
    · exact q
    · exact absurd (Or.inl q) he
  obtain ⟨b1, b2, b3⟩ := ds_hb_in hc (by omega)
  unfold ds_sc ds_sf
  by_cases q : t < (ds_at t n i).1 + ds_hb (ds_at t n i).2
  · rw [if_pos q, if_pos q]; omega
  · rw [if_neg q, if_neg q]; omega
/-- proofs from outside -/
def pf_up (fd : Nat → Int32) (t n st : Nat) : Nat → Int32
  | 0 => fd 0
  | q + 1 => if ds_rt t n (st - (q + 1)) = 1 then hf_node (fd (q + 1)) (pf_up fd t n st q) else hf_node (pf_up fd t n st q) (fd (q + 1))
/-- the older and the newer root over i side trees, the words from base b on -/
def pf_old (fd : Nat → Int32) (x : Int32) (b t n st : Nat) : Nat → Int32
  | 0 => x
  | i + 1 => if ds_rt t n (st - 1 - i) = 1 then hf_node (fd (b + i)) (pf_old fd x b t n st i) else pf_old fd x b t n st i
def pf_new (fd : Nat → Int32) (x : Int32) (b t n st : Nat) : Nat → Int32
  | 0 => x
  | i + 1 => if ds_rt t n (st - 1 - i) = 1 then hf_node (fd (b + i)) (pf_new fd x b t n st i) else hf_node (pf_new fd x b t n st i) (fd (b + i))
