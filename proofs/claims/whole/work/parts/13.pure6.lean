/-! rules, outcome by outcome -/
section RU
variable {ob : Nat} {S D G : Nat → Int32} {id v t k : Int32} {j : Nat}
theorem ru1_bad (h : v < 0 ∨ 1000000 < v) : (-1 : Int32) = ct_ru ob S D G 1 id v t := by
  unfold ct_ru; rw [if_pos ⟨Or.inl rfl, h⟩]
theorem ru1_short (h0 : ¬ (v < 0 ∨ 1000000 < v)) (h : v < t) : (-4 : Int32) = ct_ru ob S D G 1 id v t := by
  unfold ct_ru; rw [if_neg (fun q => h0 q.2), if_neg (fun q => absurd q.1 (by decide)), if_pos rfl, if_pos h]
theorem ru1_full (h0 : ¬ (v < 0 ∨ 1000000 < v)) (h : ¬ v < t) (h2 : 12 ≤ ob) : (-8 : Int32) = ct_ru ob S D G 1 id v t := by
  unfold ct_ru; rw [if_neg (fun q => h0 q.2), if_neg (fun q => absurd q.1 (by decide)), if_pos rfl, if_neg h, if_pos h2]
theorem ru1_ok (h0 : ¬ (v < 0 ∨ 1000000 < v)) (h : ¬ v < t) (h2 : ¬ 12 ≤ ob) : (0 : Int32) = ct_ru ob S D G 1 id v t := by
  unfold ct_ru; rw [if_neg (fun q => h0 q.2), if_neg (fun q => absurd q.1 (by decide)), if_pos rfl, if_neg h, if_neg h2]
theorem ru_in (h1 : 1 ≤ j) (h2 : j ≤ ob) (ho : ob ≤ 12) : ¬ (nI j < 1 ∨ nI ob < nI j) := by
  rintro (q | q)
  · exact absurd ((nI_ltI (a := j) (b := 1) (by omega) (by decide)).1 q) (by omega)
  · exact absurd ((nI_ltI (by omega) (by omega)).1 q) (by omega)
theorem ru2_bad (h : v < 0 ∨ 1000000 < v) : (-1 : Int32) = ct_ru ob S D G 2 id v t := by
  unfold ct_ru; rw [if_pos ⟨Or.inr rfl, h⟩]
theorem ru2_abs (h0 : ¬ (v < 0 ∨ 1000000 < v)) (h : id < 1 ∨ nI ob < id) : (-2 : Int32) = ct_ru ob S D G 2 id v t := by
  unfold ct_ru; rw [if_neg (fun q => h0 q.2), if_neg (fun q => absurd q.1 (by decide)), if_neg (by decide), if_pos h]
theorem ru2_gone (h0 : ¬ (v < 0 ∨ 1000000 < v)) (h1 : 1 ≤ j) (h2 : j ≤ ob) (ho : ob ≤ 12) (h : ¬ S j = 1) : (-3 : Int32) = ct_ru ob S D G 2 (nI j) v t := by
  unfold ct_ru; rw [nI_clamp (by omega), if_neg (fun q => h0 q.2), if_neg (fun q => absurd q.1 (by decide)), if_neg (by decide), if_neg (ru_in h1 h2 ho), if_pos (Or.inr ⟨by decide, h⟩)]
theorem ru_live (h : S j = 1) (hk : k ≠ 6) : ¬ ((k = 6 ∧ S j = 3) ∨ (k ≠ 6 ∧ S j ≠ 1)) := by
  rintro (q | q)
  · exact hk q.1
  · exact q.2 h
theorem ru2_short (h0 : ¬ (v < 0 ∨ 1000000 < v)) (h1 : 1 ≤ j) (h2 : j ≤ ob) (ho : ob ≤ 12) (h : S j = 1) (h3 : v ≤ D j) : (-4 : Int32) = ct_ru ob S D G 2 (nI j) v t := by
  unfold ct_ru; rw [nI_clamp (by omega), if_neg (fun q => h0 q.2), if_neg (fun q => absurd q.1 (by decide)), if_neg (by decide), if_neg (ru_in h1 h2 ho), if_neg (ru_live h (by decide)), if_pos rfl, if_pos h3]
theorem ru2_ok (h0 : ¬ (v < 0 ∨ 1000000 < v)) (h1 : 1 ≤ j) (h2 : j ≤ ob) (ho : ob ≤ 12) (h : S j = 1) (h3 : ¬ v ≤ D j) : (0 : Int32) = ct_ru ob S D G 2 (nI j) v t := by
  unfold ct_ru; rw [nI_clamp (by omega), if_neg (fun q => h0 q.2), if_neg (fun q => absurd q.1 (by decide)), if_neg (by decide), if_neg (ru_in h1 h2 ho), if_neg (ru_live h (by decide)), if_pos rfl, if_neg h3]
theorem ruh_n1 (hk : k = 3 ∨ k = 4) : ¬ ((k = 1 ∨ k = 2) ∧ (v < 0 ∨ 1000000 < v)) := by rcases hk with rfl | rfl <;> rintro ⟨q, -⟩ <;> exact absurd q (by decide)
theorem ruh_bad (hk : k = 3 ∨ k = 4) (h : v < 0 ∨ 7 < v) : (-1 : Int32) = ct_ru ob S D G k id v t := by
  unfold ct_ru; rw [if_neg (ruh_n1 hk), if_pos ⟨hk, h⟩]
theorem ruh_abs (hk : k = 3 ∨ k = 4) (h0 : ¬ (v < 0 ∨ 7 < v)) (h : id < 1 ∨ nI ob < id) : (-2 : Int32) = ct_ru ob S D G k id v t := by
  unfold ct_ru; rw [if_neg (ruh_n1 hk), if_neg (fun q => h0 q.2), if_neg (by rcases hk with rfl | rfl <;> decide), if_pos h]
theorem ruh_gone (hk : k = 3 ∨ k = 4) (h0 : ¬ (v < 0 ∨ 7 < v)) (h1 : 1 ≤ j) (h2 : j ≤ ob) (ho : ob ≤ 12) (h : ¬ S j = 1) : (-3 : Int32) = ct_ru ob S D G k (nI j) v t := by
  unfold ct_ru; rw [nI_clamp (by omega), if_neg (ruh_n1 hk), if_neg (fun q => h0 q.2), if_neg (by rcases hk with rfl | rfl <;> decide), if_neg (ru_in h1 h2 ho), if_pos (Or.inr ⟨by rcases hk with rfl | rfl <;> decide, h⟩)]
theorem ruh_same (hk : k = 3 ∨ k = 4) (h0 : ¬ (v < 0 ∨ 7 < v)) (h1 : 1 ≤ j) (h2 : j ≤ ob) (ho : ob ≤ 12) (h : S j = 1) (h3 : ct_has (G j) v ↔ k = 3) : (-5 : Int32) = ct_ru ob S D G k (nI j) v t := by
  unfold ct_ru; rw [nI_clamp (by omega), if_neg (ruh_n1 hk), if_neg (fun q => h0 q.2), if_neg (by rcases hk with rfl | rfl <;> decide), if_neg (ru_in h1 h2 ho), if_neg (ru_live h (by rcases hk with rfl | rfl <;> decide)), if_neg (by rcases hk with rfl | rfl <;> decide), if_neg (by rcases hk with rfl | rfl <;> decide), if_pos h3]
theorem ruh_ok (hk : k = 3 ∨ k = 4) (h0 : ¬ (v < 0 ∨ 7 < v)) (h1 : 1 ≤ j) (h2 : j ≤ ob) (ho : ob ≤ 12) (h : S j = 1) (h3 : ¬ (ct_has (G j) v ↔ k = 3)) : (0 : Int32) = ct_ru ob S D G k (nI j) v t := by
  unfold ct_ru; rw [nI_clamp (by omega), if_neg (ruh_n1 hk), if_neg (fun q => h0 q.2), if_neg (by rcases hk with rfl | rfl <;> decide), if_neg (ru_in h1 h2 ho), if_neg (ru_live h (by rcases hk with rfl | rfl <;> decide)), if_neg (by rcases hk with rfl | rfl <;> decide), if_neg (by rcases hk with rfl | rfl <;> decide), if_neg h3]
theorem rue_n1 (hk : k = 5 ∨ k = 6) : ¬ ((k = 1 ∨ k = 2) ∧ (v < 0 ∨ 1000000 < v)) := by rcases hk with rfl | rfl <;> rintro ⟨q, -⟩ <;> exact absurd q (by decide)
theorem rue_n2 (hk : k = 5 ∨ k = 6) : ¬ ((k = 3 ∨ k = 4) ∧ (v < 0 ∨ 7 < v)) := by rcases hk with rfl | rfl <;> rintro ⟨q, -⟩ <;> exact absurd q (by decide)
theorem rue_abs (hk : k = 5 ∨ k = 6) (h : id < 1 ∨ nI ob < id) : (-2 : Int32) = ct_ru ob S D G k id v t := by
  unfold ct_ru; rw [if_neg (rue_n1 hk), if_neg (rue_n2 hk), if_neg (by rcases hk with rfl | rfl <;> decide), if_pos h]
theorem rue_gone (hk : k = 5 ∨ k = 6) (h1 : 1 ≤ j) (h2 : j ≤ ob) (ho : ob ≤ 12) (h : (k = 6 ∧ S j = 3) ∨ (k ≠ 6 ∧ S j ≠ 1)) : (-3 : Int32) = ct_ru ob S D G k (nI j) v t := by
  unfold ct_ru; rw [nI_clamp (by omega), if_neg (rue_n1 hk), if_neg (rue_n2 hk), if_neg (by rcases hk with rfl | rfl <;> decide), if_neg (ru_in h1 h2 ho), if_pos h]
theorem rue_held (hk : k = 5 ∨ k = 6) (h1 : 1 ≤ j) (h2 : j ≤ ob) (ho : ob ≤ 12) (h : ¬ ((k = 6 ∧ S j = 3) ∨ (k ≠ 6 ∧ S j ≠ 1))) (h3 : ¬ G j = 0) : (-6 : Int32) = ct_ru ob S D G k (nI j) v t := by
  unfold ct_ru; rw [nI_clamp (by omega), if_neg (rue_n1 hk), if_neg (rue_n2 hk), if_neg (by rcases hk with rfl | rfl <;> decide), if_neg (ru_in h1 h2 ho), if_neg h, if_neg (by rcases hk with rfl | rfl <;> decide), if_pos (by rcases hk with rfl | rfl <;> decide), if_pos h3]
theorem rue_early (hk : k = 5 ∨ k = 6) (h1 : 1 ≤ j) (h2 : j ≤ ob) (ho : ob ≤ 12) (h : ¬ ((k = 6 ∧ S j = 3) ∨ (k ≠ 6 ∧ S j ≠ 1))) (h3 : G j = 0) (h4 : t < D j) : (-7 : Int32) = ct_ru ob S D G k (nI j) v t := by
  unfold ct_ru; rw [nI_clamp (by omega), if_neg (rue_n1 hk), if_neg (rue_n2 hk), if_neg (by rcases hk with rfl | rfl <;> decide), if_neg (ru_in h1 h2 ho), if_neg h, if_neg (by rcases hk with rfl | rfl <;> decide), if_pos (by rcases hk with rfl | rfl <;> decide), if_neg (fun q => q h3), if_pos h4]
theorem rue_ok (hk : k = 5 ∨ k = 6) (h1 : 1 ≤ j) (h2 : j ≤ ob) (ho : ob ≤ 12) (h : ¬ ((k = 6 ∧ S j = 3) ∨ (k ≠ 6 ∧ S j ≠ 1))) (h3 : G j = 0) (h4 : ¬ t < D j) : (0 : Int32) = ct_ru ob S D G k (nI j) v t := by
  unfold ct_ru; rw [nI_clamp (by omega), if_neg (rue_n1 hk), if_neg (rue_n2 hk), if_neg (by rcases hk with rfl | rfl <;> decide), if_neg (ru_in h1 h2 ho), if_neg h, if_neg (by rcases hk with rfl | rfl <;> decide), if_pos (by rcases hk with rfl | rfl <;> decide), if_neg (fun q => q h3), if_neg h4]
end RU
theorem ct_v8 {v : Int32} (h : ¬ (v < 0 ∨ 7 < v)) : ∃ w, w < 8 ∧ v = nI w := by
  obtain ⟨j, hj, e⟩ := nI_of2 (M := 7) (n := 7) (by decide) (fun q => h (Or.inl q)) (Int32.not_lt.mp (fun q => h (Or.inr q)))
  exact ⟨j, by omega, e⟩
theorem ct_hasB {g v : Int32} (hg : ∃ n, n < 256 ∧ g = nI n) (h : ¬ (v < 0 ∨ 7 < v)) : ct_has g v ↔ ¬ (g &&& ((1 : Int32) <<< (v &&& 31))) = 0 := by
  obtain ⟨n, hn, rfl⟩ := hg
  obtain ⟨w, hw, rfl⟩ := ct_v8 h
  exact (ct_bits w hw n hn).1
/-- the rules for any kind -/
def ct_vk (C : ct_T) (kind id v t : Int32) : Int32 := if 1 ≤ kind ∧ kind ≤ 6 then ct_ruC C kind id v t else -1
/-- state of an object, 0 if it isn't there -/
def ct_so (C : ct_T) (A : Nat → Int32) (id : Int32) : Int32 := if id < 1 ∨ nI C.1 < id then 0 else A id.toNatClampNeg
theorem ct_so_in {C : ct_T} {A : Nat → Int32} {j : Nat} (h1 : 1 ≤ j) (h2 : j ≤ C.1) (ho : C.1 ≤ 12) : ct_so C A (nI j) = A j := by
  unfold ct_so; rw [if_neg (ru_in h1 h2 ho), nI_clamp (by omega)]
theorem ct_so_out {C : ct_T} {A : Nat → Int32} {id : Int32} (h : id < 1 ∨ nI C.1 < id) : ct_so C A id = 0 := by
  unfold ct_so; rw [if_pos h]
/-- the end of an object -/
def ct_ev (C : ct_T) (id g t : Int32) : Int32 := if id < 1 ∨ nI C.1 < id then -2 else if g = 1 then -3 else if ¬ C.2.2.2.1 id.toNatClampNeg = 0 then -6 else if t < C.2.2.1 id.toNatClampNeg then -7 else 0
theorem ev_abs {C : ct_T} {id g t : Int32} (h : id < 1 ∨ nI C.1 < id) : (-2 : Int32) = ct_ev C id g t := by unfold ct_ev; rw [if_pos h]
section EV
variable {C : ct_T} {j : Nat} {g t : Int32} (h1 : 1 ≤ j) (h2 : j ≤ C.1) (ho : C.1 ≤ 12)
theorem ev_gone (h : g = 1) : 1 ≤ j → j ≤ C.1 → C.1 ≤ 12 → (-3 : Int32) = ct_ev C (nI j) g t := fun h1 h2 ho => by
  unfold ct_ev; rw [if_neg (ru_in h1 h2 ho), if_pos h]
theorem ev_held (h : ¬ g = 1) (h3 : ¬ C.2.2.2.1 j = 0) : 1 ≤ j → j ≤ C.1 → C.1 ≤ 12 → (-6 : Int32) = ct_ev C (nI j) g t := fun h1 h2 ho => by
  unfold ct_ev; rw [if_neg (ru_in h1 h2 ho), nI_clamp (by omega), if_neg h, if_pos h3]
theorem ev_early (h : ¬ g = 1) (h3 : C.2.2.2.1 j = 0) (h4 : t < C.2.2.1 j) : 1 ≤ j → j ≤ C.1 → C.1 ≤ 12 → (-7 : Int32) = ct_ev C (nI j) g t := fun h1 h2 ho => by
  unfold ct_ev; rw [if_neg (ru_in h1 h2 ho), nI_clamp (by omega), if_neg h, if_neg (fun q => q h3), if_pos h4]
theorem ev_ok (h : ¬ g = 1) (h3 : C.2.2.2.1 j = 0) (h4 : ¬ t < C.2.2.1 j) : 1 ≤ j → j ≤ C.1 → C.1 ≤ 12 → (0 : Int32) = ct_ev C (nI j) g t := fun h1 h2 ho => by
  unfold ct_ev; rw [if_neg (ru_in h1 h2 ho), nI_clamp (by omega), if_neg h, if_neg (fun q => q h3), if_neg h4]
end EV
/-- the end of an object is the rules for kinds 5 and 6 -/
theorem ev_ru5 {C : ct_T} (ho : C.1 ≤ 12) {id v t g : Int32} (hg : g = if ct_so C C.2.1 id = 1 then 0 else 1) : ct_ev C id g t = ct_ruC C 5 id v t := by
  unfold ct_ruC
  by_cases hi : id < 1 ∨ nI C.1 < id
  · rw [← ev_abs hi, ← rue_abs (Or.inl rfl) hi]
  · obtain ⟨j, j1, j2, rfl⟩ := ct_id (by omega) (fun q => hi (Or.inl q)) (fun q => hi (Or.inr q))
    rw [ct_so_in j1 j2 ho] at hg
    by_cases hS : C.2.1 j = 1
    · rw [if_pos hS] at hg
      subst hg
      have hn : ¬ (((5 : Int32) = 6 ∧ C.2.1 j = 3) ∨ ((5 : Int32) ≠ 6 ∧ C.2.1 j ≠ 1)) := ru_live hS (by decide)
      by_cases hG : C.2.2.2.1 j = 0
      · by_cases hD : t < C.2.2.1 j
        · rw [← ev_early (by decide) hG hD j1 j2 ho, ← rue_early (Or.inl rfl) j1 j2 ho hn hG hD]
        · rw [← ev_ok (by decide) hG hD j1 j2 ho, ← rue_ok (Or.inl rfl) j1 j2 ho hn hG hD]
      · rw [← ev_held (by decide) hG j1 j2 ho, ← rue_held (Or.inl rfl) j1 j2 ho hn hG]
    · rw [if_neg hS] at hg
      rw [← ev_gone hg j1 j2 ho, ← rue_gone (Or.inl rfl) j1 j2 ho (Or.inr ⟨by decide, hS⟩)]
theorem ev_ru6 {C : ct_T} (ho : C.1 ≤ 12) {id v t g : Int32} (hg : g = if ct_so C C.2.1 id = 3 then 1 else 0) : ct_ev C id g t = ct_ruC C 6 id v t := by
  unfold ct_ruC
  by_cases hi : id < 1 ∨ nI C.1 < id
  · rw [← ev_abs hi, ← rue_abs (Or.inr rfl) hi]
  · obtain ⟨j, j1, j2, rfl⟩ := ct_id (by omega) (fun q => hi (Or.inl q)) (fun q => hi (Or.inr q))
    rw [ct_so_in j1 j2 ho] at hg
    by_cases hS : C.2.1 j = 3
    · rw [if_pos hS] at hg
      rw [← ev_gone hg j1 j2 ho, ← rue_gone (Or.inr rfl) j1 j2 ho (Or.inl ⟨rfl, hS⟩)]
    · rw [if_neg hS] at hg
      subst hg
      have hn : ¬ (((6 : Int32) = 6 ∧ C.2.1 j = 3) ∨ ((6 : Int32) ≠ 6 ∧ C.2.1 j ≠ 1)) := by
        rintro (q | q)
        · exact hS q.2
        · exact q.1 rfl
      by_cases hG : C.2.2.2.1 j = 0
      · by_cases hD : t < C.2.2.1 j
        · rw [← ev_early (by decide) hG hD j1 j2 ho, ← rue_early (Or.inr rfl) j1 j2 ho hn hG hD]
        · rw [← ev_ok (by decide) hG hD j1 j2 ho, ← rue_ok (Or.inr rfl) j1 j2 ho hn hG hD]
      · rw [← ev_held (by decide) hG j1 j2 ho, ← rue_held (Or.inr rfl) j1 j2 ho hn hG]
/-- agreeing pictures -/
theorem ce_m {C C' : ct_T} (h : ct_eq C C') : ct_eqm C.1 C.2.1 C.2.2.1 C.2.2.2.1 C' := ⟨h.1, fun j h1 h2 => ⟨(h.2 j h1 h2).1, (h.2 j h1 h2).2.1, (h.2 j h1 h2).2.2.1⟩⟩
theorem ce_ru {C C' : ct_T} (h : ct_eq C C') (ho : C.1 ≤ 12) (kind id v t : Int32) : ct_ruC C kind id v t = ct_ruC C' kind id v t := ct_ru_eqm (ce_m h) (by omega) kind id v t
theorem ce_12 {f : Nat → Int32} {k : Int32} {n : Nat} {C : ct_T} (h : ct_eq C (ct_st f n)) (ho : ∀ r, r < n → ct_ok f k r) : C.1 ≤ 12 := by
  rw [h.1]; exact (ct_iv_n n ho).1
theorem ce_G {f : Nat → Int32} {k : Int32} {n : Nat} {C : ct_T} (h : ct_eq C (ct_st f n)) (ho : ∀ r, r < n → ct_ok f k r) : ∀ j, 1 ≤ j → j ≤ C.1 → ∃ g, g < 256 ∧ C.2.2.2.1 j = nI g := fun j h1 h2 => by
  rw [h.1] at h2
  rw [(h.2 j h1 h2).2.2.1]
  exact ((ct_iv_n n ho).2.1 j h1 h2).1
theorem ce_ap {C C' : ct_T} (h : ct_eq C C') (r : Nat) {kind id v : Int32} (hi : kind ≠ 1 → ∃ j, 1 ≤ j ∧ j ≤ C'.1 ∧ id = nI j) (ho : C'.1 ≤ 12) : ct_eq (ct_ap C r kind id v) (ct_ap C' r kind id v) := by
  obtain ⟨ob, S, D, G, P⟩ := C
  obtain ⟨ob', S', D', G', P'⟩ := C'
  obtain ⟨e, h⟩ := h
  simp only at e h hi ho
  subst e
  unfold ct_ap
  simp only
  have up : ∀ (X X' : Nat → Int32) (x x' : Int32) (i j : Nat), x = x' → (j ≠ i → X j = X' j) → upd X i x j = upd X' i x' j := by
    intro X X' x x' i j ex hx
    unfold upd
    by_cases hj : j = i
    · rw [if_pos hj, if_pos hj, ex]
    · rw [if_neg hj, if_neg hj, hx hj]
  by_cases k1 : kind = 1
  · rw [if_pos k1, if_pos k1]
    refine ⟨rfl, fun j h1 h2 => ?_⟩
    simp only at h2 ⊢
    refine ⟨up _ _ _ _ _ _ rfl (fun q => (h j h1 (by omega)).1), up _ _ _ _ _ _ rfl (fun q => (h j h1 (by omega)).2.1), up _ _ _ _ _ _ rfl (fun q => (h j h1 (by omega)).2.2.1), up _ _ _ _ _ _ rfl (fun q => (h j h1 (by omega)).2.2.2)⟩
  · rw [if_neg k1, if_neg k1]
    obtain ⟨i, i1, i2, rfl⟩ := hi k1
    rw [nI_clamp (by omega)]
    have hG := (h i i1 i2).2.2.1
    by_cases k2 : kind = 2
    · rw [if_pos k2, if_pos k2]
      exact ⟨rfl, fun j h1 h2 => ⟨(h j h1 h2).1, up _ _ _ _ _ _ rfl (fun _ => (h j h1 h2).2.1), (h j h1 h2).2.2⟩⟩
    · rw [if_neg k2, if_neg k2]
      by_cases k3 : kind = 3
      · rw [if_pos k3, if_pos k3]
        exact ⟨rfl, fun j h1 h2 => ⟨(h j h1 h2).1, (h j h1 h2).2.1, up _ _ _ _ _ _ (by rw [hG]) (fun _ => (h j h1 h2).2.2.1), (h j h1 h2).2.2.2⟩⟩
      · rw [if_neg k3, if_neg k3]
        by_cases k4 : kind = 4
        · rw [if_pos k4, if_pos k4]
          exact ⟨rfl, fun j h1 h2 => ⟨(h j h1 h2).1, (h j h1 h2).2.1, up _ _ _ _ _ _ (by rw [hG]) (fun _ => (h j h1 h2).2.2.1), (h j h1 h2).2.2.2⟩⟩
        · rw [if_neg k4, if_neg k4]
          exact ⟨rfl, fun j h1 h2 => ⟨up _ _ _ _ _ _ rfl (fun _ => (h j h1 h2).1), (h j h1 h2).2⟩⟩
