/-! the objects: what holds of them after sound records -/
theorem ct_st_cg {f g : Nat → Int32} {n : Nat} (h : ∀ j, j < 7 * n → f j = g j) : ∀ r, r ≤ n → ct_st f r = ct_st g r
  | 0, _ => rfl
  | r + 1, hr => by
    rw [ct_st, ct_st, ct_st_cg h r (by omega), h (7 * r) (by omega), h (7 * r + 1) (by omega), h (7 * r + 2) (by omega)]
theorem ct_ok_cg {f g : Nat → Int32} {n : Nat} (h : ∀ j, j < 7 * n → f j = g j) (k : Int32) {r : Nat} (hr : r < n) : ct_ok f k r ↔ ct_ok g k r := by
  have hb : ct_bf f r = ct_bf g r := by
    unfold ct_bf
    by_cases h0 : r = 0
    · rw [if_pos h0, if_pos h0]
    · rw [if_neg h0, if_neg h0, h _ (by omega)]
  have hl : hf_leaf f (7 * r) = hf_leaf g (7 * r) := hf_lf_congr 6 (fun j hj => h _ (by omega))
  unfold ct_ok
  rw [ct_st_cg h r (by omega), hb, hl, h (7 * r) (by omega), h (7 * r + 1) (by omega), h (7 * r + 2) (by omega), h (7 * r + 3) (by omega), h (7 * r + 4) (by omega), h (7 * r + 5) (by omega), h (7 * r + 6) (by omega)]
theorem ct_ok_later {f : Nat → Int32} {k k' : Int32} {r : Nat} (h : ct_ok f k r) (hk : k ≤ k') : ct_ok f k' r :=
  ⟨h.1, h.2.1, h.2.2.1, h.2.2.2.1, Int32.le_trans h.2.2.2.2.1 hk, h.2.2.2.2.2⟩
theorem ct_or1 (x : Int32) : x ||| 1 ≠ 0 := by
  intro h
  have h2 := congrArg (fun z : Int32 => z.toBitVec.getLsbD 0) h
  simp at h2
theorem ct_no {f : Nat → Int32} {k : Int32} {n : Nat} (h : f (7 * n + 6) = 0) : ¬ ct_ok f k n := by
  intro q
  have := q.1
  rw [h] at this
  exact ct_or1 _ this.symm
theorem ct_kind {x : Int32} (h1 : 1 ≤ x) (h6 : x ≤ 6) : x = 1 ∨ x = 2 ∨ x = 3 ∨ x = 4 ∨ x = 5 ∨ x = 6 := by
  have h0 : ¬ x < 0 := by
    rw [Int32.lt_iff_toInt_lt]
    rw [Int32.le_iff_toInt_le] at h1
    have e0 : (0 : Int32).toInt = 0 := by decide
    have e1 : (1 : Int32).toInt = 1 := by decide
    omega
  obtain ⟨j, hj, rfl⟩ := nI_of2 (M := 6) (n := 6) (by decide) h0 h6
  have : 1 ≤ j := by
    rcases Nat.eq_zero_or_pos j with rfl | q
    · exact absurd h1 (by decide)
    · exact q
  rcases (by omega : j = 1 ∨ j = 2 ∨ j = 3 ∨ j = 4 ∨ j = 5 ∨ j = 6) with rfl | rfl | rfl | rfl | rfl | rfl
  · exact Or.inl rfl
  · exact Or.inr (Or.inl rfl)
  · exact Or.inr (Or.inr (Or.inl rfl))
  · exact Or.inr (Or.inr (Or.inr (Or.inl rfl)))
  · exact Or.inr (Or.inr (Or.inr (Or.inr (Or.inl rfl))))
  · exact Or.inr (Or.inr (Or.inr (Or.inr (Or.inr rfl))))
/-- what an allowed request is -/
theorem ct_ru_put {ob : Nat} {S D G : Nat → Int32} {id v t : Int32} (h : ct_ru ob S D G 1 id v t = 0) : ob < 12 ∧ ¬ v < 0 ∧ ¬ 1000000 < v ∧ ¬ v < t := by
  unfold ct_ru at h
  by_cases h1 : v < 0 ∨ 1000000 < v
  · simp [h1] at h
  · by_cases h2 : v < t
    · simp [h1, h2] at h
    · by_cases h3 : 12 ≤ ob
      · simp [h1, h2, h3] at h
      · exact ⟨by omega, fun q => h1 (Or.inl q), fun q => h1 (Or.inr q), h2⟩
theorem ct_ru_there {ob : Nat} (ho : ob < 2 ^ 31) {S D G : Nat → Int32} {kind id v t : Int32} (hk : kind ≠ 1) (h : ct_ru ob S D G kind id v t = 0) : ∃ j, 1 ≤ j ∧ j ≤ ob ∧ id = nI j := by
  unfold ct_ru at h
  by_cases h1 : (kind = 1 ∨ kind = 2) ∧ (v < 0 ∨ 1000000 < v)
  · rw [if_pos h1] at h; exact absurd h (by decide)
  · rw [if_neg h1] at h
    by_cases h2 : (kind = 3 ∨ kind = 4) ∧ (v < 0 ∨ 7 < v)
    · rw [if_pos h2] at h; exact absurd h (by decide)
    · rw [if_neg h2, if_neg hk] at h
      by_cases h3 : id < 1 ∨ nI ob < id
      · rw [if_pos h3] at h; exact absurd h (by decide)
      · exact ct_id ho (fun q => h3 (Or.inl q)) (fun q => h3 (Or.inr q))
theorem ct_ru_hold {ob : Nat} {S D G : Nat → Int32} {kind id v t : Int32} (hk : kind = 3 ∨ kind = 4) (h : ct_ru ob S D G kind id v t = 0) : (∃ w, w < 8 ∧ v = nI w) ∧ ¬ (ct_has (G id.toNatClampNeg) v ↔ kind = 3) := by
  unfold ct_ru at h
  have k1 : ¬ kind = 1 := by rcases hk with rfl | rfl <;> decide
  have k2 : ¬ kind = 2 := by rcases hk with rfl | rfl <;> decide
  have k5 : ¬ 5 ≤ kind := by rcases hk with rfl | rfl <;> decide
  rw [if_neg (fun q => q.1.elim k1 k2)] at h
  by_cases h2 : v < 0 ∨ 7 < v
  · rw [if_pos ⟨hk, h2⟩] at h; exact absurd h (by decide)
  · rw [if_neg (fun q => h2 q.2), if_neg k1] at h
    refine ⟨?_, fun q => ?_⟩
    · obtain ⟨j, hj, e⟩ := nI_of2 (M := 7) (n := 7) (by decide) (fun q => h2 (Or.inl q)) (Int32.not_lt.mp (fun q => h2 (Or.inr q)))
      exact ⟨j, by omega, e⟩
    · by_cases h3 : id < 1 ∨ nI ob < id
      · rw [if_pos h3] at h; exact absurd h (by decide)
      · rw [if_neg h3] at h
        split at h
        · exact absurd h (by decide)
        · first | exact absurd h (by decide) | (rw [if_neg k2, if_neg k5, if_pos q] at h; exact absurd h (by decide))
/-- bits of the holds -/
theorem ct_bits : ∀ w, w < 8 → ∀ g, g < 256 → (ct_has (nI g) (nI w) ↔ ¬ (nI g &&& ((1 : Int32) <<< (nI w &&& 31))) = 0) ∧
    (ct_has (nI g) (nI w) → 2 ^ w ≤ g ∧ nI g - ((1 : Int32) <<< (nI w &&& 31)) = nI (g - 2 ^ w) ∧ nI g &&& (((1 : Int32) <<< (nI w &&& 31)) ^^^ (-1)) = nI (g - 2 ^ w)) ∧
    (¬ ct_has (nI g) (nI w) → g + 2 ^ w < 256 ∧ nI g + ((1 : Int32) <<< (nI w &&& 31)) = nI (g + 2 ^ w) ∧ nI g ||| ((1 : Int32) <<< (nI w &&& 31)) = nI (g + 2 ^ w)) := by
  decide +kernel
theorem ct_us {f : Nat → Int32} {k : Nat} {x : Int32} : upd f k x k = x := by simp [upd]
theorem ct_un {f : Nat → Int32} {k j : Nat} {x : Int32} (h : j ≠ k) : upd f k x j = f j := by simp [upd, h]
/-- what holds of the objects after n sound records -/
def ct_iv (f : Nat → Int32) (n : Nat) (C : ct_T) : Prop := C.1 ≤ 12 ∧
  (∀ j, 1 ≤ j → j ≤ C.1 → (∃ g, g < 256 ∧ C.2.2.2.1 j = nI g) ∧ ∃ p, p < n ∧ C.2.2.2.2 j = nI p ∧ f (7 * p) = 1 ∧ f (7 * p + 1) = nI j ∧ ∀ q, q < p → ¬ (f (7 * q) = 1 ∧ f (7 * q + 1) = nI j)) ∧
  ∀ q, q < n → f (7 * q) = 1 → ∃ j, 1 ≤ j ∧ j ≤ C.1 ∧ f (7 * q + 1) = nI j
theorem ct_iv_0 (f : Nat → Int32) : ct_iv f 0 (ct_st f 0) := ⟨Nat.zero_le _, fun j h1 h2 => absurd (Nat.le_trans h1 h2) (Nat.not_succ_le_zero 0), fun q h => absurd h (Nat.not_lt_zero q)⟩
theorem ct_iv_s {f : Nat → Int32} {k : Int32} {n : Nat} (h : ct_iv f n (ct_st f n)) (ho : ct_ok f k n) : ct_iv f (n + 1) (ct_st f (n + 1)) := by
  obtain ⟨b, o, w⟩ := h
  obtain ⟨-, g1, g6, -, -, -, -, gid, gr⟩ := ho
  have hob : (ct_st f n).1 < 2 ^ 31 := by omega
  rw [ct_st]
  unfold ct_ruC at gr
  generalize hC : ct_st f n = C at *
  by_cases hp : f (7 * n) = 1
  · have gi := gid hp
    rw [hp] at gr
    have hlt := (ct_ru_put gr).1
    rw [ct_ap, if_pos hp]
    refine ⟨hlt, fun j j1 j2 => ?_, fun q hq hq1 => ?_⟩
    · simp only at j2 ⊢
      by_cases hj : j = C.1 + 1
      · subst hj
        refine ⟨⟨0, by decide, by rw [ct_us]; rfl⟩, n, by omega, by rw [ct_us], hp, gi, fun q hq hh => ?_⟩
        obtain ⟨i, i1, i2, i3⟩ := w q hq hh.1
        rw [hh.2, nI_eq (by omega) (by omega)] at i3
        omega
      · obtain ⟨⟨g, g1, g2⟩, p, p1, p2, p3⟩ := o j j1 (by omega)
        exact ⟨⟨g, g1, by rw [ct_un hj]; exact g2⟩, p, by omega, by rw [ct_un hj]; exact p2, p3⟩
    · simp only
      by_cases hqn : q = n
      · subst hqn
        exact ⟨C.1 + 1, by omega, by omega, gi⟩
      · obtain ⟨i, i1, i2, i3⟩ := w q (by omega) hq1
        exact ⟨i, i1, by omega, i3⟩
  · have keep : ∀ C2 : ct_T, C2.1 = C.1 → C2.2.2.2.2 = C.2.2.2.2 → (∀ j, 1 ≤ j → j ≤ C.1 → ∃ g, g < 256 ∧ C2.2.2.2.1 j = nI g) → ct_iv f (n + 1) C2 := by
      intro C2 e1 e2 e3
      refine ⟨by omega, fun j j1 j2 => ?_, fun q hq hq1 => ?_⟩
      · obtain ⟨-, p, p1, p2, p3⟩ := o j j1 (by omega)
        exact ⟨e3 j j1 (by omega), p, by omega, by rw [e2]; exact p2, p3⟩
      · by_cases hqn : q = n
        · subst hqn; exact absurd hq1 hp
        · obtain ⟨i, i1, i2, i3⟩ := w q (by omega) hq1
          exact ⟨i, i1, by omega, i3⟩
    obtain ⟨i, i1, i2, i3⟩ := ct_ru_there hob hp gr
    have hi : (f (7 * n + 1)).toNatClampNeg = i := by rw [i3]; exact nI_clamp (by omega)
    rw [ct_ap, if_neg hp]
    by_cases h2 : f (7 * n) = 2
    · rw [if_pos h2]
      exact keep _ rfl rfl (fun j j1 j2 => (o j j1 j2).1)
    · rw [if_neg h2]
      by_cases h3 : f (7 * n) = 3
      · rw [if_pos h3]
        obtain ⟨⟨v, v1, v2⟩, hh⟩ := ct_ru_hold (Or.inl h3) gr
        refine keep _ rfl rfl (fun j j1 j2 => ?_)
        simp only
        by_cases hj : j = i
        · subst hj
          obtain ⟨⟨g, g1, g2⟩, -⟩ := o j j1 j2
          rw [hi, g2, v2] at hh
          rw [hi, ct_us, g2, v2]
          obtain ⟨-, -, b3⟩ := ct_bits v v1 g g1
          have := b3 (fun q => hh ⟨fun _ => h3, fun _ => q⟩)
          exact ⟨_, this.1, this.2.1⟩
        · rw [hi, ct_un hj]; exact (o j j1 j2).1
      · rw [if_neg h3]
        by_cases h4 : f (7 * n) = 4
        · rw [if_pos h4]
          obtain ⟨⟨v, v1, v2⟩, hh⟩ := ct_ru_hold (Or.inr h4) gr
          refine keep _ rfl rfl (fun j j1 j2 => ?_)
          simp only
          by_cases hj : j = i
          · subst hj
            obtain ⟨⟨g, g1, g2⟩, -⟩ := o j j1 j2
            rw [hi, g2, v2] at hh
            rw [hi, ct_us, g2, v2]
            obtain ⟨-, b2, -⟩ := ct_bits v v1 g g1
            have hb : ct_has (nI g) (nI v) := Classical.byContradiction fun q => hh ⟨fun z => absurd z q, fun z => absurd z h3⟩
            have := b2 hb
            exact ⟨_, Nat.lt_of_le_of_lt (Nat.sub_le _ _) g1, this.2.1⟩
          · rw [hi, ct_un hj]; exact (o j j1 j2).1
        · rw [if_neg h4]
          exact keep _ rfl rfl (fun j j1 j2 => (o j j1 j2).1)
theorem ct_iv_n {f : Nat → Int32} {k : Int32} : ∀ n, (∀ r, r < n → ct_ok f k r) → ct_iv f n (ct_st f n)
  | 0, _ => ct_iv_0 f
  | n + 1, h => ct_iv_s (ct_iv_n n (fun r hr => h r (by omega))) (h n (by omega))
/-- a request that the rules allow is entered: one sound record more -/
theorem ct_add {f f' : Nat → Int32} {k : Int32} {n : Nat} (h : ct_n f k n) (hn : n < 40) (h0 : ∀ j, j < 7 * n → f' j = f j) (ho : ct_ok f' k n) (hz : ∀ j, 7 * n + 7 ≤ j → j < 280 → f' j = 0) : ct_n f' k (n + 1) := by
  refine ⟨by omega, fun r hr => ?_, fun q => ct_no (hz _ (by omega) (by omega))⟩
  by_cases e : r = n
  · subst e; exact ho
  · exact (ct_ok_cg h0 k (by omega)).2 (h.2.1 r (by omega))
