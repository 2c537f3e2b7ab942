/-! entering records, soundness as the class asks it -/
theorem sw_no {x : Int32} (h : x.toInt < 1 ∨ 6 < x.toInt) : ¬ (1 ≤ x ∧ x ≤ 6) := by
  rintro ⟨a, b⟩
  rw [Int32.le_iff_toInt_le] at a b
  have e1 : (1 : Int32).toInt = 1 := by decide
  have e6 : (6 : Int32).toInt = 6 := by decide
  omega
def ct_vd (C : ct_T) (en : Nat) (kind id v t : Int32) : Int32 := if ct_vk C kind id v t = 0 ∧ 40 ≤ en then -8 else ct_vk C kind id v t
theorem ct_vk_in {C : ct_T} {kind id v t : Int32} (h1 : 1 ≤ kind) (h6 : kind ≤ 6) : ct_vk C kind id v t = ct_ruC C kind id v t := by unfold ct_vk; rw [if_pos ⟨h1, h6⟩]
theorem ct_vd_lt {C : ct_T} {en : Nat} (h : en < 40) (kind id v t : Int32) : ct_vd C en kind id v t = ct_vk C kind id v t := by unfold ct_vd; rw [if_neg (fun q => absurd q.2 (by omega))]
theorem ct_ru_no {C : ct_T} (ho : C.1 ≤ 12) {kind id v t : Int32} (hk : kind ≠ 1) (hr : ct_ruC C kind id v t = 0) (hno : id < 1 ∨ nI C.1 < id) : False := by
  obtain ⟨j, j1, j2, rfl⟩ := ct_ru_there (by omega) hk hr
  exact ru_in j1 j2 ho hno
theorem ap_1 (C : ct_T) (en : Nat) (id v : Int32) : (C.1 + 1, upd C.2.1 (C.1 + 1) 1, upd C.2.2.1 (C.1 + 1) v, upd C.2.2.2.1 (C.1 + 1) 0, upd C.2.2.2.2 (C.1 + 1) (nI en)) = ct_ap C en 1 id v := by
  rw [ct_ap, if_pos rfl]
theorem ap_2 (C : ct_T) (en : Nat) {j : Nat} (hj : j ≤ 12) (v : Int32) : (C.1, C.2.1, upd C.2.2.1 j v, C.2.2.2.1, C.2.2.2.2) = ct_ap C en 2 (nI j) v := by
  rw [ct_ap, if_neg (by decide), if_pos rfl, nI_clamp (by omega)]
theorem ap_3 {C : ct_T} (en : Nat) {j : Nat} (hj1 : 1 ≤ j) (hj : j ≤ C.1) (ho : C.1 ≤ 12) {v t : Int32} (hG : ∀ j, 1 ≤ j → j ≤ C.1 → ∃ g, g < 256 ∧ C.2.2.2.1 j = nI g) (hr : ct_ruC C 3 (nI j) v t = 0) : (C.1, C.2.1, C.2.2.1, upd C.2.2.2.1 j (C.2.2.2.1 j ||| ((1 : Int32) <<< (v &&& 31))), C.2.2.2.2) = ct_ap C en 3 (nI j) v := by
  rw [ct_ap, if_neg (by decide), if_neg (by decide), if_pos rfl, nI_clamp (by omega)]
  obtain ⟨⟨w, hw, rfl⟩, hh⟩ := ct_ru_hold (Or.inl rfl) hr
  rw [nI_clamp (by omega)] at hh
  obtain ⟨g, hg, e⟩ := hG j hj1 hj
  rw [e] at hh ⊢
  have := (ct_bits w hw g hg).2.2 (fun q => hh ⟨fun _ => rfl, fun _ => q⟩)
  rw [this.2.1, this.2.2]
theorem ap_4 {C : ct_T} (en : Nat) {j : Nat} (hj1 : 1 ≤ j) (hj : j ≤ C.1) (ho : C.1 ≤ 12) {v t : Int32} (hG : ∀ j, 1 ≤ j → j ≤ C.1 → ∃ g, g < 256 ∧ C.2.2.2.1 j = nI g) (hr : ct_ruC C 4 (nI j) v t = 0) : (C.1, C.2.1, C.2.2.1, upd C.2.2.2.1 j (C.2.2.2.1 j &&& (((1 : Int32) <<< (v &&& 31)) ^^^ (-1))), C.2.2.2.2) = ct_ap C en 4 (nI j) v := by
  rw [ct_ap, if_neg (by decide), if_neg (by decide), if_neg (by decide), if_pos rfl, nI_clamp (by omega)]
  obtain ⟨⟨w, hw, rfl⟩, hh⟩ := ct_ru_hold (Or.inr rfl) hr
  rw [nI_clamp (by omega)] at hh
  obtain ⟨g, hg, e⟩ := hG j hj1 hj
  rw [e] at hh ⊢
  have hb : ct_has (nI g) (nI w) := Classical.byContradiction fun q => hh ⟨fun z => absurd z q, fun z => absurd z (by decide)⟩
  have := (ct_bits w hw g hg).2.1 hb
  rw [this.2.1, this.2.2]
theorem ap_5 (C : ct_T) (en : Nat) {j : Nat} (hj : j ≤ 12) (v : Int32) : (C.1, upd C.2.1 j 2, C.2.2.1, C.2.2.2.1, C.2.2.2.2) = ct_ap C en 5 (nI j) v := by
  rw [ct_ap, if_neg (by decide), if_neg (by decide), if_neg (by decide), if_neg (by decide), nI_clamp (by omega)]
  rfl
theorem ap_6 (C : ct_T) (en : Nat) {j : Nat} (hj : j ≤ 12) (v : Int32) : (C.1, upd C.2.1 j 3, C.2.2.1, C.2.2.2.1, C.2.2.2.2) = ct_ap C en 6 (nI j) v := by
  rw [ct_ap, if_neg (by decide), if_neg (by decide), if_neg (by decide), if_neg (by decide), nI_clamp (by omega)]
  rfl
/-- a record's form -/
def ct_wf (f : Nat → Int32) (r ob : Nat) : Prop := (f (7 * r) = 1 → f (7 * r + 1) = nI (ob + 1)) ∧ (f (7 * r) ≠ 1 → f (7 * r + 3) = 0 ∧ f (7 * r + 4) = 0) ∧ (f (7 * r) = 5 ∨ f (7 * r) = 6 → f (7 * r + 2) = 0)
/-- soundness as the class asks it -/
def ct_okK (f : Nat → Int32) (k : Int32) (r : Nat) (C : ct_T) : Prop := f (7 * r + 6) = (hf_leaf f (7 * r) ||| 1) ∧ (ct_bf f r ≤ f (7 * r + 5) ∧ f (7 * r + 5) ≤ k) ∧ ct_wf f r C.1 ∧ ct_vk C (f (7 * r)) (f (7 * r + 1)) (f (7 * r + 2)) (f (7 * r + 5)) = 0
theorem ct_okK_iff {f : Nat → Int32} {k : Int32} {r : Nat} {C : ct_T} (h : ct_eq C (ct_st f r)) (ho : C.1 ≤ 12) : ct_okK f k r C ↔ ct_ok f k r := by
  unfold ct_okK ct_ok ct_wf
  rw [← ce_ru h ho, ← h.1]
  constructor
  · rintro ⟨a1, ⟨a2, a3⟩, ⟨b1, b2, b3⟩, c1⟩
    by_cases hk : 1 ≤ f (7 * r) ∧ f (7 * r) ≤ 6
    · rw [ct_vk_in hk.1 hk.2] at c1
      refine ⟨a1, hk.1, hk.2, a2, a3, b2, fun q => b3 ?_, b1, c1⟩
      rcases ct_kind hk.1 hk.2 with e | e | e | e | e | e <;> rw [e] at q ⊢
      · exact absurd q (by decide)
      · exact absurd q (by decide)
      · exact absurd q (by decide)
      · exact absurd q (by decide)
      · exact Or.inl rfl
      · exact Or.inr rfl
    · unfold ct_vk at c1
      rw [if_neg hk] at c1
      exact absurd c1 (by decide)
  · rintro ⟨a1, k1, k6, a2, a3, b2, b3, b1, c1⟩
    refine ⟨a1, ⟨a2, a3⟩, ⟨b1, b2, fun q => b3 ?_⟩, by rw [ct_vk_in k1 k6]; exact c1⟩
    rcases q with q | q <;> rw [q] <;> decide
