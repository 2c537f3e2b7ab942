/-! ends of the other calls -/
theorem in_iff {fd : Nat → Int32} {fc a b s : Nat} {root : Int32} (hab : a < b) (hb : b ≤ 40) (hs : ds_is false a b s) : an_inc fd fc (nI a) (nI b) root ↔ (fc = s + 1 ∧ pf_up fd a b s s = root) := by
  unfold an_inc
  rw [nI_clamp (by omega), nI_clamp (by omega), ds_S_is hs]
  constructor
  · exact fun h => h.2
  · exact fun h => ⟨⟨nI_pos (by omega), (nI_ltI (by omega) (by omega)).2 hab, (nI_leI (b := 40) (by omega) (by decide)).2 hb⟩, h⟩
theorem ds_BT {t n s : Nat} (hs : ds_is true t n s) : ds_B true t n = ds_b (ds_at t n s).1 := by unfold ds_B; rw [if_pos rfl, ds_S_is hs]
theorem ds_BF (t n : Nat) : ds_B false t n = 1 := by unfold ds_B; rw [if_neg (by decide)]
theorem ex_iff {fd : Nat → Int32} {fc a b s : Nat} {early late : Int32} (ha : 1 ≤ a) (hab : a ≤ b) (hb : b ≤ 40) (hs : ds_is true (a - 1) b s) : an_ext fd fc (nI a) (nI b) early late ↔ (fc = s + ds_b (ds_at (a - 1) b s).1 ∧ pf_old fd (pf_x fd early (ds_b (ds_at (a - 1) b s).1)) (ds_b (ds_at (a - 1) b s).1) (a - 1) b s s = early ∧ pf_new fd (pf_x fd early (ds_b (ds_at (a - 1) b s).1)) (ds_b (ds_at (a - 1) b s).1) (a - 1) b s s = late) := by
  unfold an_ext
  rw [nI_clamp (by omega), nI_clamp (by omega), ds_S_is hs, ds_BT hs]
  constructor
  · exact fun h => h.2
  · exact fun h => ⟨⟨(nI_leI (a := 1) (by decide) (by omega)).2 ha, (nI_leI (by omega) (by omega)).2 hab, (nI_leI (b := 40) (by omega) (by decide)).2 hb⟩, h⟩
theorem wk_iff {K C : ct_T} (h : ct_eq K C) {j : Nat} (hj : 1 ≤ j) : (K.1 < j ∨ K.2.1 j = 3) ↔ (C.1 < j ∨ C.2.1 j = 3) := by
  rw [h.1]
  by_cases q : C.1 < j
  · exact ⟨fun _ => Or.inl q, fun _ => Or.inl q⟩
  · rw [(h.2 j hj (by omega)).1]
theorem po_same {f : Nat → Int32} {clk : Nat} {pw on : Int32} (h : on = pw) : (-1 : Int32) = an_pow f clk pw on ∧ f = nx_pow f clk pw on := by
  unfold an_pow nx_pow; rw [if_pos h, if_pos h]; exact ⟨rfl, rfl⟩
theorem po_on {f : Nat → Int32} {clk n : Nat} (hn : ct_n f (nI clk) n) : nI n = an_pow f clk 0 1 ∧ wp_all f n = nx_pow f clk 0 1 := by
  unfold an_pow nx_pow; rw [if_neg (by decide), if_neg (by decide), if_pos rfl, ct_N_is hn]; exact ⟨rfl, rfl⟩
theorem po_off {f : Nat → Int32} {clk n : Nat} (hn : ct_n f (nI clk) n) : nI n = an_pow f clk 1 0 ∧ f = nx_pow f clk 1 0 := by
  unfold an_pow nx_pow; rw [if_neg (by decide), if_neg (by decide), if_neg (by decide), ct_N_is hn]; exact ⟨rfl, rfl⟩
theorem po_xr {f : Nat → Int32} {clk n : Nat} {K : ct_T} (hn : ct_n f (nI clk) n) (heq : ct_eq K (ct_st f n)) : xr (wp_all f n) clk 1 K n := by
  refine ⟨Or.inr rfl, ?_, hn.1, fun _ => ⟨wp_all_n hn, by rw [wp_all_st hn.1]; exact heq, fun j h1 h2 => wp_all_z h1 h2⟩⟩
  exact ce_12 heq hn.2.1
theorem au_no {f g : Nat → Int32} {clk s : Nat} {n root : Int32} (hn : ct_n f (nI clk) s) (h : n < 0 ∨ nI s < n) : (-1 : Int32) - nI s = an_aud f g clk n root ∧ g = nx_aud f g clk n := by
  unfold an_aud nx_aud; rw [ct_N_is hn, if_neg (fun q => q.1 h), if_neg (fun q => q h)]; exact ⟨rfl, rfl⟩
theorem au_g {f g : Nat → Int32} {clk s m : Nat} (hn : ct_n f (nI clk) s) (h : m ≤ s) : rt_g f g m = nx_aud f g clk (nI m) := by
  have := hn.1
  unfold nx_aud; rw [ct_N_is hn, if_pos (nI_nin h (by omega)), nI_clamp (by omega)]
theorem au_eq {f g : Nat → Int32} {clk s m : Nat} {root : Int32} (hn : ct_n f (nI clk) s) (h : m ≤ s) (h2 : rt_v f g m = root) : nI s = an_aud f g clk (nI m) root := by
  have := hn.1
  unfold an_aud; rw [ct_N_is hn, nI_clamp (by omega), if_pos ⟨nI_nin h (by omega), h2⟩]
theorem au_ne {f g : Nat → Int32} {clk s m : Nat} {root : Int32} (hn : ct_n f (nI clk) s) (h : m ≤ s) (h2 : ¬ rt_v f g m = root) : (-1 : Int32) - nI s = an_aud f g clk (nI m) root := by
  have := hn.1
  unfold an_aud; rw [ct_N_is hn, nI_clamp (by omega), if_neg (fun q => h2 q.2)]
theorem sw_n0 {x : Int32} (h : x.toInt < 0 ∨ 2 < x.toInt) : ¬ x = 0 ∧ ¬ x = 1 ∧ ¬ x = 2 := by
  refine ⟨fun q => ?_, fun q => ?_, fun q => ?_⟩ <;> subst q <;> revert h <;> decide
