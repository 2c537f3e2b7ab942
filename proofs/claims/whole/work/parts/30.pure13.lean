/-! rows for the reference -/
theorem am_3 (C : ct_T) (en : Nat) {j : Nat} (hj : j ≤ 12) (v : Int32) : (C.1, C.2.1, C.2.2.1, upd C.2.2.2.1 j (C.2.2.2.1 j + ((1 : Int32) <<< (v &&& 31))), C.2.2.2.2) = ct_ap C en 3 (nI j) v := by
  rw [ct_ap, if_neg (by decide), if_neg (by decide), if_pos rfl, nI_clamp (by omega)]
theorem am_4 (C : ct_T) (en : Nat) {j : Nat} (hj : j ≤ 12) (v : Int32) : (C.1, C.2.1, C.2.2.1, upd C.2.2.2.1 j (C.2.2.2.1 j - ((1 : Int32) <<< (v &&& 31))), C.2.2.2.2) = ct_ap C en 4 (nI j) v := by
  rw [ct_ap, if_neg (by decide), if_neg (by decide), if_neg (by decide), if_pos rfl, nI_clamp (by omega)]
theorem wr_step {x u z : wr_T} {a k : Nat} {g : Nat → Int32} {w : Int32} (h : u = wr_n x a g k) (h2 : z = wr_1 (u.1, u.2.1, u.2.2) (a + k) w) (hw : g k = w) : z = wr_n x a g (k + 1) := by
  rw [h2, wr_n, ← h, hw]
theorem en_7 {x u1 u2 u3 u4 u5 u6 u7 : wr_T} {a : Nat} {kind id v c0 c1 t : Int32} (h1 : u1 = wr_1 x a kind) (h2 : u2 = wr_1 (u1.1, u1.2.1, u1.2.2) (a + 1) id) (h3 : u3 = wr_1 (u2.1, u2.2.1, u2.2.2) (a + 2) v) (h4 : u4 = wr_1 (u3.1, u3.2.1, u3.2.2) (a + 3) c0) (h5 : u5 = wr_1 (u4.1, u4.2.1, u4.2.2) (a + 4) c1) (h6 : u6 = wr_1 (u5.1, u5.2.1, u5.2.2) (a + 5) t) (h7 : u7 = wr_1 (u6.1, u6.2.1, u6.2.2) (a + 6) (hf_mix (hf_mix (hf_mix (hf_mix (hf_mix (hf_mix 1 kind) id) v) c0) c1) t ||| 1)) : u7 = wr_n x a (rc_w kind id v c0 c1 t) 7 := by
  have e0 : x = wr_n x a (rc_w kind id v c0 c1 t) 0 := rfl
  have e1 := wr_step (w := kind) e0 h1 rfl
  have e2 := wr_step (w := id) e1 h2 rfl
  have e3 := wr_step (w := v) e2 h3 rfl
  have e4 := wr_step (w := c0) e3 h4 rfl
  have e5 := wr_step (w := c1) e4 h5 rfl
  have e6 := wr_step (w := t) e5 h6 rfl
  exact wr_step e6 h7 rfl
theorem wr_q {x u : wr_T} {a : Nat} {v : Int32} (h : u = wr_1 x a v) (hx : x.2.1 = 0 ∨ x.2.1 = 1) : u.2.1 = 0 ∨ u.2.1 = 1 := by rw [h]; exact wr_1_pw a v hx
/-- the refusal, by what the reference's replay found -/
theorem mn_no {f : Nat → Int32} {clk n : Nat} {K : ct_T} {kind id v : Int32} (hn : ct_n f (nI clk) n) (heq : ct_eq K (ct_st f n)) (k1 : 1 ≤ kind) (k6 : kind ≤ 6) (h : ¬ ct_ruC K kind id v (nI clk) = 0) : ct_ruC K kind id v (nI clk) = an_no f clk 1 kind id v := by
  unfold an_no
  rw [if_pos rfl, ct_N_is hn]
  unfold ct_vd
  rw [ct_vk_in k1 k6, ← ce_ru heq (ce_12 heq hn.2.1), if_neg (fun q => h q.1)]
theorem mn_full {f : Nat → Int32} {clk n : Nat} {K : ct_T} {kind id v : Int32} (hn : ct_n f (nI clk) n) (heq : ct_eq K (ct_st f n)) (k1 : 1 ≤ kind) (k6 : kind ≤ 6) (h : ct_ruC K kind id v (nI clk) = 0) (h2 : 40 ≤ n) : (-8 : Int32) = an_no f clk 1 kind id v := by
  unfold an_no
  rw [if_pos rfl, ct_N_is hn]
  unfold ct_vd
  rw [ct_vk_in k1 k6, ← ce_ru heq (ce_12 heq hn.2.1), if_pos ⟨h, h2⟩]
theorem mn_ok {f : Nat → Int32} {clk n : Nat} {K : ct_T} {kind id v : Int32} (hn : ct_n f (nI clk) n) (heq : ct_eq K (ct_st f n)) (k1 : 1 ≤ kind) (k6 : kind ≤ 6) (h : ct_ruC K kind id v (nI clk) = 0) (h2 : n < 40) : (0 : Int32) = an_no f clk 1 kind id v := by
  unfold an_no
  rw [if_pos rfl, ct_N_is hn]
  unfold ct_vd
  rw [ct_vk_in k1 k6, ← ce_ru heq (ce_12 heq hn.2.1), if_neg (fun q => absurd q.2 (by omega)), h]
/-- no refusal: the power is on, and the rules allow it -/
theorem mn_0 {f : Nat → Int32} {clk : Nat} {pw kind id v : Int32} (hp : pw = 0 ∨ pw = 1) (h : an_no f clk pw kind id v = 0) : pw = 1 ∧ ct_vd (ct_st f (ct_N f (nI clk))) (ct_N f (nI clk)) kind id v (nI clk) = 0 := by
  rcases hp with rfl | rfl
  · rw [an_no_off] at h; exact absurd h (by decide)
  · unfold an_no at h; rw [if_pos rfl] at h; exact ⟨rfl, h⟩
theorem mp_no {f : Nat → Int32} {clk : Nat} {pw lf kind id v : Int32} (h : ¬ an_no f clk pw kind id v = 0) : an_no f clk pw kind id v = an_pl f clk pw lf kind id v ∧ ((f, pw, lf) : wr_T) = nx_pl f clk pw lf kind id v := by
  unfold an_pl nx_pl; rw [if_neg h, if_neg h]; exact ⟨rfl, rfl⟩
theorem mp_w {f : Nat → Int32} {clk n : Nat} {lf kind id v : Int32} {y : wr_T} (hn : ct_n f (nI clk) n) (hy : y = wr_n (f, 1, lf) (7 * n) (rc_w kind id v 0 0 (nI clk)) 7) (k : kind ≠ 6) : y = pl_w f lf clk (ct_N f (nI clk)) kind id v := by
  unfold pl_w; rw [if_neg k, ct_N_is hn]; exact hy
theorem mp_w6 {f : Nat → Int32} {clk n i : Nat} {lf v : Int32} {y z : wr_T} (hi : i < 2 ^ 31) (hn : ct_n f (nI clk) n) (hy : y = wr_n (f, 1, lf) (7 * n) (rc_w 6 (nI i) v 0 0 (nI clk)) 7) (hz : z = wr_1 (y.1, y.2.1, y.2.2) (279 + i) 0) : z = pl_w f lf clk (ct_N f (nI clk)) 6 (nI i) v := by
  unfold pl_w; rw [if_pos rfl, ct_N_is hn, nI_clamp hi, hz, ← hy]
theorem mp_end {f : Nat → Int32} {clk : Nat} {lf kind id v : Int32} {y : wr_T} (h : an_no f clk 1 kind id v = 0) (hy : y = pl_w f lf clk (ct_N f (nI clk)) kind id v) : (y.2.1 = 1 → (0 : Int32) = an_pl f clk 1 lf kind id v) ∧ (¬ y.2.1 = 1 → (-9 : Int32) = an_pl f clk 1 lf kind id v) ∧ y = nx_pl f clk 1 lf kind id v := by
  unfold an_pl nx_pl; rw [if_pos h, if_pos h, ← hy]
  exact ⟨fun q => by rw [if_pos q], fun q => by rw [if_neg q], rfl⟩
theorem mu_no {f : Nat → Int32} {clk : Nat} {pw lf a b key date : Int32} (h : ¬ an_no f clk pw 1 0 date = 0) : an_no f clk pw 1 0 date = an_pu f clk pw lf a b key date ∧ ((f, pw, lf) : wr_T) = nx_pu f clk pw lf a b key date := by
  unfold an_pu nx_pu; rw [if_neg h, if_neg h]; exact ⟨rfl, rfl⟩
theorem mu_w {f : Nat → Int32} {clk n : Nat} {lf a b key date : Int32} {K : ct_T} {y z : wr_T} (hn : ct_n f (nI clk) n) (heq : ct_eq K (ct_st f n)) (hy : y = wr_1 (f, 1, lf) (279 + (K.1 + 1)) key) (hz : z = wr_n (y.1, y.2.1, y.2.2) (7 * n) (rc_w 1 (nI (K.1 + 1)) date (a ^^^ hf_mix (hf_mix key (nI (K.1 + 1))) 0) (b ^^^ hf_mix (hf_mix key (nI (K.1 + 1))) 1) (nI clk)) 7) : z = pu_w f lf clk (ct_N f (nI clk)) a b key date := by
  unfold pu_w hf_pad; rw [ct_N_is hn, ← heq.1, ← hy]; exact hz
theorem mu_end {f : Nat → Int32} {clk n : Nat} {lf a b key date : Int32} {K : ct_T} {y : wr_T} (hn : ct_n f (nI clk) n) (heq : ct_eq K (ct_st f n)) (h : an_no f clk 1 1 0 date = 0) (hy : y = pu_w f lf clk (ct_N f (nI clk)) a b key date) : (y.2.1 = 1 → nI (K.1 + 1) = an_pu f clk 1 lf a b key date) ∧ (¬ y.2.1 = 1 → (-9 : Int32) = an_pu f clk 1 lf a b key date) ∧ y = nx_pu f clk 1 lf a b key date := by
  unfold an_pu nx_pu; rw [if_pos h, if_pos h, ← hy, heq.1, ct_N_is hn]
  exact ⟨fun q => by rw [if_pos q], fun q => by rw [if_neg q], rfl⟩
theorem pw_n1 {y : wr_T} (h : y.2.1 = 0) : ¬ y.2.1 = 1 := by rw [h]; decide
theorem pw_1 {y : wr_T} (h : y.2.1 = 0 ∨ y.2.1 = 1) (h0 : ¬ y.2.1 = 0) : y.2.1 = 1 := h.resolve_left h0
theorem du_f0 (t n st : Nat) : du_f t n st 1 0 = (ds_at t n st).1 := by unfold du_f; rw [if_neg (by omega)]
theorem du_c0 (t n st : Nat) : du_c t n st 1 0 = (ds_at t n st).2 := by unfold du_c; rw [if_neg (by omega)]
theorem du_fs {t n st b k s : Nat} (h : s + 1 + k = st + b) (hs : s < st) : du_f t n st b k = ds_sf t n s := by unfold du_f; rw [show st + b - 1 - k = s by omega, if_pos hs]
theorem du_cs {t n st b k s : Nat} (h : s + 1 + k = st + b) (hs : s < st) : du_c t n st b k = ds_sc t n s := by unfold du_c; rw [show st + b - 1 - k = s by omega, if_pos hs]
