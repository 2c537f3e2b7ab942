/-! the archive's requests as one function of its words -/
theorem ct_ex (f : Nat → Int32) (k : Int32) : ∃ n, ct_n f k n := by
  by_cases h : ∃ n, n < 40 ∧ ¬ ct_ok f k n
  · obtain ⟨n, hn, hl⟩ := pk_least (fun n => n < 40 ∧ ¬ ct_ok f k n) h
    refine ⟨n, by omega, fun r hr => ?_, fun _ => hn.2⟩
    exact Classical.byContradiction fun q => hl r hr ⟨by omega, q⟩
  · refine ⟨40, Nat.le_refl _, fun r hr => ?_, fun q => absurd q (by omega)⟩
    exact Classical.byContradiction fun q => h ⟨r, hr, q⟩
/-- the number of sound records -/
noncomputable def ct_N (f : Nat → Int32) (k : Int32) : Nat := Classical.choose (ct_ex f k)
theorem ct_N_n (f : Nat → Int32) (k : Int32) : ct_n f k (ct_N f k) := Classical.choose_spec (ct_ex f k)
theorem ct_N_is {f : Nat → Int32} {k : Int32} {n : Nat} (h : ct_n f k n) : ct_N f k = n := ct_n_uq (ct_N_n f k) h
/-- while the power is on: the class's objects are the image's, and no word stands behind the sound records -/
def xr (f : Nat → Int32) (clk : Nat) (pw : Int32) (K : ct_T) (en : Nat) : Prop := (pw = 0 ∨ pw = 1) ∧ K.1 ≤ 12 ∧ en ≤ 40 ∧ (pw = 1 → ct_n f (nI clk) en ∧ ct_eq K (ct_st f en) ∧ ∀ j, 7 * en ≤ j → j < 280 → f j = 0)
/-- a request without new words of its own -/
def pl_w (f : Nat → Int32) (lf : Int32) (clk n : Nat) (kind id v : Int32) : wr_T :=
  if kind = 6 then wr_1 (wr_n (f, 1, lf) (7 * n) (rc_w kind id v 0 0 (nI clk)) 7) (279 + id.toNatClampNeg) 0 else wr_n (f, 1, lf) (7 * n) (rc_w kind id v 0 0 (nI clk)) 7
def pu_w (f : Nat → Int32) (lf : Int32) (clk n : Nat) (a b key date : Int32) : wr_T :=
  wr_n (wr_1 (f, 1, lf) (279 + ((ct_st f n).1 + 1)) key) (7 * n) (rc_w 1 (nI ((ct_st f n).1 + 1)) date (a ^^^ hf_pad key (nI ((ct_st f n).1 + 1)) 0) (b ^^^ hf_pad key (nI ((ct_st f n).1 + 1)) 1) (nI clk)) 7
/-- the refusal: 0 if there is none -/
noncomputable def an_no (f : Nat → Int32) (clk : Nat) (pw kind id v : Int32) : Int32 := if pw = 1 then ct_vd (ct_st f (ct_N f (nI clk))) (ct_N f (nI clk)) kind id v (nI clk) else -10
noncomputable def an_pl (f : Nat → Int32) (clk : Nat) (pw lf kind id v : Int32) : Int32 := if an_no f clk pw kind id v = 0 then (if (pl_w f lf clk (ct_N f (nI clk)) kind id v).2.1 = 1 then 0 else -9) else an_no f clk pw kind id v
noncomputable def nx_pl (f : Nat → Int32) (clk : Nat) (pw lf kind id v : Int32) : wr_T := if an_no f clk pw kind id v = 0 then pl_w f lf clk (ct_N f (nI clk)) kind id v else (f, pw, lf)
noncomputable def an_pu (f : Nat → Int32) (clk : Nat) (pw lf a b key date : Int32) : Int32 := if an_no f clk pw 1 0 date = 0 then (if (pu_w f lf clk (ct_N f (nI clk)) a b key date).2.1 = 1 then nI ((ct_st f (ct_N f (nI clk))).1 + 1) else -9) else an_no f clk pw 1 0 date
noncomputable def nx_pu (f : Nat → Int32) (clk : Nat) (pw lf a b key date : Int32) : wr_T := if an_no f clk pw 1 0 date = 0 then pu_w f lf clk (ct_N f (nI clk)) a b key date else (f, pw, lf)
theorem ct_ru1 (ob : Nat) (S D G : Nat → Int32) (i j v t : Int32) : ct_ru ob S D G 1 i v t = ct_ru ob S D G 1 j v t := by
  by_cases h : v < 0 ∨ 1000000 < v
  · exact (ru1_bad h).symm.trans (ru1_bad h)
  · by_cases h2 : v < t
    · exact (ru1_short h h2).symm.trans (ru1_short h h2)
    · by_cases h3 : 12 ≤ ob
      · exact (ru1_full h h2 h3).symm.trans (ru1_full h h2 h3)
      · exact (ru1_ok h h2 h3).symm.trans (ru1_ok h h2 h3)
theorem ct_vd1 (C : ct_T) (en : Nat) (i j v t : Int32) : ct_vd C en 1 i v t = ct_vd C en 1 j v t := by
  unfold ct_vd ct_vk ct_ruC
  rw [ct_ru1 C.1 C.2.1 C.2.2.1 C.2.2.2.1 i j v t]
theorem ce_vd {C C' : ct_T} (h : ct_eq C C') (ho : C.1 ≤ 12) (en : Nat) (kind id v t : Int32) : ct_vd C en kind id v t = ct_vd C' en kind id v t := by
  unfold ct_vd ct_vk
  rw [ce_ru h ho]
/-- an allowed request: room, kind and rule -/
theorem ct_vd0 {C : ct_T} {en : Nat} {kind id v t : Int32} (h : ct_vd C en kind id v t = 0) : en < 40 ∧ 1 ≤ kind ∧ kind ≤ 6 ∧ ct_ruC C kind id v t = 0 := by
  unfold ct_vd at h
  by_cases q : ct_vk C kind id v t = 0 ∧ 40 ≤ en
  · rw [if_pos q] at h; exact absurd h (by decide)
  · rw [if_neg q] at h
    refine ⟨Nat.lt_of_not_le fun z => q ⟨h, z⟩, ?_⟩
    unfold ct_vk at h
    by_cases w : 1 ≤ kind ∧ kind ≤ 6
    · rw [if_pos w] at h; exact ⟨w.1, w.2, h⟩
    · rw [if_neg w] at h; exact absurd h (by decide)
/-- what a whole record's writing leaves -/
theorem rq_done {f f' : Nat → Int32} {clk n : Nat} {kind id v c0 c1 : Int32} (hc : clk < 2 ^ 31) (h : ct_n f (nI clk) n) (hz : ∀ j, 7 * n ≤ j → j < 280 → f j = 0) (hn : n < 40)
    (hw : ∀ j, j < 280 → f' j = if 7 * n ≤ j ∧ j < 7 * n + 7 then rc_w kind id v c0 c1 (nI clk) (j - 7 * n) else f j)
    (k1 : 1 ≤ kind) (k6 : kind ≤ 6) (hc0 : kind ≠ 1 → c0 = 0 ∧ c1 = 0) (hv : 5 ≤ kind → v = 0) (hi : kind = 1 → id = nI ((ct_st f n).1 + 1)) (hr : ct_ruC (ct_st f n) kind id v (nI clk) = 0) :
    ct_n f' (nI clk) (n + 1) ∧ ct_st f' (n + 1) = ct_ap (ct_st f n) n kind id v ∧ ∀ j, 7 * (n + 1) ≤ j → j < 280 → f' j = 0 := by
  have h0 : ∀ j, j < 7 * n → f' j = f j := fun j hj => by rw [hw j (by omega), if_neg (by omega)]
  have h1 : ∀ j, j < 7 → f' (7 * n + j) = rc_w kind id v c0 c1 (nI clk) j := fun j hj => by rw [hw _ (by omega), if_pos ⟨by omega, by omega⟩, Nat.add_sub_cancel_left]
  have h2 : ∀ j, 7 * n + 7 ≤ j → j < 280 → f' j = 0 := fun j a b => by rw [hw j b, if_neg (by omega)]; exact hz j (by omega) b
  refine ⟨ct_add h hn h0 (rc_ok h (nI_pos' hc) h0 h1 k1 k6 hc0 hv hi hr) h2, ?_, fun j a b => h2 j (by omega) b⟩
  rw [ct_st, ct_st_cg h0 n (Nat.le_refl n)]
  have e0 := h1 0 (by decide)
  rw [Nat.add_zero] at e0
  rw [e0, h1 1 (by decide), h1 2 (by decide)]
  rfl
theorem pl_done {f : Nat → Int32} {lf : Int32} {clk n : Nat} {kind id v : Int32} (hc : clk < 2 ^ 31) (h : ct_n f (nI clk) n) (hz : ∀ j, 7 * n ≤ j → j < 280 → f j = 0) (k1 : kind ≠ 1) (hv : 5 ≤ kind → v = 0) (hr : ct_vd (ct_st f n) n kind id v (nI clk) = 0) (hp : (pl_w f lf clk n kind id v).2.1 = 1) :
    ct_n (pl_w f lf clk n kind id v).1 (nI clk) (n + 1) ∧ ct_st (pl_w f lf clk n kind id v).1 (n + 1) = ct_ap (ct_st f n) n kind id v ∧ ∀ j, 7 * (n + 1) ≤ j → j < 280 → (pl_w f lf clk n kind id v).1 j = 0 := by
  obtain ⟨r1, r2, r3, r4⟩ := ct_vd0 hr
  have h12 := (ct_iv_n n h.2.1).1
  obtain ⟨i, i1, i2, i3⟩ := ct_ru_there (by omega) k1 r4
  refine rq_done (c0 := 0) (c1 := 0) hc h hz r1 (fun j hj => ?_) r2 r3 (fun _ => ⟨rfl, rfl⟩) hv (fun q => absurd q k1) r4
  unfold pl_w at hp ⊢
  by_cases e : kind = 6
  · rw [if_pos e] at hp ⊢
    obtain ⟨p1, p2⟩ := wr_1_on hp
    rw [p2, ct_un (by rw [i3, nI_clamp (by omega)]; omega)]
    exact (wr_n_on 7 p1).2 j
  · rw [if_neg e] at hp ⊢
    exact (wr_n_on 7 hp).2 j
theorem pu_done {f : Nat → Int32} {lf : Int32} {clk n : Nat} {a b key date : Int32} (hc : clk < 2 ^ 31) (h : ct_n f (nI clk) n) (hz : ∀ j, 7 * n ≤ j → j < 280 → f j = 0) (hr : ct_vd (ct_st f n) n 1 0 date (nI clk) = 0) (hp : (pu_w f lf clk n a b key date).2.1 = 1) :
    ct_n (pu_w f lf clk n a b key date).1 (nI clk) (n + 1) ∧ ct_st (pu_w f lf clk n a b key date).1 (n + 1) = ct_ap (ct_st f n) n 1 (nI ((ct_st f n).1 + 1)) date ∧ ∀ j, 7 * (n + 1) ≤ j → j < 280 → (pu_w f lf clk n a b key date).1 j = 0 := by
  rw [ct_vd1 _ _ 0 (nI ((ct_st f n).1 + 1))] at hr
  obtain ⟨r1, r2, r3, r4⟩ := ct_vd0 hr
  refine rq_done (c0 := a ^^^ hf_pad key (nI ((ct_st f n).1 + 1)) 0) (c1 := b ^^^ hf_pad key (nI ((ct_st f n).1 + 1)) 1) hc h hz r1 (fun j hj => ?_) r2 r3 (fun q => absurd rfl q) (fun q => absurd q (by decide)) (fun _ => rfl) r4
  unfold pu_w at hp ⊢
  obtain ⟨p1, p2⟩ := wr_n_on 7 hp
  obtain ⟨p3, p4⟩ := wr_1_on p1
  rw [p2 j]
  by_cases q : 7 * n ≤ j ∧ j < 7 * n + 7
  · rw [if_pos q, if_pos q]
  · rw [if_neg q, if_neg q, p4, ct_un (by omega)]
/-- the draft's words -/
theorem rc_draft (dr : Nat → Int32) (kind id v c0 c1 t : Int32) : ∀ j, j < 7 → (upd (upd (upd (upd (upd (upd (upd dr 0 kind) 1 id) 2 v) 3 c0) 4 c1) 5 t) 6 (hf_leaf (upd (upd (upd (upd (upd (upd dr 0 kind) 1 id) 2 v) 3 c0) 4 c1) 5 t) 0 ||| 1)) j = rc_w kind id v c0 c1 t j := by
  intro j hj
  rcases (by omega : j = 0 ∨ j = 1 ∨ j = 2 ∨ j = 3 ∨ j = 4 ∨ j = 5 ∨ j = 6) with rfl | rfl | rfl | rfl | rfl | rfl | rfl <;> simp [upd, rc_w, hf_leaf, hf_lf]
theorem wr_n_cg {x : wr_T} {a : Nat} {g g' : Nat → Int32} : ∀ k, (∀ j, j < k → g j = g' j) → wr_n x a g k = wr_n x a g' k
  | 0, _ => rfl
  | k + 1, h => by rw [wr_n, wr_n, wr_n_cg k (fun j hj => h j (by omega)), h k (by omega)]
