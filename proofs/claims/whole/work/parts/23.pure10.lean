/-! the ends of the class's requests -/
theorem wr_eta {y : wr_T} (h : y.2.1 = 1) : ((y.1, 1, y.2.2) : wr_T) = y := by
  obtain ⟨a, b, c⟩ := y
  simp only at h
  subst h
  rfl
theorem wd_next {f d : Nat → Int32} {lf : Int32} {a j : Nat} {y z : wr_T} (hy : y = wr_n (f, 1, lf) a d j) (h1 : y.2.1 = 1) (hz : z = wr_1 (y.1, 1, y.2.2) (a + j) (d j)) : z = wr_n (f, 1, lf) a d (j + 1) := by
  rw [hz, wr_eta h1, hy]; rfl
theorem wd_stop {f d : Nat → Int32} {lf : Int32} {a j : Nat} {z : wr_T} (hz : z = wr_n (f, 1, lf) a d (j + 1)) (h0 : z.2.1 = 0) (hj : j < 7) : z = wr_n (f, 1, lf) a d 7 := by
  have := wr_n_off (x := (f, 1, lf)) (a := a) (g := d) (k := j + 1) (by rw [← hz, h0]; decide) (6 - j)
  rw [show j + 1 + (6 - j) = 7 by omega, ← hz] at this
  exact this.symm
section CH
variable {f d : Nat → Int32} {clk en : Nat} {lf kind id v : Int32} {K : ct_T}
theorem an_no_on (hx : xr f clk 1 K en) (kind id v : Int32) : an_no f clk 1 kind id v = ct_vd K en kind id v (nI clk) := by
  obtain ⟨-, ho, -, h⟩ := hx
  obtain ⟨hn, heq, -⟩ := h rfl
  unfold an_no
  rw [if_pos rfl, ct_N_is hn, ce_vd heq ho]
theorem an_no_off (kind id v : Int32) : an_no f clk 0 kind id v = -10 := by
  unfold an_no
  rw [if_neg (by decide)]
theorem xr_G (hx : xr f clk 1 K en) : ∀ j, 1 ≤ j → j ≤ K.1 → ∃ g, g < 256 ∧ K.2.2.2.1 j = nI g := by
  obtain ⟨-, ho, -, h⟩ := hx
  obtain ⟨hn, heq, -⟩ := h rfl
  exact ce_G heq hn.2.1
theorem xr_off {f' : Nat → Int32} (hx : xr f clk 1 K en) : xr f' clk 0 K en := ⟨Or.inl rfl, hx.2.1, hx.2.2.1, fun q => absurd q (by decide)⟩
theorem ch_off : (-10 : Int32) = an_pl f clk 0 lf kind id v ∧ ((f, 0, lf) : wr_T) = nx_pl f clk 0 lf kind id v := by
  unfold an_pl nx_pl
  rw [an_no_off, if_neg (by decide), if_neg (by decide)]
  exact ⟨rfl, rfl⟩
theorem ch_no (hx : xr f clk 1 K en) (h : ¬ ct_vd K en kind id v (nI clk) = 0) : ct_vd K en kind id v (nI clk) = an_pl f clk 1 lf kind id v ∧ ((f, 1, lf) : wr_T) = nx_pl f clk 1 lf kind id v := by
  unfold an_pl nx_pl
  rw [an_no_on hx, if_neg h, if_neg h]
  exact ⟨rfl, rfl⟩
theorem ch_lost {y : wr_T} (hx : xr f clk 1 K en) (h : ct_vd K en kind id v (nI clk) = 0) (hy : y = pl_w f lf clk en kind id v) (hp : y.2.1 = 0) : (-9 : Int32) = an_pl f clk 1 lf kind id v ∧ y = nx_pl f clk 1 lf kind id v ∧ xr y.1 clk y.2.1 K en := by
  have hn := (hx.2.2.2 rfl).1
  unfold an_pl nx_pl
  rw [an_no_on hx, if_pos h, if_pos h, ct_N_is hn, ← hy]
  refine ⟨by rw [if_neg (by rw [hp]; decide)], rfl, ?_⟩
  rw [hp]; exact xr_off hx
theorem ch_done {y : wr_T} {K' : ct_T} (hc : clk < 2 ^ 31) (hx : xr f clk 1 K en) (h : ct_vd K en kind id v (nI clk) = 0) (k1 : kind ≠ 1) (hv : 5 ≤ kind → v = 0) (hy : y = pl_w f lf clk en kind id v) (hp : y.2.1 = 1) (hK : K' = ct_ap K en kind id v) : (0 : Int32) = an_pl f clk 1 lf kind id v ∧ y = nx_pl f clk 1 lf kind id v ∧ xr y.1 clk y.2.1 K' (en + 1) := by
  obtain ⟨hn, heq, hz⟩ := hx.2.2.2 rfl
  have ho := hx.2.1
  have h' := h
  rw [ce_vd heq ho] at h'
  obtain ⟨d1, d2, d3⟩ := pl_done hc hn hz k1 hv h' (by rw [← hy]; exact hp)
  have r := ct_vd0 h'
  have hi := (ct_iv_n (en + 1) d1.2.1).1
  have h12 := (ct_iv_n en hn.2.1).1
  have he : ct_eq K' (ct_st y.1 (en + 1)) := by
    rw [hK, hy, d2]
    exact ce_ap heq en (fun _ => ct_ru_there (by omega) k1 r.2.2.2) h12
  unfold an_pl nx_pl
  rw [an_no_on hx, if_pos h, if_pos h, ct_N_is hn, ← hy]
  refine ⟨by rw [if_pos hp], rfl, Or.inr hp, ?_, by omega, fun _ => ⟨by rw [hy]; exact d1, he, by rw [hy]; exact d3⟩⟩
  rw [he.1, hy]; exact hi
theorem ch_w0 {y : wr_T} (hd : ∀ j, j < 7 → d j = rc_w kind id v 0 0 (nI clk) j) (hy : y = wr_n (f, 1, lf) (7 * en) d 7) (h : y.2.1 = 0 ∨ kind ≠ 6) : y = pl_w f lf clk en kind id v := by
  rw [wr_n_cg 7 hd] at hy
  unfold pl_w
  by_cases e : kind = 6
  · rw [if_pos e, ← hy]
    rcases h with h | h
    · rw [wr_1_off _ _ (by rw [h]; decide)]
    · exact absurd e h
  · rw [if_neg e, ← hy]
theorem ch_w6 {y z : wr_T} {i : Nat} (hi : i < 2 ^ 31) (hd : ∀ j, j < 7 → d j = rc_w 6 (nI i) v 0 0 (nI clk) j) (hy : y = wr_n (f, 1, lf) (7 * en) d 7) (h1 : y.2.1 = 1) (hz : z = wr_1 (y.1, 1, y.2.2) (279 + i) 0) : z = pl_w f lf clk en 6 (nI i) v := by
  rw [wr_n_cg 7 hd] at hy
  unfold pl_w
  rw [if_pos rfl, ← hy, nI_clamp hi, hz, wr_eta h1]
variable {a b key date : Int32}
theorem pu_off : (-10 : Int32) = an_pu f clk 0 lf a b key date ∧ ((f, 0, lf) : wr_T) = nx_pu f clk 0 lf a b key date := by
  unfold an_pu nx_pu
  rw [an_no_off, if_neg (by decide), if_neg (by decide)]
  exact ⟨rfl, rfl⟩
theorem pu_no (hx : xr f clk 1 K en) (h : ¬ ct_vd K en 1 id date (nI clk) = 0) : ct_vd K en 1 id date (nI clk) = an_pu f clk 1 lf a b key date ∧ ((f, 1, lf) : wr_T) = nx_pu f clk 1 lf a b key date := by
  rw [ct_vd1 _ _ id 0] at h ⊢
  unfold an_pu nx_pu
  rw [an_no_on hx, if_neg h, if_neg h]
  exact ⟨rfl, rfl⟩
theorem pu_lost {y : wr_T} (hx : xr f clk 1 K en) (h : ct_vd K en 1 id date (nI clk) = 0) (hy : y = pu_w f lf clk en a b key date) (hp : y.2.1 = 0) : (-9 : Int32) = an_pu f clk 1 lf a b key date ∧ y = nx_pu f clk 1 lf a b key date ∧ xr y.1 clk y.2.1 K en := by
  have hn := (hx.2.2.2 rfl).1
  rw [ct_vd1 _ _ id 0] at h
  unfold an_pu nx_pu
  rw [an_no_on hx, if_pos h, if_pos h, ct_N_is hn, ← hy]
  refine ⟨by rw [if_neg (by rw [hp]; decide)], rfl, ?_⟩
  rw [hp]; exact xr_off hx
theorem pu_fin {y : wr_T} {K' : ct_T} (hc : clk < 2 ^ 31) (hx : xr f clk 1 K en) (h : ct_vd K en 1 (nI (K.1 + 1)) date (nI clk) = 0) (hy : y = pu_w f lf clk en a b key date) (hp : y.2.1 = 1) (hK : K' = ct_ap K en 1 (nI (K.1 + 1)) date) : nI (K.1 + 1) = an_pu f clk 1 lf a b key date ∧ y = nx_pu f clk 1 lf a b key date ∧ xr y.1 clk y.2.1 K' (en + 1) := by
  obtain ⟨hn, heq, hz⟩ := hx.2.2.2 rfl
  have ho := hx.2.1
  have h0 : ct_vd K en 1 0 date (nI clk) = 0 := by rw [ct_vd1 _ _ 0 (nI (K.1 + 1))]; exact h
  have h' := h0
  rw [ce_vd heq ho] at h'
  obtain ⟨d1, d2, d3⟩ := pu_done hc hn hz h' (by rw [← hy]; exact hp)
  have r := ct_vd0 h'
  have hi := (ct_iv_n (en + 1) d1.2.1).1
  have h12 := (ct_iv_n en hn.2.1).1
  have he : ct_eq K' (ct_st y.1 (en + 1)) := by
    rw [hK, hy, d2, heq.1]
    exact ce_ap heq en (fun q => absurd rfl q) h12
  unfold an_pu nx_pu
  rw [an_no_on hx, if_pos h0, if_pos h0, ct_N_is hn, ← hy]
  refine ⟨by rw [if_pos hp, heq.1], rfl, Or.inr hp, ?_, by omega, fun _ => ⟨by rw [hy]; exact d1, he, by rw [hy]; exact d3⟩⟩
  rw [he.1, hy]; exact hi
theorem pu_w0 {y : wr_T} (hx : xr f clk 1 K en) (hy : y = wr_1 (f, 1, lf) (279 + (K.1 + 1)) key) (h0 : y.2.1 = 0) : y = pu_w f lf clk en a b key date := by
  obtain ⟨hn, heq, hz⟩ := hx.2.2.2 rfl
  unfold pu_w
  rw [← heq.1, ← hy, wr_n_off0 (by rw [h0]; decide)]
theorem pu_w1 {y z : wr_T} (hx : xr f clk 1 K en) (hd : ∀ j, j < 7 → d j = rc_w 1 (nI (K.1 + 1)) date (a ^^^ hf_pad key (nI (K.1 + 1)) 0) (b ^^^ hf_pad key (nI (K.1 + 1)) 1) (nI clk) j) (hy : y = wr_1 (f, 1, lf) (279 + (K.1 + 1)) key) (h1 : y.2.1 = 1) (hz : z = wr_n (y.1, 1, y.2.2) (7 * en) d 7) : z = pu_w f lf clk en a b key date := by
  obtain ⟨hn, heq, -⟩ := hx.2.2.2 rfl
  unfold pu_w
  rw [wr_n_cg 7 hd] at hz
  rw [← heq.1, ← hy, hz, wr_eta h1]
end CH
