/-! what the other calls answer, as functions -/
def NN : Int64 := 1099511627776
def an_tick (clk : Nat) (n : Int32) : Int32 := if n < 0 ∨ 1000 < n then -1 else nI (clk + n.toNatClampNeg)
def nx_tick (clk : Nat) (n : Int32) : Nat := if n < 0 ∨ 1000 < n then clk else clk + n.toNatClampNeg
theorem tk_no {clk : Nat} {n : Int32} (h : n < 0 ∨ 1000 < n) : (-1 : Int32) = an_tick clk n ∧ clk = nx_tick clk n := by
  unfold an_tick nx_tick; rw [if_pos h, if_pos h]; exact ⟨rfl, rfl⟩
theorem tk_k {n : Int32} (h0 : ¬ n < 0) (h1 : n ≤ 1000) : ∃ k, k ≤ 1000 ∧ n = nI k := nI_of2 (M := 1000) (n := 1000) (by decide) h0 h1
theorem tk_ok {clk k : Nat} (h : k ≤ 1000) : nI (clk + k) = an_tick clk (nI k) ∧ clk + k = nx_tick clk (nI k) := by
  have h0 : ¬ (nI k < 0 ∨ 1000 < nI k) := by
    rintro (q | q)
    · exact nI_pos (by omega) q
    · exact absurd ((nI_ltI (a := 1000) (by decide) (by omega)).1 q) (by omega)
  unfold an_tick nx_tick
  rw [if_neg h0, if_neg h0, nI_clamp (by omega)]
  exact ⟨rfl, rfl⟩
theorem xr_tick {f : Nat → Int32} {clk k : Nat} {pw : Int32} {K : ct_T} {en : Nat} (hx : xr f clk pw K en) (hc : clk + k < 2 ^ 31) : xr f (clk + k) pw K en := by
  refine ⟨hx.1, hx.2.1, hx.2.2.1, fun h => ?_⟩
  obtain ⟨hn, heq, hz⟩ := hx.2.2.2 h
  exact ⟨⟨hn.1, fun r hr => ct_ok_later (hn.2.1 r hr) (nI_le (by omega) hc), fun q => ct_no (hz _ (by omega) (by omega))⟩, heq, hz⟩
/-- the objects that the image shows -/
noncomputable def ct_C (f : Nat → Int32) (clk : Nat) : ct_T := ct_st f (ct_N f (nI clk))
noncomputable def an_get (f : Nat → Int32) (clk : Nat) (pw id j : Int32) : Int64 :=
  if pw = 1 ∧ ct_so (ct_C f clk) (ct_C f clk).2.1 id = 1 ∧ ¬ (j < 0 ∨ 1 < j) then (f (7 * ((ct_C f clk).2.2.2.2 id.toNatClampNeg).toNatClampNeg + (3 + j.toNatClampNeg)) ^^^ hf_pad (f (279 + id.toNatClampNeg)) id j).toInt64 else NN
noncomputable def an_look (f : Nat → Int32) (clk : Nat) (pw id w : Int32) : Int32 :=
  if pw = 1 ∧ ¬ (id < 1 ∨ nI (ct_C f clk).1 < id) then (if w = 0 then (ct_C f clk).2.1 id.toNatClampNeg else if w = 1 then (ct_C f clk).2.2.1 id.toNatClampNeg else if w = 2 then (ct_C f clk).2.2.2.1 id.toNatClampNeg else -1) else -1
noncomputable def an_rec (f : Nat → Int32) (clk : Nat) (pw : Int32) : Int32 := if pw = 1 then nI (ct_N f (nI clk)) else -1
noncomputable def an_root (f g : Nat → Int32) (clk : Nat) (pw n : Int32) : Int64 := if pw = 1 ∧ ¬ (n < 0 ∨ nI (ct_N f (nI clk)) < n) then (rt_v f g n.toNatClampNeg).toInt64 else NN
noncomputable def nx_root (f g : Nat → Int32) (clk : Nat) (pw n : Int32) : Nat → Int32 := if pw = 1 ∧ ¬ (n < 0 ∨ nI (ct_N f (nI clk)) < n) then rt_g f g n.toNatClampNeg else g
section XA
variable {f g : Nat → Int32} {clk en : Nat} {pw id j w : Int32} {K : ct_T}
theorem xr_N (hx : xr f clk 1 K en) : ct_N f (nI clk) = en := ct_N_is (hx.2.2.2 rfl).1
theorem xr_so (hx : xr f clk 1 K en) (id : Int32) : ct_so K K.2.1 id = ct_so (ct_C f clk) (ct_C f clk).2.1 id := by
  obtain ⟨hn, heq, -⟩ := hx.2.2.2 rfl
  have ho := hx.2.1
  unfold ct_C
  rw [ct_N_is hn]
  unfold ct_so
  rw [heq.1]
  by_cases h : id < 1 ∨ nI (ct_st f en).1 < id
  · rw [if_pos h, if_pos h]
  · rw [if_neg h, if_neg h]
    have h12 := (ct_iv_n en hn.2.1).1
    obtain ⟨i, i1, i2, rfl⟩ := ct_id (by omega) (fun q => h (Or.inl q)) (fun q => h (Or.inr q))
    rw [nI_clamp (by omega)]
    exact (heq.2 i i1 i2).1
theorem xr_at (hx : xr f clk 1 K en) {i : Nat} (i1 : 1 ≤ i) (i2 : i ≤ K.1) : K.2.1 i = (ct_C f clk).2.1 i ∧ K.2.2.1 i = (ct_C f clk).2.2.1 i ∧ K.2.2.2.1 i = (ct_C f clk).2.2.2.1 i ∧ K.2.2.2.2 i = (ct_C f clk).2.2.2.2 i := by
  obtain ⟨hn, heq, -⟩ := hx.2.2.2 rfl
  unfold ct_C
  rw [ct_N_is hn]
  exact heq.2 i i1 (by rw [← heq.1]; exact i2)
theorem xr_ob (hx : xr f clk 1 K en) : (ct_C f clk).1 = K.1 := by
  obtain ⟨hn, heq, -⟩ := hx.2.2.2 rfl
  unfold ct_C
  rw [ct_N_is hn]; exact heq.1.symm
/-- a live object is there, and its put record is a sound one -/
theorem xr_live (hx : xr f clk 1 K en) (h : ct_so K K.2.1 id = 1) : ∃ i p, 1 ≤ i ∧ i ≤ K.1 ∧ id = nI i ∧ p < 40 ∧ K.2.2.2.2 i = nI p := by
  obtain ⟨hn, heq, -⟩ := hx.2.2.2 rfl
  have ho := hx.2.1
  by_cases q : id < 1 ∨ nI K.1 < id
  · rw [ct_so_out q] at h; exact absurd h (by decide)
  · obtain ⟨i, i1, i2, rfl⟩ := ct_id (by omega) (fun z => q (Or.inl z)) (fun z => q (Or.inr z))
    obtain ⟨-, p, p1, p2, -⟩ := (ct_iv_n en hn.2.1).2.1 i i1 (by rw [← heq.1]; exact i2)
    have := hn.1
    exact ⟨i, p, i1, i2, rfl, by omega, by rw [(heq.2 i i1 (by rw [← heq.1]; exact i2)).2.2.2]; exact p2⟩
theorem ge_off (h : pw = 0) : NN = an_get f clk pw id j := by unfold an_get; rw [if_neg (fun q => absurd (h.symm.trans q.1) (by decide))]
theorem ge_dead (hx : xr f clk 1 K en) (h : ¬ ct_so K K.2.1 id = 1) : NN = an_get f clk 1 id j := by unfold an_get; rw [if_neg (fun q => h ((xr_so hx id).trans q.2.1))]
theorem ge_j (h : j < 0 ∨ 1 < j) : NN = an_get f clk pw id j := by unfold an_get; rw [if_neg (fun q => q.2.2 h)]
theorem ge_ok {i p jj : Nat} (hx : xr f clk 1 K en) (h : ct_so K K.2.1 (nI i) = 1) (i1 : 1 ≤ i) (i2 : i ≤ K.1) (hp : p < 40) (hP : K.2.2.2.2 i = nI p) (hj : jj ≤ 1) : (f (7 * p + (3 + jj)) ^^^ hf_pad (f (279 + i)) (nI i) (nI jj)).toInt64 = an_get f clk 1 (nI i) (nI jj) := by
  have ho := hx.2.1
  have h0 : ¬ (nI jj < 0 ∨ 1 < nI jj) := by
    rintro (q | q)
    · exact nI_pos (by omega) q
    · exact absurd ((nI_ltI (a := 1) (by decide) (by omega)).1 q) (by omega)
  unfold an_get
  rw [if_pos ⟨rfl, (xr_so hx _).symm.trans h, h0⟩, nI_clamp (by omega), nI_clamp (by omega), ← (xr_at hx i1 i2).2.2.2, hP, nI_clamp (by omega)]
theorem ge_jj (h0 : ¬ j < 0) (h1 : j ≤ 1) : ∃ k, k ≤ 1 ∧ j = nI k := nI_of2 (M := 1) (n := 1) (by decide) h0 h1
theorem lo_off (h : pw = 0) : (-1 : Int32) = an_look f clk pw id w := by unfold an_look; rw [if_neg (fun q => absurd (h.symm.trans q.1) (by decide))]
theorem lo_abs (hx : xr f clk 1 K en) (h : id < 1 ∨ nI K.1 < id) : (-1 : Int32) = an_look f clk 1 id w := by unfold an_look; rw [xr_ob hx, if_neg (fun q => q.2 h)]
theorem lo_in {i : Nat} (hx : xr f clk 1 K en) (i1 : 1 ≤ i) (i2 : i ≤ K.1) (w : Int32) : an_look f clk 1 (nI i) w = if w = 0 then K.2.1 i else if w = 1 then K.2.2.1 i else if w = 2 then K.2.2.2.1 i else -1 := by
  have ho := hx.2.1
  unfold an_look
  rw [xr_ob hx, if_pos ⟨rfl, ru_in i1 i2 ho⟩, nI_clamp (by omega), (xr_at hx i1 i2).1, (xr_at hx i1 i2).2.1, (xr_at hx i1 i2).2.2.1]
theorem re_off (h : pw = 0) : (-1 : Int32) = an_rec f clk pw := by unfold an_rec; rw [if_neg (fun q => absurd (h.symm.trans q) (by decide))]
theorem re_on (hx : xr f clk 1 K en) : nI en = an_rec f clk 1 := by unfold an_rec; rw [if_pos rfl, xr_N hx]
theorem ro_off (h : pw = 0) : NN = an_root f g clk pw w ∧ g = nx_root f g clk pw w := by
  unfold an_root nx_root; rw [if_neg (fun q => absurd (h.symm.trans q.1) (by decide)), if_neg (fun q => absurd (h.symm.trans q.1) (by decide))]; exact ⟨rfl, rfl⟩
theorem ro_no (hx : xr f clk 1 K en) (h : w < 0 ∨ nI en < w) : NN = an_root f g clk 1 w ∧ g = nx_root f g clk 1 w := by
  unfold an_root nx_root; rw [xr_N hx, if_neg (fun q => q.2 h), if_neg (fun q => q.2 h)]; exact ⟨rfl, rfl⟩
theorem nI_nin {n e : Nat} (h : n ≤ e) (he : e < 2 ^ 31) : ¬ (nI n < 0 ∨ nI e < nI n) := by
  rintro (q | q)
  · exact nI_pos (by omega) q
  · exact absurd ((nI_ltI (by omega) (by omega)).1 q) (by omega)
theorem nI_le2 {x : Int32} {e : Nat} (he : e < 2 ^ 31) (h0 : ¬ x < 0) (h1 : x ≤ nI e) : ∃ n, n ≤ e ∧ x = nI n := nI_of2 (M := nI e) (n := e) (nI_toInt he) h0 h1
theorem ro_ok {n : Nat} (hx : xr f clk 1 K en) (h : n ≤ en) : (rt_v f g n).toInt64 = an_root f g clk 1 (nI n) ∧ rt_g f g n = nx_root f g clk 1 (nI n) := by
  have := hx.2.2.1
  unfold an_root nx_root; rw [xr_N hx, if_pos ⟨rfl, nI_nin h (by omega)⟩, if_pos ⟨rfl, nI_nin h (by omega)⟩, nI_clamp (by omega)]; exact ⟨rfl, rfl⟩
end XA
/-- the number of steps of a way -/
noncomputable def ds_S (e : Bool) (t n : Nat) : Nat := haveI := Classical.propDecidable (∃ s, ds_is e t n s); if h : ∃ s, ds_is e t n s then Classical.choose h else 0
theorem ds_S_is {e : Bool} {t n s : Nat} (h : ds_is e t n s) : ds_S e t n = s := by
  have hh : ∃ s, ds_is e t n s := ⟨s, h⟩
  unfold ds_S
  simp only [dif_pos hh]
  exact ds_is_uq (Classical.choose_spec hh) h
noncomputable def ds_B (e : Bool) (t n : Nat) : Nat := if e = true then ds_b (ds_at t n (ds_S e t n)).1 else 1
/-- the digest k of a row -/
noncomputable def an_dg (e : Bool) (f g : Nat → Int32) (t n : Nat) (k : Int32) : Int64 := if k < 0 ∨ nI (ds_S e t n + ds_B e t n) ≤ k then NN else (tr_of f g (du_f t n (ds_S e t n) (ds_B e t n) k.toNatClampNeg) (du_c t n (ds_S e t n) (ds_B e t n) k.toNatClampNeg) 0).toInt64
noncomputable def nx_dg (e : Bool) (f g : Nat → Int32) (t n : Nat) (k : Int32) : Nat → Int32 := if k < 0 ∨ nI (ds_S e t n + ds_B e t n) ≤ k then g else tr_of f g (du_f t n (ds_S e t n) (ds_B e t n) k.toNatClampNeg) (du_c t n (ds_S e t n) (ds_B e t n) k.toNatClampNeg)
theorem dg_no {e : Bool} {f g : Nat → Int32} {t n st b : Nat} {k : Int32} (hs : ds_S e t n = st) (hb : ds_B e t n = b) (h : k < 0 ∨ nI (st + b) ≤ k) : NN = an_dg e f g t n k ∧ g = nx_dg e f g t n k := by
  subst hs hb
  unfold an_dg nx_dg; rw [if_pos h, if_pos h]; exact ⟨rfl, rfl⟩
theorem dg_ok {e : Bool} {f g : Nat → Int32} {t n st b k : Nat} (hs : ds_S e t n = st) (hb : ds_B e t n = b) (h : k < st + b) (hst : st + b < 2 ^ 31) : (tr_of f g (du_f t n st b k) (du_c t n st b k) 0).toInt64 = an_dg e f g t n (nI k) ∧ tr_of f g (du_f t n st b k) (du_c t n st b k) = nx_dg e f g t n (nI k) := by
  subst hs hb
  have h0 : ¬ (nI k < 0 ∨ nI (ds_S e t n + ds_B e t n) ≤ nI k) := by
    rintro (q | q)
    · exact nI_pos (by omega) q
    · exact absurd ((nI_leI (by omega) (by omega)).1 q) (by omega)
  unfold an_dg nx_dg; rw [if_neg h0, if_neg h0, nI_clamp (by omega)]; exact ⟨rfl, rfl⟩
/-- may the way be asked for -/
noncomputable def pa_c (f : Nat → Int32) (clk : Nat) (pw i n : Int32) : Prop := pw = 1 ∧ ¬ i < 0 ∧ i < n ∧ n ≤ nI (ct_N f (nI clk))
noncomputable def bg_c (f : Nat → Int32) (clk : Nat) (pw m n : Int32) : Prop := pw = 1 ∧ 1 ≤ m ∧ m ≤ n ∧ n ≤ nI (ct_N f (nI clk))
noncomputable def an_path (f g : Nat → Int32) (clk : Nat) (pw i n k : Int32) : Int64 := haveI := Classical.propDecidable (pa_c f clk pw i n); if pa_c f clk pw i n then an_dg false f g i.toNatClampNeg n.toNatClampNeg k else NN
noncomputable def nx_path (f g : Nat → Int32) (clk : Nat) (pw i n k : Int32) : Nat → Int32 := haveI := Classical.propDecidable (pa_c f clk pw i n); if pa_c f clk pw i n then nx_dg false f g i.toNatClampNeg n.toNatClampNeg k else g
noncomputable def an_brid (f g : Nat → Int32) (clk : Nat) (pw m n k : Int32) : Int64 := haveI := Classical.propDecidable (bg_c f clk pw m n); if bg_c f clk pw m n then an_dg true f g (m.toNatClampNeg - 1) n.toNatClampNeg k else NN
noncomputable def nx_brid (f g : Nat → Int32) (clk : Nat) (pw m n k : Int32) : Nat → Int32 := haveI := Classical.propDecidable (bg_c f clk pw m n); if bg_c f clk pw m n then nx_dg true f g (m.toNatClampNeg - 1) n.toNatClampNeg k else g
theorem pa_no {f g : Nat → Int32} {clk : Nat} {pw i n k : Int32} (h : ¬ pa_c f clk pw i n) : NN = an_path f g clk pw i n k ∧ g = nx_path f g clk pw i n k := by
  unfold an_path nx_path; simp only [if_neg h]; exact ⟨trivial, trivial⟩
theorem pa_ok {f g : Nat → Int32} {clk : Nat} {pw i n k : Int32} (h : pa_c f clk pw i n) : an_path f g clk pw i n k = an_dg false f g i.toNatClampNeg n.toNatClampNeg k ∧ nx_path f g clk pw i n k = nx_dg false f g i.toNatClampNeg n.toNatClampNeg k := by
  unfold an_path nx_path; simp only [if_pos h]; exact ⟨trivial, trivial⟩
theorem bg_no {f g : Nat → Int32} {clk : Nat} {pw m n k : Int32} (h : ¬ bg_c f clk pw m n) : NN = an_brid f g clk pw m n k ∧ g = nx_brid f g clk pw m n k := by
  unfold an_brid nx_brid; simp only [if_neg h]; exact ⟨trivial, trivial⟩
theorem bg_ok {f g : Nat → Int32} {clk : Nat} {pw m n k : Int32} (h : bg_c f clk pw m n) : an_brid f g clk pw m n k = an_dg true f g (m.toNatClampNeg - 1) n.toNatClampNeg k ∧ nx_brid f g clk pw m n k = nx_dg true f g (m.toNatClampNeg - 1) n.toNatClampNeg k := by
  unfold an_brid nx_brid; simp only [if_pos h]; exact ⟨trivial, trivial⟩
/-- two ints that stand in order below a number -/
theorem wy_in {i n : Int32} {e : Nat} (he : e < 2 ^ 31) (h0 : ¬ i < 0) (h1 : i < n) (h2 : n ≤ nI e) : ∃ a b, a < b ∧ b ≤ e ∧ i = nI a ∧ n = nI b := by
  obtain ⟨a, ha, rfl⟩ := nI_of h0
  have hn : ¬ n < 0 := fun q => by
    have := Int32.lt_trans h1 q
    exact nI_pos ha this
  obtain ⟨b, hb, rfl⟩ := nI_le2 he hn h2
  exact ⟨a, b, (nI_ltI ha (by omega)).1 h1, hb, rfl, rfl⟩
theorem wy_in1 {m n : Int32} {e : Nat} (he : e < 2 ^ 31) (h0 : 1 ≤ m) (h1 : m ≤ n) (h2 : n ≤ nI e) : ∃ a b, 1 ≤ a ∧ a ≤ b ∧ b ≤ e ∧ m = nI a ∧ n = nI b := by
  have hm : ¬ m < 0 := fun q => by
    have := Int32.lt_of_le_of_lt h0 q
    exact absurd this (by decide)
  have hn : ¬ n < 0 := fun q => hm (Int32.lt_of_le_of_lt h1 q)
  obtain ⟨b, hb, rfl⟩ := nI_le2 he hn h2
  obtain ⟨a, ha, rfl⟩ := nI_of hm
  exact ⟨a, b, (nI_leI (a := 1) (by decide) ha).1 h0, (nI_leI ha (by omega)).1 h1, hb, rfl, rfl⟩
def an_word (f : Nat → Int32) (a : Int32) : Int64 := if a < 0 ∨ 292 ≤ a then NN else (f a.toNatClampNeg).toInt64
def an_alt (pw a : Int32) : Int32 := if pw = 1 ∨ a < 0 ∨ 292 ≤ a then 0 else 1
def nx_alt (f : Nat → Int32) (pw a v : Int32) : Nat → Int32 := if pw = 1 ∨ a < 0 ∨ 292 ≤ a then f else upd f a.toNatClampNeg v
theorem pl_in {k : Nat} (h : k < 292) : ¬ (nI k < 0 ∨ 292 ≤ nI k) := by
  rintro (q | q)
  · exact nI_pos (by omega) q
  · exact absurd ((nI_leI (a := 292) (by decide) (by omega)).1 q) (by omega)
theorem wo_in {f : Nat → Int32} {k : Nat} (h : k < 292) : (f k).toInt64 = an_word f (nI k) := by unfold an_word; rw [if_neg (pl_in h), nI_clamp (by omega)]
theorem wo_out {f : Nat → Int32} {a : Int32} (h : a < 0 ∨ 292 ≤ a) : NN = an_word f a := by unfold an_word; rw [if_pos h]
theorem al_no {f : Nat → Int32} {pw a v : Int32} (h : pw = 1 ∨ a < 0 ∨ 292 ≤ a) : (0 : Int32) = an_alt pw a ∧ f = nx_alt f pw a v := by unfold an_alt nx_alt; rw [if_pos h, if_pos h]; exact ⟨rfl, rfl⟩
theorem al_ok {f : Nat → Int32} {pw v : Int32} {k : Nat} (hp : pw = 0) (h : k < 292) : (1 : Int32) = an_alt pw (nI k) ∧ upd f k v = nx_alt f pw (nI k) v := by
  have h0 : ¬ (pw = 1 ∨ nI k < 0 ∨ 292 ≤ nI k) := by
    rintro (q | q)
    · exact absurd (hp.symm.trans q) (by decide)
    · exact pl_in h q
  unfold an_alt nx_alt; rw [if_neg h0, if_neg h0, nI_clamp (by omega)]; exact ⟨rfl, rfl⟩
def an_cut (n : Int32) : Int32 := if n < -1 ∨ 400 < n then 0 else 1
def nx_cut (lf n : Int32) : Int32 := if n < -1 ∨ 400 < n then lf else n
def an_feed (fc : Nat) : Int32 := if fc < 12 then 1 else 0
def nx_fd (fd : Nat → Int32) (fc : Nat) (w : Int32) : Nat → Int32 := if fc < 12 then upd fd fc w else fd
def nx_fc (fc : Nat) : Nat := if fc < 12 then fc + 1 else fc
noncomputable def an_pow (f : Nat → Int32) (clk : Nat) (pw on : Int32) : Int32 := if on = pw then -1 else nI (ct_N f (nI clk))
noncomputable def nx_pow (f : Nat → Int32) (clk : Nat) (pw on : Int32) : Nat → Int32 := if on = pw then f else if on = 1 then wp_all f (ct_N f (nI clk)) else f
noncomputable def an_aud (f g : Nat → Int32) (clk : Nat) (n root : Int32) : Int32 := if ¬ (n < 0 ∨ nI (ct_N f (nI clk)) < n) ∧ rt_v f g n.toNatClampNeg = root then nI (ct_N f (nI clk)) else -1 - nI (ct_N f (nI clk))
noncomputable def nx_aud (f g : Nat → Int32) (clk : Nat) (n : Int32) : Nat → Int32 := if ¬ (n < 0 ∨ nI (ct_N f (nI clk)) < n) then rt_g f g n.toNatClampNeg else g
/-- proofs from outside -/
def in_c (i n : Int32) : Prop := ¬ i < 0 ∧ i < n ∧ n ≤ 40
def ex_c (m n : Int32) : Prop := 1 ≤ m ∧ m ≤ n ∧ n ≤ 40
noncomputable def an_inc (fd : Nat → Int32) (fc : Nat) (i n root : Int32) : Prop := in_c i n ∧ fc = ds_S false i.toNatClampNeg n.toNatClampNeg + 1 ∧ pf_up fd i.toNatClampNeg n.toNatClampNeg (ds_S false i.toNatClampNeg n.toNatClampNeg) (ds_S false i.toNatClampNeg n.toNatClampNeg) = root
noncomputable def an_ext (fd : Nat → Int32) (fc : Nat) (m n early late : Int32) : Prop := ex_c m n ∧ fc = ds_S true (m.toNatClampNeg - 1) n.toNatClampNeg + ds_B true (m.toNatClampNeg - 1) n.toNatClampNeg ∧
  pf_old fd (pf_x fd early (ds_B true (m.toNatClampNeg - 1) n.toNatClampNeg)) (ds_B true (m.toNatClampNeg - 1) n.toNatClampNeg) (m.toNatClampNeg - 1) n.toNatClampNeg (ds_S true (m.toNatClampNeg - 1) n.toNatClampNeg) (ds_S true (m.toNatClampNeg - 1) n.toNatClampNeg) = early ∧
  pf_new fd (pf_x fd early (ds_B true (m.toNatClampNeg - 1) n.toNatClampNeg)) (ds_B true (m.toNatClampNeg - 1) n.toNatClampNeg) (m.toNatClampNeg - 1) n.toNatClampNeg (ds_S true (m.toNatClampNeg - 1) n.toNatClampNeg) (ds_S true (m.toNatClampNeg - 1) n.toNatClampNeg) = late
