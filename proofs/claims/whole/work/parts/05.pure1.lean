/-! pure words: what both sides compute -/
def hf_rot (a : Int32) : Int32 := a <<< ((11 : Int32) &&& 31) ||| (a.toUInt32 >>> ((21 : Int32).toUInt32 &&& Int32.toUInt32 31)).toInt32
def hf_y (a b : Int32) : Int32 := (hf_rot a ^^^ b) * 48271001 + 12345
def hf_mix (a b : Int32) : Int32 := hf_y a b ^^^ ((hf_y a b).toUInt32 >>> ((15 : Int32).toUInt32 &&& Int32.toUInt32 31)).toInt32
def hf_node (a b : Int32) : Int32 := hf_mix (hf_mix 2 a) b
def hf_pad (k id j : Int32) : Int32 := hf_mix (hf_mix k id) j
def hf_lf (f : Nat → Int32) (s : Nat) : Nat → Int32
  | 0 => 1
  | k + 1 => hf_mix (hf_lf f s k) (f (s + k))
def hf_leaf (f : Nat → Int32) (s : Nat) : Int32 := hf_lf f s 6
theorem hf_lf_congr {f g : Nat → Int32} {s t : Nat} : ∀ k, (∀ j, j < k → f (s + j) = g (t + j)) → hf_lf f s k = hf_lf g t k
  | 0, _ => rfl
  | k + 1, h => by
    rw [hf_lf, hf_lf, hf_lf_congr k (fun j hj => h j (by omega)), h k (by omega)]
/-- the tree: leaves, then neighbours joined in place -/
def tr_lv (f : Nat → Int32) (a : Nat) (g : Nat → Int32) (j : Nat) : Nat → Int32 := fun k => if k < j then hf_leaf f (7 * (a + k)) else g k
def tr_jp (g : Nat → Int32) (j : Nat) : Nat → Int32 := fun k => if k < j then hf_node (g (2 * k)) (g (2 * k + 1)) else g k
def tr_jn (w : Nat) (g : Nat → Int32) : Nat → Int32 := if w % 2 = 1 then upd (tr_jp g (w / 2)) (w / 2) (g (w - 1)) else tr_jp g (w / 2)
def tr_go : Nat → Nat → (Nat → Int32) → (Nat → Int32)
  | 0, _, g => g
  | n + 1, w, g => if w ≤ 1 then g else tr_go n ((w + 1) / 2) (tr_jn w g)
def tr_of (f g : Nat → Int32) (a c : Nat) : Nat → Int32 := tr_go 6 c (tr_lv f a g c)
theorem tr_lv_0 (f g : Nat → Int32) (a : Nat) : tr_lv f a g 0 = g := by
  funext k; simp [tr_lv]
theorem tr_lv_s (f g : Nat → Int32) (a j : Nat) : upd (tr_lv f a g j) j (hf_leaf f (7 * (a + j))) = tr_lv f a g (j + 1) := by
  funext k
  unfold upd tr_lv
  by_cases h : k = j
  · subst h; simp
  · by_cases h2 : k < j
    · simp [h, h2, Nat.lt_succ_of_lt h2]
    · have : ¬ k < j + 1 := by omega
      simp [h, h2, this]
theorem tr_jp_0 (g : Nat → Int32) : tr_jp g 0 = g := by
  funext k; simp [tr_jp]
theorem tr_jp_a (g : Nat → Int32) (j : Nat) : tr_jp g j (2 * j) = g (2 * j) := by
  unfold tr_jp; rw [if_neg (by omega)]
theorem tr_jp_b (g : Nat → Int32) (j : Nat) : tr_jp g j (2 * j + 1) = g (2 * j + 1) := by
  unfold tr_jp; rw [if_neg (by omega)]
theorem tr_jp_s (g : Nat → Int32) (j : Nat) : upd (tr_jp g j) j (hf_node (g (2 * j)) (g (2 * j + 1))) = tr_jp g (j + 1) := by
  funext k
  unfold upd tr_jp
  by_cases h : k = j
  · subst h; simp
  · by_cases h2 : k < j
    · simp [h, h2, Nat.lt_succ_of_lt h2]
    · have : ¬ k < j + 1 := by omega
      simp [h, h2, this]
theorem tr_jp_w (g : Nat → Int32) {w : Nat} (h : 2 ≤ w) : tr_jp g (w / 2) (w - 1) = g (w - 1) := by
  unfold tr_jp; rw [if_neg (by omega)]
theorem tr_go_1 (n : Nat) {w : Nat} (g : Nat → Int32) (h : w ≤ 1) : tr_go n w g = g := by
  cases n with
  | zero => rfl
  | succ n => rw [tr_go, if_pos h]
theorem tr_go_s {n w : Nat} (g : Nat → Int32) (h : 1 < w) (hn : w ≤ 2 ^ (n + 1)) : tr_go (n + 1) w g = tr_go n ((w + 1) / 2) (tr_jn w g) := by
  rw [tr_go, if_neg (by omega)]
/-- the objects: how many, their states, dates, holds, put records -/
abbrev ct_T : Type := Nat × (Nat → Int32) × (Nat → Int32) × (Nat → Int32) × (Nat → Int32)
abbrev ct_has (g v : Int32) : Prop := (g >>> (v &&& 31)) - (g >>> (v &&& 31)) / 2 * 2 = 1
/-- the first rule that a request breaks, or 0 -/
def ct_ru (ob : Nat) (S D G : Nat → Int32) (kind id v t : Int32) : Int32 :=
  if (kind = 1 ∨ kind = 2) ∧ (v < 0 ∨ 1000000 < v) then -1
  else if (kind = 3 ∨ kind = 4) ∧ (v < 0 ∨ 7 < v) then -1
  else if kind = 1 then (if v < t then -4 else if 12 ≤ ob then -8 else 0)
  else if id < 1 ∨ nI ob < id then -2
  else if (kind = 6 ∧ S id.toNatClampNeg = 3) ∨ (kind ≠ 6 ∧ S id.toNatClampNeg ≠ 1) then -3
  else if kind = 2 then (if v ≤ D id.toNatClampNeg then -4 else 0)
  else if 5 ≤ kind then (if G id.toNatClampNeg ≠ 0 then -6 else if t < D id.toNatClampNeg then -7 else 0)
  else if (ct_has (G id.toNatClampNeg) v ↔ kind = 3) then -5 else 0
/-- a record is entered -/
def ct_ap (C : ct_T) (r : Nat) (kind id v : Int32) : ct_T :=
  if kind = 1 then (C.1 + 1, upd C.2.1 (C.1 + 1) 1, upd C.2.2.1 (C.1 + 1) v, upd C.2.2.2.1 (C.1 + 1) 0, upd C.2.2.2.2 (C.1 + 1) (nI r))
  else if kind = 2 then (C.1, C.2.1, upd C.2.2.1 id.toNatClampNeg v, C.2.2.2.1, C.2.2.2.2)
  else if kind = 3 then (C.1, C.2.1, C.2.2.1, upd C.2.2.2.1 id.toNatClampNeg (C.2.2.2.1 id.toNatClampNeg + ((1 : Int32) <<< (v &&& 31))), C.2.2.2.2)
  else if kind = 4 then (C.1, C.2.1, C.2.2.1, upd C.2.2.2.1 id.toNatClampNeg (C.2.2.2.1 id.toNatClampNeg - ((1 : Int32) <<< (v &&& 31))), C.2.2.2.2)
  else (C.1, upd C.2.1 id.toNatClampNeg (kind - 3), C.2.2.1, C.2.2.2.1, C.2.2.2.2)
/-- the objects as the first n records of an image made them -/
def ct_st (f : Nat → Int32) : Nat → ct_T
  | 0 => (0, fun _ => 0, fun _ => 0, fun _ => 0, fun _ => 0)
  | n + 1 => ct_ap (ct_st f n) n (f (7 * n)) (f (7 * n + 1)) (f (7 * n + 2))
def ct_bf (f : Nat → Int32) (r : Nat) : Int32 := if r = 0 then 0 else f (7 * (r - 1) + 5)
def ct_ruC (C : ct_T) (kind id v t : Int32) : Int32 := ct_ru C.1 C.2.1 C.2.2.1 C.2.2.2.1 kind id v t
/-- record r is sound, all before it being so -/
def ct_ok (f : Nat → Int32) (k : Int32) (r : Nat) : Prop :=
  f (7 * r + 6) = (hf_leaf f (7 * r) ||| 1) ∧ 1 ≤ f (7 * r) ∧ f (7 * r) ≤ 6 ∧ ct_bf f r ≤ f (7 * r + 5) ∧ f (7 * r + 5) ≤ k ∧
  (f (7 * r) ≠ 1 → f (7 * r + 3) = 0 ∧ f (7 * r + 4) = 0) ∧ (5 ≤ f (7 * r) → f (7 * r + 2) = 0) ∧ (f (7 * r) = 1 → f (7 * r + 1) = nI ((ct_st f r).1 + 1)) ∧
  ct_ruC (ct_st f r) (f (7 * r)) (f (7 * r + 1)) (f (7 * r + 2)) (f (7 * r + 5)) = 0
/-- n records are sound, and no more -/
def ct_n (f : Nat → Int32) (k : Int32) (n : Nat) : Prop := n ≤ 40 ∧ (∀ r, r < n → ct_ok f k r) ∧ (n < 40 → ¬ ct_ok f k n)
theorem ct_n_uq {f : Nat → Int32} {k : Int32} {n n' : Nat} (h : ct_n f k n) (h' : ct_n f k n') : n = n' := by
  rcases Nat.lt_trichotomy n n' with q | q | q
  · exact absurd (h'.2.1 n q) (h.2.2 (by have := h'.1; omega))
  · exact q
  · exact absurd (h.2.1 n' q) (h'.2.2 (by have := h.1; omega))
/-- two pictures of the objects agree as far as there are objects -/
def ct_eq (C C' : ct_T) : Prop := C.1 = C'.1 ∧ ∀ j, 1 ≤ j → j ≤ C'.1 → C.2.1 j = C'.2.1 j ∧ C.2.2.1 j = C'.2.2.1 j ∧ C.2.2.2.1 j = C'.2.2.2.1 j ∧ C.2.2.2.2 j = C'.2.2.2.2 j
/-- the same without the put records -/
def ct_eqm (ob : Nat) (S D G : Nat → Int32) (C : ct_T) : Prop := ob = C.1 ∧ ∀ j, 1 ≤ j → j ≤ C.1 → S j = C.2.1 j ∧ D j = C.2.2.1 j ∧ G j = C.2.2.2.1 j
/-- an id that is there -/
theorem ct_id {ob : Nat} (ho : ob < 2 ^ 31) {id : Int32} (h1 : ¬ id < 1) (h2 : ¬ nI ob < id) : ∃ j, 1 ≤ j ∧ j ≤ ob ∧ id = nI j := by
  rw [Int32.lt_iff_toInt_lt] at h1 h2
  rw [nI_toInt ho] at h2
  have e1 : (1 : Int32).toInt = 1 := by decide
  rw [e1] at h1
  have h0 : ¬ id < 0 := by
    rw [Int32.lt_iff_toInt_lt]
    have e0 : (0 : Int32).toInt = 0 := by decide
    omega
  obtain ⟨j, hj, rfl⟩ := nI_of h0
  rw [nI_toInt hj] at h1 h2
  exact ⟨j, by omega, by omega, rfl⟩
theorem ct_ru_eqm {ob : Nat} {S D G : Nat → Int32} {C : ct_T} (h : ct_eqm ob S D G C) (ho : ob < 2 ^ 31) (kind id v t : Int32) : ct_ru ob S D G kind id v t = ct_ruC C kind id v t := by
  obtain ⟨rfl, h⟩ := h
  unfold ct_ruC ct_ru
  by_cases hi : id < 1 ∨ nI C.1 < id
  · simp only [hi, if_true]
  · obtain ⟨j, j1, j2, rfl⟩ := ct_id ho (fun q => hi (Or.inl q)) (fun q => hi (Or.inr q))
    obtain ⟨e1, e2, e3⟩ := h j j1 j2
    rw [nI_clamp (by omega), e1, e2, e3]
