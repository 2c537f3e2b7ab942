/-! rows of my own over the kit's: numbers as nI, calls of contracts with a fixed frame -/
section GR
variable {p : Program} {l : Launch} {e : Env} {R : Room} {s : State} {m : MethodId} {args : Array Value} {below : List Frame} {meth : Method} {c : Code} {H : Heap} {locs : List Loc} {cells slots : Nat} {Q : State → Prop}
variable {cc : ByteArray} {pc : Nat} {ls : Array Slot} {rest : List Value}
theorem gr_addN (hx : p.tables.exec = Jvm.exec) (hb : c.code = cc) {x y : Int32} (a b : Nat) (ha : x = nI a) (hbb : y = nI b) (hdg : decode cc pc = .ok (.iadd, 1))
    (k : W p l e R s m args below meth c H locs cells slots Q (F0 m (pc + 1) ls (.int (nI (a + b)) :: rest))) : W p l e R s m args below meth c H locs cells slots Q (F0 m pc ls (.int y :: .int x :: rest)) := by
  subst ha hbb
  refine lv_iadd hx hb hdg ?_
  rw [nI_add]; exact k
theorem gr_subN (hx : p.tables.exec = Jvm.exec) (hb : c.code = cc) {x y : Int32} (a b : Nat) (ha : x = nI a) (hbb : y = nI b) (h : b ≤ a) (hdg : decode cc pc = .ok (.isub, 1))
    (k : W p l e R s m args below meth c H locs cells slots Q (F0 m (pc + 1) ls (.int (nI (a - b)) :: rest))) : W p l e R s m args below meth c H locs cells slots Q (F0 m pc ls (.int y :: .int x :: rest)) := by
  subst ha hbb
  refine lv_isub hx hb hdg ?_
  rw [pk_sub h]; exact k
theorem gr_mulN (hx : p.tables.exec = Jvm.exec) (hb : c.code = cc) {x y : Int32} (a b : Nat) (ha : x = nI a) (hbb : y = nI b) (hdg : decode cc pc = .ok (.imul, 1))
    (k : W p l e R s m args below meth c H locs cells slots Q (F0 m (pc + 1) ls (.int (nI (a * b)) :: rest))) : W p l e R s m args below meth c H locs cells slots Q (F0 m pc ls (.int y :: .int x :: rest)) := by
  subst ha hbb
  refine lv_imul hx hb hdg ?_
  rw [pk_mul]; exact k
theorem gr_divN (hx : p.tables.exec = Jvm.exec) (hb : c.code = cc) {x y : Int32} (a b : Nat) (ha : x = nI a) (hbb : y = nI b) (ha1 : a < 2 ^ 31) (hb0 : 0 < b) (hb1 : b < 2 ^ 31) (hdg : decode cc pc = .ok (.idiv, 1))
    (k : W p l e R s m args below meth c H locs cells slots Q (F0 m (pc + 1) ls (.int (nI (a / b)) :: rest))) : W p l e R s m args below meth c H locs cells slots Q (F0 m pc ls (.int y :: .int x :: rest)) := by
  subst ha hbb
  refine lv_idiv hx hb hdg (nI_ne0 hb0 hb1) ?_
  rw [pk_div ha1 hb0 hb1]; exact k
theorem gr_remN (hx : p.tables.exec = Jvm.exec) (hb : c.code = cc) {x y : Int32} (a b : Nat) (ha : x = nI a) (hbb : y = nI b) (ha1 : a < 2 ^ 31) (hb0 : 0 < b) (hb1 : b < 2 ^ 31) (hdg : decode cc pc = .ok (.irem, 1))
    (k : W p l e R s m args below meth c H locs cells slots Q (F0 m (pc + 1) ls (.int (nI (a % b)) :: rest))) : W p l e R s m args below meth c H locs cells slots Q (F0 m pc ls (.int y :: .int x :: rest)) := by
  subst ha hbb
  refine lv_irem hx hb hdg (nI_ne0 hb0 hb1) ?_
  rw [pk_rem ha1 hb0 hb1]; exact k
theorem gr_top {x y : Int32} (h : x = y) (k : W p l e R s m args below meth c H locs cells slots Q (F0 m pc ls (.int y :: rest))) : W p l e R s m args below meth c H locs cells slots Q (F0 m pc ls (.int x :: rest)) := h ▸ k
/-- branches over numbers -/
theorem gr_cge (hx : p.tables.exec = Jvm.exec) (hb : c.code = cc) {x y : Int32} (a b : Nat) (ha : x = nI a) (hbb : y = nI b) (ha1 : a < 2 ^ 31) (hb1 : b < 2 ^ 31) {off : Int} {tgt : Nat} (hdg : decode cc pc = .ok (.if_icmp .ge off, 3)) (ht : (pc : Int) + off = (tgt : Int))
    (kt : b ≤ a → W p l e R s m args below meth c H locs cells slots Q (F0 m tgt ls rest)) (kf : a < b → W p l e R s m args below meth c H locs cells slots Q (F0 m (pc + 3) ls rest)) : W p l e R s m args below meth c H locs cells slots Q (F0 m pc ls (.int y :: .int x :: rest)) := by
  subst ha hbb
  exact lv_icmp_ge hx hb hdg ht (fun h => kt ((nI_leI hb1 ha1).1 h)) (fun h => kf (Nat.lt_of_not_le fun q => h ((nI_leI hb1 ha1).2 q)))
theorem gr_clt (hx : p.tables.exec = Jvm.exec) (hb : c.code = cc) {x y : Int32} (a b : Nat) (ha : x = nI a) (hbb : y = nI b) (ha1 : a < 2 ^ 31) (hb1 : b < 2 ^ 31) {off : Int} {tgt : Nat} (hdg : decode cc pc = .ok (.if_icmp .lt off, 3)) (ht : (pc : Int) + off = (tgt : Int))
    (kt : a < b → W p l e R s m args below meth c H locs cells slots Q (F0 m tgt ls rest)) (kf : b ≤ a → W p l e R s m args below meth c H locs cells slots Q (F0 m (pc + 3) ls rest)) : W p l e R s m args below meth c H locs cells slots Q (F0 m pc ls (.int y :: .int x :: rest)) := by
  subst ha hbb
  exact lv_icmp_lt hx hb hdg ht (fun h => kt ((nI_ltI ha1 hb1).1 h)) (fun h => kf (Nat.le_of_not_lt fun q => h ((nI_ltI ha1 hb1).2 q)))
theorem gr_cgt (hx : p.tables.exec = Jvm.exec) (hb : c.code = cc) {x y : Int32} (a b : Nat) (ha : x = nI a) (hbb : y = nI b) (ha1 : a < 2 ^ 31) (hb1 : b < 2 ^ 31) {off : Int} {tgt : Nat} (hdg : decode cc pc = .ok (.if_icmp .gt off, 3)) (ht : (pc : Int) + off = (tgt : Int))
    (kt : b < a → W p l e R s m args below meth c H locs cells slots Q (F0 m tgt ls rest)) (kf : a ≤ b → W p l e R s m args below meth c H locs cells slots Q (F0 m (pc + 3) ls rest)) : W p l e R s m args below meth c H locs cells slots Q (F0 m pc ls (.int y :: .int x :: rest)) := by
  subst ha hbb
  exact lv_icmp_gt hx hb hdg ht (fun h => kt ((nI_ltI hb1 ha1).1 h)) (fun h => kf (Nat.le_of_not_lt fun q => h ((nI_ltI hb1 ha1).2 q)))
theorem gr_cle (hx : p.tables.exec = Jvm.exec) (hb : c.code = cc) {x y : Int32} (a b : Nat) (ha : x = nI a) (hbb : y = nI b) (ha1 : a < 2 ^ 31) (hb1 : b < 2 ^ 31) {off : Int} {tgt : Nat} (hdg : decode cc pc = .ok (.if_icmp .le off, 3)) (ht : (pc : Int) + off = (tgt : Int))
    (kt : a ≤ b → W p l e R s m args below meth c H locs cells slots Q (F0 m tgt ls rest)) (kf : b < a → W p l e R s m args below meth c H locs cells slots Q (F0 m (pc + 3) ls rest)) : W p l e R s m args below meth c H locs cells slots Q (F0 m pc ls (.int y :: .int x :: rest)) := by
  subst ha hbb
  exact lv_icmp_le hx hb hdg ht (fun h => kt ((nI_leI ha1 hb1).1 h)) (fun h => kf (Nat.lt_of_not_le fun q => h ((nI_leI ha1 hb1).2 q)))
theorem gr_ceq (hx : p.tables.exec = Jvm.exec) (hb : c.code = cc) {x y : Int32} (a b : Nat) (ha : x = nI a) (hbb : y = nI b) (ha1 : a < 2 ^ 31) (hb1 : b < 2 ^ 31) {off : Int} {tgt : Nat} (hdg : decode cc pc = .ok (.if_icmp .eq off, 3)) (ht : (pc : Int) + off = (tgt : Int))
    (kt : a = b → W p l e R s m args below meth c H locs cells slots Q (F0 m tgt ls rest)) (kf : a ≠ b → W p l e R s m args below meth c H locs cells slots Q (F0 m (pc + 3) ls rest)) : W p l e R s m args below meth c H locs cells slots Q (F0 m pc ls (.int y :: .int x :: rest)) := by
  subst ha hbb
  exact lv_icmp_eq hx hb hdg ht (fun h => kt ((nI_eq ha1 hb1).1 h)) (fun h => kf (fun q => h ((nI_eq ha1 hb1).2 q)))
theorem gr_cne (hx : p.tables.exec = Jvm.exec) (hb : c.code = cc) {x y : Int32} (a b : Nat) (ha : x = nI a) (hbb : y = nI b) (ha1 : a < 2 ^ 31) (hb1 : b < 2 ^ 31) {off : Int} {tgt : Nat} (hdg : decode cc pc = .ok (.if_icmp .ne off, 3)) (ht : (pc : Int) + off = (tgt : Int))
    (kt : a ≠ b → W p l e R s m args below meth c H locs cells slots Q (F0 m tgt ls rest)) (kf : a = b → W p l e R s m args below meth c H locs cells slots Q (F0 m (pc + 3) ls rest)) : W p l e R s m args below meth c H locs cells slots Q (F0 m pc ls (.int y :: .int x :: rest)) := by
  subst ha hbb
  exact lv_icmp_ne hx hb hdg ht (fun h => kt (fun q => h ((nI_eq ha1 hb1).2 q))) (fun h => kf ((nI_eq ha1 hb1).1 h))
/-- a number against nought -/
theorem gr_zge (hx : p.tables.exec = Jvm.exec) (hb : c.code = cc) {x : Int32} (a : Nat) (ha : x = nI a) (ha1 : a < 2 ^ 31) {off : Int} {tgt : Nat} (hdg : decode cc pc = .ok (.ifCond .ge off, 3)) (ht : (pc : Int) + off = (tgt : Int))
    (kt : W p l e R s m args below meth c H locs cells slots Q (F0 m tgt ls rest)) : W p l e R s m args below meth c H locs cells slots Q (F0 m pc ls (.int x :: rest)) := by
  subst ha
  exact lv_if_ge hx hb hdg ht (fun _ => kt) (fun h => absurd (nI_pos' ha1) h)
theorem gr_zlt (hx : p.tables.exec = Jvm.exec) (hb : c.code = cc) {x : Int32} (a : Nat) (ha : x = nI a) (ha1 : a < 2 ^ 31) {off : Int} {tgt : Nat} (hdg : decode cc pc = .ok (.ifCond .lt off, 3)) (ht : (pc : Int) + off = (tgt : Int))
    (kf : W p l e R s m args below meth c H locs cells slots Q (F0 m (pc + 3) ls rest)) : W p l e R s m args below meth c H locs cells slots Q (F0 m pc ls (.int x :: rest)) := by
  subst ha
  exact lv_if_lt hx hb hdg ht (fun h => absurd h (nI_pos ha1)) (fun _ => kf)
theorem gr_zgt (hx : p.tables.exec = Jvm.exec) (hb : c.code = cc) {x : Int32} (a : Nat) (ha : x = nI a) (ha1 : a < 2 ^ 31) {off : Int} {tgt : Nat} (hdg : decode cc pc = .ok (.ifCond .gt off, 3)) (ht : (pc : Int) + off = (tgt : Int))
    (kt : 0 < a → W p l e R s m args below meth c H locs cells slots Q (F0 m tgt ls rest)) (kf : a = 0 → W p l e R s m args below meth c H locs cells slots Q (F0 m (pc + 3) ls rest)) : W p l e R s m args below meth c H locs cells slots Q (F0 m pc ls (.int x :: rest)) := by
  subst ha
  exact lv_if_gt hx hb hdg ht (fun h => kt (by rw [← nI_0] at h; exact (nI_ltI (by decide) ha1).1 h)) (fun h => kf (Nat.eq_zero_of_not_pos fun q => h (by rw [← nI_0]; exact (nI_ltI (by decide) ha1).2 q)))
theorem gr_zle (hx : p.tables.exec = Jvm.exec) (hb : c.code = cc) {x : Int32} (a : Nat) (ha : x = nI a) (ha1 : a < 2 ^ 31) {off : Int} {tgt : Nat} (hdg : decode cc pc = .ok (.ifCond .le off, 3)) (ht : (pc : Int) + off = (tgt : Int))
    (kt : a = 0 → W p l e R s m args below meth c H locs cells slots Q (F0 m tgt ls rest)) (kf : 0 < a → W p l e R s m args below meth c H locs cells slots Q (F0 m (pc + 3) ls rest)) : W p l e R s m args below meth c H locs cells slots Q (F0 m pc ls (.int x :: rest)) := by
  subst ha
  exact lv_if_le hx hb hdg ht (fun h => kt (by rw [← nI_0] at h; exact Nat.le_zero.1 ((nI_leI ha1 (by decide)).1 h))) (fun h => kf (Nat.pos_of_ne_zero fun q => h (by subst q; decide)))
theorem gr_zeq (hx : p.tables.exec = Jvm.exec) (hb : c.code = cc) {x : Int32} (a : Nat) (ha : x = nI a) (ha1 : a < 2 ^ 31) {off : Int} {tgt : Nat} (hdg : decode cc pc = .ok (.ifCond .eq off, 3)) (ht : (pc : Int) + off = (tgt : Int))
    (kt : a = 0 → W p l e R s m args below meth c H locs cells slots Q (F0 m tgt ls rest)) (kf : a ≠ 0 → W p l e R s m args below meth c H locs cells slots Q (F0 m (pc + 3) ls rest)) : W p l e R s m args below meth c H locs cells slots Q (F0 m pc ls (.int x :: rest)) := by
  subst ha
  exact lv_if_eq hx hb hdg ht (fun h => kt (by rw [← nI_0] at h; exact (nI_eq ha1 (by decide)).1 h)) (fun h => kf (fun q => h (by subst q; rfl)))
theorem gr_zne (hx : p.tables.exec = Jvm.exec) (hb : c.code = cc) {x : Int32} (a : Nat) (ha : x = nI a) (ha1 : a < 2 ^ 31) {off : Int} {tgt : Nat} (hdg : decode cc pc = .ok (.ifCond .ne off, 3)) (ht : (pc : Int) + off = (tgt : Int))
    (kt : a ≠ 0 → W p l e R s m args below meth c H locs cells slots Q (F0 m tgt ls rest)) (kf : a = 0 → W p l e R s m args below meth c H locs cells slots Q (F0 m (pc + 3) ls rest)) : W p l e R s m args below meth c H locs cells slots Q (F0 m pc ls (.int x :: rest)) := by
  subst ha
  exact lv_if_ne hx hb hdg ht (fun h => kt (fun q => h (by subst q; rfl))) (fun h => kf (by rw [← nI_0] at h; exact (nI_eq ha1 (by decide)).1 h))
end GR
section GA
variable {p : Program} {l : Launch} {e : Env} {R : Room} {s : State} {m : MethodId} {args : Array Value} {below : List Frame} {meth : Method} {c : Code} {H : Heap} {locs : List Loc} {cells slots : Nat} {Q : State → Prop}
variable {cc : ByteArray} {pc : Nat} {ls : Array Slot} {rest : List Value} {D : va_G} {cl : List vw_C} {A : Nat → Prop} {a : Nat} {tys : List (ClassId × FieldType)} {ws : va_W} {H0 : Heap}
theorem gr_iald (hx : p.tables.exec = Jvm.exec) (hb : c.code = cc) (hK : va_K D cl tys s) (hP : va_P D cl ws H) (q0 t0 : Nat) {cA : ClassId} {n : Nat} {f : Nat → Int32} (ha : ws[q0]? = some (a, .inl (cA, n, .inl f))) (ht : tys[t0]? = some (cA, .int)) {i : Int32} (k : Nat) (hi : i = nI k) (hk : k < n) (hn : n < 2 ^ 31) (hdg : decode cc pc = .ok (.iaload, 1))
    (kk : W p l e R s m args below meth c H locs cells slots Q (F0 m (pc + 1) ls (.int (f k) :: rest))) : W p l e R s m args below meth c H locs cells slots Q (F0 m pc ls (.int i :: .ref a :: rest)) := by
  subst hi
  refine va_iald hx hb hK hP q0 t0 ha ht (vp_in_nI hk hn) hdg ?_
  rw [nI_clamp (Nat.lt_trans hk hn)]; exact kk
theorem gr_zald (hx : p.tables.exec = Jvm.exec) (hb : c.code = cc) (hK : va_K D cl tys s) (hP : va_P D cl ws H) (q0 t0 : Nat) {cA : ClassId} {n : Nat} {f : Nat → Int32} (ha : ws[q0]? = some (a, .inl (cA, n, .inl f))) (ht : tys[t0]? = some (cA, .boolean)) {i : Int32} (k : Nat) (hi : i = nI k) (hk : k < n) (hn : n < 2 ^ 31) (hdg : decode cc pc = .ok (.baload, 1))
    (kk : W p l e R s m args below meth c H locs cells slots Q (F0 m (pc + 1) ls (.int (f k) :: rest))) : W p l e R s m args below meth c H locs cells slots Q (F0 m pc ls (.int i :: .ref a :: rest)) := by
  subst hi
  refine va_zald hx hb hK hP q0 t0 ha ht (vp_in_nI hk hn) hdg ?_
  rw [nI_clamp (Nat.lt_trans hk hn)]; exact kk
theorem gr_iast (hx : p.tables.exec = Jvm.exec) (hb : c.code = cc) (hK : va_K D cl tys s) (hP : va_P D cl ws H) (hD : va_D A ws) (hS : va_S A H0 H locs) (q0 t0 : Nat) {cA : ClassId} {n : Nat} {f : Nat → Int32} (ha : ws[q0]? = some (a, .inl (cA, n, .inl f))) (ht : tys[t0]? = some (cA, .int)) {i x : Int32} (k : Nat) (hi : i = nI k) (hk : k < n) (hn : n < 2 ^ 31) (hdg : decode cc pc = .ok (.iastore, 1))
    (kk : ∀ (H1 : Heap) (locs1 : List Loc), va_P D cl (ws.set q0 (a, .inl (cA, n, .inl (upd f k x)))) H1 → va_D A (ws.set q0 (a, .inl (cA, n, .inl (upd f k x)))) → va_S A H0 H1 locs1 → W p l e R s m args below meth c H1 locs1 cells slots Q (F0 m (pc + 1) ls rest)) : W p l e R s m args below meth c H locs cells slots Q (F0 m pc ls (.int x :: .int i :: .ref a :: rest)) := by
  subst hi
  refine va_iast hx hb hK hP hD hS q0 t0 ha ht (vp_in_nI hk hn) hdg ?_
  rw [nI_clamp (Nat.lt_trans hk hn)]; exact kk
theorem gr_zast (hx : p.tables.exec = Jvm.exec) (hb : c.code = cc) (hK : va_K D cl tys s) (hP : va_P D cl ws H) (hD : va_D A ws) (hS : va_S A H0 H locs) (q0 t0 : Nat) {cA : ClassId} {n : Nat} {f : Nat → Int32} (ha : ws[q0]? = some (a, .inl (cA, n, .inl f))) (ht : tys[t0]? = some (cA, .boolean)) {i x : Int32} (k : Nat) (hi : i = nI k) (hk : k < n) (hn : n < 2 ^ 31) (hz : vp_nar .boolean x = x) (hdg : decode cc pc = .ok (.bastore, 1))
    (kk : ∀ (H1 : Heap) (locs1 : List Loc), va_P D cl (ws.set q0 (a, .inl (cA, n, .inl (upd f k x)))) H1 → va_D A (ws.set q0 (a, .inl (cA, n, .inl (upd f k x)))) → va_S A H0 H1 locs1 → W p l e R s m args below meth c H1 locs1 cells slots Q (F0 m (pc + 1) ls rest)) : W p l e R s m args below meth c H locs cells slots Q (F0 m pc ls (.int x :: .int i :: .ref a :: rest)) := by
  subst hi
  refine va_zast hx hb hK hP hD hS q0 t0 ha ht (vp_in_nI hk hn) hdg ?_
  rw [nI_clamp (Nat.lt_trans hk hn), hz]; exact kk
end GA
