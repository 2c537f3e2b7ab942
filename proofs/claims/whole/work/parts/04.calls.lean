/-! contracts with a fixed frame, and calls of them: the callee's cells stand together in the caller's list -/
theorem gc_Pm {D : va_G} {cl : List vw_C} {ws : va_W} {H : Heap} : va_P D cl ws H ↔ ∀ q ∈ ws, va_at D cl q H :=
  ⟨fun h q hq => by obtain ⟨k, hk⟩ := List.getElem?_of_mem hq; exact h k q hk, fun h _ q hk => h q (List.mem_of_getElem? hk)⟩
theorem gc_Dm {A : Nat → Prop} {ws : va_W} : va_D A ws ↔ (ws.map (·.1)).Nodup ∧ ∀ q ∈ ws, A q.1 := by
  constructor
  · intro h
    refine ⟨?_, fun q hq => by obtain ⟨k, hk⟩ := List.getElem?_of_mem hq; exact h.2 k q hk⟩
    rw [List.Nodup, List.pairwise_iff_getElem]
    intro i j hi hj hij he
    rw [List.length_map] at hi hj
    rw [List.getElem_map, List.getElem_map] at he
    have := h.1 i j ws[i] ws[j] (List.getElem?_eq_getElem hi) (List.getElem?_eq_getElem hj) he
    omega
  · intro h
    refine ⟨fun i j x y hi hj he => ?_, fun k q hk => h.2 q (List.mem_of_getElem? hk)⟩
    have h1 := h.1
    rw [List.Nodup, List.pairwise_iff_getElem] at h1
    obtain ⟨li, ei⟩ := List.getElem?_eq_some_iff.mp hi
    obtain ⟨lj, ej⟩ := List.getElem?_eq_some_iff.mp hj
    rcases Nat.lt_trichotomy i j with hlt | rfl | hlt
    · exact absurd (by rw [List.getElem_map, List.getElem_map, ei, ej]; exact he) (h1 i j (by rw [List.length_map]; exact li) (by rw [List.length_map]; exact lj) hlt)
    · rfl
    · exact absurd (by rw [List.getElem_map, List.getElem_map, ei, ej]; exact he.symm) (h1 j i (by rw [List.length_map]; exact lj) (by rw [List.length_map]; exact li) hlt)
theorem gc_Am {ws : va_W} {sz q : Nat} : va_A ws sz q ↔ (∃ e, (q, e) ∈ ws) ∨ sz ≤ q := by
  constructor
  · rintro (⟨k, e, h⟩ | h)
    · exact Or.inl ⟨e, List.mem_of_getElem? h⟩
    · exact Or.inr h
  · rintro (⟨e, h⟩ | h)
    · obtain ⟨k, hk⟩ := List.getElem?_of_mem h
      exact Or.inl ⟨k, e, hk⟩
    · exact Or.inr h
theorem gc_free {A : Nat → Prop} {pre wc po : va_W} {H0 H : Heap} {locs : List Loc} (hD : va_D A (pre ++ wc ++ po)) (hS : va_S A H0 H locs) (hA : ∀ q, H0.size ≤ q → A q) : ∀ q, va_A wc H.size q → A q := by
  intro q h
  rcases gc_Am.1 h with ⟨e, h⟩ | h
  · exact (gc_Dm.1 hD).2 (q, e) (by simp [h])
  · exact hA q (Nat.le_trans hS.1 h)
theorem gc_mid {D : va_G} {cl : List vw_C} {A : Nat → Prop} {pre wc po : va_W} {H : Heap} (hP : va_P D cl (pre ++ wc ++ po) H) (hD : va_D A (pre ++ wc ++ po)) : va_P D cl wc H ∧ va_D (fun _ => True) wc := by
  rw [gc_Pm] at hP ⊢
  rw [gc_Dm] at hD ⊢
  refine ⟨fun q hq => hP q (by simp [hq]), ?_, fun _ _ => trivial⟩
  have h1 := hD.1
  rw [List.map_append, List.map_append, List.nodup_append, List.nodup_append] at h1
  exact h1.1.2.1
theorem gc_join {D : va_G} {cl : List vw_C} {A : Nat → Prop} {pre wc po w1 : va_W} {H H1 : Heap} (hP : va_P D cl (pre ++ wc ++ po) H) (hD : va_D A (pre ++ wc ++ po)) (hk : ∀ q : Nat, q < H.size → ¬ va_A wc H.size q → H1[q]? = H[q]?) (hF : ∀ q, va_A wc H.size q → A q) (hP1 : va_P D cl w1 H1) (hD1 : va_D (va_A wc H.size) w1) : va_P D cl (pre ++ w1 ++ po) H1 ∧ va_D A (pre ++ w1 ++ po) := by
  rw [gc_Pm] at hP hP1 ⊢
  rw [gc_Dm] at hD hD1 ⊢
  obtain ⟨hn, hm⟩ := hD
  rw [List.map_append, List.map_append, List.nodup_append, List.nodup_append] at hn
  obtain ⟨⟨n1, n2, n3⟩, n4, n5⟩ := hn
  have apart : ∀ q : Nat × va_E, q ∈ pre ∨ q ∈ po → q.1 < H.size ∧ ¬ va_A wc H.size q.1 := by
    intro q hq
    have hl : q.1 < H.size := (hP q (by rcases hq with h | h <;> simp [h])).lt
    refine ⟨hl, fun h => ?_⟩
    rcases gc_Am.1 h with ⟨e, h⟩ | h
    · rcases hq with hq | hq
      · exact n3 q.1 (List.mem_map.mpr ⟨q, hq, rfl⟩) q.1 (List.mem_map.mpr ⟨_, h, rfl⟩) rfl
      · exact n5 q.1 (List.mem_append_right _ (List.mem_map.mpr ⟨_, h, rfl⟩)) q.1 (List.mem_map.mpr ⟨q, hq, rfl⟩) rfl
    · omega
  refine ⟨fun q hq => ?_, ?_, fun q hq => ?_⟩
  · rcases List.mem_append.mp hq with hq | hq
    · rcases List.mem_append.mp hq with hq | hq
      · exact (hP q (by simp [hq])).kept (hk q.1 (apart q (Or.inl hq)).1 (apart q (Or.inl hq)).2)
      · exact hP1 q hq
    · exact (hP q (by simp [hq])).kept (hk q.1 (apart q (Or.inr hq)).1 (apart q (Or.inr hq)).2)
  · rw [List.map_append, List.map_append, List.nodup_append, List.nodup_append]
    refine ⟨⟨n1, hD1.1, fun a ha b hb hab => ?_⟩, n4, fun a ha b hb hab => ?_⟩
    · obtain ⟨x, hx, rfl⟩ := List.mem_map.mp ha
      obtain ⟨y, hy, rfl⟩ := List.mem_map.mp hb
      exact (apart x (Or.inl hx)).2 (by rw [hab]; exact hD1.2 y hy)
    · rcases List.mem_append.mp ha with ha | ha
      · exact n5 a (List.mem_append_left _ ha) b hb hab
      · obtain ⟨x, hx, rfl⟩ := List.mem_map.mp ha
        obtain ⟨y, hy, rfl⟩ := List.mem_map.mp hb
        exact (apart y (Or.inr hy)).2 (by rw [← hab]; exact hD1.2 x hx)
  · rcases List.mem_append.mp hq with hq | hq
    · rcases List.mem_append.mp hq with hq | hq
      · exact hm q (by simp [hq])
      · exact hF q.1 (hD1.2 q hq)
    · exact hm q (by simp [hq])
/-- a contract's start: the cells w, the tables -/
def gc_P (D : va_G) (cl : List vw_C) (tys : List (ClassId × FieldType)) (w : va_W) (sz : Nat) : State → Prop := fun U => U.heap.size = sz ∧ va_P D cl w U.heap ∧ va_K D cl tys U ∧ va_D (fun _ => True) w
/-- its end: the cells wf u -/
def gc_B (D : va_G) (cl : List vw_C) (tys : List (ClassId × FieldType)) (w : va_W) (sz : Nat) {S : Type} (wf : S → va_W) : S → State → Prop := fun u t => va_P D cl (wf u) t.heap ∧ va_K D cl tys t ∧ va_D (va_A w sz) (wf u)
def gc_I (l : Launch) (y : MethodName) (ws : List Cond) (rm : Room) (D : va_G) (cl : List vw_C) (tys : List (ClassId × FieldType)) (av : List Value) (w : va_W) {S : Type} (po : Int32 → S → Prop) (wf : S → va_W) : Prop := ∀ sz, Met l y ws rm (va_Pc av (gc_P D cl tys w sz)) (va_Qi po (gc_B D cl tys w sz wf) (va_A w sz)) 0 0 (va_A w sz)
def gc_L (l : Launch) (y : MethodName) (ws : List Cond) (rm : Room) (D : va_G) (cl : List vw_C) (tys : List (ClassId × FieldType)) (av : List Value) (w : va_W) {S : Type} (po : Int64 → S → Prop) (wf : S → va_W) : Prop := ∀ sz, Met l y ws rm (va_Pc av (gc_P D cl tys w sz)) (va_Ql po (gc_B D cl tys w sz wf) (va_A w sz)) 0 0 (va_A w sz)
def gc_V (l : Launch) (y : MethodName) (ws : List Cond) (rm : Room) (D : va_G) (cl : List vw_C) (tys : List (ClassId × FieldType)) (av : List Value) (w : va_W) {S : Type} (po : S → Prop) (wf : S → va_W) : Prop := ∀ sz, Met l y ws rm (va_Pc av (gc_P D cl tys w sz)) (va_Qv po (gc_B D cl tys w sz wf) (va_A w sz)) 0 0 (va_A w sz)
theorem gc_blind {D : va_G} {cl : List vw_C} {tys : List (ClassId × FieldType)} {w : va_W} {sz : Nat} {av : List Value} : FrameBlind (va_Pc av (gc_P D cl tys w sz)) := fun a U g mk q => by
  obtain ⟨q0, q1, qP, qK, qD⟩ := q
  exact ⟨q0, q1, qP, va_K.moved (u := U) (U := U.calling g mk a) (Vm.Alike.refl U.vm) qK, qD⟩
section GCC
variable {p : Program} {l : Launch} {e : Env} {R : Room} {s : State} {m : MethodId} {args : Array Value} {below : List Frame} {meth : Method} {c : Code} {H : Heap} {locs : List Loc} {cells slots : Nat} {Q : State → Prop}
variable {y : MethodName} {bytes cc : ByteArray} {maxL nL n index pc : Nat} {ret : Option FieldType} {ws Ts : List Cond} {rm : Room} {own C : String} {b : Addr} {As rest st0 : List Value} {ls : Array Slot} {D : va_G} {cl : List vw_C} {tys : List (ClassId × FieldType)} {A : Nat → Prop} {H0 : Heap} {pre wc po : va_W} {S : Type} {wf : S → va_W}
theorem gc_preV {av : List Value} (hK : va_K D cl tys s) (hP : va_P D cl (pre ++ wc ++ po) H) (hD : va_D A (pre ++ wc ++ po)) {ci : Nat} {q : vw_C} {fs : List Value} (hc : cl[ci]? = some q) (hq : q.1 = C) (he : wc[0]? = some (b, .inr (ci, fs))) (ha : av = .ref b :: As) : PreV s H C b (va_Pc av (gc_P D cl tys wc H.size)) As := by
  subst ha hq
  obtain ⟨h1, h2⟩ := gc_mid hP hD
  exact ⟨gc_blind, va_recv hK h1 hc he, fun U hU hW => ⟨rfl, by rw [hU], by rw [hU]; exact h1, va_K.moved hW.alike hK, h2⟩⟩
theorem gc_preS (hK : va_K D cl tys s) (hP : va_P D cl (pre ++ wc ++ po) H) (hD : va_D A (pre ++ wc ++ po)) : PreS s H (va_Pc As (gc_P D cl tys wc H.size)) As := by
  obtain ⟨h1, h2⟩ := gc_mid hP hD
  exact ⟨gc_blind, fun U hU hW => ⟨rfl, by rw [hU], by rw [hU]; exact h1, va_K.moved hW.alike hK, h2⟩⟩
theorem gc_ci {a : Array Value} {post : Int32 → S → Prop} (hr : va_Run p l e R s m args below meth c H locs cells slots 0 0 (F0 m pc ls st0) rest (va_Qi post (gc_B D cl tys wc H.size wf) (va_A wc H.size) a) (va_A wc H.size)) (hP : va_P D cl (pre ++ wc ++ po) H) (hD : va_D A (pre ++ wc ++ po)) (hS : va_S A H0 H locs) (hA : ∀ q, H0.size ≤ q → A q)
    (kk : ∀ (r : Int32) (u : S) (H1 : Heap) (locs1 : List Loc), post r u → va_P D cl (pre ++ wf u ++ po) H1 → va_D A (pre ++ wf u ++ po) → va_S A H0 H1 locs1 → W p l e R s m args below meth c H1 locs1 cells slots Q (F0 m (pc + 3) ls (.int r :: rest))) : W p l e R s m args below meth c H locs cells slots Q (F0 m pc ls st0) := by
  have hF := gc_free hD hS hA
  refine va_calli hr hS (fun q _ h => hF q h) hF (fun r u t H1 locs1 ht hvm hp hB hz hk hS1 => ?_)
  obtain ⟨b1, -, b3⟩ := hB
  rw [ht] at b1
  obtain ⟨j1, j2⟩ := gc_join hP hD hk hF b1 b3
  exact kk r u H1 locs1 hp j1 j2 hS1
theorem gc_cl {a : Array Value} {post : Int64 → S → Prop} (hr : va_Run p l e R s m args below meth c H locs cells slots 0 0 (F0 m pc ls st0) rest (va_Ql post (gc_B D cl tys wc H.size wf) (va_A wc H.size) a) (va_A wc H.size)) (hP : va_P D cl (pre ++ wc ++ po) H) (hD : va_D A (pre ++ wc ++ po)) (hS : va_S A H0 H locs) (hA : ∀ q, H0.size ≤ q → A q)
    (kk : ∀ (r : Int64) (u : S) (H1 : Heap) (locs1 : List Loc), post r u → va_P D cl (pre ++ wf u ++ po) H1 → va_D A (pre ++ wf u ++ po) → va_S A H0 H1 locs1 → W p l e R s m args below meth c H1 locs1 cells slots Q (F0 m (pc + 3) ls (.long r :: rest))) : W p l e R s m args below meth c H locs cells slots Q (F0 m pc ls st0) := by
  have hF := gc_free hD hS hA
  refine va_calll hr hS (fun q _ h => hF q h) hF (fun r u t H1 locs1 ht hvm hp hB hz hk hS1 => ?_)
  obtain ⟨b1, -, b3⟩ := hB
  rw [ht] at b1
  obtain ⟨j1, j2⟩ := gc_join hP hD hk hF b1 b3
  exact kk r u H1 locs1 hp j1 j2 hS1
theorem gc_cv {a : Array Value} {post : S → Prop} (hr : va_Run p l e R s m args below meth c H locs cells slots 0 0 (F0 m pc ls st0) rest (va_Qv post (gc_B D cl tys wc H.size wf) (va_A wc H.size) a) (va_A wc H.size)) (hP : va_P D cl (pre ++ wc ++ po) H) (hD : va_D A (pre ++ wc ++ po)) (hS : va_S A H0 H locs) (hA : ∀ q, H0.size ≤ q → A q)
    (kk : ∀ (u : S) (H1 : Heap) (locs1 : List Loc), post u → va_P D cl (pre ++ wf u ++ po) H1 → va_D A (pre ++ wf u ++ po) → va_S A H0 H1 locs1 → W p l e R s m args below meth c H1 locs1 cells slots Q (F0 m (pc + 3) ls rest)) : W p l e R s m args below meth c H locs cells slots Q (F0 m pc ls st0) := by
  have hF := gc_free hD hS hA
  refine va_callv hr hS (fun q _ h => hF q h) hF (fun u t H1 locs1 ht hvm hp hB hz hk hS1 => ?_)
  obtain ⟨b1, -, b3⟩ := hB
  rw [ht] at b1
  obtain ⟨j1, j2⟩ := gc_join hP hD hk hF b1 b3
  exact kk u H1 locs1 hp j1 j2 hS1
/-- a virtual call of a contract that answers an int -/
theorem gc_vi {post : Int32 → S → Prop} (F : CallFix p m c cc nL s args Ts own) (hM : gc_I l y ws rm D cl tys (.ref b :: As) wc post wf) (cw : CallW R s args own C index y bytes maxL ret ws rm 0 0 n) {ci : Nat} {q : vw_C} {fs : List Value} (hc : cl[ci]? = some q) (hq : q.1 = C) (he : wc[0]? = some (b, .inr (ci, fs))) (hK : va_K D cl tys s) (hP : va_P D cl (pre ++ wc ++ po) H) (hD : va_D A (pre ++ wc ++ po)) (hS : va_S A H0 H locs) (hA : ∀ q, H0.size ≤ q → A q)
    (hn : As.length = n) (hsize : ls.size = nL) (hstack : st0 = As.reverse ++ .ref b :: rest) (hW : (rest.map fun v => v.category).sum ≤ 8) (hdg : decode cc pc = .ok (.invokevirtual index, 3)) (hf : cells ≤ R.cells ∧ slots ≤ R.slots)
    (kk : ∀ (r : Int32) (u : S) (H1 : Heap) (locs1 : List Loc), post r u → va_P D cl (pre ++ wf u ++ po) H1 → va_D A (pre ++ wf u ++ po) → va_S A H0 H1 locs1 → W p l e R s m args below meth c H1 locs1 cells slots Q (F0 m (pc + 3) ls (.int r :: rest))) : W p l e R s m args below meth c H locs cells slots Q (F0 m pc ls st0) :=
  gc_ci (va_runV F (hM H.size) cw (gc_preV hK hP hD hc hq he rfl) rfl hn hsize hstack (lv_room hW) hdg hf) hP hD hS hA kk
theorem gc_vl {post : Int64 → S → Prop} (F : CallFix p m c cc nL s args Ts own) (hM : gc_L l y ws rm D cl tys (.ref b :: As) wc post wf) (cw : CallW R s args own C index y bytes maxL ret ws rm 0 0 n) {ci : Nat} {q : vw_C} {fs : List Value} (hc : cl[ci]? = some q) (hq : q.1 = C) (he : wc[0]? = some (b, .inr (ci, fs))) (hK : va_K D cl tys s) (hP : va_P D cl (pre ++ wc ++ po) H) (hD : va_D A (pre ++ wc ++ po)) (hS : va_S A H0 H locs) (hA : ∀ q, H0.size ≤ q → A q)
    (hn : As.length = n) (hsize : ls.size = nL) (hstack : st0 = As.reverse ++ .ref b :: rest) (hW : (rest.map fun v => v.category).sum ≤ 8) (hdg : decode cc pc = .ok (.invokevirtual index, 3)) (hf : cells ≤ R.cells ∧ slots ≤ R.slots)
    (kk : ∀ (r : Int64) (u : S) (H1 : Heap) (locs1 : List Loc), post r u → va_P D cl (pre ++ wf u ++ po) H1 → va_D A (pre ++ wf u ++ po) → va_S A H0 H1 locs1 → W p l e R s m args below meth c H1 locs1 cells slots Q (F0 m (pc + 3) ls (.long r :: rest))) : W p l e R s m args below meth c H locs cells slots Q (F0 m pc ls st0) :=
  gc_cl (va_runV F (hM H.size) cw (gc_preV hK hP hD hc hq he rfl) rfl hn hsize hstack (lv_room hW) hdg hf) hP hD hS hA kk
theorem gc_vv {post : S → Prop} (F : CallFix p m c cc nL s args Ts own) (hM : gc_V l y ws rm D cl tys (.ref b :: As) wc post wf) (cw : CallW R s args own C index y bytes maxL ret ws rm 0 0 n) {ci : Nat} {q : vw_C} {fs : List Value} (hc : cl[ci]? = some q) (hq : q.1 = C) (he : wc[0]? = some (b, .inr (ci, fs))) (hK : va_K D cl tys s) (hP : va_P D cl (pre ++ wc ++ po) H) (hD : va_D A (pre ++ wc ++ po)) (hS : va_S A H0 H locs) (hA : ∀ q, H0.size ≤ q → A q)
    (hn : As.length = n) (hsize : ls.size = nL) (hstack : st0 = As.reverse ++ .ref b :: rest) (hW : (rest.map fun v => v.category).sum ≤ 8) (hdg : decode cc pc = .ok (.invokevirtual index, 3)) (hf : cells ≤ R.cells ∧ slots ≤ R.slots)
    (kk : ∀ (u : S) (H1 : Heap) (locs1 : List Loc), post u → va_P D cl (pre ++ wf u ++ po) H1 → va_D A (pre ++ wf u ++ po) → va_S A H0 H1 locs1 → W p l e R s m args below meth c H1 locs1 cells slots Q (F0 m (pc + 3) ls rest)) : W p l e R s m args below meth c H locs cells slots Q (F0 m pc ls st0) :=
  gc_cv (va_runV F (hM H.size) cw (gc_preV hK hP hD hc hq he rfl) rfl hn hsize hstack (lv_room hW) hdg hf) hP hD hS hA kk
/-- a static call -/
theorem gc_si {post : Int32 → S → Prop} (F : CallFix p m c cc nL s args Ts own) (hM : gc_I l y ws rm D cl tys As wc post wf) (cw : CallB R s args own index y bytes maxL ret ws rm 0 0 n ∧ (Cond.static y).before args s = true) (hK : va_K D cl tys s) (hP : va_P D cl (pre ++ wc ++ po) H) (hD : va_D A (pre ++ wc ++ po)) (hS : va_S A H0 H locs) (hA : ∀ q, H0.size ≤ q → A q)
    (hn : As.length = n) (hsize : ls.size = nL) (hstack : st0 = As.reverse ++ rest) (hW : (rest.map fun v => v.category).sum ≤ 8) (hdg : decode cc pc = .ok (.invokestatic index, 3)) (hf : cells ≤ R.cells ∧ slots ≤ R.slots)
    (kk : ∀ (r : Int32) (u : S) (H1 : Heap) (locs1 : List Loc), post r u → va_P D cl (pre ++ wf u ++ po) H1 → va_D A (pre ++ wf u ++ po) → va_S A H0 H1 locs1 → W p l e R s m args below meth c H1 locs1 cells slots Q (F0 m (pc + 3) ls (.int r :: rest))) : W p l e R s m args below meth c H locs cells slots Q (F0 m pc ls st0) :=
  gc_ci (va_runS F (hM H.size) cw (gc_preS hK hP hD) rfl hn hsize hstack (lv_room hW) hdg hf) hP hD hS hA kk
end GCC
section GCF
variable {p : Program} {l : Launch} {e : Env} {R : Room} {s : State} {m : MethodId} {args : Array Value} {below : List Frame} {meth : Method} {c : Code} {H : Heap} {locs : List Loc} {cells slots : Nat} {Q : State → Prop}
variable {y : MethodName} {bytes cc : ByteArray} {maxL nL n index pc : Nat} {ret : Option FieldType} {ws Ts : List Cond} {rm : Room} {own C : String} {As rest st0 : List Value} {ls : Array Slot} {D : va_G} {cl : List vw_C} {tys : List (ClassId × FieldType)} {A : Nat → Prop} {H0 : Heap} {w : va_W}
/-- a static call that reads and writes nothing: its answer is known -/
theorem gc_s0 {v : Int32} (F : CallFix p m c cc nL s args Ts own) (hM : gc_I l y ws rm D cl tys As [] (fun r (_ : Unit) => r = v) (fun _ => [])) (cw : CallB R s args own index y bytes maxL ret ws rm 0 0 n ∧ (Cond.static y).before args s = true) (hK : va_K D cl tys s) (hP : va_P D cl w H) (hD : va_D A w) (hS : va_S A H0 H locs) (hA : ∀ q, H0.size ≤ q → A q)
    (hn : As.length = n) (hsize : ls.size = nL) (hstack : st0 = As.reverse ++ rest) (hW : (rest.map fun v => v.category).sum ≤ 8) (hdg : decode cc pc = .ok (.invokestatic index, 3)) (hf : cells ≤ R.cells ∧ slots ≤ R.slots)
    (kk : ∀ (H1 : Heap) (locs1 : List Loc), va_P D cl w H1 → va_D A w → va_S A H0 H1 locs1 → W p l e R s m args below meth c H1 locs1 cells slots Q (F0 m (pc + 3) ls (.int v :: rest))) : W p l e R s m args below meth c H locs cells slots Q (F0 m pc ls st0) := by
  have e0 : w ++ [] ++ [] = w := by simp
  refine gc_si (pre := w) (wc := []) (po := []) F hM cw hK (by rw [e0]; exact hP) (by rw [e0]; exact hD) hS hA hn hsize hstack hW hdg hf (fun r u H1 locs1 hr h1 h2 h3 => ?_)
  rw [e0] at h1 h2
  subst hr
  exact kk H1 locs1 h1 h2 h3
end GCF
/-! from a body's walk to its contract -/
theorem gc_I_of {l : Launch} {y : MethodName} {ws ws' : List Cond} {rm : Room} {D : va_G} {cl : List vw_C} {tys : List (ClassId × FieldType)} {av : List Value} {w : va_W} {S : Type} {po : Int32 → S → Prop} {wf : S → va_W} {cc : ByteArray} {maxL : Nat} {ty : FieldType}
    (hy : plainName y.cls = true) (hw : ws = Cond.code y cc maxL (some ty) :: ws') (hlen : (lg_sl av).length ≤ maxL)
    (body : ∀ (p : Program) (e : Env) (s : State) (m : MethodId) (args : Array Value) (below : List Frame) (meth : Method) (c : Code) (A : Nat → Prop) (Q : State → Prop) (ls : Array Slot) (H0 H : Heap) (locs : List Loc), p.tables.exec = Jvm.exec → c.code = cc → c.maxLocals = maxL → s.vm.findClass y.cls = some m.cls → (∀ x ∈ ws, x.before args s = true) → va_K D cl tys s → va_P D cl w H → va_D A w → va_S A H0 H locs → (∀ q, H0.size ≤ q → A q) → lv_has ls maxL (lv_args 0 av) →
      (∀ (r : Int32) (u : S) (H : Heap) (locs : List Loc) (pc : Nat) (ls : Array Slot), po r u → narrow ty (.int r) = .int r → va_P D cl (wf u) H → va_D A (wf u) → va_S A H0 H locs → decode cc pc = .ok (.ireturn, 1) → W p l e (headSpec ws rm).room s m args below meth c H locs 0 0 Q (F0 m pc ls [.int r])) →
      W p l e (headSpec ws rm).room s m args below meth c H locs 0 0 Q (F0 m 0 ls [])) : gc_I l y ws rm D cl tys av w po wf := by
  intro sz
  refine Met.ofW (cc := cc) (maxL := maxL) (ret := some ty) hy hw ?_
  intro p e s m args below meth c s₁ B hml hv
  obtain ⟨rfl, hsz, hP, hK, hD0⟩ := hv
  subst hsz
  have hlocks := B.notSynchronized
  have hl := lv_entry av (n := maxL) hlen
  rw [lg_entry_eq]
  refine body p e s m _ below meth c (va_A w s.heap.size) _ _ s.heap s.heap [] B.exec B.bytes hml (findClass_of_methodNamed B.named) (atoms_spec (ws := ws) B.pre) hK hP hD0.self va_S.rf (fun q h => Or.inr h) hl ?_
  intro r u H locs pc ls hpo hn h1 h2 h3 hdg
  exact W.zret B.exec B.bytes B.returns hn (fun t ht hW => ⟨⟨r, u, rfl, hpo, by rw [ht]; exact h1, va_K.moved hW.alike hK, h2⟩, h3.F ht⟩) h3.2.2 hdg
theorem gc_L_of {l : Launch} {y : MethodName} {ws ws' : List Cond} {rm : Room} {D : va_G} {cl : List vw_C} {tys : List (ClassId × FieldType)} {av : List Value} {w : va_W} {S : Type} {po : Int64 → S → Prop} {wf : S → va_W} {cc : ByteArray} {maxL : Nat}
    (hy : plainName y.cls = true) (hw : ws = Cond.code y cc maxL (some .long) :: ws') (hlen : (lg_sl av).length ≤ maxL)
    (body : ∀ (p : Program) (e : Env) (s : State) (m : MethodId) (args : Array Value) (below : List Frame) (meth : Method) (c : Code) (A : Nat → Prop) (Q : State → Prop) (ls : Array Slot) (H0 H : Heap) (locs : List Loc), p.tables.exec = Jvm.exec → c.code = cc → c.maxLocals = maxL → s.vm.findClass y.cls = some m.cls → (∀ x ∈ ws, x.before args s = true) → va_K D cl tys s → va_P D cl w H → va_D A w → va_S A H0 H locs → (∀ q, H0.size ≤ q → A q) → lv_has ls maxL (lv_args 0 av) →
      (∀ (r : Int64) (u : S) (H : Heap) (locs : List Loc) (pc : Nat) (ls : Array Slot), po r u → va_P D cl (wf u) H → va_D A (wf u) → va_S A H0 H locs → decode cc pc = .ok (.lreturn, 1) → W p l e (headSpec ws rm).room s m args below meth c H locs 0 0 Q (F0 m pc ls [.long r])) →
      W p l e (headSpec ws rm).room s m args below meth c H locs 0 0 Q (F0 m 0 ls [])) : gc_L l y ws rm D cl tys av w po wf := by
  intro sz
  refine Met.ofW (cc := cc) (maxL := maxL) (ret := some .long) hy hw ?_
  intro p e s m args below meth c s₁ B hml hv
  obtain ⟨rfl, hsz, hP, hK, hD0⟩ := hv
  subst hsz
  have hlocks := B.notSynchronized
  have hl := lv_entry av (n := maxL) hlen
  rw [lg_entry_eq]
  refine body p e s m _ below meth c (va_A w s.heap.size) _ _ s.heap s.heap [] B.exec B.bytes hml (findClass_of_methodNamed B.named) (atoms_spec (ws := ws) B.pre) hK hP hD0.self va_S.rf (fun q h => Or.inr h) hl ?_
  intro r u H locs pc ls hpo h1 h2 h3 hdg
  exact W.lret B.exec B.bytes B.returns (fun t ht hW => ⟨⟨r, u, rfl, hpo, by rw [ht]; exact h1, va_K.moved hW.alike hK, h2⟩, h3.F ht⟩) h3.2.2 hdg
theorem gc_V_of {l : Launch} {y : MethodName} {ws ws' : List Cond} {rm : Room} {D : va_G} {cl : List vw_C} {tys : List (ClassId × FieldType)} {av : List Value} {w : va_W} {S : Type} {po : S → Prop} {wf : S → va_W} {cc : ByteArray} {maxL : Nat}
    (hy : plainName y.cls = true) (hw : ws = Cond.code y cc maxL none :: ws') (hlen : (lg_sl av).length ≤ maxL)
    (body : ∀ (p : Program) (e : Env) (s : State) (m : MethodId) (args : Array Value) (below : List Frame) (meth : Method) (c : Code) (A : Nat → Prop) (Q : State → Prop) (ls : Array Slot) (H0 H : Heap) (locs : List Loc), p.tables.exec = Jvm.exec → c.code = cc → c.maxLocals = maxL → s.vm.findClass y.cls = some m.cls → (∀ x ∈ ws, x.before args s = true) → va_K D cl tys s → va_P D cl w H → va_D A w → va_S A H0 H locs → (∀ q, H0.size ≤ q → A q) → lv_has ls maxL (lv_args 0 av) →
      (∀ (u : S) (H : Heap) (locs : List Loc) (pc : Nat) (ls : Array Slot), po u → va_P D cl (wf u) H → va_D A (wf u) → va_S A H0 H locs → decode cc pc = .ok (.return_, 1) → W p l e (headSpec ws rm).room s m args below meth c H locs 0 0 Q (F0 m pc ls [])) →
      W p l e (headSpec ws rm).room s m args below meth c H locs 0 0 Q (F0 m 0 ls [])) : gc_V l y ws rm D cl tys av w po wf := by
  intro sz
  refine Met.ofW (cc := cc) (maxL := maxL) (ret := none) hy hw ?_
  intro p e s m args below meth c s₁ B hml hv
  obtain ⟨rfl, hsz, hP, hK, hD0⟩ := hv
  subst hsz
  have hlocks := B.notSynchronized
  have hl := lv_entry av (n := maxL) hlen
  rw [lg_entry_eq]
  refine body p e s m _ below meth c (va_A w s.heap.size) _ _ s.heap s.heap [] B.exec B.bytes hml (findClass_of_methodNamed B.named) (atoms_spec (ws := ws) B.pre) hK hP hD0.self va_S.rf (fun q h => Or.inr h) hl ?_
  intro u H locs pc ls hpo h1 h2 h3 hdg
  exact W.vret B.exec B.bytes B.returns (fun t ht hW => ⟨⟨u, rfl, hpo, by rw [ht]; exact h1, va_K.moved hW.alike hK, h2⟩, h3.F ht⟩) h3.2.2 hdg
