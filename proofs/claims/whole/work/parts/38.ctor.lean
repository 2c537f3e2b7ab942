/-! constructors: contracts that make cells -/
def gc_N (l : Launch) (y : MethodName) (ws : List Cond) (rm : Room) (D : va_G) (cl : List vw_C) (tys : List (ClassId × FieldType)) (av : List Value) (w : va_W) (NW : State → Prop) {S : Type} (po : S → Prop) (wf : S → va_W) (mc ms : Nat) : Prop := ∀ sz, Met l y ws rm (va_Pc av (fun U => gc_P D cl tys w sz U ∧ NW U)) (va_Qv po (gc_B D cl tys w sz wf) (va_A w sz)) mc ms (va_A w sz)
theorem gc_N_of {l : Launch} {y : MethodName} {ws ws' : List Cond} {rm : Room} {D : va_G} {cl : List vw_C} {tys : List (ClassId × FieldType)} {av : List Value} {w : va_W} {NW : State → Prop} {S : Type} {po : S → Prop} {wf : S → va_W} {cc : ByteArray} {maxL mc ms : Nat}
    (hy : plainName y.cls = true) (hw : ws = Cond.code y cc maxL none :: ws') (hlen : (lg_sl av).length ≤ maxL) (hyn : y.name = "<init>")
    (body : ∀ (p : Program) (e : Env) (s : State) (m : MethodId) (args : Array Value) (below : List Frame) (meth : Method) (c : Code) (A : Nat → Prop) (Q : State → Prop) (ls : Array Slot) (H0 H : Heap) (locs : List Loc), p.tables.exec = Jvm.exec → c.code = cc → c.maxLocals = maxL → s.vm.findClass y.cls = some m.cls → (∀ x ∈ ws, x.before args s = true) → va_K D cl tys s → NW s → meth.name = "<init>" → va_P D cl w H → va_D A w → va_S A H0 H locs → (∀ q, H0.size ≤ q → A q) → lv_has ls maxL (lv_args 0 av) →
      (∀ (u : S) (H : Heap) (locs : List Loc) (pc : Nat) (ls : Array Slot), po u → va_P D cl (wf u) H → va_D A (wf u) → va_S A H0 H locs → decode cc pc = .ok (.return_, 1) → W p l e (headSpec ws rm).room s m args below meth c H locs mc ms Q (F0 m pc ls [])) →
      W p l e (headSpec ws rm).room s m args below meth c H locs 0 0 Q (F0 m 0 ls [])) : gc_N l y ws rm D cl tys av w NW po wf mc ms := by
  intro sz
  refine Met.ofW (cc := cc) (maxL := maxL) (ret := none) hy hw ?_
  intro p e s m args below meth c s₁ B hml hv
  obtain ⟨rfl, ⟨hsz, hP, hK, hD0⟩, hNW⟩ := hv
  subst hsz
  have hlocks := B.notSynchronized
  have hl := lv_entry av (n := maxL) hlen
  rw [lg_entry_eq]
  refine body p e s m _ below meth c (va_A w s.heap.size) _ _ s.heap s.heap [] B.exec B.bytes hml (findClass_of_methodNamed B.named) (atoms_spec (ws := ws) B.pre) hK hNW ((name_of_methodNamed B.named B.method).1.trans hyn) hP hD0.self va_S.rf (fun q h => Or.inr h) hl ?_
  intro u H locs pc ls hpo h1 h2 h3 hdg
  exact W.vret B.exec B.bytes B.returns (fun t ht hW => ⟨⟨u, rfl, hpo, by rw [ht]; exact h1, va_K.moved hW.alike hK, h2⟩, h3.F ht⟩) h3.2.2 hdg
section GN
variable {p : Program} {l : Launch} {e : Env} {R : Room} {s : State} {m : MethodId} {args : Array Value} {below : List Frame} {meth : Method} {c : Code} {H : Heap} {locs : List Loc} {cells slots : Nat} {Q : State → Prop}
variable {y : MethodName} {bytes cc : ByteArray} {maxL nL n index pc mc ms : Nat} {ws Ts : List Cond} {rm : Room} {own host : String} {b : Addr} {As rest st0 : List Value} {ls : Array Slot} {D : va_G} {cl : List vw_C} {tys : List (ClassId × FieldType)} {A : Nat → Prop} {H0 : Heap} {pre wc po : va_W} {S : Type} {wf : S → va_W} {NW : State → Prop}
theorem gc_cN {a : Array Value} {post : S → Prop} (hr : va_Run p l e R s m args below meth c H locs cells slots mc ms (F0 m pc ls st0) rest (va_Qv post (gc_B D cl tys wc H.size wf) (va_A wc H.size) a) (va_A wc H.size)) (hP : va_P D cl (pre ++ wc ++ po) H) (hD : va_D A (pre ++ wc ++ po)) (hS : va_S A H0 H locs) (hA : ∀ q, H0.size ≤ q → A q)
    (kk : ∀ (u : S) (H1 : Heap) (locs1 : List Loc), post u → va_P D cl (pre ++ wf u ++ po) H1 → va_D A (pre ++ wf u ++ po) → va_S A H0 H1 locs1 → W p l e R s m args below meth c H1 locs1 (cells + mc) (slots + ms) Q (F0 m (pc + 3) ls rest)) : W p l e R s m args below meth c H locs cells slots Q (F0 m pc ls st0) := by
  have hF := gc_free hD hS hA
  refine va_callv hr hS (fun q _ h => hF q h) hF (fun u t H1 locs1 ht hvm hp hB hz hk hS1 => ?_)
  obtain ⟨b1, -, b3⟩ := hB
  rw [ht] at b1
  obtain ⟨j1, j2⟩ := gc_join hP hD hk hF b1 b3
  exact kk u H1 locs1 hp j1 j2 hS1
theorem gc_preN {av : List Value} (hNb : ∀ (a : Array Value) (U : State) (g : JFrame) (mk : MethodId), NW U → NW (U.calling g mk a)) (hNW : ∀ U : State, s.WarmedH U.vm → NW U) (hK : va_K D cl tys s) (hP : va_P D cl (pre ++ wc ++ po) H) (hD : va_D A (pre ++ wc ++ po)) : PreS s H (va_Pc av (fun U => gc_P D cl tys wc H.size U ∧ NW U)) av := by
  obtain ⟨h1, h2⟩ := gc_mid hP hD
  exact ⟨fun a U g mk q => ⟨(gc_blind (av := av) a U g mk ⟨q.1, q.2.1⟩).1, (gc_blind (av := av) a U g mk ⟨q.1, q.2.1⟩).2, hNb a U g mk q.2.2⟩, fun U hU hW => ⟨rfl, ⟨by rw [hU], by rw [hU]; exact h1, va_K.moved hW.alike hK, h2⟩, hNW U hW⟩⟩
/-- a nest mate's constructor -/
theorem gc_nin {post : S → Prop} (F : CallFix p m c cc nL s args Ts own) (hM : gc_N l y ws rm D cl tys (.ref b :: As) wc NW post wf mc ms) (cw : va_CN R s args own index y host bytes maxL none ws rm mc ms n ∧ y.name = "<init>" ∧ (Cond.instanceMethod y).before args s = true) (hNb : ∀ (a : Array Value) (U : State) (g : JFrame) (mk : MethodId), NW U → NW (U.calling g mk a)) (hNW : ∀ U : State, s.WarmedH U.vm → NW U) (hK : va_K D cl tys s) (hP : va_P D cl (pre ++ wc ++ po) H) (hD : va_D A (pre ++ wc ++ po)) (hS : va_S A H0 H locs) (hA : ∀ q, H0.size ≤ q → A q)
    (hn : As.length = n) (hsize : ls.size = nL) (hstack : st0 = As.reverse ++ .ref b :: rest) (hW : (rest.map fun v => v.category).sum ≤ 8) (hdg : decode cc pc = .ok (.invokespecial index, 3)) (hf : cells + mc ≤ R.cells ∧ slots + ms ≤ R.slots)
    (kk : ∀ (u : S) (H1 : Heap) (locs1 : List Loc), post u → va_P D cl (pre ++ wf u ++ po) H1 → va_D A (pre ++ wf u ++ po) → va_S A H0 H1 locs1 → W p l e R s m args below meth c H1 locs1 (cells + mc) (slots + ms) Q (F0 m (pc + 3) ls rest)) : W p l e R s m args below meth c H locs cells slots Q (F0 m pc ls st0) :=
  gc_cN (va_runIN F (hM H.size) cw (gc_preN hNb hNW hK hP hD) rfl hn hsize hstack (lv_room hW) hdg hf) hP hD hS hA kk
/-- a constructor -/
theorem gc_nii {post : S → Prop} (F : CallFix p m c cc nL s args Ts own) (hM : gc_N l y ws rm D cl tys (.ref b :: As) wc NW post wf mc ms) (cw : CallB R s args own index y bytes maxL none ws rm mc ms n ∧ y.name = "<init>" ∧ (Cond.instanceMethod y).before args s = true) (hNb : ∀ (a : Array Value) (U : State) (g : JFrame) (mk : MethodId), NW U → NW (U.calling g mk a)) (hNW : ∀ U : State, s.WarmedH U.vm → NW U) (hK : va_K D cl tys s) (hP : va_P D cl (pre ++ wc ++ po) H) (hD : va_D A (pre ++ wc ++ po)) (hS : va_S A H0 H locs) (hA : ∀ q, H0.size ≤ q → A q)
    (hn : As.length = n) (hsize : ls.size = nL) (hstack : st0 = As.reverse ++ .ref b :: rest) (hW : (rest.map fun v => v.category).sum ≤ 8) (hdg : decode cc pc = .ok (.invokespecial index, 3)) (hf : cells + mc ≤ R.cells ∧ slots + ms ≤ R.slots)
    (kk : ∀ (u : S) (H1 : Heap) (locs1 : List Loc), post u → va_P D cl (pre ++ wf u ++ po) H1 → va_D A (pre ++ wf u ++ po) → va_S A H0 H1 locs1 → W p l e R s m args below meth c H1 locs1 (cells + mc) (slots + ms) Q (F0 m (pc + 3) ls rest)) : W p l e R s m args below meth c H locs cells slots Q (F0 m pc ls st0) :=
  gc_cN (va_runI F (hM H.size) cw (gc_preN hNb hNW hK hP hD) rfl hn hsize hstack (lv_room hW) hdg hf) hP hD hS hA kk
end GN
section GM
variable {p : Program} {l : Launch} {e : Env} {R : Room} {s : State} {m : MethodId} {args : Array Value} {below : List Frame} {meth : Method} {c : Code} {H : Heap} {locs : List Loc} {cells slots : Nat} {Q : State → Prop}
variable {cc : ByteArray} {pc : Nat} {ls : Array Slot} {rest : List Value} {D : va_G} {cl : List vw_C} {A : Nat → Prop} {tys : List (ClassId × FieldType)} {ws : va_W} {H0 : Heap}
theorem gr_newa (hx : p.tables.exec = Jvm.exec) (hb : c.code = cc) {atype : ArrayType} (harr : (Cond.arrayClass (newarray.typeOf atype)).before args s = true) {ty : FieldType} (hty : newarray.typeOf atype = ty) (hK : va_K D cl tys s) (hP : va_P D cl ws H) (hD : va_D A ws) (hS : va_S A H0 H locs) (hA : ∀ q, H0.size ≤ q → A q) (t0 : Nat) {cA0 : ClassId} (ht : tys[t0]? = some (cA0, ty)) (hpr : ty = .int ∨ ty = .boolean)
    {n : Int32} {N' : Nat} (hn : ¬ n < 0) (hN : n.toNatClampNeg = N') (hbytes : N' * componentBytes ty ≤ 536870912) (hcells : cells + 1 ≤ R.cells) (hslots : slots + N' ≤ R.slots) (hdg : decode cc pc = .ok (.newarray atype, 2))
    (kk : ∀ (q : Nat) (H1 : Heap), va_P D cl (ws ++ [(q, .inl (cA0, N', .inl (fun _ => 0)))]) H1 → va_D A (ws ++ [(q, .inl (cA0, N', .inl (fun _ => 0)))]) → va_S A H0 H1 locs →
      W p l e R s m args below meth c H1 locs (cells + 1) (slots + N') Q (F0 m (pc + 2) ls (.ref q :: rest))) : W p l e R s m args below meth c H locs cells slots Q (F0 m pc ls (.int n :: rest)) := by
  refine va_newa hx hb harr hty hK hP hD hS hA (a0 := (N', .inl (fun _ => 0))) (fun cA => ?_) hn hN hbytes hcells hslots hdg (fun q cA H1 hK1 hP1 hD1 hS1 => ?_)
  · rcases hpr with rfl | rfl <;> rfl
  · have e : cA = cA0 := by
      have h1 := (hK1.2 tys.length (cA, ty) (by simp)).2
      have h2 := (hK.2 t0 _ ht).2
      rcases hpr with rfl | rfl
      · exact Option.some.inj (Eq.trans (Eq.symm h1) h2)
      · exact Option.some.inj (Eq.trans (Eq.symm h1) h2)
    subst e
    exact kk q H1 hP1 hD1 hS1
end GM
abbrev rk_ (a b c d : Nat) : Room := { frames := a, cells := c, slots := d, locals := b }
