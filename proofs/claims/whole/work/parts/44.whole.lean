/-! THE CLAIM OUT OF ONE WALK OF THE LAW'S BODY. Your part is whole_start (and what it stands on); all else here is the same for every law, but numbers. -/
def R_law : String := "WriteOnceVaultLaw"
def lw_P (b : Addr) (xs : List Int32) (args : Array Value) (s : State) : Prop := args = #[.ref b] ∧ s.IntsAt b xs ∧ xs.length ≤ 2560 ∧ (Jvm.Cond.and given_1 narrow_1).before args s = true
def lw_Q (_ : Array Value) (s : State) (o : Outcome) (t : State) : Prop := o = .returned (some (.int 1)) ∧ Framed s o t [] 31 931
def lw_Z (below : List Frame) (a : Array Value) (s : State) : State → Prop := fun t => ∃ o, t.status = .running ∧ Ended t below o ∧ lw_Q a s o t
/-- the law's own end, with 1 on the stack, nothing written that was there before, its room as the claim has it -/
theorem lw_ret {p : Program} {l : Launch} {e : Env} {s : State} {m : MethodId} {below : List Frame} {meth : Method} {c : Code} {b : Nat} (hx : p.tables.exec = Jvm.exec) (hb : c.code = code) (hr : meth.sig.returnType = ret) (hlocks : meth.locks = false) {pc : Nat} {H : Heap} {ls : Array Slot} (hdg : decode code pc = .ok (.ireturn, 1)) : W p l e room_1 s m #[Value.ref b] below meth c H [] 31 931 (lw_Z below #[Value.ref b] s) (F0 m pc ls [.int 1]) := by
  intro T hT X
  obtain ⟨fs, hret, hrun, hended, hW, hframe⟩ := X.leave (v := some (.int 1)) (hlocks := hlocks) (fun h => by rw [hr] at h; cases h)
  have hmeth' : T.vm.method? m = some meth := X.method'
  refine ⟨T.setFrames fs, ?_, .returned (some (.int 1)), hrun, hended, rfl, ⟨_, rfl⟩, hW, hframe⟩
  jvm_step X.here [X.here.top, hx, hb, hdg, hmeth', hr, ret, narrow_b1]
  (try refine ⟨rfl, ?_⟩); (try refine ⟨rfl, ?_⟩)
  first | (intro acts; rw [hret _ acts rfl rfl rfl]) | rw [hret _ _ rfl rfl rfl]
  exact Steps.refl _
/-- what holds at the law's entry: the machine, the code, the tables' words (any of lw_tbl by 'hts w (by decide +kernel)'), the script of L ints xs at the cell b, what the Statement gives of the start (any of its parts by flat_of_before) -/
def lw_At (p : Program) (s : State) (m : MethodId) (meth : Method) (c : Code) (b L : Nat) (xs : Nat → Int32) : Prop :=
  p.tables.exec = Jvm.exec ∧ c.code = code ∧ meth.sig.returnType = ret ∧ c.maxLocals = 4 ∧ s.vm.findClass R_law = some m.cls ∧ (∀ w ∈ lw_tbl, w.before #[Value.ref b] s = true) ∧ va_X b L xs s s.heap ∧ b < s.heap.size ∧ meth.locks = false ∧ (Jvm.Cond.and given_1 narrow_1).before #[Value.ref b] s = true

set_option maxRecDepth 100000 in
set_option maxHeartbeats 4000000 in
theorem lw_loop (pp : Program) (l : Launch) (ee : Env) (ss : State) (mm : MethodId) (be : List Frame) (me : Method) (cd : Code) (sb : Nat) (dC : Nat → ClassId) (dI : Nat → Nat → Nat) (cI cZ : ClassId) (ad bd : Nat → Nat) (hx : pp.tables.exec = Jvm.exec) (hb : cd.code = cn_L_law) (hml : cd.maxLocals = 4) (hown : ss.vm.findClass "WriteOnceVaultLaw" = some mm.cls) (hw : ∀ w ∈ gw_T, w.before #[Value.ref sb] ss = true) (hK : va_K (dC, dI) vwCl (gT cI cZ) ss) {L : Nat} {xs : Nat → Int32} (hX : va_X sb L xs ss ss.heap) (hbl : sb < ss.heap.size) (hr : me.sig.returnType = ret) (hlk : me.locks = false) (hL : L ≤ 2560) : ∀ (n_ k : Nat), L - 5 * k = n_ → 5 * k ≤ L → lw_kk pp l ee ss mm be me cd sb dC dI cI cZ ad bd ss.heap (fun q => ss.heap.size ≤ q) (lw_Z be #[Value.ref sb] ss) k 18 (1000 * k) := by
  have hbA : ¬ (fun q => ss.heap.size ≤ q) sb := fun h => absurd h (Nat.not_le.mpr hbl)
  have hA : ∀ q, ss.heap.size ≤ q → (fun q => ss.heap.size ≤ q) q := fun q h => h
  intro n_
  induction n_ using Nat.strongRecOn with
  | ind n_ ih =>
    intro k hn hk
    intro clk pw lf f g fd fc dr K en U ea X Y Z sa ff fn bq sn ob S D G sm Ym Zm Xm ef ec fu ls H locs hx_ hfc hclk hl hP hD hS
    refine lv_iload_n hx hb dn_L_law_18 rfl (lv_at hl 3 rfl) ?_
    refine lv_aload_n hx hb dn_L_law_19 rfl (lv_at hl 0 rfl) ?_
    refine va_slen hx hb hX hbl hbA hS dn_L_law_20 ?_
    refine lv_iconst (v := 5) hx hb dn_L_law_21 (by decide) ?_
    refine lv_isub hx hb dn_L_law_22 ?_
    refine lv_icmp_gt (tgt := 811) hx hb dn_L_law_23 (by decide) (fun h23 => ?_) (fun h23 => ?_)
    · refine lv_iconst (v := 1) hx hb dn_L_law_811 (by decide) ?_
      exact va_forget (fun q hq => hS.2.2 q hq) (lw_ret hx hb hr hlk dn_L_law_812)
    · have hk5 : 5 * k + 5 ≤ L := Nat.le_of_not_lt fun z => h23 ((lw_gt hL hk).2 z)
      have kk5 : lw_kk pp l ee ss mm be me cd sb dC dI cI cZ ad bd ss.heap (fun q => ss.heap.size ≤ q) (lw_Z be #[Value.ref sb] ss) k 805 (1000 * (k + 1)) := by
        intro clk pw lf f g fd fc dr K en U ea X Y Z sa ff fn bq sn ob S D G sm Ym Zm Xm ef ec fu ls H locs hx_ hfc hclk hl hP hD hS
        refine lv_iinc (lv' := [(3, .int (nI (5 * k + 5))), (0, .ref sb), (1, .ref (ad 0)), (2, .ref (bd 0))]) (v := nI (5 * k + 5)) (k := 3) hx hb dn_L_law_805 hl rfl (nI_add (5 * k) 5) (by decide) rfl (fun ls hl => ?_)
        refine lv_goto (tgt := 18) hx hb dn_L_law_808 (by decide) ?_
        exact ih (L - 5 * (k + 1)) (by omega) (k + 1) rfl (by omega) clk pw lf f g fd fc dr K en U ea X Y Z sa ff fn bq sn ob S D G sm Ym Zm Xm ef ec fu ls H locs hx_ hfc hclk (lv_sub hl [1, 2, 3, 0] rfl) hP hD hS
      refine lv_aload_n hx hb dn_L_law_26 rfl (lv_at hl 0 rfl) ?_
      refine lv_iload_n hx hb dn_L_law_27 rfl (lv_at hl 3 rfl) ?_
      refine gr_sld hx hb hX hbl hbA hS (5 * k) rfl (by omega) (by omega) dn_L_law_28 ?_
      refine lv_bipush (v := 31) hx hb dn_L_law_29 (by decide) ?_
      refine lv_iand hx hb dn_L_law_31 ?_
      rcases sw_0_19 (xs (5 * k) &&& 31) with h | h | h | h | h | h | h | h | h | h | h | h | h | h | h | h | h | h | h | h | h
      · refine gr_top h ?_
        refine lv_tableIn (off := 96) (tgt := 128) hx hb dn_L_law_32 (by decide) (by decide) rfl (by decide) ?_
        exact lc_put pp l ee ss mm be me cd sb dC dI cI cZ ad bd ss.heap (fun q => ss.heap.size ≤ q) (lw_Z be #[Value.ref sb] ss) hx hb hml hown hw hK hX hbl hbA hA hL k hk5 kk5 clk pw lf f g fd fc dr K en U ea X Y Z sa ff fn bq sn ob S D G sm Ym Zm Xm ef ec fu ls H locs hx_ hfc hclk hl hP hD hS
      · refine gr_top h ?_
        refine lv_tableIn (off := 149) (tgt := 181) hx hb dn_L_law_32 (by decide) (by decide) rfl (by decide) ?_
        exact lc_extend pp l ee ss mm be me cd sb dC dI cI cZ ad bd ss.heap (fun q => ss.heap.size ≤ q) (lw_Z be #[Value.ref sb] ss) hx hb hml hown hw hK hX hbl hbA hA hL k hk5 kk5 clk pw lf f g fd fc dr K en U ea X Y Z sa ff fn bq sn ob S D G sm Ym Zm Xm ef ec fu ls H locs hx_ hfc hclk hl hP hD hS
      · refine gr_top h ?_
        refine lv_tableIn (off := 182) (tgt := 214) hx hb dn_L_law_32 (by decide) (by decide) rfl (by decide) ?_
        exact lc_hold pp l ee ss mm be me cd sb dC dI cI cZ ad bd ss.heap (fun q => ss.heap.size ≤ q) (lw_Z be #[Value.ref sb] ss) hx hb hml hown hw hK hX hbl hbA hA hL k hk5 kk5 clk pw lf f g fd fc dr K en U ea X Y Z sa ff fn bq sn ob S D G sm Ym Zm Xm ef ec fu ls H locs hx_ hfc hclk hl hP hD hS
      · refine gr_top h ?_
        refine lv_tableIn (off := 241) (tgt := 273) hx hb dn_L_law_32 (by decide) (by decide) rfl (by decide) ?_
        exact lc_delete pp l ee ss mm be me cd sb dC dI cI cZ ad bd ss.heap (fun q => ss.heap.size ≤ q) (lw_Z be #[Value.ref sb] ss) hx hb hml hown hw hK hX hbl hbA hA hL k hk5 kk5 clk pw lf f g fd fc dr K en U ea X Y Z sa ff fn bq sn ob S D G sm Ym Zm Xm ef ec fu ls H locs hx_ hfc hclk hl hP hD hS
      · refine gr_top h ?_
        refine lv_tableIn (off := 264) (tgt := 296) hx hb dn_L_law_32 (by decide) (by decide) rfl (by decide) ?_
        exact lc_shred pp l ee ss mm be me cd sb dC dI cI cZ ad bd ss.heap (fun q => ss.heap.size ≤ q) (lw_Z be #[Value.ref sb] ss) hx hb hml hown hw hK hX hbl hbA hA hL k hk5 kk5 clk pw lf f g fd fc dr K en U ea X Y Z sa ff fn bq sn ob S D G sm Ym Zm Xm ef ec fu ls H locs hx_ hfc hclk hl hP hD hS
      · refine gr_top h ?_
        refine lv_tableIn (off := 287) (tgt := 319) hx hb dn_L_law_32 (by decide) (by decide) rfl (by decide) ?_
        exact lc_tick pp l ee ss mm be me cd sb dC dI cI cZ ad bd ss.heap (fun q => ss.heap.size ≤ q) (lw_Z be #[Value.ref sb] ss) hx hb hml hown hw hK hX hbl hbA hA hL k hk5 kk5 clk pw lf f g fd fc dr K en U ea X Y Z sa ff fn bq sn ob S D G sm Ym Zm Xm ef ec fu ls H locs hx_ hfc hclk hl hP hD hS
      · refine gr_top h ?_
        refine lv_tableIn (off := 310) (tgt := 342) hx hb dn_L_law_32 (by decide) (by decide) rfl (by decide) ?_
        exact lc_get pp l ee ss mm be me cd sb dC dI cI cZ ad bd ss.heap (fun q => ss.heap.size ≤ q) (lw_Z be #[Value.ref sb] ss) hx hb hml hown hw hK hX hbl hbA hA hL k hk5 kk5 clk pw lf f g fd fc dr K en U ea X Y Z sa ff fn bq sn ob S D G sm Ym Zm Xm ef ec fu ls H locs hx_ hfc hclk hl hP hD hS
      · refine gr_top h ?_
        refine lv_tableIn (off := 344) (tgt := 376) hx hb dn_L_law_32 (by decide) (by decide) rfl (by decide) ?_
        exact lc_look pp l ee ss mm be me cd sb dC dI cI cZ ad bd ss.heap (fun q => ss.heap.size ≤ q) (lw_Z be #[Value.ref sb] ss) hx hb hml hown hw hK hX hbl hbA hA hL k hk5 kk5 clk pw lf f g fd fc dr K en U ea X Y Z sa ff fn bq sn ob S D G sm Ym Zm Xm ef ec fu ls H locs hx_ hfc hclk hl hP hD hS
      · refine gr_top h ?_
        refine lv_tableIn (off := 377) (tgt := 409) hx hb dn_L_law_32 (by decide) (by decide) rfl (by decide) ?_
        exact lc_records pp l ee ss mm be me cd sb dC dI cI cZ ad bd ss.heap (fun q => ss.heap.size ≤ q) (lw_Z be #[Value.ref sb] ss) hx hb hml hown hw hK hX hbl hbA hA hL k hk5 kk5 clk pw lf f g fd fc dr K en U ea X Y Z sa ff fn bq sn ob S D G sm Ym Zm Xm ef ec fu ls H locs hx_ hfc hclk hl hP hD hS
      · refine gr_top h ?_
        refine lv_tableIn (off := 390) (tgt := 422) hx hb dn_L_law_32 (by decide) (by decide) rfl (by decide) ?_
        exact lc_root pp l ee ss mm be me cd sb dC dI cI cZ ad bd ss.heap (fun q => ss.heap.size ≤ q) (lw_Z be #[Value.ref sb] ss) hx hb hml hown hw hK hX hbl hbA hA hL k hk5 kk5 clk pw lf f g fd fc dr K en U ea X Y Z sa ff fn bq sn ob S D G sm Ym Zm Xm ef ec fu ls H locs hx_ hfc hclk hl hP hD hS
      · refine gr_top h ?_
        refine lv_tableIn (off := 414) (tgt := 446) hx hb dn_L_law_32 (by decide) (by decide) rfl (by decide) ?_
        exact lc_path pp l ee ss mm be me cd sb dC dI cI cZ ad bd ss.heap (fun q => ss.heap.size ≤ q) (lw_Z be #[Value.ref sb] ss) hx hb hml hown hw hK hX hbl hbA hA hL k hk5 kk5 clk pw lf f g fd fc dr K en U ea X Y Z sa ff fn bq sn ob S D G sm Ym Zm Xm ef ec fu ls H locs hx_ hfc hclk hl hP hD hS
      · refine gr_top h ?_
        refine lv_tableIn (off := 458) (tgt := 490) hx hb dn_L_law_32 (by decide) (by decide) rfl (by decide) ?_
        exact lc_bridge pp l ee ss mm be me cd sb dC dI cI cZ ad bd ss.heap (fun q => ss.heap.size ≤ q) (lw_Z be #[Value.ref sb] ss) hx hb hml hown hw hK hX hbl hbA hA hL k hk5 kk5 clk pw lf f g fd fc dr K en U ea X Y Z sa ff fn bq sn ob S D G sm Ym Zm Xm ef ec fu ls H locs hx_ hfc hclk hl hP hD hS
      · refine gr_top h ?_
        refine lv_tableIn (off := 502) (tgt := 534) hx hb dn_L_law_32 (by decide) (by decide) rfl (by decide) ?_
        exact lc_feed pp l ee ss mm be me cd sb dC dI cI cZ ad bd ss.heap (fun q => ss.heap.size ≤ q) (lw_Z be #[Value.ref sb] ss) hx hb hml hown hw hK hX hbl hbA hA hL k hk5 kk5 clk pw lf f g fd fc dr K en U ea X Y Z sa ff fn bq sn ob S D G sm Ym Zm Xm ef ec fu ls H locs hx_ hfc hclk hl hP hD hS
      · refine gr_top h ?_
        refine lv_tableIn (off := 525) (tgt := 557) hx hb dn_L_law_32 (by decide) (by decide) rfl (by decide) ?_
        exact lc_included pp l ee ss mm be me cd sb dC dI cI cZ ad bd ss.heap (fun q => ss.heap.size ≤ q) (lw_Z be #[Value.ref sb] ss) hx hb hml hown hw hK hX hbl hbA hA hL k hk5 kk5 clk pw lf f g fd fc dr K en U ea X Y Z sa ff fn bq sn ob S D G sm Ym Zm Xm ef ec fu ls H locs hx_ hfc hclk hl hP hD hS
      · refine gr_top h ?_
        refine lv_tableIn (off := 568) (tgt := 600) hx hb dn_L_law_32 (by decide) (by decide) rfl (by decide) ?_
        exact lc_extended pp l ee ss mm be me cd sb dC dI cI cZ ad bd ss.heap (fun q => ss.heap.size ≤ q) (lw_Z be #[Value.ref sb] ss) hx hb hml hown hw hK hX hbl hbA hA hL k hk5 kk5 clk pw lf f g fd fc dr K en U ea X Y Z sa ff fn bq sn ob S D G sm Ym Zm Xm ef ec fu ls H locs hx_ hfc hclk hl hP hD hS
      · refine gr_top h ?_
        refine lv_tableIn (off := 621) (tgt := 653) hx hb dn_L_law_32 (by decide) (by decide) rfl (by decide) ?_
        exact lc_word pp l ee ss mm be me cd sb dC dI cI cZ ad bd ss.heap (fun q => ss.heap.size ≤ q) (lw_Z be #[Value.ref sb] ss) hx hb hml hown hw hK hX hbl hbA hA hL k hk5 kk5 clk pw lf f g fd fc dr K en U ea X Y Z sa ff fn bq sn ob S D G sm Ym Zm Xm ef ec fu ls H locs hx_ hfc hclk hl hP hD hS
      · refine gr_top h ?_
        refine lv_tableIn (off := 645) (tgt := 677) hx hb dn_L_law_32 (by decide) (by decide) rfl (by decide) ?_
        exact lc_alter pp l ee ss mm be me cd sb dC dI cI cZ ad bd ss.heap (fun q => ss.heap.size ≤ q) (lw_Z be #[Value.ref sb] ss) hx hb hml hown hw hK hX hbl hbA hA hL k hk5 kk5 clk pw lf f g fd fc dr K en U ea X Y Z sa ff fn bq sn ob S D G sm Ym Zm Xm ef ec fu ls H locs hx_ hfc hclk hl hP hD hS
      · refine gr_top h ?_
        refine lv_tableIn (off := 678) (tgt := 710) hx hb dn_L_law_32 (by decide) (by decide) rfl (by decide) ?_
        exact lc_power pp l ee ss mm be me cd sb dC dI cI cZ ad bd ss.heap (fun q => ss.heap.size ≤ q) (lw_Z be #[Value.ref sb] ss) hx hb hml hown hw hK hX hbl hbA hA hL k hk5 kk5 clk pw lf f g fd fc dr K en U ea X Y Z sa ff fn bq sn ob S D G sm Ym Zm Xm ef ec fu ls H locs hx_ hfc hclk hl hP hD hS
      · refine gr_top h ?_
        refine lv_tableIn (off := 717) (tgt := 749) hx hb dn_L_law_32 (by decide) (by decide) rfl (by decide) ?_
        exact lc_cut pp l ee ss mm be me cd sb dC dI cI cZ ad bd ss.heap (fun q => ss.heap.size ≤ q) (lw_Z be #[Value.ref sb] ss) hx hb hml hown hw hK hX hbl hbA hA hL k hk5 kk5 clk pw lf f g fd fc dr K en U ea X Y Z sa ff fn bq sn ob S D G sm Ym Zm Xm ef ec fu ls H locs hx_ hfc hclk hl hP hD hS
      · refine gr_top h ?_
        refine lv_tableIn (off := 740) (tgt := 772) hx hb dn_L_law_32 (by decide) (by decide) rfl (by decide) ?_
        exact lc_audit pp l ee ss mm be me cd sb dC dI cI cZ ad bd ss.heap (fun q => ss.heap.size ≤ q) (lw_Z be #[Value.ref sb] ss) hx hb hml hown hw hK hX hbl hbA hA hL k hk5 kk5 clk pw lf f g fd fc dr K en U ea X Y Z sa ff fn bq sn ob S D G sm Ym Zm Xm ef ec fu ls H locs hx_ hfc hclk hl hP hD hS
      · refine lv_tableOut (tgt := 805) hx hb dn_L_law_32 h (by decide) ?_
        exact kk5 clk pw lf f g fd fc dr K en U ea X Y Z sa ff fn bq sn ob S D G sm Ym Zm Xm ef ec fu ls H locs hx_ hfc (by omega) hl hP hD hS

theorem lw_arr {args : Array Value} {s : State} {ty : FieldType} (hp : ty = .int ∨ ty = .boolean) (h : (Cond.arrayClass ty).before args s = true) : ∃ cA : ClassId, ArrOfT s cA ty ∧ va_RA s cA ty := by
  obtain ⟨cA, kA, comp, h1, h2, h3⟩ := Cond.arrayClass_spec h
  refine ⟨cA, fun n z => ⟨fun k h => (by cases h), kA, h2, comp, h3⟩, ?_⟩
  rcases hp with rfl | rfl <;> exact h1
set_option maxRecDepth 100000 in
set_option maxHeartbeats 4000000 in
theorem lw_K {args : Array Value} {s : State} (hw : ∀ w ∈ gw_T, w.before args s = true) : ∃ (dC : Nat → ClassId) (dI : Nat → Nat → Nat) (cI cZ : ClassId), va_K (dC, dI) vwCl (gT cI cZ) s := by
  obtain ⟨c0, i0, k0⟩ := u_known hw ml_C (hw _ mw_32)
  obtain ⟨c1, i1, k1⟩ := u_known hw ml_E (hw _ mw_57)
  obtain ⟨c2, i2, k2⟩ := u_known hw ml_F (hw _ mw_86)
  obtain ⟨c3, i3, k3⟩ := u_known hw ml_G (hw _ mw_18)
  obtain ⟨c4, i4, k4⟩ := u_known hw ml_X (hw _ mw_10)
  obtain ⟨c5, i5, k5⟩ := u_known hw ml_M (hw _ mw_468)
  obtain ⟨cI, aI, rI⟩ := lw_arr (Or.inl rfl) (hw _ mw_30)
  obtain ⟨cZ, aZ, rZ⟩ := lw_arr (Or.inr rfl) (hw _ mw_84)
  refine ⟨fun n => [c0, c1, c2, c3, c4, c5].getD n c0, fun n => [i0, i1, i2, i3, i4, i5].getD n i0, cI, cZ, ?_, ?_⟩
  · intro c q h
    rcases c with _ | _ | _ | _ | _ | _ | c
    · cases h; exact k0
    · cases h; exact k1
    · cases h; exact k2
    · cases h; exact k3
    · cases h; exact k4
    · cases h; exact k5
    · simp at h
  · intro k q h
    rcases k with _ | _ | k
    · cases h; exact ⟨aI, rI⟩
    · cases h; exact ⟨aZ, rZ⟩
    · simp at h
theorem lw_xr0 : xr (fun _ => 0) 0 1 KZ 0 := by
  refine ⟨Or.inr rfl, Nat.zero_le _, Nat.zero_le _, fun _ => ⟨⟨Nat.zero_le _, fun r hr => absurd hr (Nat.not_lt_zero r), fun _ => ct_no rfl⟩, ⟨rfl, fun j h1 h2 => absurd (Nat.le_trans h1 h2) (Nat.not_succ_le_zero 0)⟩, fun _ _ _ => rfl⟩⟩

set_option maxRecDepth 100000 in
set_option maxHeartbeats 4000000 in
theorem whole_start {pp : Program} {ee : Env} {ss : State} {mm : MethodId} {be : List Frame} {me : Method} {cd : Code} (l : Launch) {sb L : Nat} {xs : Nat → Int32} (hL : L ≤ 2560) (C0 : lw_At pp ss mm me cd sb L xs) : W pp l ee room_1 ss mm #[Value.ref sb] be me cd ss.heap [] 0 0 (lw_Z be #[Value.ref sb] ss) (entryFrame mm ([Value.ref sb] : List Value).toArray 4) := by
  obtain ⟨hx, hb, hr, hml, hown, hts, hX, hbl, hlk, -⟩ := C0
  have hw := gw_of hts
  have n1 := va_Nw.of (U := ss) rfl (hts _ mw_19)
  have n2 := va_Nw.of (U := ss) rfl (hts _ mw_33)
  have n3 := va_Nw.of (U := ss) rfl (hts _ mw_58)
  have n4 := va_Nw.of (U := ss) rfl (hts _ mw_87)
  obtain ⟨dC, dI, cI, cZ, hK⟩ := lw_K hw
  have hl := lv_entry ([.ref sb]) (n := 4) (Nat.le_of_ble_eq_true rfl)
  rw [lg_entry_eq]
  generalize (lg_sl ([.ref sb]) ++ List.replicate (4 - (lg_sl ([.ref sb])).length) Slot.unset).toArray = ls at hl ⊢
  have hl : lv_has ls 4 [(0, .ref sb)] := hl
  have hA : ∀ q, ss.heap.size ≤ q → (fun q => ss.heap.size ≤ q) q := fun q h => h
  have hP : va_P (dC, dI) vwCl [] ss.heap := fun k q h => by simp at h
  have hD : va_D (fun q => ss.heap.size ≤ q) [] := ⟨fun i j p q h => by simp at h, fun k q h => by simp at h⟩
  have hS : va_S (fun q => ss.heap.size ≤ q) ss.heap ss.heap [] := va_S.rf
  refine va_new (ci := 4) (fs := [.null, .null, .null, .null, .null, .null, .int 0, .int 0, .int 0]) (C := rn_X) (T := tn_X) (N := 9) hx hb hw ml_X tt_X to_X hown (hw _ mw_9) (hw _ mw_10) (hw _ mw_1) hK hP hD hS hA rfl (by decide) (Nat.le_of_ble_eq_true rfl) (Nat.le_of_ble_eq_true rfl) dn_L_law_0 (fun q0 H hP hD hS => ?_)
  have hP : va_P (dC, dI) vwCl [(q0, .inr (4, [.null, .null, .null, .null, .null, .null, .int 0, .int 0, .int 0]))] H := hP
  have hD : va_D (fun q => ss.heap.size ≤ q) [(q0, .inr (4, [.null, .null, .null, .null, .null, .null, .int 0, .int 0, .int 0]))] := hD
  refine lv_dup hx hb dn_L_law_3 rfl ?_
  refine gc_nii (pre := []) (wc := [(q0, .inr (4, [.null, .null, .null, .null, .null, .null, .int 0, .int 0, .int 0]))]) (po := []) (As := []) (rest := [.ref q0]) ⟨hx, hb, hml, hown, hw⟩ (c_X_init l dC dI cI cZ q0) ⟨callB_of 0 hw (gw_GoodIn mw_13) rfl rfl rfl (hw _ mw_1) (hw _ mw_11) hd_X_init ⟨Nat.le_of_ble_eq_true rfl, Nat.le_of_ble_eq_true rfl⟩, rfl, hw _ mw_12⟩ (fun _ _ _ _ h => ⟨va_Nw.same rfl rfl h.1, va_Nw.same rfl rfl h.2.1, va_Nw.same rfl rfl h.2.2.1, va_Nw.same rfl rfl h.2.2.2⟩) (fun _ hW => ⟨va_Nw.warmM hW n1, va_Nw.warmM hW n2, va_Nw.warmM hW n3, va_Nw.warmM hW n4⟩) hK hP hD hS hA rfl hl.1 rfl (Nat.le_of_ble_eq_true rfl) dn_L_law_4 ⟨Nat.le_of_ble_eq_true rfl, Nat.le_of_ble_eq_true rfl⟩ (fun ad H locs hc4 hP1 hD1 hS1 => ?_)
  subst hc4
  have hP := hP1
  have hD := hD1
  have hS := hS1
  have hP : va_P (dC, dI) vwCl [(ad 0, .inr (4, [.ref (ad 7), .ref (ad 2), .ref (ad 10), .ref (ad 17), .ref (ad 15), .ref (ad 1), .int (nI 0), .int 1, .int (-1)])), (ad 1, .inl (cI, 7, .inl (fun _ => 0))), (ad 2, .inr (0, [.ref (ad 3), .ref (ad 4), .ref (ad 5), .ref (ad 6), .int (nI KZ.1), .int (nI 0)])), (ad 3, .inl (cI, 13, .inl KZ.2.1)), (ad 4, .inl (cI, 13, .inl KZ.2.2.1)), (ad 5, .inl (cI, 13, .inl KZ.2.2.2.1)), (ad 6, .inl (cI, 13, .inl KZ.2.2.2.2)), (ad 7, .inr (3, [.ref (ad 8), .ref (ad 9)])), (ad 8, .inl (cI, 292, .inl (fun _ => 0))), (ad 9, .inl (cI, 40, .inl (fun _ => 0))), (ad 10, .inr (0, [.ref (ad 11), .ref (ad 12), .ref (ad 13), .ref (ad 14), .int (nI KZ.1), .int (nI 0)])), (ad 11, .inl (cI, 13, .inl KZ.2.1)), (ad 12, .inl (cI, 13, .inl KZ.2.2.1)), (ad 13, .inl (cI, 13, .inl KZ.2.2.2.1)), (ad 14, .inl (cI, 13, .inl KZ.2.2.2.2)), (ad 15, .inr (2, [.ref (ad 16), .int (nI 0)])), (ad 16, .inl (cI, 12, .inl (fun _ => 0))), (ad 17, .inr (1, [.ref (ad 18), .ref (ad 19), .ref (ad 20), .int (nI 0), .int (nI 0), .int (nI 0), .int (nI 0)])), (ad 18, .inl (cZ, 6, .inl (fun _ => 0))), (ad 19, .inl (cI, 6, .inl (fun _ => 0))), (ad 20, .inl (cI, 6, .inl (fun _ => 0)))] H := hP
  have hD : va_D (fun q => ss.heap.size ≤ q) [(ad 0, .inr (4, [.ref (ad 7), .ref (ad 2), .ref (ad 10), .ref (ad 17), .ref (ad 15), .ref (ad 1), .int (nI 0), .int 1, .int (-1)])), (ad 1, .inl (cI, 7, .inl (fun _ => 0))), (ad 2, .inr (0, [.ref (ad 3), .ref (ad 4), .ref (ad 5), .ref (ad 6), .int (nI KZ.1), .int (nI 0)])), (ad 3, .inl (cI, 13, .inl KZ.2.1)), (ad 4, .inl (cI, 13, .inl KZ.2.2.1)), (ad 5, .inl (cI, 13, .inl KZ.2.2.2.1)), (ad 6, .inl (cI, 13, .inl KZ.2.2.2.2)), (ad 7, .inr (3, [.ref (ad 8), .ref (ad 9)])), (ad 8, .inl (cI, 292, .inl (fun _ => 0))), (ad 9, .inl (cI, 40, .inl (fun _ => 0))), (ad 10, .inr (0, [.ref (ad 11), .ref (ad 12), .ref (ad 13), .ref (ad 14), .int (nI KZ.1), .int (nI 0)])), (ad 11, .inl (cI, 13, .inl KZ.2.1)), (ad 12, .inl (cI, 13, .inl KZ.2.2.1)), (ad 13, .inl (cI, 13, .inl KZ.2.2.2.1)), (ad 14, .inl (cI, 13, .inl KZ.2.2.2.2)), (ad 15, .inr (2, [.ref (ad 16), .int (nI 0)])), (ad 16, .inl (cI, 12, .inl (fun _ => 0))), (ad 17, .inr (1, [.ref (ad 18), .ref (ad 19), .ref (ad 20), .int (nI 0), .int (nI 0), .int (nI 0), .int (nI 0)])), (ad 18, .inl (cZ, 6, .inl (fun _ => 0))), (ad 19, .inl (cI, 6, .inl (fun _ => 0))), (ad 20, .inl (cI, 6, .inl (fun _ => 0)))] := hD
  refine lv_astore_n (lv' := [(1, .ref (ad 0)), (0, .ref sb)]) hx hb dn_L_law_7 rfl hl (by decide) rfl (fun ls hl => ?_)
  refine va_new (ci := 5) (fs := [.null, .int 0, .int 0, .int 0, .null, .int 0, .int 0, .int 0, .null, .null, .null, .int 0, .null, .null, .null, .int 0, .int 0, .int 0, .null]) (C := rn_M) (T := tn_M) (N := 19) hx hb hw ml_M tt_M to_M hown (hw _ mw_467) (hw _ mw_468) (hw _ mw_6) hK hP hD hS hA rfl (by decide) (Nat.le_of_ble_eq_true rfl) (Nat.le_of_ble_eq_true rfl) dn_L_law_8 (fun q8 H hP hD hS => ?_)
  have hP : va_P (dC, dI) vwCl [(ad 0, .inr (4, [.ref (ad 7), .ref (ad 2), .ref (ad 10), .ref (ad 17), .ref (ad 15), .ref (ad 1), .int (nI 0), .int 1, .int (-1)])), (ad 1, .inl (cI, 7, .inl (fun _ => 0))), (ad 2, .inr (0, [.ref (ad 3), .ref (ad 4), .ref (ad 5), .ref (ad 6), .int (nI KZ.1), .int (nI 0)])), (ad 3, .inl (cI, 13, .inl KZ.2.1)), (ad 4, .inl (cI, 13, .inl KZ.2.2.1)), (ad 5, .inl (cI, 13, .inl KZ.2.2.2.1)), (ad 6, .inl (cI, 13, .inl KZ.2.2.2.2)), (ad 7, .inr (3, [.ref (ad 8), .ref (ad 9)])), (ad 8, .inl (cI, 292, .inl (fun _ => 0))), (ad 9, .inl (cI, 40, .inl (fun _ => 0))), (ad 10, .inr (0, [.ref (ad 11), .ref (ad 12), .ref (ad 13), .ref (ad 14), .int (nI KZ.1), .int (nI 0)])), (ad 11, .inl (cI, 13, .inl KZ.2.1)), (ad 12, .inl (cI, 13, .inl KZ.2.2.1)), (ad 13, .inl (cI, 13, .inl KZ.2.2.2.1)), (ad 14, .inl (cI, 13, .inl KZ.2.2.2.2)), (ad 15, .inr (2, [.ref (ad 16), .int (nI 0)])), (ad 16, .inl (cI, 12, .inl (fun _ => 0))), (ad 17, .inr (1, [.ref (ad 18), .ref (ad 19), .ref (ad 20), .int (nI 0), .int (nI 0), .int (nI 0), .int (nI 0)])), (ad 18, .inl (cZ, 6, .inl (fun _ => 0))), (ad 19, .inl (cI, 6, .inl (fun _ => 0))), (ad 20, .inl (cI, 6, .inl (fun _ => 0))), (q8, .inr (5, [.null, .int 0, .int 0, .int 0, .null, .int 0, .int 0, .int 0, .null, .null, .null, .int 0, .null, .null, .null, .int 0, .int 0, .int 0, .null]))] H := hP
  have hD : va_D (fun q => ss.heap.size ≤ q) [(ad 0, .inr (4, [.ref (ad 7), .ref (ad 2), .ref (ad 10), .ref (ad 17), .ref (ad 15), .ref (ad 1), .int (nI 0), .int 1, .int (-1)])), (ad 1, .inl (cI, 7, .inl (fun _ => 0))), (ad 2, .inr (0, [.ref (ad 3), .ref (ad 4), .ref (ad 5), .ref (ad 6), .int (nI KZ.1), .int (nI 0)])), (ad 3, .inl (cI, 13, .inl KZ.2.1)), (ad 4, .inl (cI, 13, .inl KZ.2.2.1)), (ad 5, .inl (cI, 13, .inl KZ.2.2.2.1)), (ad 6, .inl (cI, 13, .inl KZ.2.2.2.2)), (ad 7, .inr (3, [.ref (ad 8), .ref (ad 9)])), (ad 8, .inl (cI, 292, .inl (fun _ => 0))), (ad 9, .inl (cI, 40, .inl (fun _ => 0))), (ad 10, .inr (0, [.ref (ad 11), .ref (ad 12), .ref (ad 13), .ref (ad 14), .int (nI KZ.1), .int (nI 0)])), (ad 11, .inl (cI, 13, .inl KZ.2.1)), (ad 12, .inl (cI, 13, .inl KZ.2.2.1)), (ad 13, .inl (cI, 13, .inl KZ.2.2.2.1)), (ad 14, .inl (cI, 13, .inl KZ.2.2.2.2)), (ad 15, .inr (2, [.ref (ad 16), .int (nI 0)])), (ad 16, .inl (cI, 12, .inl (fun _ => 0))), (ad 17, .inr (1, [.ref (ad 18), .ref (ad 19), .ref (ad 20), .int (nI 0), .int (nI 0), .int (nI 0), .int (nI 0)])), (ad 18, .inl (cZ, 6, .inl (fun _ => 0))), (ad 19, .inl (cI, 6, .inl (fun _ => 0))), (ad 20, .inl (cI, 6, .inl (fun _ => 0))), (q8, .inr (5, [.null, .int 0, .int 0, .int 0, .null, .int 0, .int 0, .int 0, .null, .null, .null, .int 0, .null, .null, .null, .int 0, .int 0, .int 0, .null]))] := hD
  refine lv_dup hx hb dn_L_law_11 rfl ?_
  refine gc_nii (pre := [(ad 0, .inr (4, [.ref (ad 7), .ref (ad 2), .ref (ad 10), .ref (ad 17), .ref (ad 15), .ref (ad 1), .int (nI 0), .int 1, .int (-1)])), (ad 1, .inl (cI, 7, .inl (fun _ => 0))), (ad 2, .inr (0, [.ref (ad 3), .ref (ad 4), .ref (ad 5), .ref (ad 6), .int (nI KZ.1), .int (nI 0)])), (ad 3, .inl (cI, 13, .inl KZ.2.1)), (ad 4, .inl (cI, 13, .inl KZ.2.2.1)), (ad 5, .inl (cI, 13, .inl KZ.2.2.2.1)), (ad 6, .inl (cI, 13, .inl KZ.2.2.2.2)), (ad 7, .inr (3, [.ref (ad 8), .ref (ad 9)])), (ad 8, .inl (cI, 292, .inl (fun _ => 0))), (ad 9, .inl (cI, 40, .inl (fun _ => 0))), (ad 10, .inr (0, [.ref (ad 11), .ref (ad 12), .ref (ad 13), .ref (ad 14), .int (nI KZ.1), .int (nI 0)])), (ad 11, .inl (cI, 13, .inl KZ.2.1)), (ad 12, .inl (cI, 13, .inl KZ.2.2.1)), (ad 13, .inl (cI, 13, .inl KZ.2.2.2.1)), (ad 14, .inl (cI, 13, .inl KZ.2.2.2.2)), (ad 15, .inr (2, [.ref (ad 16), .int (nI 0)])), (ad 16, .inl (cI, 12, .inl (fun _ => 0))), (ad 17, .inr (1, [.ref (ad 18), .ref (ad 19), .ref (ad 20), .int (nI 0), .int (nI 0), .int (nI 0), .int (nI 0)])), (ad 18, .inl (cZ, 6, .inl (fun _ => 0))), (ad 19, .inl (cI, 6, .inl (fun _ => 0))), (ad 20, .inl (cI, 6, .inl (fun _ => 0)))]) (wc := [(q8, .inr (5, [.null, .int 0, .int 0, .int 0, .null, .int 0, .int 0, .int 0, .null, .null, .null, .int 0, .null, .null, .null, .int 0, .int 0, .int 0, .null]))]) (po := []) (As := []) (rest := [.ref q8]) ⟨hx, hb, hml, hown, hw⟩ (c_M_init l dC dI cI cZ q8) ⟨callB_of 0 hw (gw_GoodIn mw_471) rfl rfl rfl (hw _ mw_6) (hw _ mw_469) hd_M_init ⟨Nat.le_of_ble_eq_true rfl, Nat.le_of_ble_eq_true rfl⟩, rfl, hw _ mw_470⟩ (fun _ _ _ _ h => h) (fun _ _ => trivial) hK hP hD hS hA rfl hl.1 rfl (Nat.le_of_ble_eq_true rfl) dn_L_law_12 ⟨Nat.le_of_ble_eq_true rfl, Nat.le_of_ble_eq_true rfl⟩ (fun bd H locs hc12 hP1 hD1 hS1 => ?_)
  subst hc12
  have hP := hP1
  have hD := hD1
  have hS := hS1
  have hP : va_P (dC, dI) vwCl [(ad 0, .inr (4, [.ref (ad 7), .ref (ad 2), .ref (ad 10), .ref (ad 17), .ref (ad 15), .ref (ad 1), .int (nI 0), .int 1, .int (-1)])), (ad 1, .inl (cI, 7, .inl (fun _ => 0))), (ad 2, .inr (0, [.ref (ad 3), .ref (ad 4), .ref (ad 5), .ref (ad 6), .int (nI KZ.1), .int (nI 0)])), (ad 3, .inl (cI, 13, .inl KZ.2.1)), (ad 4, .inl (cI, 13, .inl KZ.2.2.1)), (ad 5, .inl (cI, 13, .inl KZ.2.2.2.1)), (ad 6, .inl (cI, 13, .inl KZ.2.2.2.2)), (ad 7, .inr (3, [.ref (ad 8), .ref (ad 9)])), (ad 8, .inl (cI, 292, .inl (fun _ => 0))), (ad 9, .inl (cI, 40, .inl (fun _ => 0))), (ad 10, .inr (0, [.ref (ad 11), .ref (ad 12), .ref (ad 13), .ref (ad 14), .int (nI KZ.1), .int (nI 0)])), (ad 11, .inl (cI, 13, .inl KZ.2.1)), (ad 12, .inl (cI, 13, .inl KZ.2.2.1)), (ad 13, .inl (cI, 13, .inl KZ.2.2.2.1)), (ad 14, .inl (cI, 13, .inl KZ.2.2.2.2)), (ad 15, .inr (2, [.ref (ad 16), .int (nI 0)])), (ad 16, .inl (cI, 12, .inl (fun _ => 0))), (ad 17, .inr (1, [.ref (ad 18), .ref (ad 19), .ref (ad 20), .int (nI 0), .int (nI 0), .int (nI 0), .int (nI 0)])), (ad 18, .inl (cZ, 6, .inl (fun _ => 0))), (ad 19, .inl (cI, 6, .inl (fun _ => 0))), (ad 20, .inl (cI, 6, .inl (fun _ => 0))), (bd 0, .inr (5, [.ref (bd 1), .int (nI 0), .int 1, .int (-1), .ref (bd 2), .int (nI 0), .int (nI 0), .int (nI 0), .ref (bd 3), .ref (bd 4), .ref (bd 5), .int (nI 0), .ref (bd 6), .ref (bd 7), .ref (bd 8), .int (nI 0), .int (nI 0), .int (nI 0), .ref (bd 9)])), (bd 1, .inl (cI, 292, .inl (fun _ => 0))), (bd 2, .inl (cI, 12, .inl (fun _ => 0))), (bd 3, .inl (cI, 13, .inl (fun _ => 0))), (bd 4, .inl (cI, 13, .inl (fun _ => 0))), (bd 5, .inl (cI, 13, .inl (fun _ => 0))), (bd 6, .inl (cI, 8, .inl (fun _ => 0))), (bd 7, .inl (cI, 8, .inl (fun _ => 0))), (bd 8, .inl (cZ, 8, .inl (fun _ => 0))), (bd 9, .inl (cI, 40, .inl (fun _ => 0)))] H := hP
  have hD : va_D (fun q => ss.heap.size ≤ q) [(ad 0, .inr (4, [.ref (ad 7), .ref (ad 2), .ref (ad 10), .ref (ad 17), .ref (ad 15), .ref (ad 1), .int (nI 0), .int 1, .int (-1)])), (ad 1, .inl (cI, 7, .inl (fun _ => 0))), (ad 2, .inr (0, [.ref (ad 3), .ref (ad 4), .ref (ad 5), .ref (ad 6), .int (nI KZ.1), .int (nI 0)])), (ad 3, .inl (cI, 13, .inl KZ.2.1)), (ad 4, .inl (cI, 13, .inl KZ.2.2.1)), (ad 5, .inl (cI, 13, .inl KZ.2.2.2.1)), (ad 6, .inl (cI, 13, .inl KZ.2.2.2.2)), (ad 7, .inr (3, [.ref (ad 8), .ref (ad 9)])), (ad 8, .inl (cI, 292, .inl (fun _ => 0))), (ad 9, .inl (cI, 40, .inl (fun _ => 0))), (ad 10, .inr (0, [.ref (ad 11), .ref (ad 12), .ref (ad 13), .ref (ad 14), .int (nI KZ.1), .int (nI 0)])), (ad 11, .inl (cI, 13, .inl KZ.2.1)), (ad 12, .inl (cI, 13, .inl KZ.2.2.1)), (ad 13, .inl (cI, 13, .inl KZ.2.2.2.1)), (ad 14, .inl (cI, 13, .inl KZ.2.2.2.2)), (ad 15, .inr (2, [.ref (ad 16), .int (nI 0)])), (ad 16, .inl (cI, 12, .inl (fun _ => 0))), (ad 17, .inr (1, [.ref (ad 18), .ref (ad 19), .ref (ad 20), .int (nI 0), .int (nI 0), .int (nI 0), .int (nI 0)])), (ad 18, .inl (cZ, 6, .inl (fun _ => 0))), (ad 19, .inl (cI, 6, .inl (fun _ => 0))), (ad 20, .inl (cI, 6, .inl (fun _ => 0))), (bd 0, .inr (5, [.ref (bd 1), .int (nI 0), .int 1, .int (-1), .ref (bd 2), .int (nI 0), .int (nI 0), .int (nI 0), .ref (bd 3), .ref (bd 4), .ref (bd 5), .int (nI 0), .ref (bd 6), .ref (bd 7), .ref (bd 8), .int (nI 0), .int (nI 0), .int (nI 0), .ref (bd 9)])), (bd 1, .inl (cI, 292, .inl (fun _ => 0))), (bd 2, .inl (cI, 12, .inl (fun _ => 0))), (bd 3, .inl (cI, 13, .inl (fun _ => 0))), (bd 4, .inl (cI, 13, .inl (fun _ => 0))), (bd 5, .inl (cI, 13, .inl (fun _ => 0))), (bd 6, .inl (cI, 8, .inl (fun _ => 0))), (bd 7, .inl (cI, 8, .inl (fun _ => 0))), (bd 8, .inl (cZ, 8, .inl (fun _ => 0))), (bd 9, .inl (cI, 40, .inl (fun _ => 0)))] := hD
  refine lv_astore_n (lv' := [(2, .ref (bd 0)), (1, .ref (ad 0)), (0, .ref sb)]) hx hb dn_L_law_15 rfl hl (by decide) rfl (fun ls hl => ?_)
  refine lv_iconst (v := 0) hx hb dn_L_law_16 (by decide) ?_
  refine lv_istore_n (lv' := [(3, .int 0), (2, .ref (bd 0)), (1, .ref (ad 0)), (0, .ref sb)]) hx hb dn_L_law_17 rfl hl (by decide) rfl (fun ls hl => ?_)
  exact lw_loop pp l ee ss mm be me cd sb dC dI cI cZ ad bd hx hb hml hown hw hK hX hbl hr hlk hL _ 0 rfl (Nat.zero_le _) 0 1 (-1) (fun _ => 0) (fun _ => 0) (fun _ => 0) 0 (fun _ => 0) KZ 0 KZ 0 (fun _ => 0) (fun _ => 0) (fun _ => 0) 0 0 0 0 0 0 (fun _ => 0) (fun _ => 0) (fun _ => 0) 0 (fun _ => 0) (fun _ => 0) (fun _ => 0) 0 0 0 ls H locs lw_xr0 (Nat.zero_le _) (Nat.zero_le _) (lv_sub hl [3, 2, 1, 0] rfl) hP hD hS

set_option maxHeartbeats 4000000 in
theorem lw_walk (l : Launch) (b : Addr) (xs : List Int32) : MetFree l x (headSpec (Jvm.Cond.code x code maxLocals ret :: tables_1) room_1) (lw_P b xs) (fun _ _ _ _ _ => True) lw_Q := by
  refine MetFree.of_bodyS (code := code) (maxLocals := maxLocals) (ret := ret) (by decide) ?_ ?_
  · intro args s m h hn
    obtain ⟨meth, c, h1, h2, h3, h4, h5, h6, -, -⟩ := Cond.code_spec hn (atoms_spec (ws := Jvm.Cond.code x code maxLocals ret :: tables_1) h _ List.mem_cons_self)
    exact ⟨meth, c, h1, h2, h3, h4, h5, h6⟩
  · intro p e s m args below meth c s₁ B hml0 hP _
    obtain ⟨rfl, hx, hbd, hgv⟩ := hP
    obtain ⟨scr, harrAt, hlist, hof, hsmall⟩ := hx
    obtain ⟨hcb, hkn, -, -⟩ := State.arrayAt?_spec harrAt
    have hown : s.vm.findClass R_law = some m.cls := findClass_of_methodNamed B.named
    have hts0 : ∀ c ∈ (Jvm.Cond.code x code maxLocals ret :: tables_1), c.before #[Value.ref b] s = true := atoms_spec (ws := Jvm.Cond.code x code maxLocals ret :: tables_1) B.pre
    have hts : ∀ w ∈ lw_tbl, w.before #[Value.ref b] s = true := k2_hts_sels lw_privs (fun w hw => hts0 w (List.mem_cons_of_mem _ hw)) lw_privs_ok
    have hml : c.maxLocals = 4 := B.maxLocals_eq (hts0 _ List.mem_cons_self)
    have X₀ : Stand p l e room_1 s m #[Value.ref b] below meth c s₁ [] 0 0 := Stand.of_body B
    have hh0 : s₁.heap = s.heap := by rw [B.state]; rfl
    have hsz : scr.slots.size = xs.length := by rw [← Array.length_toList, hlist, List.length_map]
    have hval : ∀ j : Nat, j < xs.length → scr.slots[j]? = some (.int (xs.getD j 0)) := fun j hj => by
      rw [← Array.getElem?_toList, hlist]
      simp [hj]
    have hbl : b < s.heap.size := (Array.getElem?_eq_some_iff.mp hcb).1
    have hX : va_X b xs.length (fun j => xs.getD j 0) s s.heap := ⟨scr, hcb, hof, hkn, hsz, hval⟩
    have K : W p l e room_1 s m #[Value.ref b] below meth c s₁.heap [] 0 0 (lw_Z below #[Value.ref b] s) (entryFrame m ([Value.ref b] : List Value).toArray 4) := by
      rw [hh0]
      exact whole_start l hbd ⟨B.exec, B.bytes, B.returns, hml, hown, hts, hX, hbl, B.notSynchronized, hgv⟩
    obtain ⟨t, a1, o, b1, b2, b3⟩ := K s₁ rfl X₀
    exact ⟨t, o, a1, b1, b2, b3⟩
theorem lw_pre_spec {args : Array Value} {s : State} (h : (Jvm.Cond.and given_1 narrow_1).before args s = true) (hr : rest_1_c.before args s = true) : ∃ (b : Addr) (xs : List Int32), lw_P b xs args s := by
  have hs := flat_of_before _ h
  have hq := flat_of_before _ hr
  have hc : (Cond.count 1).before args s = true := hs _ (by decide +kernel)
  have harr : (Cond.arrayOf (.arg 0) .int).before args s = true := hs _ (by decide +kernel)
  have hle : (Cond.le (.length (.arg 0)) (.int 2560)).before args s = true := hs _ (by decide +kernel)
  have hlen : (Cond.isInt (.length (.arg 0))).before args s = true := hq _ (by decide +kernel)
  have hall : (Cond.all (.arg 0) (.isInt (.elem (.arg 0) (.index 0)))).before args s = true := hq _ (by decide +kernel)
  obtain ⟨b, xs, hb, hx⟩ := State.ints_of_pre rfl harr hlen hall
  have hsm : xs.length < 2 ^ 31 := hx.choose_spec.2.2.2
  have hev : (Term.length (.arg 0)).eval args s none [] s = some (.int xs.length.toInt32) := hx.length_eval hb
  have hv := Cond.le_ints hev (show (Term.int 2560).eval args s none [] s = some (.int 2560) from rfl)
  have hd : xs.length.toInt32 ≤ 2560 := by
    simpa [Cond.before, Cond.holds, hv] using hle
  have hN : xs.length ≤ 2560 := (Int32.ofNat_le_ofNat hsm (by decide)).mp (show Int32.ofNat xs.length ≤ Int32.ofNat 2560 from hd)
  exact ⟨b, xs, Cond.one_arg hc (show args[0]? = some (.ref b) from hb), hx, hN, h⟩
theorem lw_comes (l : Launch) : Comes l x (Jvm.Cond.code x code maxLocals ret :: tables_1) room_1 (fun tb e args s => Calls_1 tb e args s ∧ rest_1 tb e args s ∧ Pre_1 tb e args s)
    (fun _ _ args s o t => lw_Q args s o t) := by
  intro p e ha hc hk s m args below hf hfit hheap happ hpre
  obtain ⟨b, xs, hP⟩ := lw_pre_spec hpre.2.2 hpre.2.1
  obtain ⟨k, o, h1, h2, h3, hQ⟩ := lw_walk l b xs p e ha hc hk s m args below hf ((Spec.applies_iff_loose hf).mp happ).1 hP trivial
  exact ⟨k, o, h1, h2, h3, hQ⟩
theorem lw_frame {s t : State} {o : Outcome} {args : Array Value} (h : Framed s o t [] 31 931) :
    Framed s o t (fieldLocs frame_1_writes args s ++ arrayLocs frame_1_arrays args s ++ staticLocs frame_1_statics s) 31 931 := h
theorem lw_limb (L : Cond) (hL : ∀ (args : Array Value) (s t : State), L.after args s (.returned (some (.int 1))) t = true) :
    ArmFor flags0 classFile x code maxLocals ret World_1 tables_1 room_1 Calls_1 rest_1 Pre_1
      (fun tb e a s o t => postC L tb e a s o t ∧ Framed s o t (fieldLocs frame_1_writes a s ++ arrayLocs frame_1_arrays a s ++ staticLocs frame_1_statics s) 31 931) := by
  intro l _ _ _ p e ha hc hk s m args below hf hfit hheap happ hpre
  obtain ⟨k, o, h1, h2, h3, rfl, hF⟩ := lw_comes l p e ha hc hk s m args below hf hfit hheap happ hpre
  exact ⟨k, _, h1, h2, h3, hL args s _, lw_frame hF⟩
theorem i_vc : Claimed_1_1 ∧ Claimed_1_2 := ⟨lw_limb limb_1_1 (fun args s t => by simp [limb_1_1, Cond.after, Cond.holds, Cond.value]), lw_limb limb_1_2 (fun args s t => Cond.after_iff.mpr (by
  first | (rw [show limb_1_2 = Cond.eq .result (.int 1) from rfl, Cond.eq_ints (x := 1) (y := 1) rfl rfl]; simp; done) | (simp [limb_1_2, Cond.value, Term.eval]; done)))⟩
