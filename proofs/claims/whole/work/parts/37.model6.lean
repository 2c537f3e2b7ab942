theorem gs_m1 (r : Nat) : nI r + Int32.ofInt (-1) = nI r - 1 := by rw [Int32.sub_eq_add_neg]; rfl

set_option maxRecDepth 100000 in
set_option maxHeartbeats 1000000 in
theorem c_M_extended (l : Launch) (dC : Nat → ClassId) (dI : Nat → Nat → Nat) (cI cZ : ClassId) (bd : Nat → Nat) (clk : Nat) (pw lf : Int32) (f fd : Nat → Int32) (fc sn ob : Nat) (S D G : Nat → Int32) (st : Nat) (Y Z X : Nat → Int32) (ef ec fu : Nat) (g : Nat → Int32) (hfc : fc ≤ 12) (m n early late : Int32) : gc_I l yn_M_extended (gw yn_M_extended cn_M_extended 10 (some .boolean)) (rm_ 2 48) (dC, dI) vwCl (gT cI cZ) [.ref (bd 0), .int m, .int n, .int early, .int late] [(bd 0, .inr (5, [.ref (bd 1), .int (nI clk), .int pw, .int lf, .ref (bd 2), .int (nI fc), .int (nI sn), .int (nI ob), .ref (bd 3), .ref (bd 4), .ref (bd 5), .int (nI st), .ref (bd 6), .ref (bd 7), .ref (bd 8), .int (nI ef), .int (nI ec), .int (nI fu), .ref (bd 9)])), (bd 1, .inl (cI, 292, .inl f)), (bd 2, .inl (cI, 12, .inl fd)), (bd 3, .inl (cI, 13, .inl S)), (bd 4, .inl (cI, 13, .inl D)), (bd 5, .inl (cI, 13, .inl G)), (bd 6, .inl (cI, 8, .inl Y)), (bd 7, .inl (cI, 8, .inl Z)), (bd 8, .inl (cZ, 8, .inl X)), (bd 9, .inl (cI, 40, .inl g))] (fun r (u : (Nat → Int32) × (Nat → Int32) × (Nat → Int32) × Nat × Nat × Nat × Nat) => (r = 1 ∧ an_ext fd fc m n early late) ∨ (r = 0 ∧ ¬ an_ext fd fc m n early late)) (fun u => [(bd 0, .inr (5, [.ref (bd 1), .int (nI clk), .int pw, .int lf, .ref (bd 2), .int (nI 0), .int (nI sn), .int (nI ob), .ref (bd 3), .ref (bd 4), .ref (bd 5), .int (nI u.2.2.2.1), .ref (bd 6), .ref (bd 7), .ref (bd 8), .int (nI u.2.2.2.2.1), .int (nI u.2.2.2.2.2.1), .int (nI u.2.2.2.2.2.2), .ref (bd 9)])), (bd 1, .inl (cI, 292, .inl f)), (bd 2, .inl (cI, 12, .inl fd)), (bd 3, .inl (cI, 13, .inl S)), (bd 4, .inl (cI, 13, .inl D)), (bd 5, .inl (cI, 13, .inl G)), (bd 6, .inl (cI, 8, .inl u.2.1)), (bd 7, .inl (cI, 8, .inl u.2.2.1)), (bd 8, .inl (cZ, 8, .inl u.1)), (bd 9, .inl (cI, 40, .inl g))]) := by
  refine gc_I_of (cc := cn_M_extended) (maxL := 10) (ty := .boolean) (by decide) rfl (Nat.le_of_ble_eq_true rfl) ?_
  intro pp ee ss mm ar be me cd A Q ls H0 H locs hx hb hml hown hts hK hP hD hS hA hl hret
  have hw : ∀ w ∈ gw_T, w.before ar ss = true := fun w h => hts w (List.mem_cons_of_mem _ h)
  have hl : lv_has ls 10 [(0, .ref (bd 0)), (1, .int m), (2, .int n), (3, .int early), (4, .int late)] := hl
  refine lv_aload_n hx hb dn_M_extended_0 rfl (lv_at hl 0 rfl) ?_
  refine va_get (D := (dC, dI)) (ci := 5) (v := .int (nI fc)) (C := rn_M) (T := tn_M) (N := 19) hx hb hw ml_M hown hK hP 0 rfl rfl 5 (by decide) (hw _ mw_478) (fun _ h9 => h9) rfl dn_M_extended_1 ?_
  refine lv_istore (lv' := [(5, .int (nI fc)), (0, .ref (bd 0)), (1, .int m), (2, .int n), (3, .int early), (4, .int late)]) hx hb dn_M_extended_4 hl (by decide) rfl (fun ls hl => ?_)
  refine lv_aload_n hx hb dn_M_extended_6 rfl (lv_at hl 1 rfl) ?_
  refine lv_iconst (v := 0) hx hb dn_M_extended_7 (by decide) ?_
  refine va_put (D := (dC, dI)) (ci := 5) (v := .int 0) (ty := .int) (C := rn_M) (T := tn_M) (N := 19) hx hb hw ml_M tt_M to_M nd_M hown hK hP hD hS 0 rfl rfl 5 (by decide) (hw _ mw_478) (fun _ h9 => h9) rfl (by decide +kernel) rfl rfl (Nat.le_of_ble_eq_true rfl) dn_M_extended_8 (fun H locs hP hD hS => ?_)
  have hP : va_P (dC, dI) vwCl [(bd 0, .inr (5, [.ref (bd 1), .int (nI clk), .int pw, .int lf, .ref (bd 2), .int 0, .int (nI sn), .int (nI ob), .ref (bd 3), .ref (bd 4), .ref (bd 5), .int (nI st), .ref (bd 6), .ref (bd 7), .ref (bd 8), .int (nI ef), .int (nI ec), .int (nI fu), .ref (bd 9)])), (bd 1, .inl (cI, 292, .inl f)), (bd 2, .inl (cI, 12, .inl fd)), (bd 3, .inl (cI, 13, .inl S)), (bd 4, .inl (cI, 13, .inl D)), (bd 5, .inl (cI, 13, .inl G)), (bd 6, .inl (cI, 8, .inl Y)), (bd 7, .inl (cI, 8, .inl Z)), (bd 8, .inl (cZ, 8, .inl X)), (bd 9, .inl (cI, 40, .inl g))] H := hP
  have hD : va_D A [(bd 0, .inr (5, [.ref (bd 1), .int (nI clk), .int pw, .int lf, .ref (bd 2), .int 0, .int (nI sn), .int (nI ob), .ref (bd 3), .ref (bd 4), .ref (bd 5), .int (nI st), .ref (bd 6), .ref (bd 7), .ref (bd 8), .int (nI ef), .int (nI ec), .int (nI fu), .ref (bd 9)])), (bd 1, .inl (cI, 292, .inl f)), (bd 2, .inl (cI, 12, .inl fd)), (bd 3, .inl (cI, 13, .inl S)), (bd 4, .inl (cI, 13, .inl D)), (bd 5, .inl (cI, 13, .inl G)), (bd 6, .inl (cI, 8, .inl Y)), (bd 7, .inl (cI, 8, .inl Z)), (bd 8, .inl (cZ, 8, .inl X)), (bd 9, .inl (cI, 40, .inl g))] := hD
  refine lv_iload_n hx hb dn_M_extended_11 rfl (lv_at hl 2 rfl) ?_
  refine lv_iconst (v := 1) hx hb dn_M_extended_12 (by decide) ?_
  refine lv_icmp_lt (tgt := 27) hx hb dn_M_extended_13 (by decide) (fun h13 => ?_) (fun h13 => ?_)
  · skip
    refine lv_iconst (v := 0) hx hb dn_M_extended_27 (by decide) ?_
    exact hret 0 (X, Y, Z, st, ef, ec, fu) _ _ _ _ (Or.inr ⟨rfl, fun q => by first | exact absurd q.1.1 (Int32.not_le.mpr h13) | exact absurd q.1.2.1 (Int32.not_le.mpr h18) | exact h24 q.1.2.2⟩) rfl hP hD hS dn_M_extended_28
  · skip
    refine lv_iload_n hx hb dn_M_extended_16 rfl (lv_at hl 2 rfl) ?_
    refine lv_iload_n hx hb dn_M_extended_17 rfl (lv_at hl 3 rfl) ?_
    refine lv_icmp_gt (tgt := 27) hx hb dn_M_extended_18 (by decide) (fun h18 => ?_) (fun h18 => ?_)
    · skip
      refine lv_iconst (v := 0) hx hb dn_M_extended_27 (by decide) ?_
      exact hret 0 (X, Y, Z, st, ef, ec, fu) _ _ _ _ (Or.inr ⟨rfl, fun q => by first | exact absurd q.1.1 (Int32.not_le.mpr h13) | exact absurd q.1.2.1 (Int32.not_le.mpr h18) | exact h24 q.1.2.2⟩) rfl hP hD hS dn_M_extended_28
    · skip
      refine lv_iload_n hx hb dn_M_extended_21 rfl (lv_at hl 3 rfl) ?_
      refine lv_bipush (v := 40) hx hb dn_M_extended_22 (by decide) ?_
      refine lv_icmp_le (tgt := 29) hx hb dn_M_extended_24 (by decide) (fun h24 => ?_) (fun h24 => ?_)
      · skip
        obtain ⟨a_, b_, ha1, hab, hbe, rfl, rfl⟩ := wy_in1 (e := 40) (by decide) (Int32.not_lt.mp h13) (Int32.not_lt.mp h18) h24
        refine lv_aload_n hx hb dn_M_extended_29 rfl (lv_at hl 1 rfl) ?_
        refine lv_iload_n hx hb dn_M_extended_30 rfl (lv_at hl 2 rfl) ?_
        refine lv_iload_n hx hb dn_M_extended_31 rfl (lv_at hl 3 rfl) ?_
        refine gc_vv (pre := []) (wc := [(bd 0, .inr (5, [.ref (bd 1), .int (nI clk), .int pw, .int lf, .ref (bd 2), .int 0, .int (nI sn), .int (nI ob), .ref (bd 3), .ref (bd 4), .ref (bd 5), .int (nI st), .ref (bd 6), .ref (bd 7), .ref (bd 8), .int (nI ef), .int (nI ec), .int (nI fu), .ref (bd 9)])), (bd 1, .inl (cI, 292, .inl f)), (bd 2, .inl (cI, 12, .inl fd)), (bd 3, .inl (cI, 13, .inl S)), (bd 4, .inl (cI, 13, .inl D)), (bd 5, .inl (cI, 13, .inl G)), (bd 6, .inl (cI, 8, .inl Y)), (bd 7, .inl (cI, 8, .inl Z)), (bd 8, .inl (cZ, 8, .inl X)), (bd 9, .inl (cI, 40, .inl g))]) (po := []) (As := [.int (nI a_), .int (nI b_)]) (rest := []) ⟨hx, hb, hml, hown, hw⟩ (c_M_wayToEnd l dC dI cI cZ bd clk pw lf f fd 0 sn ob S D G st Y Z X ef ec fu g a_ b_ (by omega) (by omega) (by omega)) (gw_cV 2 hw mw_643 mw_645 mv_34 mw_6 mw_646 hd_M_wayToEnd ⟨Nat.le_of_ble_eq_true rfl, Nat.le_of_ble_eq_true rfl⟩) (ci := 5) rfl rfl rfl hK hP hD hS hA rfl hl.1 rfl (Nat.le_of_ble_eq_true rfl) dn_M_extended_32 ⟨Nat.zero_le _, Nat.zero_le _⟩ (fun u32 H locs hc32 hP hD hS => ?_)
        have hP : va_P (dC, dI) vwCl [(bd 0, .inr (5, [.ref (bd 1), .int (nI clk), .int pw, .int lf, .ref (bd 2), .int 0, .int (nI sn), .int (nI ob), .ref (bd 3), .ref (bd 4), .ref (bd 5), .int (nI u32.2.2.2), .ref (bd 6), .ref (bd 7), .ref (bd 8), .int (nI ((ds_at (a_ - 1) b_ u32.2.2.2).1)), .int (nI ((ds_at (a_ - 1) b_ u32.2.2.2).2)), .int (nI (ds_b (ds_at (a_ - 1) b_ u32.2.2.2).1)), .ref (bd 9)])), (bd 1, .inl (cI, 292, .inl f)), (bd 2, .inl (cI, 12, .inl fd)), (bd 3, .inl (cI, 13, .inl S)), (bd 4, .inl (cI, 13, .inl D)), (bd 5, .inl (cI, 13, .inl G)), (bd 6, .inl (cI, 8, .inl u32.2.1)), (bd 7, .inl (cI, 8, .inl u32.2.2.1)), (bd 8, .inl (cZ, 8, .inl u32.1)), (bd 9, .inl (cI, 40, .inl g))] H := hP
        have hD : va_D A [(bd 0, .inr (5, [.ref (bd 1), .int (nI clk), .int pw, .int lf, .ref (bd 2), .int 0, .int (nI sn), .int (nI ob), .ref (bd 3), .ref (bd 4), .ref (bd 5), .int (nI u32.2.2.2), .ref (bd 6), .ref (bd 7), .ref (bd 8), .int (nI ((ds_at (a_ - 1) b_ u32.2.2.2).1)), .int (nI ((ds_at (a_ - 1) b_ u32.2.2.2).2)), .int (nI (ds_b (ds_at (a_ - 1) b_ u32.2.2.2).1)), .ref (bd 9)])), (bd 1, .inl (cI, 292, .inl f)), (bd 2, .inl (cI, 12, .inl fd)), (bd 3, .inl (cI, 13, .inl S)), (bd 4, .inl (cI, 13, .inl D)), (bd 5, .inl (cI, 13, .inl G)), (bd 6, .inl (cI, 8, .inl u32.2.1)), (bd 7, .inl (cI, 8, .inl u32.2.2.1)), (bd 8, .inl (cZ, 8, .inl u32.1)), (bd 9, .inl (cI, 40, .inl g))] := hD
        have hst := ds_le6 (show a_ - 1 < b_ by omega) hbe hc32.1.1
        have hex := ex_iff (fd := fd) (fc := fc) (early := early) (late := late) ha1 hab hbe hc32.1
        obtain ⟨b, hb_⟩ : ∃ b, ds_b (ds_at (a_ - 1) b_ u32.2.2.2).1 = b := ⟨_, rfl⟩
        have hb1 : b ≤ 1 := hb_ ▸ ds_b_le _
        rw [hb_] at hP hD hex
        have hP : va_P (dC, dI) vwCl [(bd 0, .inr (5, [.ref (bd 1), .int (nI clk), .int pw, .int lf, .ref (bd 2), .int 0, .int (nI sn), .int (nI ob), .ref (bd 3), .ref (bd 4), .ref (bd 5), .int (nI u32.2.2.2), .ref (bd 6), .ref (bd 7), .ref (bd 8), .int (nI ((ds_at (a_ - 1) b_ u32.2.2.2).1)), .int (nI ((ds_at (a_ - 1) b_ u32.2.2.2).2)), .int (nI b), .ref (bd 9)])), (bd 1, .inl (cI, 292, .inl f)), (bd 2, .inl (cI, 12, .inl fd)), (bd 3, .inl (cI, 13, .inl S)), (bd 4, .inl (cI, 13, .inl D)), (bd 5, .inl (cI, 13, .inl G)), (bd 6, .inl (cI, 8, .inl u32.2.1)), (bd 7, .inl (cI, 8, .inl u32.2.2.1)), (bd 8, .inl (cZ, 8, .inl u32.1)), (bd 9, .inl (cI, 40, .inl g))] H := hP
        have hD : va_D A [(bd 0, .inr (5, [.ref (bd 1), .int (nI clk), .int pw, .int lf, .ref (bd 2), .int 0, .int (nI sn), .int (nI ob), .ref (bd 3), .ref (bd 4), .ref (bd 5), .int (nI u32.2.2.2), .ref (bd 6), .ref (bd 7), .ref (bd 8), .int (nI ((ds_at (a_ - 1) b_ u32.2.2.2).1)), .int (nI ((ds_at (a_ - 1) b_ u32.2.2.2).2)), .int (nI b), .ref (bd 9)])), (bd 1, .inl (cI, 292, .inl f)), (bd 2, .inl (cI, 12, .inl fd)), (bd 3, .inl (cI, 13, .inl S)), (bd 4, .inl (cI, 13, .inl D)), (bd 5, .inl (cI, 13, .inl G)), (bd 6, .inl (cI, 8, .inl u32.2.1)), (bd 7, .inl (cI, 8, .inl u32.2.2.1)), (bd 8, .inl (cZ, 8, .inl u32.1)), (bd 9, .inl (cI, 40, .inl g))] := hD
        refine lv_aload_n hx hb dn_M_extended_35 rfl (lv_at hl 1 rfl) ?_
        refine va_get (D := (dC, dI)) (ci := 5) (v := .int (nI b)) (C := rn_M) (T := tn_M) (N := 19) hx hb hw ml_M hown hK hP 0 rfl rfl 17 (by decide) (hw _ mw_490) (fun _ h9 => h9) rfl dn_M_extended_36 ?_
        refine gr_zeq (tgt := 46) hx hb b rfl (by omega) dn_M_extended_39 (by decide) (fun h39 => ?_) (fun h39 => ?_)
        · skip
          obtain rfl : 0 = b := by omega
          refine lv_iconst (v := 0) hx hb dn_M_extended_46 (by decide) ?_
          refine lv_istore (lv' := [(6, .int 0), (5, .int (nI fc)), (0, .ref (bd 0)), (1, .int (nI a_)), (2, .int (nI b_)), (3, .int early), (4, .int late)]) hx hb dn_M_extended_47 hl (by decide) rfl (fun ls hl => ?_)
          refine lv_iload hx hb dn_M_extended_49 (lv_at hl 1 rfl) ?_
          refine lv_aload_n hx hb dn_M_extended_51 rfl (lv_at hl 2 rfl) ?_
          refine va_get (D := (dC, dI)) (ci := 5) (v := .int (nI u32.2.2.2)) (C := rn_M) (T := tn_M) (N := 19) hx hb hw ml_M hown hK hP 0 rfl rfl 11 (by decide) (hw _ mw_484) (fun _ h9 => h9) rfl dn_M_extended_52 ?_
          refine lv_iload hx hb dn_M_extended_55 (lv_at hl 0 rfl) ?_
          refine gr_addN hx hb u32.2.2.2 0 rfl rfl dn_M_extended_57 ?_
          refine gr_ceq (tgt := 63) hx hb fc (u32.2.2.2 + 0) rfl rfl (by omega) (by omega) dn_M_extended_58 (by decide) (fun h58 => ?_) (fun h58 => ?_)
          · skip
            refine lv_aload_n hx hb dn_M_extended_63 rfl (lv_at hl 2 rfl) ?_
            refine va_get (D := (dC, dI)) (ci := 5) (v := .int 0) (C := rn_M) (T := tn_M) (N := 19) hx hb hw ml_M hown hK hP 0 rfl rfl 17 (by decide) (hw _ mw_490) (fun _ h9 => h9) rfl dn_M_extended_64 ?_
            refine lv_if_eq (tgt := 79) hx hb dn_M_extended_67 (by decide) (fun _ => ?_) (fun h => absurd h (by decide))
            refine lv_iload_n hx hb dn_M_extended_79 rfl (lv_at hl 5 rfl) ?_
            refine lv_istore (lv' := [(7, .int early), (6, .int 0), (5, .int (nI fc)), (0, .ref (bd 0)), (1, .int (nI a_)), (2, .int (nI b_)), (3, .int early), (4, .int late)]) hx hb dn_M_extended_80 hl (by decide) rfl (fun ls hl => ?_)
            refine lv_iload hx hb dn_M_extended_82 (lv_at hl 0 rfl) ?_
            refine lv_istore (lv' := [(8, .int early), (7, .int early), (6, .int 0), (5, .int (nI fc)), (0, .ref (bd 0)), (1, .int (nI a_)), (2, .int (nI b_)), (3, .int early), (4, .int late)]) hx hb dn_M_extended_84 hl (by decide) rfl (fun ls hl => ?_)
            refine lv_aload_n hx hb dn_M_extended_86 rfl (lv_at hl 4 rfl) ?_
            refine va_get (D := (dC, dI)) (ci := 5) (v := .int (nI u32.2.2.2)) (C := rn_M) (T := tn_M) (N := 19) hx hb hw ml_M hown hK hP 0 rfl rfl 11 (by decide) (hw _ mw_484) (fun _ h9 => h9) rfl dn_M_extended_87 ?_
            refine lv_iconst (v := 1) hx hb dn_M_extended_90 (by decide) ?_
            refine lv_isub hx hb dn_M_extended_91 ?_
            refine lv_istore (lv' := [(9, .int ((nI u32.2.2.2) - 1)), (8, .int early), (7, .int early), (6, .int 0), (5, .int (nI fc)), (0, .ref (bd 0)), (1, .int (nI a_)), (2, .int (nI b_)), (3, .int early), (4, .int late)]) hx hb dn_M_extended_92 hl (by decide) rfl (fun ls hl => ?_)
            have lp94 : ∀ (n94_ : Nat) (i : Nat) (r : Nat) (ls : Array Slot) (H : Heap) (locs : List Loc), r = n94_ → lv_has ls 10 [(0, .ref (bd 0)), (1, .int (nI a_)), (2, .int (nI b_)), (3, .int early), (4, .int late), (5, .int (nI fc)), (6, .int (nI (0 + i))), (7, .int (pf_old fd early 0 (a_ - 1) b_ u32.2.2.2 i)), (8, .int (pf_new fd early 0 (a_ - 1) b_ u32.2.2.2 i)), (9, .int ((nI r) - 1))] → va_P (dC, dI) vwCl [(bd 0, .inr (5, [.ref (bd 1), .int (nI clk), .int pw, .int lf, .ref (bd 2), .int 0, .int (nI sn), .int (nI ob), .ref (bd 3), .ref (bd 4), .ref (bd 5), .int (nI u32.2.2.2), .ref (bd 6), .ref (bd 7), .ref (bd 8), .int (nI ((ds_at (a_ - 1) b_ u32.2.2.2).1)), .int (nI ((ds_at (a_ - 1) b_ u32.2.2.2).2)), .int 0, .ref (bd 9)])), (bd 1, .inl (cI, 292, .inl f)), (bd 2, .inl (cI, 12, .inl fd)), (bd 3, .inl (cI, 13, .inl S)), (bd 4, .inl (cI, 13, .inl D)), (bd 5, .inl (cI, 13, .inl G)), (bd 6, .inl (cI, 8, .inl u32.2.1)), (bd 7, .inl (cI, 8, .inl u32.2.2.1)), (bd 8, .inl (cZ, 8, .inl u32.1)), (bd 9, .inl (cI, 40, .inl g))] H → va_D A [(bd 0, .inr (5, [.ref (bd 1), .int (nI clk), .int pw, .int lf, .ref (bd 2), .int 0, .int (nI sn), .int (nI ob), .ref (bd 3), .ref (bd 4), .ref (bd 5), .int (nI u32.2.2.2), .ref (bd 6), .ref (bd 7), .ref (bd 8), .int (nI ((ds_at (a_ - 1) b_ u32.2.2.2).1)), .int (nI ((ds_at (a_ - 1) b_ u32.2.2.2).2)), .int 0, .ref (bd 9)])), (bd 1, .inl (cI, 292, .inl f)), (bd 2, .inl (cI, 12, .inl fd)), (bd 3, .inl (cI, 13, .inl S)), (bd 4, .inl (cI, 13, .inl D)), (bd 5, .inl (cI, 13, .inl G)), (bd 6, .inl (cI, 8, .inl u32.2.1)), (bd 7, .inl (cI, 8, .inl u32.2.2.1)), (bd 8, .inl (cZ, 8, .inl u32.1)), (bd 9, .inl (cI, 40, .inl g))] → va_S A H0 H locs → (r + i = u32.2.2.2) → W pp l ee (headSpec (gw yn_M_extended cn_M_extended 10 (some .boolean)) (rm_ 2 48)).room ss mm ar be me cd H locs 0 0 Q (F0 mm 94 ls []) := by
              intro n94_
              induction n94_ using Nat.strongRecOn with
              | ind n94_ ih94 =>
                intro i r ls H locs hn94_ hl hP hD hS hir
                rcases r with _ | r
                · skip
                  obtain rfl : u32.2.2.2 = i := by omega
                  refine lv_iload hx hb dn_M_extended_94 (lv_at hl 9 rfl) ?_
                  refine lv_if_lt (tgt := 179) hx hb dn_M_extended_96 (by decide) (fun h96 => ?_) (fun h96 => absurd (by decide) h96)
                  refine lv_iload hx hb dn_M_extended_179 (lv_at hl 7 rfl) ?_
                  refine lv_iload_n hx hb dn_M_extended_181 rfl (lv_at hl 3 rfl) ?_
                  refine lv_icmp_ne (tgt := 196) hx hb dn_M_extended_182 (by decide) (fun h182 => ?_) (fun h182 => ?_)
                  · skip
                    refine lv_iconst (v := 0) hx hb dn_M_extended_196 (by decide) ?_
                    exact hret 0 (u32.1, u32.2.1, u32.2.2.1, u32.2.2.2, ((ds_at (a_ - 1) b_ u32.2.2.2).1), ((ds_at (a_ - 1) b_ u32.2.2.2).2), 0) _ _ _ _ (Or.inr ⟨rfl, fun q => by first | exact h189 (hex.1 q).2.2 | exact h182 (hex.1 q).2.1⟩) rfl hP hD hS dn_M_extended_197
                  · skip
                    refine lv_iload hx hb dn_M_extended_185 (lv_at hl 8 rfl) ?_
                    refine lv_iload hx hb dn_M_extended_187 (lv_at hl 4 rfl) ?_
                    refine lv_icmp_ne (tgt := 196) hx hb dn_M_extended_189 (by decide) (fun h189 => ?_) (fun h189 => ?_)
                    · skip
                      refine lv_iconst (v := 0) hx hb dn_M_extended_196 (by decide) ?_
                      exact hret 0 (u32.1, u32.2.1, u32.2.2.1, u32.2.2.2, ((ds_at (a_ - 1) b_ u32.2.2.2).1), ((ds_at (a_ - 1) b_ u32.2.2.2).2), 0) _ _ _ _ (Or.inr ⟨rfl, fun q => by first | exact h189 (hex.1 q).2.2 | exact h182 (hex.1 q).2.1⟩) rfl hP hD hS dn_M_extended_197
                    · skip
                      refine lv_iconst (v := 1) hx hb dn_M_extended_192 (by decide) ?_
                      refine lv_goto (tgt := 197) hx hb dn_M_extended_193 (by decide) ?_
                      exact hret 1 (u32.1, u32.2.1, u32.2.2.1, u32.2.2.2, ((ds_at (a_ - 1) b_ u32.2.2.2).1), ((ds_at (a_ - 1) b_ u32.2.2.2).2), 0) _ _ _ _ (Or.inl ⟨rfl, hex.2 ⟨h58, h182, h189⟩⟩) rfl hP hD hS dn_M_extended_197
                · skip
                  rw [nI_pred] at hl
                  have hX1 : ¬ u32.1 r = 0 → u32.1 r = 1 := fun z => by rw [hc32.2.1 r (by omega)] at z ⊢; exact (ds_rt01 _ _ _).resolve_left z
                  refine lv_iload hx hb dn_M_extended_94 (lv_at hl 9 rfl) ?_
                  refine gr_zlt (tgt := 179) hx hb r rfl (by omega) dn_M_extended_96 (by decide) ?_
                  refine lv_aload_n hx hb dn_M_extended_99 rfl (lv_at hl 0 rfl) ?_
                  refine va_get (D := (dC, dI)) (ci := 5) (v := .ref (bd 8)) (C := rn_M) (T := tn_M) (N := 19) hx hb hw ml_M hown hK hP 0 rfl rfl 14 (by decide) (hw _ mw_487) (fun _ h9 => h9) rfl dn_M_extended_100 ?_
                  refine lv_iload hx hb dn_M_extended_103 (lv_at hl 9 rfl) ?_
                  refine gr_zald hx hb hK hP 8 1 rfl rfl r rfl (by omega) (by decide) dn_M_extended_105 ?_
                  refine lv_if_eq (tgt := 124) hx hb dn_M_extended_106 (by decide) (fun h106 => ?_) (fun h106 => ?_)
                  · skip
                    refine lv_iload hx hb dn_M_extended_124 (lv_at hl 7 rfl) ?_
                    refine gr_top (y := pf_old fd early 0 (a_ - 1) b_ u32.2.2.2 (i + 1)) (by rw [pf_old, show u32.2.2.2 - 1 - i = r by omega, ← hc32.2.1 r (by omega)]; first | rw [if_pos (hX1 h106)] | rw [if_neg (by rw [h106]; decide)]) ?_
                    refine lv_istore (lv' := [(7, .int (pf_old fd early 0 (a_ - 1) b_ u32.2.2.2 (i + 1))), (0, .ref (bd 0)), (1, .int (nI a_)), (2, .int (nI b_)), (3, .int early), (4, .int late), (5, .int (nI fc)), (6, .int (nI (0 + i))), (8, .int (pf_new fd early 0 (a_ - 1) b_ u32.2.2.2 i)), (9, .int (nI r))]) hx hb dn_M_extended_126 hl (by decide) rfl (fun ls hl => ?_)
                    refine lv_aload_n hx hb dn_M_extended_128 rfl (lv_at hl 1 rfl) ?_
                    refine va_get (D := (dC, dI)) (ci := 5) (v := .ref (bd 8)) (C := rn_M) (T := tn_M) (N := 19) hx hb hw ml_M hown hK hP 0 rfl rfl 14 (by decide) (hw _ mw_487) (fun _ h9 => h9) rfl dn_M_extended_129 ?_
                    refine lv_iload hx hb dn_M_extended_132 (lv_at hl 9 rfl) ?_
                    refine gr_zald hx hb hK hP 8 1 rfl rfl r rfl (by omega) (by decide) dn_M_extended_134 ?_
                    refine lv_if_eq (tgt := 153) hx hb dn_M_extended_135 (by decide) (fun h135 => ?_) (fun h135 => absurd h106 h135)
                    refine lv_iload hx hb dn_M_extended_153 (lv_at hl 8 rfl) ?_
                    refine lv_aload_n hx hb dn_M_extended_155 rfl (lv_at hl 1 rfl) ?_
                    refine va_get (D := (dC, dI)) (ci := 5) (v := .ref (bd 2)) (C := rn_M) (T := tn_M) (N := 19) hx hb hw ml_M hown hK hP 0 rfl rfl 4 (by decide) (hw _ mw_477) (fun _ h9 => h9) rfl dn_M_extended_156 ?_
                    refine lv_iload hx hb dn_M_extended_159 (lv_at hl 7 rfl) ?_
                    refine gr_iald hx hb hK hP 2 0 rfl rfl (0 + i) rfl (by omega) (by decide) dn_M_extended_161 ?_
                    refine gc_s0 (v := (hf_node (pf_new fd early 0 (a_ - 1) b_ u32.2.2.2 i) (fd (0 + i)))) (As := [.int (pf_new fd early 0 (a_ - 1) b_ u32.2.2.2 i), .int (fd (0 + i))]) (rest := []) ⟨hx, hb, hml, hown, hw⟩ (c_M_node l dC dI cI cZ (pf_new fd early 0 (a_ - 1) b_ u32.2.2.2 i) (fd (0 + i))) (gw_cS 2 hw mw_617 mw_618 mw_6 mw_619 hd_M_node ⟨Nat.le_of_ble_eq_true rfl, Nat.le_of_ble_eq_true rfl⟩) hK hP hD hS hA rfl hl.1 rfl (Nat.le_of_ble_eq_true rfl) dn_M_extended_162 ⟨Nat.zero_le _, Nat.zero_le _⟩ (fun H locs hP hD hS => ?_)
                    refine gr_top (y := pf_new fd early 0 (a_ - 1) b_ u32.2.2.2 (i + 1)) (by rw [pf_new, show u32.2.2.2 - 1 - i = r by omega, ← hc32.2.1 r (by omega)]; first | rw [if_pos (hX1 h106)] | rw [if_neg (by rw [h106]; decide)]) ?_
                    refine lv_istore (lv' := [(8, .int (pf_new fd early 0 (a_ - 1) b_ u32.2.2.2 (i + 1))), (7, .int (pf_old fd early 0 (a_ - 1) b_ u32.2.2.2 (i + 1))), (0, .ref (bd 0)), (1, .int (nI a_)), (2, .int (nI b_)), (3, .int early), (4, .int late), (5, .int (nI fc)), (6, .int (nI (0 + i))), (9, .int (nI r))]) hx hb dn_M_extended_165 hl (by decide) rfl (fun ls hl => ?_)
                    refine lv_iload hx hb dn_M_extended_167 (lv_at hl 8 rfl) ?_
                    refine lv_iconst (v := 1) hx hb dn_M_extended_169 (by decide) ?_
                    refine gr_addN hx hb (0 + i) 1 rfl rfl dn_M_extended_170 ?_
                    refine lv_istore (lv' := [(6, .int (nI ((0 + i) + 1))), (8, .int (pf_new fd early 0 (a_ - 1) b_ u32.2.2.2 (i + 1))), (7, .int (pf_old fd early 0 (a_ - 1) b_ u32.2.2.2 (i + 1))), (0, .ref (bd 0)), (1, .int (nI a_)), (2, .int (nI b_)), (3, .int early), (4, .int late), (5, .int (nI fc)), (9, .int (nI r))]) hx hb dn_M_extended_171 hl (by decide) rfl (fun ls hl => ?_)
                    refine lv_iinc (lv' := [(9, .int ((nI r) - 1)), (6, .int (nI ((0 + i) + 1))), (8, .int (pf_new fd early 0 (a_ - 1) b_ u32.2.2.2 (i + 1))), (7, .int (pf_old fd early 0 (a_ - 1) b_ u32.2.2.2 (i + 1))), (0, .ref (bd 0)), (1, .int (nI a_)), (2, .int (nI b_)), (3, .int early), (4, .int late), (5, .int (nI fc))]) (v := ((nI r) - 1)) (k := 9) hx hb dn_M_extended_173 hl rfl (gs_m1 r) (by decide) rfl (fun ls hl => ?_)
                    refine lv_goto (tgt := 94) hx hb dn_M_extended_176 (by decide) ?_
                    exact ih94 r (by omega) (i + 1) r ls H locs rfl (lv_sub hl [4, 5, 6, 7, 8, 9, 1, 3, 2, 0] rfl) hP hD hS (by omega)
                  · skip
                    refine lv_aload_n hx hb dn_M_extended_109 rfl (lv_at hl 0 rfl) ?_
                    refine va_get (D := (dC, dI)) (ci := 5) (v := .ref (bd 2)) (C := rn_M) (T := tn_M) (N := 19) hx hb hw ml_M hown hK hP 0 rfl rfl 4 (by decide) (hw _ mw_477) (fun _ h9 => h9) rfl dn_M_extended_110 ?_
                    refine lv_iload hx hb dn_M_extended_113 (lv_at hl 6 rfl) ?_
                    refine gr_iald hx hb hK hP 2 0 rfl rfl (0 + i) rfl (by omega) (by decide) dn_M_extended_115 ?_
                    refine lv_iload hx hb dn_M_extended_116 (lv_at hl 7 rfl) ?_
                    refine gc_s0 (v := (hf_node (fd (0 + i)) (pf_old fd early 0 (a_ - 1) b_ u32.2.2.2 i))) (As := [.int (fd (0 + i)), .int (pf_old fd early 0 (a_ - 1) b_ u32.2.2.2 i)]) (rest := []) ⟨hx, hb, hml, hown, hw⟩ (c_M_node l dC dI cI cZ (fd (0 + i)) (pf_old fd early 0 (a_ - 1) b_ u32.2.2.2 i)) (gw_cS 2 hw mw_617 mw_618 mw_6 mw_619 hd_M_node ⟨Nat.le_of_ble_eq_true rfl, Nat.le_of_ble_eq_true rfl⟩) hK hP hD hS hA rfl hl.1 rfl (Nat.le_of_ble_eq_true rfl) dn_M_extended_118 ⟨Nat.zero_le _, Nat.zero_le _⟩ (fun H locs hP hD hS => ?_)
                    refine lv_goto (tgt := 126) hx hb dn_M_extended_121 (by decide) ?_
                    refine gr_top (y := pf_old fd early 0 (a_ - 1) b_ u32.2.2.2 (i + 1)) (by rw [pf_old, show u32.2.2.2 - 1 - i = r by omega, ← hc32.2.1 r (by omega)]; first | rw [if_pos (hX1 h106)] | rw [if_neg (by rw [h106]; decide)]) ?_
                    refine lv_istore (lv' := [(7, .int (pf_old fd early 0 (a_ - 1) b_ u32.2.2.2 (i + 1))), (0, .ref (bd 0)), (1, .int (nI a_)), (2, .int (nI b_)), (3, .int early), (4, .int late), (5, .int (nI fc)), (6, .int (nI (0 + i))), (8, .int (pf_new fd early 0 (a_ - 1) b_ u32.2.2.2 i)), (9, .int (nI r))]) hx hb dn_M_extended_126 hl (by decide) rfl (fun ls hl => ?_)
                    refine lv_aload_n hx hb dn_M_extended_128 rfl (lv_at hl 1 rfl) ?_
                    refine va_get (D := (dC, dI)) (ci := 5) (v := .ref (bd 8)) (C := rn_M) (T := tn_M) (N := 19) hx hb hw ml_M hown hK hP 0 rfl rfl 14 (by decide) (hw _ mw_487) (fun _ h9 => h9) rfl dn_M_extended_129 ?_
                    refine lv_iload hx hb dn_M_extended_132 (lv_at hl 9 rfl) ?_
                    refine gr_zald hx hb hK hP 8 1 rfl rfl r rfl (by omega) (by decide) dn_M_extended_134 ?_
                    refine lv_if_eq (tgt := 153) hx hb dn_M_extended_135 (by decide) (fun h135 => absurd h135 h106) (fun h135 => ?_)
                    refine lv_aload_n hx hb dn_M_extended_138 rfl (lv_at hl 1 rfl) ?_
                    refine va_get (D := (dC, dI)) (ci := 5) (v := .ref (bd 2)) (C := rn_M) (T := tn_M) (N := 19) hx hb hw ml_M hown hK hP 0 rfl rfl 4 (by decide) (hw _ mw_477) (fun _ h9 => h9) rfl dn_M_extended_139 ?_
                    refine lv_iload hx hb dn_M_extended_142 (lv_at hl 7 rfl) ?_
                    refine gr_iald hx hb hK hP 2 0 rfl rfl (0 + i) rfl (by omega) (by decide) dn_M_extended_144 ?_
                    refine lv_iload hx hb dn_M_extended_145 (lv_at hl 8 rfl) ?_
                    refine gc_s0 (v := (hf_node (fd (0 + i)) (pf_new fd early 0 (a_ - 1) b_ u32.2.2.2 i))) (As := [.int (fd (0 + i)), .int (pf_new fd early 0 (a_ - 1) b_ u32.2.2.2 i)]) (rest := []) ⟨hx, hb, hml, hown, hw⟩ (c_M_node l dC dI cI cZ (fd (0 + i)) (pf_new fd early 0 (a_ - 1) b_ u32.2.2.2 i)) (gw_cS 2 hw mw_617 mw_618 mw_6 mw_619 hd_M_node ⟨Nat.le_of_ble_eq_true rfl, Nat.le_of_ble_eq_true rfl⟩) hK hP hD hS hA rfl hl.1 rfl (Nat.le_of_ble_eq_true rfl) dn_M_extended_147 ⟨Nat.zero_le _, Nat.zero_le _⟩ (fun H locs hP hD hS => ?_)
                    refine lv_goto (tgt := 165) hx hb dn_M_extended_150 (by decide) ?_
                    refine gr_top (y := pf_new fd early 0 (a_ - 1) b_ u32.2.2.2 (i + 1)) (by rw [pf_new, show u32.2.2.2 - 1 - i = r by omega, ← hc32.2.1 r (by omega)]; first | rw [if_pos (hX1 h106)] | rw [if_neg (by rw [h106]; decide)]) ?_
                    refine lv_istore (lv' := [(8, .int (pf_new fd early 0 (a_ - 1) b_ u32.2.2.2 (i + 1))), (7, .int (pf_old fd early 0 (a_ - 1) b_ u32.2.2.2 (i + 1))), (0, .ref (bd 0)), (1, .int (nI a_)), (2, .int (nI b_)), (3, .int early), (4, .int late), (5, .int (nI fc)), (6, .int (nI (0 + i))), (9, .int (nI r))]) hx hb dn_M_extended_165 hl (by decide) rfl (fun ls hl => ?_)
                    refine lv_iload hx hb dn_M_extended_167 (lv_at hl 8 rfl) ?_
                    refine lv_iconst (v := 1) hx hb dn_M_extended_169 (by decide) ?_
                    refine gr_addN hx hb (0 + i) 1 rfl rfl dn_M_extended_170 ?_
                    refine lv_istore (lv' := [(6, .int (nI ((0 + i) + 1))), (8, .int (pf_new fd early 0 (a_ - 1) b_ u32.2.2.2 (i + 1))), (7, .int (pf_old fd early 0 (a_ - 1) b_ u32.2.2.2 (i + 1))), (0, .ref (bd 0)), (1, .int (nI a_)), (2, .int (nI b_)), (3, .int early), (4, .int late), (5, .int (nI fc)), (9, .int (nI r))]) hx hb dn_M_extended_171 hl (by decide) rfl (fun ls hl => ?_)
                    refine lv_iinc (lv' := [(9, .int ((nI r) - 1)), (6, .int (nI ((0 + i) + 1))), (8, .int (pf_new fd early 0 (a_ - 1) b_ u32.2.2.2 (i + 1))), (7, .int (pf_old fd early 0 (a_ - 1) b_ u32.2.2.2 (i + 1))), (0, .ref (bd 0)), (1, .int (nI a_)), (2, .int (nI b_)), (3, .int early), (4, .int late), (5, .int (nI fc))]) (v := ((nI r) - 1)) (k := 9) hx hb dn_M_extended_173 hl rfl (gs_m1 r) (by decide) rfl (fun ls hl => ?_)
                    refine lv_goto (tgt := 94) hx hb dn_M_extended_176 (by decide) ?_
                    exact ih94 r (by omega) (i + 1) r ls H locs rfl (lv_sub hl [4, 5, 6, 7, 8, 9, 1, 3, 2, 0] rfl) hP hD hS (by omega)
            exact lp94 _ 0 u32.2.2.2 ls H locs rfl (lv_sub hl [5, 6, 7, 8, 9, 4, 3, 2, 1, 0] rfl) hP hD hS (by omega)
          · skip
            refine lv_iconst (v := 0) hx hb dn_M_extended_61 (by decide) ?_
            exact hret 0 (u32.1, u32.2.1, u32.2.2.1, u32.2.2.2, ((ds_at (a_ - 1) b_ u32.2.2.2).1), ((ds_at (a_ - 1) b_ u32.2.2.2).2), 0) _ _ _ _ (Or.inr ⟨rfl, fun q => h58 (hex.1 q).1⟩) rfl hP hD hS dn_M_extended_62
        · skip
          obtain rfl : 1 = b := by omega
          refine lv_iconst (v := 1) hx hb dn_M_extended_42 (by decide) ?_
          refine lv_goto (tgt := 47) hx hb dn_M_extended_43 (by decide) ?_
          refine lv_istore (lv' := [(6, .int 1), (5, .int (nI fc)), (0, .ref (bd 0)), (1, .int (nI a_)), (2, .int (nI b_)), (3, .int early), (4, .int late)]) hx hb dn_M_extended_47 hl (by decide) rfl (fun ls hl => ?_)
          refine lv_iload hx hb dn_M_extended_49 (lv_at hl 1 rfl) ?_
          refine lv_aload_n hx hb dn_M_extended_51 rfl (lv_at hl 2 rfl) ?_
          refine va_get (D := (dC, dI)) (ci := 5) (v := .int (nI u32.2.2.2)) (C := rn_M) (T := tn_M) (N := 19) hx hb hw ml_M hown hK hP 0 rfl rfl 11 (by decide) (hw _ mw_484) (fun _ h9 => h9) rfl dn_M_extended_52 ?_
          refine lv_iload hx hb dn_M_extended_55 (lv_at hl 0 rfl) ?_
          refine gr_addN hx hb u32.2.2.2 1 rfl rfl dn_M_extended_57 ?_
          refine gr_ceq (tgt := 63) hx hb fc (u32.2.2.2 + 1) rfl rfl (by omega) (by omega) dn_M_extended_58 (by decide) (fun h58 => ?_) (fun h58 => ?_)
          · skip
            refine lv_aload_n hx hb dn_M_extended_63 rfl (lv_at hl 2 rfl) ?_
            refine va_get (D := (dC, dI)) (ci := 5) (v := .int 1) (C := rn_M) (T := tn_M) (N := 19) hx hb hw ml_M hown hK hP 0 rfl rfl 17 (by decide) (hw _ mw_490) (fun _ h9 => h9) rfl dn_M_extended_64 ?_
            refine lv_if_eq (tgt := 79) hx hb dn_M_extended_67 (by decide) (fun h => absurd h (by decide)) (fun _ => ?_)
            refine lv_aload_n hx hb dn_M_extended_70 rfl (lv_at hl 2 rfl) ?_
            refine va_get (D := (dC, dI)) (ci := 5) (v := .ref (bd 2)) (C := rn_M) (T := tn_M) (N := 19) hx hb hw ml_M hown hK hP 0 rfl rfl 4 (by decide) (hw _ mw_477) (fun _ h9 => h9) rfl dn_M_extended_71 ?_
            refine lv_iconst (v := 0) hx hb dn_M_extended_74 (by decide) ?_
            refine gr_iald hx hb hK hP 2 0 rfl rfl 0 rfl (by omega) (by decide) dn_M_extended_75 ?_
            refine lv_goto (tgt := 80) hx hb dn_M_extended_76 (by decide) ?_
            refine lv_istore (lv' := [(7, .int (fd 0)), (6, .int 1), (5, .int (nI fc)), (0, .ref (bd 0)), (1, .int (nI a_)), (2, .int (nI b_)), (3, .int early), (4, .int late)]) hx hb dn_M_extended_80 hl (by decide) rfl (fun ls hl => ?_)
            refine lv_iload hx hb dn_M_extended_82 (lv_at hl 0 rfl) ?_
            refine lv_istore (lv' := [(8, .int (fd 0)), (7, .int (fd 0)), (6, .int 1), (5, .int (nI fc)), (0, .ref (bd 0)), (1, .int (nI a_)), (2, .int (nI b_)), (3, .int early), (4, .int late)]) hx hb dn_M_extended_84 hl (by decide) rfl (fun ls hl => ?_)
            refine lv_aload_n hx hb dn_M_extended_86 rfl (lv_at hl 4 rfl) ?_
            refine va_get (D := (dC, dI)) (ci := 5) (v := .int (nI u32.2.2.2)) (C := rn_M) (T := tn_M) (N := 19) hx hb hw ml_M hown hK hP 0 rfl rfl 11 (by decide) (hw _ mw_484) (fun _ h9 => h9) rfl dn_M_extended_87 ?_
            refine lv_iconst (v := 1) hx hb dn_M_extended_90 (by decide) ?_
            refine lv_isub hx hb dn_M_extended_91 ?_
            refine lv_istore (lv' := [(9, .int ((nI u32.2.2.2) - 1)), (8, .int (fd 0)), (7, .int (fd 0)), (6, .int 1), (5, .int (nI fc)), (0, .ref (bd 0)), (1, .int (nI a_)), (2, .int (nI b_)), (3, .int early), (4, .int late)]) hx hb dn_M_extended_92 hl (by decide) rfl (fun ls hl => ?_)
            have lp94 : ∀ (n94_ : Nat) (i : Nat) (r : Nat) (ls : Array Slot) (H : Heap) (locs : List Loc), r = n94_ → lv_has ls 10 [(0, .ref (bd 0)), (1, .int (nI a_)), (2, .int (nI b_)), (3, .int early), (4, .int late), (5, .int (nI fc)), (6, .int (nI (1 + i))), (7, .int (pf_old fd (fd 0) 1 (a_ - 1) b_ u32.2.2.2 i)), (8, .int (pf_new fd (fd 0) 1 (a_ - 1) b_ u32.2.2.2 i)), (9, .int ((nI r) - 1))] → va_P (dC, dI) vwCl [(bd 0, .inr (5, [.ref (bd 1), .int (nI clk), .int pw, .int lf, .ref (bd 2), .int 0, .int (nI sn), .int (nI ob), .ref (bd 3), .ref (bd 4), .ref (bd 5), .int (nI u32.2.2.2), .ref (bd 6), .ref (bd 7), .ref (bd 8), .int (nI ((ds_at (a_ - 1) b_ u32.2.2.2).1)), .int (nI ((ds_at (a_ - 1) b_ u32.2.2.2).2)), .int 1, .ref (bd 9)])), (bd 1, .inl (cI, 292, .inl f)), (bd 2, .inl (cI, 12, .inl fd)), (bd 3, .inl (cI, 13, .inl S)), (bd 4, .inl (cI, 13, .inl D)), (bd 5, .inl (cI, 13, .inl G)), (bd 6, .inl (cI, 8, .inl u32.2.1)), (bd 7, .inl (cI, 8, .inl u32.2.2.1)), (bd 8, .inl (cZ, 8, .inl u32.1)), (bd 9, .inl (cI, 40, .inl g))] H → va_D A [(bd 0, .inr (5, [.ref (bd 1), .int (nI clk), .int pw, .int lf, .ref (bd 2), .int 0, .int (nI sn), .int (nI ob), .ref (bd 3), .ref (bd 4), .ref (bd 5), .int (nI u32.2.2.2), .ref (bd 6), .ref (bd 7), .ref (bd 8), .int (nI ((ds_at (a_ - 1) b_ u32.2.2.2).1)), .int (nI ((ds_at (a_ - 1) b_ u32.2.2.2).2)), .int 1, .ref (bd 9)])), (bd 1, .inl (cI, 292, .inl f)), (bd 2, .inl (cI, 12, .inl fd)), (bd 3, .inl (cI, 13, .inl S)), (bd 4, .inl (cI, 13, .inl D)), (bd 5, .inl (cI, 13, .inl G)), (bd 6, .inl (cI, 8, .inl u32.2.1)), (bd 7, .inl (cI, 8, .inl u32.2.2.1)), (bd 8, .inl (cZ, 8, .inl u32.1)), (bd 9, .inl (cI, 40, .inl g))] → va_S A H0 H locs → (r + i = u32.2.2.2) → W pp l ee (headSpec (gw yn_M_extended cn_M_extended 10 (some .boolean)) (rm_ 2 48)).room ss mm ar be me cd H locs 0 0 Q (F0 mm 94 ls []) := by
              intro n94_
              induction n94_ using Nat.strongRecOn with
              | ind n94_ ih94 =>
                intro i r ls H locs hn94_ hl hP hD hS hir
                rcases r with _ | r
                · skip
                  obtain rfl : u32.2.2.2 = i := by omega
                  refine lv_iload hx hb dn_M_extended_94 (lv_at hl 9 rfl) ?_
                  refine lv_if_lt (tgt := 179) hx hb dn_M_extended_96 (by decide) (fun h96 => ?_) (fun h96 => absurd (by decide) h96)
                  refine lv_iload hx hb dn_M_extended_179 (lv_at hl 7 rfl) ?_
                  refine lv_iload_n hx hb dn_M_extended_181 rfl (lv_at hl 3 rfl) ?_
                  refine lv_icmp_ne (tgt := 196) hx hb dn_M_extended_182 (by decide) (fun h182 => ?_) (fun h182 => ?_)
                  · skip
                    refine lv_iconst (v := 0) hx hb dn_M_extended_196 (by decide) ?_
                    exact hret 0 (u32.1, u32.2.1, u32.2.2.1, u32.2.2.2, ((ds_at (a_ - 1) b_ u32.2.2.2).1), ((ds_at (a_ - 1) b_ u32.2.2.2).2), 1) _ _ _ _ (Or.inr ⟨rfl, fun q => by first | exact h189 (hex.1 q).2.2 | exact h182 (hex.1 q).2.1⟩) rfl hP hD hS dn_M_extended_197
                  · skip
                    refine lv_iload hx hb dn_M_extended_185 (lv_at hl 8 rfl) ?_
                    refine lv_iload hx hb dn_M_extended_187 (lv_at hl 4 rfl) ?_
                    refine lv_icmp_ne (tgt := 196) hx hb dn_M_extended_189 (by decide) (fun h189 => ?_) (fun h189 => ?_)
                    · skip
                      refine lv_iconst (v := 0) hx hb dn_M_extended_196 (by decide) ?_
                      exact hret 0 (u32.1, u32.2.1, u32.2.2.1, u32.2.2.2, ((ds_at (a_ - 1) b_ u32.2.2.2).1), ((ds_at (a_ - 1) b_ u32.2.2.2).2), 1) _ _ _ _ (Or.inr ⟨rfl, fun q => by first | exact h189 (hex.1 q).2.2 | exact h182 (hex.1 q).2.1⟩) rfl hP hD hS dn_M_extended_197
                    · skip
                      refine lv_iconst (v := 1) hx hb dn_M_extended_192 (by decide) ?_
                      refine lv_goto (tgt := 197) hx hb dn_M_extended_193 (by decide) ?_
                      exact hret 1 (u32.1, u32.2.1, u32.2.2.1, u32.2.2.2, ((ds_at (a_ - 1) b_ u32.2.2.2).1), ((ds_at (a_ - 1) b_ u32.2.2.2).2), 1) _ _ _ _ (Or.inl ⟨rfl, hex.2 ⟨h58, h182, h189⟩⟩) rfl hP hD hS dn_M_extended_197
                · skip
                  rw [nI_pred] at hl
                  have hX1 : ¬ u32.1 r = 0 → u32.1 r = 1 := fun z => by rw [hc32.2.1 r (by omega)] at z ⊢; exact (ds_rt01 _ _ _).resolve_left z
                  refine lv_iload hx hb dn_M_extended_94 (lv_at hl 9 rfl) ?_
                  refine gr_zlt (tgt := 179) hx hb r rfl (by omega) dn_M_extended_96 (by decide) ?_
                  refine lv_aload_n hx hb dn_M_extended_99 rfl (lv_at hl 0 rfl) ?_
                  refine va_get (D := (dC, dI)) (ci := 5) (v := .ref (bd 8)) (C := rn_M) (T := tn_M) (N := 19) hx hb hw ml_M hown hK hP 0 rfl rfl 14 (by decide) (hw _ mw_487) (fun _ h9 => h9) rfl dn_M_extended_100 ?_
                  refine lv_iload hx hb dn_M_extended_103 (lv_at hl 9 rfl) ?_
                  refine gr_zald hx hb hK hP 8 1 rfl rfl r rfl (by omega) (by decide) dn_M_extended_105 ?_
                  refine lv_if_eq (tgt := 124) hx hb dn_M_extended_106 (by decide) (fun h106 => ?_) (fun h106 => ?_)
                  · skip
                    refine lv_iload hx hb dn_M_extended_124 (lv_at hl 7 rfl) ?_
                    refine gr_top (y := pf_old fd (fd 0) 1 (a_ - 1) b_ u32.2.2.2 (i + 1)) (by rw [pf_old, show u32.2.2.2 - 1 - i = r by omega, ← hc32.2.1 r (by omega)]; first | rw [if_pos (hX1 h106)] | rw [if_neg (by rw [h106]; decide)]) ?_
                    refine lv_istore (lv' := [(7, .int (pf_old fd (fd 0) 1 (a_ - 1) b_ u32.2.2.2 (i + 1))), (0, .ref (bd 0)), (1, .int (nI a_)), (2, .int (nI b_)), (3, .int early), (4, .int late), (5, .int (nI fc)), (6, .int (nI (1 + i))), (8, .int (pf_new fd (fd 0) 1 (a_ - 1) b_ u32.2.2.2 i)), (9, .int (nI r))]) hx hb dn_M_extended_126 hl (by decide) rfl (fun ls hl => ?_)
                    refine lv_aload_n hx hb dn_M_extended_128 rfl (lv_at hl 1 rfl) ?_
                    refine va_get (D := (dC, dI)) (ci := 5) (v := .ref (bd 8)) (C := rn_M) (T := tn_M) (N := 19) hx hb hw ml_M hown hK hP 0 rfl rfl 14 (by decide) (hw _ mw_487) (fun _ h9 => h9) rfl dn_M_extended_129 ?_
                    refine lv_iload hx hb dn_M_extended_132 (lv_at hl 9 rfl) ?_
                    refine gr_zald hx hb hK hP 8 1 rfl rfl r rfl (by omega) (by decide) dn_M_extended_134 ?_
                    refine lv_if_eq (tgt := 153) hx hb dn_M_extended_135 (by decide) (fun h135 => ?_) (fun h135 => absurd h106 h135)
                    refine lv_iload hx hb dn_M_extended_153 (lv_at hl 8 rfl) ?_
                    refine lv_aload_n hx hb dn_M_extended_155 rfl (lv_at hl 1 rfl) ?_
                    refine va_get (D := (dC, dI)) (ci := 5) (v := .ref (bd 2)) (C := rn_M) (T := tn_M) (N := 19) hx hb hw ml_M hown hK hP 0 rfl rfl 4 (by decide) (hw _ mw_477) (fun _ h9 => h9) rfl dn_M_extended_156 ?_
                    refine lv_iload hx hb dn_M_extended_159 (lv_at hl 7 rfl) ?_
                    refine gr_iald hx hb hK hP 2 0 rfl rfl (1 + i) rfl (by omega) (by decide) dn_M_extended_161 ?_
                    refine gc_s0 (v := (hf_node (pf_new fd (fd 0) 1 (a_ - 1) b_ u32.2.2.2 i) (fd (1 + i)))) (As := [.int (pf_new fd (fd 0) 1 (a_ - 1) b_ u32.2.2.2 i), .int (fd (1 + i))]) (rest := []) ⟨hx, hb, hml, hown, hw⟩ (c_M_node l dC dI cI cZ (pf_new fd (fd 0) 1 (a_ - 1) b_ u32.2.2.2 i) (fd (1 + i))) (gw_cS 2 hw mw_617 mw_618 mw_6 mw_619 hd_M_node ⟨Nat.le_of_ble_eq_true rfl, Nat.le_of_ble_eq_true rfl⟩) hK hP hD hS hA rfl hl.1 rfl (Nat.le_of_ble_eq_true rfl) dn_M_extended_162 ⟨Nat.zero_le _, Nat.zero_le _⟩ (fun H locs hP hD hS => ?_)
                    refine gr_top (y := pf_new fd (fd 0) 1 (a_ - 1) b_ u32.2.2.2 (i + 1)) (by rw [pf_new, show u32.2.2.2 - 1 - i = r by omega, ← hc32.2.1 r (by omega)]; first | rw [if_pos (hX1 h106)] | rw [if_neg (by rw [h106]; decide)]) ?_
                    refine lv_istore (lv' := [(8, .int (pf_new fd (fd 0) 1 (a_ - 1) b_ u32.2.2.2 (i + 1))), (7, .int (pf_old fd (fd 0) 1 (a_ - 1) b_ u32.2.2.2 (i + 1))), (0, .ref (bd 0)), (1, .int (nI a_)), (2, .int (nI b_)), (3, .int early), (4, .int late), (5, .int (nI fc)), (6, .int (nI (1 + i))), (9, .int (nI r))]) hx hb dn_M_extended_165 hl (by decide) rfl (fun ls hl => ?_)
                    refine lv_iload hx hb dn_M_extended_167 (lv_at hl 8 rfl) ?_
                    refine lv_iconst (v := 1) hx hb dn_M_extended_169 (by decide) ?_
                    refine gr_addN hx hb (1 + i) 1 rfl rfl dn_M_extended_170 ?_
                    refine lv_istore (lv' := [(6, .int (nI ((1 + i) + 1))), (8, .int (pf_new fd (fd 0) 1 (a_ - 1) b_ u32.2.2.2 (i + 1))), (7, .int (pf_old fd (fd 0) 1 (a_ - 1) b_ u32.2.2.2 (i + 1))), (0, .ref (bd 0)), (1, .int (nI a_)), (2, .int (nI b_)), (3, .int early), (4, .int late), (5, .int (nI fc)), (9, .int (nI r))]) hx hb dn_M_extended_171 hl (by decide) rfl (fun ls hl => ?_)
                    refine lv_iinc (lv' := [(9, .int ((nI r) - 1)), (6, .int (nI ((1 + i) + 1))), (8, .int (pf_new fd (fd 0) 1 (a_ - 1) b_ u32.2.2.2 (i + 1))), (7, .int (pf_old fd (fd 0) 1 (a_ - 1) b_ u32.2.2.2 (i + 1))), (0, .ref (bd 0)), (1, .int (nI a_)), (2, .int (nI b_)), (3, .int early), (4, .int late), (5, .int (nI fc))]) (v := ((nI r) - 1)) (k := 9) hx hb dn_M_extended_173 hl rfl (gs_m1 r) (by decide) rfl (fun ls hl => ?_)
                    refine lv_goto (tgt := 94) hx hb dn_M_extended_176 (by decide) ?_
                    exact ih94 r (by omega) (i + 1) r ls H locs rfl (lv_sub hl [4, 5, 6, 7, 8, 9, 1, 3, 2, 0] rfl) hP hD hS (by omega)
                  · skip
                    refine lv_aload_n hx hb dn_M_extended_109 rfl (lv_at hl 0 rfl) ?_
                    refine va_get (D := (dC, dI)) (ci := 5) (v := .ref (bd 2)) (C := rn_M) (T := tn_M) (N := 19) hx hb hw ml_M hown hK hP 0 rfl rfl 4 (by decide) (hw _ mw_477) (fun _ h9 => h9) rfl dn_M_extended_110 ?_
                    refine lv_iload hx hb dn_M_extended_113 (lv_at hl 6 rfl) ?_
                    refine gr_iald hx hb hK hP 2 0 rfl rfl (1 + i) rfl (by omega) (by decide) dn_M_extended_115 ?_
                    refine lv_iload hx hb dn_M_extended_116 (lv_at hl 7 rfl) ?_
                    refine gc_s0 (v := (hf_node (fd (1 + i)) (pf_old fd (fd 0) 1 (a_ - 1) b_ u32.2.2.2 i))) (As := [.int (fd (1 + i)), .int (pf_old fd (fd 0) 1 (a_ - 1) b_ u32.2.2.2 i)]) (rest := []) ⟨hx, hb, hml, hown, hw⟩ (c_M_node l dC dI cI cZ (fd (1 + i)) (pf_old fd (fd 0) 1 (a_ - 1) b_ u32.2.2.2 i)) (gw_cS 2 hw mw_617 mw_618 mw_6 mw_619 hd_M_node ⟨Nat.le_of_ble_eq_true rfl, Nat.le_of_ble_eq_true rfl⟩) hK hP hD hS hA rfl hl.1 rfl (Nat.le_of_ble_eq_true rfl) dn_M_extended_118 ⟨Nat.zero_le _, Nat.zero_le _⟩ (fun H locs hP hD hS => ?_)
                    refine lv_goto (tgt := 126) hx hb dn_M_extended_121 (by decide) ?_
                    refine gr_top (y := pf_old fd (fd 0) 1 (a_ - 1) b_ u32.2.2.2 (i + 1)) (by rw [pf_old, show u32.2.2.2 - 1 - i = r by omega, ← hc32.2.1 r (by omega)]; first | rw [if_pos (hX1 h106)] | rw [if_neg (by rw [h106]; decide)]) ?_
                    refine lv_istore (lv' := [(7, .int (pf_old fd (fd 0) 1 (a_ - 1) b_ u32.2.2.2 (i + 1))), (0, .ref (bd 0)), (1, .int (nI a_)), (2, .int (nI b_)), (3, .int early), (4, .int late), (5, .int (nI fc)), (6, .int (nI (1 + i))), (8, .int (pf_new fd (fd 0) 1 (a_ - 1) b_ u32.2.2.2 i)), (9, .int (nI r))]) hx hb dn_M_extended_126 hl (by decide) rfl (fun ls hl => ?_)
                    refine lv_aload_n hx hb dn_M_extended_128 rfl (lv_at hl 1 rfl) ?_
                    refine va_get (D := (dC, dI)) (ci := 5) (v := .ref (bd 8)) (C := rn_M) (T := tn_M) (N := 19) hx hb hw ml_M hown hK hP 0 rfl rfl 14 (by decide) (hw _ mw_487) (fun _ h9 => h9) rfl dn_M_extended_129 ?_
                    refine lv_iload hx hb dn_M_extended_132 (lv_at hl 9 rfl) ?_
                    refine gr_zald hx hb hK hP 8 1 rfl rfl r rfl (by omega) (by decide) dn_M_extended_134 ?_
                    refine lv_if_eq (tgt := 153) hx hb dn_M_extended_135 (by decide) (fun h135 => absurd h135 h106) (fun h135 => ?_)
                    refine lv_aload_n hx hb dn_M_extended_138 rfl (lv_at hl 1 rfl) ?_
                    refine va_get (D := (dC, dI)) (ci := 5) (v := .ref (bd 2)) (C := rn_M) (T := tn_M) (N := 19) hx hb hw ml_M hown hK hP 0 rfl rfl 4 (by decide) (hw _ mw_477) (fun _ h9 => h9) rfl dn_M_extended_139 ?_
                    refine lv_iload hx hb dn_M_extended_142 (lv_at hl 7 rfl) ?_
                    refine gr_iald hx hb hK hP 2 0 rfl rfl (1 + i) rfl (by omega) (by decide) dn_M_extended_144 ?_
                    refine lv_iload hx hb dn_M_extended_145 (lv_at hl 8 rfl) ?_
                    refine gc_s0 (v := (hf_node (fd (1 + i)) (pf_new fd (fd 0) 1 (a_ - 1) b_ u32.2.2.2 i))) (As := [.int (fd (1 + i)), .int (pf_new fd (fd 0) 1 (a_ - 1) b_ u32.2.2.2 i)]) (rest := []) ⟨hx, hb, hml, hown, hw⟩ (c_M_node l dC dI cI cZ (fd (1 + i)) (pf_new fd (fd 0) 1 (a_ - 1) b_ u32.2.2.2 i)) (gw_cS 2 hw mw_617 mw_618 mw_6 mw_619 hd_M_node ⟨Nat.le_of_ble_eq_true rfl, Nat.le_of_ble_eq_true rfl⟩) hK hP hD hS hA rfl hl.1 rfl (Nat.le_of_ble_eq_true rfl) dn_M_extended_147 ⟨Nat.zero_le _, Nat.zero_le _⟩ (fun H locs hP hD hS => ?_)
                    refine lv_goto (tgt := 165) hx hb dn_M_extended_150 (by decide) ?_
                    refine gr_top (y := pf_new fd (fd 0) 1 (a_ - 1) b_ u32.2.2.2 (i + 1)) (by rw [pf_new, show u32.2.2.2 - 1 - i = r by omega, ← hc32.2.1 r (by omega)]; first | rw [if_pos (hX1 h106)] | rw [if_neg (by rw [h106]; decide)]) ?_
                    refine lv_istore (lv' := [(8, .int (pf_new fd (fd 0) 1 (a_ - 1) b_ u32.2.2.2 (i + 1))), (7, .int (pf_old fd (fd 0) 1 (a_ - 1) b_ u32.2.2.2 (i + 1))), (0, .ref (bd 0)), (1, .int (nI a_)), (2, .int (nI b_)), (3, .int early), (4, .int late), (5, .int (nI fc)), (6, .int (nI (1 + i))), (9, .int (nI r))]) hx hb dn_M_extended_165 hl (by decide) rfl (fun ls hl => ?_)
                    refine lv_iload hx hb dn_M_extended_167 (lv_at hl 8 rfl) ?_
                    refine lv_iconst (v := 1) hx hb dn_M_extended_169 (by decide) ?_
                    refine gr_addN hx hb (1 + i) 1 rfl rfl dn_M_extended_170 ?_
                    refine lv_istore (lv' := [(6, .int (nI ((1 + i) + 1))), (8, .int (pf_new fd (fd 0) 1 (a_ - 1) b_ u32.2.2.2 (i + 1))), (7, .int (pf_old fd (fd 0) 1 (a_ - 1) b_ u32.2.2.2 (i + 1))), (0, .ref (bd 0)), (1, .int (nI a_)), (2, .int (nI b_)), (3, .int early), (4, .int late), (5, .int (nI fc)), (9, .int (nI r))]) hx hb dn_M_extended_171 hl (by decide) rfl (fun ls hl => ?_)
                    refine lv_iinc (lv' := [(9, .int ((nI r) - 1)), (6, .int (nI ((1 + i) + 1))), (8, .int (pf_new fd (fd 0) 1 (a_ - 1) b_ u32.2.2.2 (i + 1))), (7, .int (pf_old fd (fd 0) 1 (a_ - 1) b_ u32.2.2.2 (i + 1))), (0, .ref (bd 0)), (1, .int (nI a_)), (2, .int (nI b_)), (3, .int early), (4, .int late), (5, .int (nI fc))]) (v := ((nI r) - 1)) (k := 9) hx hb dn_M_extended_173 hl rfl (gs_m1 r) (by decide) rfl (fun ls hl => ?_)
                    refine lv_goto (tgt := 94) hx hb dn_M_extended_176 (by decide) ?_
                    exact ih94 r (by omega) (i + 1) r ls H locs rfl (lv_sub hl [4, 5, 6, 7, 8, 9, 1, 3, 2, 0] rfl) hP hD hS (by omega)
            exact lp94 _ 0 u32.2.2.2 ls H locs rfl (lv_sub hl [5, 6, 7, 8, 9, 4, 3, 2, 1, 0] rfl) hP hD hS (by omega)
          · skip
            refine lv_iconst (v := 0) hx hb dn_M_extended_61 (by decide) ?_
            exact hret 0 (u32.1, u32.2.1, u32.2.2.1, u32.2.2.2, ((ds_at (a_ - 1) b_ u32.2.2.2).1), ((ds_at (a_ - 1) b_ u32.2.2.2).2), 1) _ _ _ _ (Or.inr ⟨rfl, fun q => h58 (hex.1 q).1⟩) rfl hP hD hS dn_M_extended_62
      · skip
        refine lv_iconst (v := 0) hx hb dn_M_extended_27 (by decide) ?_
        exact hret 0 (X, Y, Z, st, ef, ec, fu) _ _ _ _ (Or.inr ⟨rfl, fun q => by first | exact absurd q.1.1 (Int32.not_le.mpr h13) | exact absurd q.1.2.1 (Int32.not_le.mpr h18) | exact h24 q.1.2.2⟩) rfl hP hD hS dn_M_extended_28
