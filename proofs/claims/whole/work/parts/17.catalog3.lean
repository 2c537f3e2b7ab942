set_option maxRecDepth 100000 in
set_option maxHeartbeats 4000000 in
theorem c_C_enter (l : Launch) (dC : Nat → ClassId) (dI : Nat → Nat → Nat) (cI cZ : ClassId) (a0 a1 a2 a3 a4 : Nat) (K : ct_T) (en : Nat) (ho : K.1 ≤ 12) (hG : ∀ j, 1 ≤ j → j ≤ K.1 → ∃ g, g < 256 ∧ K.2.2.2.1 j = nI g) (kind id v t : Int32) (hr : ct_ruC K kind id v t = 0) (k1 : 1 ≤ kind) (k6 : kind ≤ 6) : gc_V l yn_C_enter (gw yn_C_enter cn_C_enter 4 none) (rm_ 1 23) (dC, dI) vwCl (gT cI cZ) [.ref a0, .int kind, .int id, .int v] [(a0, .inr (0, [.ref a1, .ref a2, .ref a3, .ref a4, .int (nI K.1), .int (nI en)])), (a1, .inl (cI, 13, .inl K.2.1)), (a2, .inl (cI, 13, .inl K.2.2.1)), (a3, .inl (cI, 13, .inl K.2.2.2.1)), (a4, .inl (cI, 13, .inl K.2.2.2.2))] (fun (u : ct_T) => u = ct_ap K en kind id v) (fun u => [(a0, .inr (0, [.ref a1, .ref a2, .ref a3, .ref a4, .int (nI u.1), .int (nI (en + 1))])), (a1, .inl (cI, 13, .inl u.2.1)), (a2, .inl (cI, 13, .inl u.2.2.1)), (a3, .inl (cI, 13, .inl u.2.2.2.1)), (a4, .inl (cI, 13, .inl u.2.2.2.2))]) := by
  refine gc_V_of (cc := cn_C_enter) (maxL := 4) (by decide) rfl (Nat.le_of_ble_eq_true rfl) ?_
  intro pp ee ss mm ar be me cd A Q ls H0 H locs hx hb hml hown hts hK hP hD hS hA hl hret
  have hw : ∀ w ∈ gw_T, w.before ar ss = true := fun w h => hts w (List.mem_cons_of_mem _ h)
  have hl : lv_has ls 4 [(0, .ref a0), (1, .int kind), (2, .int id), (3, .int v)] := hl
  rcases ct_kind k1 k6 with rfl | rfl | rfl | rfl | rfl | rfl
  · skip
    have hlt : K.1 < 12 := (ct_ru_put hr).1
    refine lv_iload_n hx hb dn_C_enter_0 rfl (lv_at hl 1 rfl) ?_
    refine lv_iconst (v := 1) hx hb dn_C_enter_1 (by decide) ?_
    refine lv_icmp_ne (tgt := 13) hx hb dn_C_enter_2 (by decide) (fun h => absurd h (by decide)) (fun _ => ?_)
    refine lv_aload_n hx hb dn_C_enter_5 rfl (lv_at hl 0 rfl) ?_
    refine lv_iload_n hx hb dn_C_enter_6 rfl (lv_at hl 3 rfl) ?_
    refine gc_vv (pre := []) (wc := [(a0, .inr (0, [.ref a1, .ref a2, .ref a3, .ref a4, .int (nI K.1), .int (nI en)])), (a1, .inl (cI, 13, .inl K.2.1)), (a2, .inl (cI, 13, .inl K.2.2.1)), (a3, .inl (cI, 13, .inl K.2.2.2.1)), (a4, .inl (cI, 13, .inl K.2.2.2.2))]) (po := []) (As := [.int v]) (rest := []) ⟨hx, hb, hml, hown, hw⟩ (c_C_addObject l dC dI cI cZ a0 a1 a2 a3 a4 K en (by omega) (by omega) v) (gw_cV 1 hw mw_220 mw_222 mv_9 mw_3 mw_223 hd_C_addObject ⟨Nat.le_of_ble_eq_true rfl, Nat.le_of_ble_eq_true rfl⟩) (ci := 0) rfl rfl rfl hK hP hD hS hA rfl hl.1 rfl (Nat.le_of_ble_eq_true rfl) dn_C_enter_7 ⟨Nat.zero_le _, Nat.zero_le _⟩ (fun u7 H locs hc7 hP hD hS => ?_)
    have hP : va_P (dC, dI) vwCl [(a0, .inr (0, [.ref a1, .ref a2, .ref a3, .ref a4, .int (nI (K.1 + 1)), .int (nI en)])), (a1, .inl (cI, 13, .inl (upd K.2.1 (K.1 + 1) 1))), (a2, .inl (cI, 13, .inl (upd K.2.2.1 (K.1 + 1) v))), (a3, .inl (cI, 13, .inl (upd K.2.2.2.1 (K.1 + 1) 0))), (a4, .inl (cI, 13, .inl (upd K.2.2.2.2 (K.1 + 1) (nI en))))] H := hP
    have hD : va_D A [(a0, .inr (0, [.ref a1, .ref a2, .ref a3, .ref a4, .int (nI (K.1 + 1)), .int (nI en)])), (a1, .inl (cI, 13, .inl (upd K.2.1 (K.1 + 1) 1))), (a2, .inl (cI, 13, .inl (upd K.2.2.1 (K.1 + 1) v))), (a3, .inl (cI, 13, .inl (upd K.2.2.2.1 (K.1 + 1) 0))), (a4, .inl (cI, 13, .inl (upd K.2.2.2.2 (K.1 + 1) (nI en))))] := hD
    refine lv_goto (tgt := 28) hx hb dn_C_enter_10 (by decide) ?_
    refine lv_aload_n hx hb dn_C_enter_28 rfl (lv_at hl 0 rfl) ?_
    refine lv_dup hx hb dn_C_enter_29 rfl ?_
    refine va_get (D := (dC, dI)) (ci := 0) (v := .int (nI en)) (C := rn_C) (T := tn_C) (N := 6) hx hb hw ml_C hown hK hP 0 rfl rfl 5 (by decide) (hw _ mw_42) (fun _ h9 => h9) rfl dn_C_enter_30 ?_
    refine lv_iconst (v := 1) hx hb dn_C_enter_33 (by decide) ?_
    refine gr_addN hx hb en 1 rfl rfl dn_C_enter_34 ?_
    refine va_put (D := (dC, dI)) (ci := 0) (v := .int (nI (en + 1))) (ty := .int) (C := rn_C) (T := tn_C) (N := 6) hx hb hw ml_C tt_C to_C nd_C hown hK hP hD hS 0 rfl rfl 5 (by decide) (hw _ mw_42) (fun _ h9 => h9) rfl (by decide +kernel) rfl rfl (Nat.le_of_ble_eq_true rfl) dn_C_enter_35 (fun H locs hP hD hS => ?_)
    have hP : va_P (dC, dI) vwCl [(a0, .inr (0, [.ref a1, .ref a2, .ref a3, .ref a4, .int (nI (K.1 + 1)), .int (nI (en + 1))])), (a1, .inl (cI, 13, .inl (upd K.2.1 (K.1 + 1) 1))), (a2, .inl (cI, 13, .inl (upd K.2.2.1 (K.1 + 1) v))), (a3, .inl (cI, 13, .inl (upd K.2.2.2.1 (K.1 + 1) 0))), (a4, .inl (cI, 13, .inl (upd K.2.2.2.2 (K.1 + 1) (nI en))))] H := hP
    have hD : va_D A [(a0, .inr (0, [.ref a1, .ref a2, .ref a3, .ref a4, .int (nI (K.1 + 1)), .int (nI (en + 1))])), (a1, .inl (cI, 13, .inl (upd K.2.1 (K.1 + 1) 1))), (a2, .inl (cI, 13, .inl (upd K.2.2.1 (K.1 + 1) v))), (a3, .inl (cI, 13, .inl (upd K.2.2.2.1 (K.1 + 1) 0))), (a4, .inl (cI, 13, .inl (upd K.2.2.2.2 (K.1 + 1) (nI en))))] := hD
    exact hret ((K.1 + 1), upd K.2.1 (K.1 + 1) 1, upd K.2.2.1 (K.1 + 1) v, upd K.2.2.2.1 (K.1 + 1) 0, upd K.2.2.2.2 (K.1 + 1) (nI en)) _ _ _ _ (ap_1 K en id v) hP hD hS dn_C_enter_38
  · skip
    refine lv_iload_n hx hb dn_C_enter_0 rfl (lv_at hl 1 rfl) ?_
    refine lv_iconst (v := 1) hx hb dn_C_enter_1 (by decide) ?_
    refine lv_icmp_ne (tgt := 13) hx hb dn_C_enter_2 (by decide) (fun _ => ?_) (fun h => absurd h (by decide))
    refine lv_aload_n hx hb dn_C_enter_13 rfl (lv_at hl 0 rfl) ?_
    refine lv_iload_n hx hb dn_C_enter_14 rfl (lv_at hl 2 rfl) ?_
    refine gc_vi (pre := []) (wc := [(a0, .inr (0, [.ref a1, .ref a2, .ref a3, .ref a4, .int (nI K.1), .int (nI en)])), (a1, .inl (cI, 13, .inl K.2.1)), (a2, .inl (cI, 13, .inl K.2.2.1)), (a3, .inl (cI, 13, .inl K.2.2.2.1)), (a4, .inl (cI, 13, .inl K.2.2.2.2))]) (po := []) (As := [.int id]) (rest := []) ⟨hx, hb, hml, hown, hw⟩ (c_C_isThere l dC dI cI cZ a0 a1 a2 a3 a4 K en (by omega) id) (gw_cV 1 hw mw_158 mw_159 mw_160 mw_3 mw_161 hd_C_isThere ⟨Nat.le_of_ble_eq_true rfl, Nat.le_of_ble_eq_true rfl⟩) (ci := 0) rfl rfl rfl hK hP hD hS hA rfl hl.1 rfl (Nat.le_of_ble_eq_true rfl) dn_C_enter_15 ⟨Nat.zero_le _, Nat.zero_le _⟩ (fun r15 u15 H locs hc15 hP hD hS => ?_)
    have hP : va_P (dC, dI) vwCl [(a0, .inr (0, [.ref a1, .ref a2, .ref a3, .ref a4, .int (nI K.1), .int (nI en)])), (a1, .inl (cI, 13, .inl K.2.1)), (a2, .inl (cI, 13, .inl K.2.2.1)), (a3, .inl (cI, 13, .inl K.2.2.2.1)), (a4, .inl (cI, 13, .inl K.2.2.2.2))] H := hP
    have hD : va_D A [(a0, .inr (0, [.ref a1, .ref a2, .ref a3, .ref a4, .int (nI K.1), .int (nI en)])), (a1, .inl (cI, 13, .inl K.2.1)), (a2, .inl (cI, 13, .inl K.2.2.1)), (a3, .inl (cI, 13, .inl K.2.2.2.1)), (a4, .inl (cI, 13, .inl K.2.2.2.2))] := hD
    rcases hc15 with ⟨rfl, j15, j15a, j15b, rfl⟩ | ⟨rfl, hno15⟩
    · skip
      refine lv_if_eq (tgt := 28) hx hb dn_C_enter_18 (by decide) (fun h => absurd h (by decide)) (fun _ => ?_)
      refine lv_aload_n hx hb dn_C_enter_21 rfl (lv_at hl 0 rfl) ?_
      refine lv_iload_n hx hb dn_C_enter_22 rfl (lv_at hl 1 rfl) ?_
      refine lv_iload_n hx hb dn_C_enter_23 rfl (lv_at hl 2 rfl) ?_
      refine lv_iload_n hx hb dn_C_enter_24 rfl (lv_at hl 3 rfl) ?_
      refine gc_vv (pre := []) (wc := [(a0, .inr (0, [.ref a1, .ref a2, .ref a3, .ref a4, .int (nI K.1), .int (nI en)])), (a1, .inl (cI, 13, .inl K.2.1)), (a2, .inl (cI, 13, .inl K.2.2.1)), (a3, .inl (cI, 13, .inl K.2.2.2.1)), (a4, .inl (cI, 13, .inl K.2.2.2.2))]) (po := []) (As := [.int 2, .int (nI j15), .int v]) (rest := []) ⟨hx, hb, hml, hown, hw⟩ (c_C_changeObject2 l dC dI cI cZ a0 a1 a2 a3 a4 K en (by omega) j15 (by omega) (by omega) v) (gw_cV 3 hw mw_224 mw_226 mv_10 mw_3 mw_227 hd_C_changeObject ⟨Nat.le_of_ble_eq_true rfl, Nat.le_of_ble_eq_true rfl⟩) (ci := 0) rfl rfl rfl hK hP hD hS hA rfl hl.1 rfl (Nat.le_of_ble_eq_true rfl) dn_C_enter_25 ⟨Nat.zero_le _, Nat.zero_le _⟩ (fun u25 H locs hc25 hP hD hS => ?_)
      have hP : va_P (dC, dI) vwCl [(a0, .inr (0, [.ref a1, .ref a2, .ref a3, .ref a4, .int (nI K.1), .int (nI en)])), (a1, .inl (cI, 13, .inl K.2.1)), (a2, .inl (cI, 13, .inl (upd K.2.2.1 j15 v))), (a3, .inl (cI, 13, .inl K.2.2.2.1)), (a4, .inl (cI, 13, .inl K.2.2.2.2))] H := hP
      have hD : va_D A [(a0, .inr (0, [.ref a1, .ref a2, .ref a3, .ref a4, .int (nI K.1), .int (nI en)])), (a1, .inl (cI, 13, .inl K.2.1)), (a2, .inl (cI, 13, .inl (upd K.2.2.1 j15 v))), (a3, .inl (cI, 13, .inl K.2.2.2.1)), (a4, .inl (cI, 13, .inl K.2.2.2.2))] := hD
      refine lv_aload_n hx hb dn_C_enter_28 rfl (lv_at hl 0 rfl) ?_
      refine lv_dup hx hb dn_C_enter_29 rfl ?_
      refine va_get (D := (dC, dI)) (ci := 0) (v := .int (nI en)) (C := rn_C) (T := tn_C) (N := 6) hx hb hw ml_C hown hK hP 0 rfl rfl 5 (by decide) (hw _ mw_42) (fun _ h9 => h9) rfl dn_C_enter_30 ?_
      refine lv_iconst (v := 1) hx hb dn_C_enter_33 (by decide) ?_
      refine gr_addN hx hb en 1 rfl rfl dn_C_enter_34 ?_
      refine va_put (D := (dC, dI)) (ci := 0) (v := .int (nI (en + 1))) (ty := .int) (C := rn_C) (T := tn_C) (N := 6) hx hb hw ml_C tt_C to_C nd_C hown hK hP hD hS 0 rfl rfl 5 (by decide) (hw _ mw_42) (fun _ h9 => h9) rfl (by decide +kernel) rfl rfl (Nat.le_of_ble_eq_true rfl) dn_C_enter_35 (fun H locs hP hD hS => ?_)
      have hP : va_P (dC, dI) vwCl [(a0, .inr (0, [.ref a1, .ref a2, .ref a3, .ref a4, .int (nI K.1), .int (nI (en + 1))])), (a1, .inl (cI, 13, .inl K.2.1)), (a2, .inl (cI, 13, .inl (upd K.2.2.1 j15 v))), (a3, .inl (cI, 13, .inl K.2.2.2.1)), (a4, .inl (cI, 13, .inl K.2.2.2.2))] H := hP
      have hD : va_D A [(a0, .inr (0, [.ref a1, .ref a2, .ref a3, .ref a4, .int (nI K.1), .int (nI (en + 1))])), (a1, .inl (cI, 13, .inl K.2.1)), (a2, .inl (cI, 13, .inl (upd K.2.2.1 j15 v))), (a3, .inl (cI, 13, .inl K.2.2.2.1)), (a4, .inl (cI, 13, .inl K.2.2.2.2))] := hD
      exact hret (K.1, K.2.1, upd K.2.2.1 j15 v, K.2.2.2.1, K.2.2.2.2) _ _ _ _ (ap_2 K en (by omega) v) hP hD hS dn_C_enter_38
    · skip
      exact (ct_ru_no ho (by decide) hr hno15).elim
  · skip
    refine lv_iload_n hx hb dn_C_enter_0 rfl (lv_at hl 1 rfl) ?_
    refine lv_iconst (v := 1) hx hb dn_C_enter_1 (by decide) ?_
    refine lv_icmp_ne (tgt := 13) hx hb dn_C_enter_2 (by decide) (fun _ => ?_) (fun h => absurd h (by decide))
    refine lv_aload_n hx hb dn_C_enter_13 rfl (lv_at hl 0 rfl) ?_
    refine lv_iload_n hx hb dn_C_enter_14 rfl (lv_at hl 2 rfl) ?_
    refine gc_vi (pre := []) (wc := [(a0, .inr (0, [.ref a1, .ref a2, .ref a3, .ref a4, .int (nI K.1), .int (nI en)])), (a1, .inl (cI, 13, .inl K.2.1)), (a2, .inl (cI, 13, .inl K.2.2.1)), (a3, .inl (cI, 13, .inl K.2.2.2.1)), (a4, .inl (cI, 13, .inl K.2.2.2.2))]) (po := []) (As := [.int id]) (rest := []) ⟨hx, hb, hml, hown, hw⟩ (c_C_isThere l dC dI cI cZ a0 a1 a2 a3 a4 K en (by omega) id) (gw_cV 1 hw mw_158 mw_159 mw_160 mw_3 mw_161 hd_C_isThere ⟨Nat.le_of_ble_eq_true rfl, Nat.le_of_ble_eq_true rfl⟩) (ci := 0) rfl rfl rfl hK hP hD hS hA rfl hl.1 rfl (Nat.le_of_ble_eq_true rfl) dn_C_enter_15 ⟨Nat.zero_le _, Nat.zero_le _⟩ (fun r15 u15 H locs hc15 hP hD hS => ?_)
    have hP : va_P (dC, dI) vwCl [(a0, .inr (0, [.ref a1, .ref a2, .ref a3, .ref a4, .int (nI K.1), .int (nI en)])), (a1, .inl (cI, 13, .inl K.2.1)), (a2, .inl (cI, 13, .inl K.2.2.1)), (a3, .inl (cI, 13, .inl K.2.2.2.1)), (a4, .inl (cI, 13, .inl K.2.2.2.2))] H := hP
    have hD : va_D A [(a0, .inr (0, [.ref a1, .ref a2, .ref a3, .ref a4, .int (nI K.1), .int (nI en)])), (a1, .inl (cI, 13, .inl K.2.1)), (a2, .inl (cI, 13, .inl K.2.2.1)), (a3, .inl (cI, 13, .inl K.2.2.2.1)), (a4, .inl (cI, 13, .inl K.2.2.2.2))] := hD
    rcases hc15 with ⟨rfl, j15, j15a, j15b, rfl⟩ | ⟨rfl, hno15⟩
    · skip
      refine lv_if_eq (tgt := 28) hx hb dn_C_enter_18 (by decide) (fun h => absurd h (by decide)) (fun _ => ?_)
      refine lv_aload_n hx hb dn_C_enter_21 rfl (lv_at hl 0 rfl) ?_
      refine lv_iload_n hx hb dn_C_enter_22 rfl (lv_at hl 1 rfl) ?_
      refine lv_iload_n hx hb dn_C_enter_23 rfl (lv_at hl 2 rfl) ?_
      refine lv_iload_n hx hb dn_C_enter_24 rfl (lv_at hl 3 rfl) ?_
      refine gc_vv (pre := []) (wc := [(a0, .inr (0, [.ref a1, .ref a2, .ref a3, .ref a4, .int (nI K.1), .int (nI en)])), (a1, .inl (cI, 13, .inl K.2.1)), (a2, .inl (cI, 13, .inl K.2.2.1)), (a3, .inl (cI, 13, .inl K.2.2.2.1)), (a4, .inl (cI, 13, .inl K.2.2.2.2))]) (po := []) (As := [.int 3, .int (nI j15), .int v]) (rest := []) ⟨hx, hb, hml, hown, hw⟩ (c_C_changeObject3 l dC dI cI cZ a0 a1 a2 a3 a4 K en (by omega) j15 (by omega) (by omega) v) (gw_cV 3 hw mw_224 mw_226 mv_10 mw_3 mw_227 hd_C_changeObject ⟨Nat.le_of_ble_eq_true rfl, Nat.le_of_ble_eq_true rfl⟩) (ci := 0) rfl rfl rfl hK hP hD hS hA rfl hl.1 rfl (Nat.le_of_ble_eq_true rfl) dn_C_enter_25 ⟨Nat.zero_le _, Nat.zero_le _⟩ (fun u25 H locs hc25 hP hD hS => ?_)
      have hP : va_P (dC, dI) vwCl [(a0, .inr (0, [.ref a1, .ref a2, .ref a3, .ref a4, .int (nI K.1), .int (nI en)])), (a1, .inl (cI, 13, .inl K.2.1)), (a2, .inl (cI, 13, .inl K.2.2.1)), (a3, .inl (cI, 13, .inl (upd K.2.2.2.1 j15 (K.2.2.2.1 j15 ||| ((1 : Int32) <<< (v &&& 31)))))), (a4, .inl (cI, 13, .inl K.2.2.2.2))] H := hP
      have hD : va_D A [(a0, .inr (0, [.ref a1, .ref a2, .ref a3, .ref a4, .int (nI K.1), .int (nI en)])), (a1, .inl (cI, 13, .inl K.2.1)), (a2, .inl (cI, 13, .inl K.2.2.1)), (a3, .inl (cI, 13, .inl (upd K.2.2.2.1 j15 (K.2.2.2.1 j15 ||| ((1 : Int32) <<< (v &&& 31)))))), (a4, .inl (cI, 13, .inl K.2.2.2.2))] := hD
      refine lv_aload_n hx hb dn_C_enter_28 rfl (lv_at hl 0 rfl) ?_
      refine lv_dup hx hb dn_C_enter_29 rfl ?_
      refine va_get (D := (dC, dI)) (ci := 0) (v := .int (nI en)) (C := rn_C) (T := tn_C) (N := 6) hx hb hw ml_C hown hK hP 0 rfl rfl 5 (by decide) (hw _ mw_42) (fun _ h9 => h9) rfl dn_C_enter_30 ?_
      refine lv_iconst (v := 1) hx hb dn_C_enter_33 (by decide) ?_
      refine gr_addN hx hb en 1 rfl rfl dn_C_enter_34 ?_
      refine va_put (D := (dC, dI)) (ci := 0) (v := .int (nI (en + 1))) (ty := .int) (C := rn_C) (T := tn_C) (N := 6) hx hb hw ml_C tt_C to_C nd_C hown hK hP hD hS 0 rfl rfl 5 (by decide) (hw _ mw_42) (fun _ h9 => h9) rfl (by decide +kernel) rfl rfl (Nat.le_of_ble_eq_true rfl) dn_C_enter_35 (fun H locs hP hD hS => ?_)
      have hP : va_P (dC, dI) vwCl [(a0, .inr (0, [.ref a1, .ref a2, .ref a3, .ref a4, .int (nI K.1), .int (nI (en + 1))])), (a1, .inl (cI, 13, .inl K.2.1)), (a2, .inl (cI, 13, .inl K.2.2.1)), (a3, .inl (cI, 13, .inl (upd K.2.2.2.1 j15 (K.2.2.2.1 j15 ||| ((1 : Int32) <<< (v &&& 31)))))), (a4, .inl (cI, 13, .inl K.2.2.2.2))] H := hP
      have hD : va_D A [(a0, .inr (0, [.ref a1, .ref a2, .ref a3, .ref a4, .int (nI K.1), .int (nI (en + 1))])), (a1, .inl (cI, 13, .inl K.2.1)), (a2, .inl (cI, 13, .inl K.2.2.1)), (a3, .inl (cI, 13, .inl (upd K.2.2.2.1 j15 (K.2.2.2.1 j15 ||| ((1 : Int32) <<< (v &&& 31)))))), (a4, .inl (cI, 13, .inl K.2.2.2.2))] := hD
      exact hret (K.1, K.2.1, K.2.2.1, upd K.2.2.2.1 j15 (K.2.2.2.1 j15 ||| ((1 : Int32) <<< (v &&& 31))), K.2.2.2.2) _ _ _ _ (ap_3 en j15a j15b ho hG hr) hP hD hS dn_C_enter_38
    · skip
      exact (ct_ru_no ho (by decide) hr hno15).elim
  · skip
    refine lv_iload_n hx hb dn_C_enter_0 rfl (lv_at hl 1 rfl) ?_
    refine lv_iconst (v := 1) hx hb dn_C_enter_1 (by decide) ?_
    refine lv_icmp_ne (tgt := 13) hx hb dn_C_enter_2 (by decide) (fun _ => ?_) (fun h => absurd h (by decide))
    refine lv_aload_n hx hb dn_C_enter_13 rfl (lv_at hl 0 rfl) ?_
    refine lv_iload_n hx hb dn_C_enter_14 rfl (lv_at hl 2 rfl) ?_
    refine gc_vi (pre := []) (wc := [(a0, .inr (0, [.ref a1, .ref a2, .ref a3, .ref a4, .int (nI K.1), .int (nI en)])), (a1, .inl (cI, 13, .inl K.2.1)), (a2, .inl (cI, 13, .inl K.2.2.1)), (a3, .inl (cI, 13, .inl K.2.2.2.1)), (a4, .inl (cI, 13, .inl K.2.2.2.2))]) (po := []) (As := [.int id]) (rest := []) ⟨hx, hb, hml, hown, hw⟩ (c_C_isThere l dC dI cI cZ a0 a1 a2 a3 a4 K en (by omega) id) (gw_cV 1 hw mw_158 mw_159 mw_160 mw_3 mw_161 hd_C_isThere ⟨Nat.le_of_ble_eq_true rfl, Nat.le_of_ble_eq_true rfl⟩) (ci := 0) rfl rfl rfl hK hP hD hS hA rfl hl.1 rfl (Nat.le_of_ble_eq_true rfl) dn_C_enter_15 ⟨Nat.zero_le _, Nat.zero_le _⟩ (fun r15 u15 H locs hc15 hP hD hS => ?_)
    have hP : va_P (dC, dI) vwCl [(a0, .inr (0, [.ref a1, .ref a2, .ref a3, .ref a4, .int (nI K.1), .int (nI en)])), (a1, .inl (cI, 13, .inl K.2.1)), (a2, .inl (cI, 13, .inl K.2.2.1)), (a3, .inl (cI, 13, .inl K.2.2.2.1)), (a4, .inl (cI, 13, .inl K.2.2.2.2))] H := hP
    have hD : va_D A [(a0, .inr (0, [.ref a1, .ref a2, .ref a3, .ref a4, .int (nI K.1), .int (nI en)])), (a1, .inl (cI, 13, .inl K.2.1)), (a2, .inl (cI, 13, .inl K.2.2.1)), (a3, .inl (cI, 13, .inl K.2.2.2.1)), (a4, .inl (cI, 13, .inl K.2.2.2.2))] := hD
    rcases hc15 with ⟨rfl, j15, j15a, j15b, rfl⟩ | ⟨rfl, hno15⟩
    · skip
      refine lv_if_eq (tgt := 28) hx hb dn_C_enter_18 (by decide) (fun h => absurd h (by decide)) (fun _ => ?_)
      refine lv_aload_n hx hb dn_C_enter_21 rfl (lv_at hl 0 rfl) ?_
      refine lv_iload_n hx hb dn_C_enter_22 rfl (lv_at hl 1 rfl) ?_
      refine lv_iload_n hx hb dn_C_enter_23 rfl (lv_at hl 2 rfl) ?_
      refine lv_iload_n hx hb dn_C_enter_24 rfl (lv_at hl 3 rfl) ?_
      refine gc_vv (pre := []) (wc := [(a0, .inr (0, [.ref a1, .ref a2, .ref a3, .ref a4, .int (nI K.1), .int (nI en)])), (a1, .inl (cI, 13, .inl K.2.1)), (a2, .inl (cI, 13, .inl K.2.2.1)), (a3, .inl (cI, 13, .inl K.2.2.2.1)), (a4, .inl (cI, 13, .inl K.2.2.2.2))]) (po := []) (As := [.int 4, .int (nI j15), .int v]) (rest := []) ⟨hx, hb, hml, hown, hw⟩ (c_C_changeObject4 l dC dI cI cZ a0 a1 a2 a3 a4 K en (by omega) j15 (by omega) (by omega) v) (gw_cV 3 hw mw_224 mw_226 mv_10 mw_3 mw_227 hd_C_changeObject ⟨Nat.le_of_ble_eq_true rfl, Nat.le_of_ble_eq_true rfl⟩) (ci := 0) rfl rfl rfl hK hP hD hS hA rfl hl.1 rfl (Nat.le_of_ble_eq_true rfl) dn_C_enter_25 ⟨Nat.zero_le _, Nat.zero_le _⟩ (fun u25 H locs hc25 hP hD hS => ?_)
      have hP : va_P (dC, dI) vwCl [(a0, .inr (0, [.ref a1, .ref a2, .ref a3, .ref a4, .int (nI K.1), .int (nI en)])), (a1, .inl (cI, 13, .inl K.2.1)), (a2, .inl (cI, 13, .inl K.2.2.1)), (a3, .inl (cI, 13, .inl (upd K.2.2.2.1 j15 (K.2.2.2.1 j15 &&& (((1 : Int32) <<< (v &&& 31)) ^^^ (-1)))))), (a4, .inl (cI, 13, .inl K.2.2.2.2))] H := hP
      have hD : va_D A [(a0, .inr (0, [.ref a1, .ref a2, .ref a3, .ref a4, .int (nI K.1), .int (nI en)])), (a1, .inl (cI, 13, .inl K.2.1)), (a2, .inl (cI, 13, .inl K.2.2.1)), (a3, .inl (cI, 13, .inl (upd K.2.2.2.1 j15 (K.2.2.2.1 j15 &&& (((1 : Int32) <<< (v &&& 31)) ^^^ (-1)))))), (a4, .inl (cI, 13, .inl K.2.2.2.2))] := hD
      refine lv_aload_n hx hb dn_C_enter_28 rfl (lv_at hl 0 rfl) ?_
      refine lv_dup hx hb dn_C_enter_29 rfl ?_
      refine va_get (D := (dC, dI)) (ci := 0) (v := .int (nI en)) (C := rn_C) (T := tn_C) (N := 6) hx hb hw ml_C hown hK hP 0 rfl rfl 5 (by decide) (hw _ mw_42) (fun _ h9 => h9) rfl dn_C_enter_30 ?_
      refine lv_iconst (v := 1) hx hb dn_C_enter_33 (by decide) ?_
      refine gr_addN hx hb en 1 rfl rfl dn_C_enter_34 ?_
      refine va_put (D := (dC, dI)) (ci := 0) (v := .int (nI (en + 1))) (ty := .int) (C := rn_C) (T := tn_C) (N := 6) hx hb hw ml_C tt_C to_C nd_C hown hK hP hD hS 0 rfl rfl 5 (by decide) (hw _ mw_42) (fun _ h9 => h9) rfl (by decide +kernel) rfl rfl (Nat.le_of_ble_eq_true rfl) dn_C_enter_35 (fun H locs hP hD hS => ?_)
      have hP : va_P (dC, dI) vwCl [(a0, .inr (0, [.ref a1, .ref a2, .ref a3, .ref a4, .int (nI K.1), .int (nI (en + 1))])), (a1, .inl (cI, 13, .inl K.2.1)), (a2, .inl (cI, 13, .inl K.2.2.1)), (a3, .inl (cI, 13, .inl (upd K.2.2.2.1 j15 (K.2.2.2.1 j15 &&& (((1 : Int32) <<< (v &&& 31)) ^^^ (-1)))))), (a4, .inl (cI, 13, .inl K.2.2.2.2))] H := hP
      have hD : va_D A [(a0, .inr (0, [.ref a1, .ref a2, .ref a3, .ref a4, .int (nI K.1), .int (nI (en + 1))])), (a1, .inl (cI, 13, .inl K.2.1)), (a2, .inl (cI, 13, .inl K.2.2.1)), (a3, .inl (cI, 13, .inl (upd K.2.2.2.1 j15 (K.2.2.2.1 j15 &&& (((1 : Int32) <<< (v &&& 31)) ^^^ (-1)))))), (a4, .inl (cI, 13, .inl K.2.2.2.2))] := hD
      exact hret (K.1, K.2.1, K.2.2.1, upd K.2.2.2.1 j15 (K.2.2.2.1 j15 &&& (((1 : Int32) <<< (v &&& 31)) ^^^ (-1))), K.2.2.2.2) _ _ _ _ (ap_4 en j15a j15b ho hG hr) hP hD hS dn_C_enter_38
    · skip
      exact (ct_ru_no ho (by decide) hr hno15).elim
  · skip
    refine lv_iload_n hx hb dn_C_enter_0 rfl (lv_at hl 1 rfl) ?_
    refine lv_iconst (v := 1) hx hb dn_C_enter_1 (by decide) ?_
    refine lv_icmp_ne (tgt := 13) hx hb dn_C_enter_2 (by decide) (fun _ => ?_) (fun h => absurd h (by decide))
    refine lv_aload_n hx hb dn_C_enter_13 rfl (lv_at hl 0 rfl) ?_
    refine lv_iload_n hx hb dn_C_enter_14 rfl (lv_at hl 2 rfl) ?_
    refine gc_vi (pre := []) (wc := [(a0, .inr (0, [.ref a1, .ref a2, .ref a3, .ref a4, .int (nI K.1), .int (nI en)])), (a1, .inl (cI, 13, .inl K.2.1)), (a2, .inl (cI, 13, .inl K.2.2.1)), (a3, .inl (cI, 13, .inl K.2.2.2.1)), (a4, .inl (cI, 13, .inl K.2.2.2.2))]) (po := []) (As := [.int id]) (rest := []) ⟨hx, hb, hml, hown, hw⟩ (c_C_isThere l dC dI cI cZ a0 a1 a2 a3 a4 K en (by omega) id) (gw_cV 1 hw mw_158 mw_159 mw_160 mw_3 mw_161 hd_C_isThere ⟨Nat.le_of_ble_eq_true rfl, Nat.le_of_ble_eq_true rfl⟩) (ci := 0) rfl rfl rfl hK hP hD hS hA rfl hl.1 rfl (Nat.le_of_ble_eq_true rfl) dn_C_enter_15 ⟨Nat.zero_le _, Nat.zero_le _⟩ (fun r15 u15 H locs hc15 hP hD hS => ?_)
    have hP : va_P (dC, dI) vwCl [(a0, .inr (0, [.ref a1, .ref a2, .ref a3, .ref a4, .int (nI K.1), .int (nI en)])), (a1, .inl (cI, 13, .inl K.2.1)), (a2, .inl (cI, 13, .inl K.2.2.1)), (a3, .inl (cI, 13, .inl K.2.2.2.1)), (a4, .inl (cI, 13, .inl K.2.2.2.2))] H := hP
    have hD : va_D A [(a0, .inr (0, [.ref a1, .ref a2, .ref a3, .ref a4, .int (nI K.1), .int (nI en)])), (a1, .inl (cI, 13, .inl K.2.1)), (a2, .inl (cI, 13, .inl K.2.2.1)), (a3, .inl (cI, 13, .inl K.2.2.2.1)), (a4, .inl (cI, 13, .inl K.2.2.2.2))] := hD
    rcases hc15 with ⟨rfl, j15, j15a, j15b, rfl⟩ | ⟨rfl, hno15⟩
    · skip
      refine lv_if_eq (tgt := 28) hx hb dn_C_enter_18 (by decide) (fun h => absurd h (by decide)) (fun _ => ?_)
      refine lv_aload_n hx hb dn_C_enter_21 rfl (lv_at hl 0 rfl) ?_
      refine lv_iload_n hx hb dn_C_enter_22 rfl (lv_at hl 1 rfl) ?_
      refine lv_iload_n hx hb dn_C_enter_23 rfl (lv_at hl 2 rfl) ?_
      refine lv_iload_n hx hb dn_C_enter_24 rfl (lv_at hl 3 rfl) ?_
      refine gc_vv (pre := []) (wc := [(a0, .inr (0, [.ref a1, .ref a2, .ref a3, .ref a4, .int (nI K.1), .int (nI en)])), (a1, .inl (cI, 13, .inl K.2.1)), (a2, .inl (cI, 13, .inl K.2.2.1)), (a3, .inl (cI, 13, .inl K.2.2.2.1)), (a4, .inl (cI, 13, .inl K.2.2.2.2))]) (po := []) (As := [.int 5, .int (nI j15), .int v]) (rest := []) ⟨hx, hb, hml, hown, hw⟩ (c_C_changeObject5 l dC dI cI cZ a0 a1 a2 a3 a4 K en (by omega) j15 (by omega) (by omega) v) (gw_cV 3 hw mw_224 mw_226 mv_10 mw_3 mw_227 hd_C_changeObject ⟨Nat.le_of_ble_eq_true rfl, Nat.le_of_ble_eq_true rfl⟩) (ci := 0) rfl rfl rfl hK hP hD hS hA rfl hl.1 rfl (Nat.le_of_ble_eq_true rfl) dn_C_enter_25 ⟨Nat.zero_le _, Nat.zero_le _⟩ (fun u25 H locs hc25 hP hD hS => ?_)
      have hP : va_P (dC, dI) vwCl [(a0, .inr (0, [.ref a1, .ref a2, .ref a3, .ref a4, .int (nI K.1), .int (nI en)])), (a1, .inl (cI, 13, .inl (upd K.2.1 j15 2))), (a2, .inl (cI, 13, .inl K.2.2.1)), (a3, .inl (cI, 13, .inl K.2.2.2.1)), (a4, .inl (cI, 13, .inl K.2.2.2.2))] H := hP
      have hD : va_D A [(a0, .inr (0, [.ref a1, .ref a2, .ref a3, .ref a4, .int (nI K.1), .int (nI en)])), (a1, .inl (cI, 13, .inl (upd K.2.1 j15 2))), (a2, .inl (cI, 13, .inl K.2.2.1)), (a3, .inl (cI, 13, .inl K.2.2.2.1)), (a4, .inl (cI, 13, .inl K.2.2.2.2))] := hD
      refine lv_aload_n hx hb dn_C_enter_28 rfl (lv_at hl 0 rfl) ?_
      refine lv_dup hx hb dn_C_enter_29 rfl ?_
      refine va_get (D := (dC, dI)) (ci := 0) (v := .int (nI en)) (C := rn_C) (T := tn_C) (N := 6) hx hb hw ml_C hown hK hP 0 rfl rfl 5 (by decide) (hw _ mw_42) (fun _ h9 => h9) rfl dn_C_enter_30 ?_
      refine lv_iconst (v := 1) hx hb dn_C_enter_33 (by decide) ?_
      refine gr_addN hx hb en 1 rfl rfl dn_C_enter_34 ?_
      refine va_put (D := (dC, dI)) (ci := 0) (v := .int (nI (en + 1))) (ty := .int) (C := rn_C) (T := tn_C) (N := 6) hx hb hw ml_C tt_C to_C nd_C hown hK hP hD hS 0 rfl rfl 5 (by decide) (hw _ mw_42) (fun _ h9 => h9) rfl (by decide +kernel) rfl rfl (Nat.le_of_ble_eq_true rfl) dn_C_enter_35 (fun H locs hP hD hS => ?_)
      have hP : va_P (dC, dI) vwCl [(a0, .inr (0, [.ref a1, .ref a2, .ref a3, .ref a4, .int (nI K.1), .int (nI (en + 1))])), (a1, .inl (cI, 13, .inl (upd K.2.1 j15 2))), (a2, .inl (cI, 13, .inl K.2.2.1)), (a3, .inl (cI, 13, .inl K.2.2.2.1)), (a4, .inl (cI, 13, .inl K.2.2.2.2))] H := hP
      have hD : va_D A [(a0, .inr (0, [.ref a1, .ref a2, .ref a3, .ref a4, .int (nI K.1), .int (nI (en + 1))])), (a1, .inl (cI, 13, .inl (upd K.2.1 j15 2))), (a2, .inl (cI, 13, .inl K.2.2.1)), (a3, .inl (cI, 13, .inl K.2.2.2.1)), (a4, .inl (cI, 13, .inl K.2.2.2.2))] := hD
      exact hret (K.1, upd K.2.1 j15 2, K.2.2.1, K.2.2.2.1, K.2.2.2.2) _ _ _ _ (ap_5 K en (by omega) v) hP hD hS dn_C_enter_38
    · skip
      exact (ct_ru_no ho (by decide) hr hno15).elim
  · skip
    refine lv_iload_n hx hb dn_C_enter_0 rfl (lv_at hl 1 rfl) ?_
    refine lv_iconst (v := 1) hx hb dn_C_enter_1 (by decide) ?_
    refine lv_icmp_ne (tgt := 13) hx hb dn_C_enter_2 (by decide) (fun _ => ?_) (fun h => absurd h (by decide))
    refine lv_aload_n hx hb dn_C_enter_13 rfl (lv_at hl 0 rfl) ?_
    refine lv_iload_n hx hb dn_C_enter_14 rfl (lv_at hl 2 rfl) ?_
    refine gc_vi (pre := []) (wc := [(a0, .inr (0, [.ref a1, .ref a2, .ref a3, .ref a4, .int (nI K.1), .int (nI en)])), (a1, .inl (cI, 13, .inl K.2.1)), (a2, .inl (cI, 13, .inl K.2.2.1)), (a3, .inl (cI, 13, .inl K.2.2.2.1)), (a4, .inl (cI, 13, .inl K.2.2.2.2))]) (po := []) (As := [.int id]) (rest := []) ⟨hx, hb, hml, hown, hw⟩ (c_C_isThere l dC dI cI cZ a0 a1 a2 a3 a4 K en (by omega) id) (gw_cV 1 hw mw_158 mw_159 mw_160 mw_3 mw_161 hd_C_isThere ⟨Nat.le_of_ble_eq_true rfl, Nat.le_of_ble_eq_true rfl⟩) (ci := 0) rfl rfl rfl hK hP hD hS hA rfl hl.1 rfl (Nat.le_of_ble_eq_true rfl) dn_C_enter_15 ⟨Nat.zero_le _, Nat.zero_le _⟩ (fun r15 u15 H locs hc15 hP hD hS => ?_)
    have hP : va_P (dC, dI) vwCl [(a0, .inr (0, [.ref a1, .ref a2, .ref a3, .ref a4, .int (nI K.1), .int (nI en)])), (a1, .inl (cI, 13, .inl K.2.1)), (a2, .inl (cI, 13, .inl K.2.2.1)), (a3, .inl (cI, 13, .inl K.2.2.2.1)), (a4, .inl (cI, 13, .inl K.2.2.2.2))] H := hP
    have hD : va_D A [(a0, .inr (0, [.ref a1, .ref a2, .ref a3, .ref a4, .int (nI K.1), .int (nI en)])), (a1, .inl (cI, 13, .inl K.2.1)), (a2, .inl (cI, 13, .inl K.2.2.1)), (a3, .inl (cI, 13, .inl K.2.2.2.1)), (a4, .inl (cI, 13, .inl K.2.2.2.2))] := hD
    rcases hc15 with ⟨rfl, j15, j15a, j15b, rfl⟩ | ⟨rfl, hno15⟩
    · skip
      refine lv_if_eq (tgt := 28) hx hb dn_C_enter_18 (by decide) (fun h => absurd h (by decide)) (fun _ => ?_)
      refine lv_aload_n hx hb dn_C_enter_21 rfl (lv_at hl 0 rfl) ?_
      refine lv_iload_n hx hb dn_C_enter_22 rfl (lv_at hl 1 rfl) ?_
      refine lv_iload_n hx hb dn_C_enter_23 rfl (lv_at hl 2 rfl) ?_
      refine lv_iload_n hx hb dn_C_enter_24 rfl (lv_at hl 3 rfl) ?_
      refine gc_vv (pre := []) (wc := [(a0, .inr (0, [.ref a1, .ref a2, .ref a3, .ref a4, .int (nI K.1), .int (nI en)])), (a1, .inl (cI, 13, .inl K.2.1)), (a2, .inl (cI, 13, .inl K.2.2.1)), (a3, .inl (cI, 13, .inl K.2.2.2.1)), (a4, .inl (cI, 13, .inl K.2.2.2.2))]) (po := []) (As := [.int 6, .int (nI j15), .int v]) (rest := []) ⟨hx, hb, hml, hown, hw⟩ (c_C_changeObject6 l dC dI cI cZ a0 a1 a2 a3 a4 K en (by omega) j15 (by omega) (by omega) v) (gw_cV 3 hw mw_224 mw_226 mv_10 mw_3 mw_227 hd_C_changeObject ⟨Nat.le_of_ble_eq_true rfl, Nat.le_of_ble_eq_true rfl⟩) (ci := 0) rfl rfl rfl hK hP hD hS hA rfl hl.1 rfl (Nat.le_of_ble_eq_true rfl) dn_C_enter_25 ⟨Nat.zero_le _, Nat.zero_le _⟩ (fun u25 H locs hc25 hP hD hS => ?_)
      have hP : va_P (dC, dI) vwCl [(a0, .inr (0, [.ref a1, .ref a2, .ref a3, .ref a4, .int (nI K.1), .int (nI en)])), (a1, .inl (cI, 13, .inl (upd K.2.1 j15 3))), (a2, .inl (cI, 13, .inl K.2.2.1)), (a3, .inl (cI, 13, .inl K.2.2.2.1)), (a4, .inl (cI, 13, .inl K.2.2.2.2))] H := hP
      have hD : va_D A [(a0, .inr (0, [.ref a1, .ref a2, .ref a3, .ref a4, .int (nI K.1), .int (nI en)])), (a1, .inl (cI, 13, .inl (upd K.2.1 j15 3))), (a2, .inl (cI, 13, .inl K.2.2.1)), (a3, .inl (cI, 13, .inl K.2.2.2.1)), (a4, .inl (cI, 13, .inl K.2.2.2.2))] := hD
      refine lv_aload_n hx hb dn_C_enter_28 rfl (lv_at hl 0 rfl) ?_
      refine lv_dup hx hb dn_C_enter_29 rfl ?_
      refine va_get (D := (dC, dI)) (ci := 0) (v := .int (nI en)) (C := rn_C) (T := tn_C) (N := 6) hx hb hw ml_C hown hK hP 0 rfl rfl 5 (by decide) (hw _ mw_42) (fun _ h9 => h9) rfl dn_C_enter_30 ?_
      refine lv_iconst (v := 1) hx hb dn_C_enter_33 (by decide) ?_
      refine gr_addN hx hb en 1 rfl rfl dn_C_enter_34 ?_
      refine va_put (D := (dC, dI)) (ci := 0) (v := .int (nI (en + 1))) (ty := .int) (C := rn_C) (T := tn_C) (N := 6) hx hb hw ml_C tt_C to_C nd_C hown hK hP hD hS 0 rfl rfl 5 (by decide) (hw _ mw_42) (fun _ h9 => h9) rfl (by decide +kernel) rfl rfl (Nat.le_of_ble_eq_true rfl) dn_C_enter_35 (fun H locs hP hD hS => ?_)
      have hP : va_P (dC, dI) vwCl [(a0, .inr (0, [.ref a1, .ref a2, .ref a3, .ref a4, .int (nI K.1), .int (nI (en + 1))])), (a1, .inl (cI, 13, .inl (upd K.2.1 j15 3))), (a2, .inl (cI, 13, .inl K.2.2.1)), (a3, .inl (cI, 13, .inl K.2.2.2.1)), (a4, .inl (cI, 13, .inl K.2.2.2.2))] H := hP
      have hD : va_D A [(a0, .inr (0, [.ref a1, .ref a2, .ref a3, .ref a4, .int (nI K.1), .int (nI (en + 1))])), (a1, .inl (cI, 13, .inl (upd K.2.1 j15 3))), (a2, .inl (cI, 13, .inl K.2.2.1)), (a3, .inl (cI, 13, .inl K.2.2.2.1)), (a4, .inl (cI, 13, .inl K.2.2.2.2))] := hD
      exact hret (K.1, upd K.2.1 j15 3, K.2.2.1, K.2.2.2.1, K.2.2.2.2) _ _ _ _ (ap_6 K en (by omega) v) hP hD hS dn_C_enter_38
    · skip
      exact (ct_ru_no ho (by decide) hr hno15).elim

set_option maxRecDepth 100000 in
set_option maxHeartbeats 4000000 in
theorem c_C_isTimely (l : Launch) (dC : Nat → ClassId) (dI : Nat → Nat → Nat) (cI cZ : ClassId) (a0 a1 a2 : Nat) (f g : Nat → Int32) (r : Nat) (hr : r < 40) (k : Int32) : gc_I l yn_C_isTimely (gw yn_C_isTimely cn_C_isTimely 5 (some .boolean)) (rm_ 3 63) (dC, dI) vwCl (gT cI cZ) [.ref a0, .int (nI r), .int k] [(a0, .inr (3, [.ref a1, .ref a2])), (a1, .inl (cI, 292, .inl f)), (a2, .inl (cI, 40, .inl g))] (fun x (_ : Unit) => (x = 1 ∧ (ct_bf f r ≤ f (7 * r + 5) ∧ f (7 * r + 5) ≤ k)) ∨ (x = 0 ∧ ¬ (ct_bf f r ≤ f (7 * r + 5) ∧ f (7 * r + 5) ≤ k))) (fun _ => [(a0, .inr (3, [.ref a1, .ref a2])), (a1, .inl (cI, 292, .inl f)), (a2, .inl (cI, 40, .inl g))]) := by
  refine gc_I_of (cc := cn_C_isTimely) (maxL := 5) (ty := .boolean) (by decide) rfl (Nat.le_of_ble_eq_true rfl) ?_
  intro pp ee ss mm ar be me cd A Q ls H0 H locs hx hb hml hown hts hK hP hD hS hA hl hret
  have hw : ∀ w ∈ gw_T, w.before ar ss = true := fun w h => hts w (List.mem_cons_of_mem _ h)
  have hl : lv_has ls 5 [(0, .ref a0), (1, .int (nI r)), (2, .int k)] := hl
  refine lv_aload_n hx hb dn_C_isTimely_0 rfl (lv_at hl 0 rfl) ?_
  refine lv_iload_n hx hb dn_C_isTimely_1 rfl (lv_at hl 1 rfl) ?_
  refine lv_iconst (v := 5) hx hb dn_C_isTimely_2 (by decide) ?_
  refine gc_vi (pre := []) (wc := [(a0, .inr (3, [.ref a1, .ref a2])), (a1, .inl (cI, 292, .inl f)), (a2, .inl (cI, 40, .inl g))]) (po := []) (As := [.int (nI r), .int 5]) (rest := []) ⟨hx, hb, hml, hown, hw⟩ (c_G_field l dC dI cI cZ a0 a1 a2 f g r 5 (by omega)) (gw_cV 2 hw mw_438 mw_266 mw_267 mw_2 mw_268 hd_G_field ⟨Nat.le_of_ble_eq_true rfl, Nat.le_of_ble_eq_true rfl⟩) (ci := 3) rfl rfl rfl hK hP hD hS hA rfl hl.1 rfl (Nat.le_of_ble_eq_true rfl) dn_C_isTimely_3 ⟨Nat.zero_le _, Nat.zero_le _⟩ (fun r3 u3 H locs hc3 hP hD hS => ?_)
  subst hc3
  have hP : va_P (dC, dI) vwCl [(a0, .inr (3, [.ref a1, .ref a2])), (a1, .inl (cI, 292, .inl f)), (a2, .inl (cI, 40, .inl g))] H := hP
  have hD : va_D A [(a0, .inr (3, [.ref a1, .ref a2])), (a1, .inl (cI, 292, .inl f)), (a2, .inl (cI, 40, .inl g))] := hD
  refine lv_istore_n (lv' := [(3, .int (f (7 * r + 5))), (0, .ref a0), (1, .int (nI r)), (2, .int k)]) hx hb dn_C_isTimely_6 rfl hl (by decide) rfl (fun ls hl => ?_)
  refine lv_iload_n hx hb dn_C_isTimely_7 rfl (lv_at hl 2 rfl) ?_
  refine gr_zne (tgt := 15) hx hb r rfl (by omega) dn_C_isTimely_8 (by decide) (fun h8 => ?_) (fun h8 => ?_)
  · skip
    refine lv_aload_n hx hb dn_C_isTimely_15 rfl (lv_at hl 1 rfl) ?_
    refine lv_iload_n hx hb dn_C_isTimely_16 rfl (lv_at hl 2 rfl) ?_
    refine lv_iconst (v := 1) hx hb dn_C_isTimely_17 (by decide) ?_
    refine gr_subN hx hb r 1 rfl rfl (by omega) dn_C_isTimely_18 ?_
    refine lv_iconst (v := 5) hx hb dn_C_isTimely_19 (by decide) ?_
    refine gc_vi (pre := []) (wc := [(a0, .inr (3, [.ref a1, .ref a2])), (a1, .inl (cI, 292, .inl f)), (a2, .inl (cI, 40, .inl g))]) (po := []) (As := [.int (nI (r - 1)), .int 5]) (rest := []) ⟨hx, hb, hml, hown, hw⟩ (c_G_field l dC dI cI cZ a0 a1 a2 f g (r - 1) 5 (by omega)) (gw_cV 2 hw mw_438 mw_266 mw_267 mw_2 mw_268 hd_G_field ⟨Nat.le_of_ble_eq_true rfl, Nat.le_of_ble_eq_true rfl⟩) (ci := 3) rfl rfl rfl hK hP hD hS hA rfl hl.1 rfl (Nat.le_of_ble_eq_true rfl) dn_C_isTimely_20 ⟨Nat.zero_le _, Nat.zero_le _⟩ (fun r20 u20 H locs hc20 hP hD hS => ?_)
    subst hc20
    have hP : va_P (dC, dI) vwCl [(a0, .inr (3, [.ref a1, .ref a2])), (a1, .inl (cI, 292, .inl f)), (a2, .inl (cI, 40, .inl g))] H := hP
    have hD : va_D A [(a0, .inr (3, [.ref a1, .ref a2])), (a1, .inl (cI, 292, .inl f)), (a2, .inl (cI, 40, .inl g))] := hD
    refine gr_top (y := ct_bf f r) (by unfold ct_bf; first | rw [if_pos h8] | rw [if_neg h8]) ?_
    refine lv_istore (lv' := [(4, .int (ct_bf f r)), (3, .int (f (7 * r + 5))), (0, .ref a0), (1, .int (nI r)), (2, .int k)]) hx hb dn_C_isTimely_23 hl (by decide) rfl (fun ls hl => ?_)
    refine lv_iload hx hb dn_C_isTimely_25 (lv_at hl 0 rfl) ?_
    refine lv_iload_n hx hb dn_C_isTimely_27 rfl (lv_at hl 1 rfl) ?_
    refine lv_icmp_gt (tgt := 40) hx hb dn_C_isTimely_28 (by decide) (fun h28 => ?_) (fun h28 => ?_)
    · skip
      refine lv_iconst (v := 0) hx hb dn_C_isTimely_40 (by decide) ?_
      exact hret 0 () _ _ _ _ (Or.inr ⟨rfl, fun q => by first | exact absurd q.1 (Int32.not_le.mpr h28) | exact absurd q.2 (Int32.not_le.mpr h33)⟩) rfl hP hD hS dn_C_isTimely_41
    · skip
      refine lv_iload_n hx hb dn_C_isTimely_31 rfl (lv_at hl 1 rfl) ?_
      refine lv_iload_n hx hb dn_C_isTimely_32 rfl (lv_at hl 4 rfl) ?_
      refine lv_icmp_gt (tgt := 40) hx hb dn_C_isTimely_33 (by decide) (fun h33 => ?_) (fun h33 => ?_)
      · skip
        refine lv_iconst (v := 0) hx hb dn_C_isTimely_40 (by decide) ?_
        exact hret 0 () _ _ _ _ (Or.inr ⟨rfl, fun q => by first | exact absurd q.1 (Int32.not_le.mpr h28) | exact absurd q.2 (Int32.not_le.mpr h33)⟩) rfl hP hD hS dn_C_isTimely_41
      · skip
        refine lv_iconst (v := 1) hx hb dn_C_isTimely_36 (by decide) ?_
        refine lv_goto (tgt := 41) hx hb dn_C_isTimely_37 (by decide) ?_
        exact hret 1 () _ _ _ _ (Or.inl ⟨rfl, Int32.not_lt.mp h28, Int32.not_lt.mp h33⟩) rfl hP hD hS dn_C_isTimely_41
  · skip
    refine lv_iconst (v := 0) hx hb dn_C_isTimely_11 (by decide) ?_
    refine lv_goto (tgt := 23) hx hb dn_C_isTimely_12 (by decide) ?_
    refine gr_top (y := ct_bf f r) (by unfold ct_bf; first | rw [if_pos h8] | rw [if_neg h8]) ?_
    refine lv_istore (lv' := [(4, .int (ct_bf f r)), (3, .int (f (7 * r + 5))), (0, .ref a0), (1, .int (nI r)), (2, .int k)]) hx hb dn_C_isTimely_23 hl (by decide) rfl (fun ls hl => ?_)
    refine lv_iload hx hb dn_C_isTimely_25 (lv_at hl 0 rfl) ?_
    refine lv_iload_n hx hb dn_C_isTimely_27 rfl (lv_at hl 1 rfl) ?_
    refine lv_icmp_gt (tgt := 40) hx hb dn_C_isTimely_28 (by decide) (fun h28 => ?_) (fun h28 => ?_)
    · skip
      refine lv_iconst (v := 0) hx hb dn_C_isTimely_40 (by decide) ?_
      exact hret 0 () _ _ _ _ (Or.inr ⟨rfl, fun q => by first | exact absurd q.1 (Int32.not_le.mpr h28) | exact absurd q.2 (Int32.not_le.mpr h33)⟩) rfl hP hD hS dn_C_isTimely_41
    · skip
      refine lv_iload_n hx hb dn_C_isTimely_31 rfl (lv_at hl 1 rfl) ?_
      refine lv_iload_n hx hb dn_C_isTimely_32 rfl (lv_at hl 4 rfl) ?_
      refine lv_icmp_gt (tgt := 40) hx hb dn_C_isTimely_33 (by decide) (fun h33 => ?_) (fun h33 => ?_)
      · skip
        refine lv_iconst (v := 0) hx hb dn_C_isTimely_40 (by decide) ?_
        exact hret 0 () _ _ _ _ (Or.inr ⟨rfl, fun q => by first | exact absurd q.1 (Int32.not_le.mpr h28) | exact absurd q.2 (Int32.not_le.mpr h33)⟩) rfl hP hD hS dn_C_isTimely_41
      · skip
        refine lv_iconst (v := 1) hx hb dn_C_isTimely_36 (by decide) ?_
        refine lv_goto (tgt := 41) hx hb dn_C_isTimely_37 (by decide) ?_
        exact hret 1 () _ _ _ _ (Or.inl ⟨rfl, Int32.not_lt.mp h28, Int32.not_lt.mp h33⟩) rfl hP hD hS dn_C_isTimely_41

set_option maxRecDepth 100000 in
set_option maxHeartbeats 4000000 in
theorem c_C_isWellFormed (l : Launch) (dC : Nat → ClassId) (dI : Nat → Nat → Nat) (cI cZ : ClassId) (a0 a1 a2 a3 a4 : Nat) (K : ct_T) (en : Nat) (ho : K.1 ≤ 12) (b0 b1 b2 : Nat) (f g : Nat → Int32) (r : Nat) (hr : r < 40) : gc_I l yn_C_isWellFormed (gw yn_C_isWellFormed cn_C_isWellFormed 5 (some .boolean)) (rm_ 3 63) (dC, dI) vwCl (gT cI cZ) [.ref a0, .ref b0, .int (nI r)] [(a0, .inr (0, [.ref a1, .ref a2, .ref a3, .ref a4, .int (nI K.1), .int (nI en)])), (a1, .inl (cI, 13, .inl K.2.1)), (a2, .inl (cI, 13, .inl K.2.2.1)), (a3, .inl (cI, 13, .inl K.2.2.2.1)), (a4, .inl (cI, 13, .inl K.2.2.2.2)), (b0, .inr (3, [.ref b1, .ref b2])), (b1, .inl (cI, 292, .inl f)), (b2, .inl (cI, 40, .inl g))] (fun x (_ : Unit) => (x = 1 ∧ ct_wf f r K.1) ∨ (x = 0 ∧ ¬ ct_wf f r K.1)) (fun _ => [(a0, .inr (0, [.ref a1, .ref a2, .ref a3, .ref a4, .int (nI K.1), .int (nI en)])), (a1, .inl (cI, 13, .inl K.2.1)), (a2, .inl (cI, 13, .inl K.2.2.1)), (a3, .inl (cI, 13, .inl K.2.2.2.1)), (a4, .inl (cI, 13, .inl K.2.2.2.2)), (b0, .inr (3, [.ref b1, .ref b2])), (b1, .inl (cI, 292, .inl f)), (b2, .inl (cI, 40, .inl g))]) := by
  refine gc_I_of (cc := cn_C_isWellFormed) (maxL := 5) (ty := .boolean) (by decide) rfl (Nat.le_of_ble_eq_true rfl) ?_
  intro pp ee ss mm ar be me cd A Q ls H0 H locs hx hb hml hown hts hK hP hD hS hA hl hret
  have hw : ∀ w ∈ gw_T, w.before ar ss = true := fun w h => hts w (List.mem_cons_of_mem _ h)
  have hl : lv_has ls 5 [(0, .ref a0), (1, .ref b0), (2, .int (nI r))] := hl
  refine lv_aload_n hx hb dn_C_isWellFormed_0 rfl (lv_at hl 1 rfl) ?_
  refine lv_iload_n hx hb dn_C_isWellFormed_1 rfl (lv_at hl 2 rfl) ?_
  refine lv_iconst (v := 0) hx hb dn_C_isWellFormed_2 (by decide) ?_
  refine gc_vi (pre := [(a0, .inr (0, [.ref a1, .ref a2, .ref a3, .ref a4, .int (nI K.1), .int (nI en)])), (a1, .inl (cI, 13, .inl K.2.1)), (a2, .inl (cI, 13, .inl K.2.2.1)), (a3, .inl (cI, 13, .inl K.2.2.2.1)), (a4, .inl (cI, 13, .inl K.2.2.2.2))]) (wc := [(b0, .inr (3, [.ref b1, .ref b2])), (b1, .inl (cI, 292, .inl f)), (b2, .inl (cI, 40, .inl g))]) (po := []) (As := [.int (nI r), .int 0]) (rest := []) ⟨hx, hb, hml, hown, hw⟩ (c_G_field0 l dC dI cI cZ b0 b1 b2 f g r (by omega)) (gw_cV 2 hw mw_438 mw_266 mw_267 mw_2 mw_268 hd_G_field ⟨Nat.le_of_ble_eq_true rfl, Nat.le_of_ble_eq_true rfl⟩) (ci := 3) rfl rfl rfl hK hP hD hS hA rfl hl.1 rfl (Nat.le_of_ble_eq_true rfl) dn_C_isWellFormed_3 ⟨Nat.zero_le _, Nat.zero_le _⟩ (fun r3 u3 H locs hc3 hP hD hS => ?_)
  subst hc3
  have hP : va_P (dC, dI) vwCl [(a0, .inr (0, [.ref a1, .ref a2, .ref a3, .ref a4, .int (nI K.1), .int (nI en)])), (a1, .inl (cI, 13, .inl K.2.1)), (a2, .inl (cI, 13, .inl K.2.2.1)), (a3, .inl (cI, 13, .inl K.2.2.2.1)), (a4, .inl (cI, 13, .inl K.2.2.2.2)), (b0, .inr (3, [.ref b1, .ref b2])), (b1, .inl (cI, 292, .inl f)), (b2, .inl (cI, 40, .inl g))] H := hP
  have hD : va_D A [(a0, .inr (0, [.ref a1, .ref a2, .ref a3, .ref a4, .int (nI K.1), .int (nI en)])), (a1, .inl (cI, 13, .inl K.2.1)), (a2, .inl (cI, 13, .inl K.2.2.1)), (a3, .inl (cI, 13, .inl K.2.2.2.1)), (a4, .inl (cI, 13, .inl K.2.2.2.2)), (b0, .inr (3, [.ref b1, .ref b2])), (b1, .inl (cI, 292, .inl f)), (b2, .inl (cI, 40, .inl g))] := hD
  refine lv_istore_n (lv' := [(3, .int (f (7 * r))), (0, .ref a0), (1, .ref b0), (2, .int (nI r))]) hx hb dn_C_isWellFormed_6 rfl hl (by decide) rfl (fun ls hl => ?_)
  refine lv_iload_n hx hb dn_C_isWellFormed_7 rfl (lv_at hl 0 rfl) ?_
  refine lv_iconst (v := 1) hx hb dn_C_isWellFormed_8 (by decide) ?_
  refine lv_icmp_ne (tgt := 31) hx hb dn_C_isWellFormed_9 (by decide) (fun h9 => ?_) (fun h9 => ?_)
  · skip
    refine lv_aload_n hx hb dn_C_isWellFormed_31 rfl (lv_at hl 2 rfl) ?_
    refine lv_iload_n hx hb dn_C_isWellFormed_32 rfl (lv_at hl 3 rfl) ?_
    refine lv_iconst (v := 3) hx hb dn_C_isWellFormed_33 (by decide) ?_
    refine gc_vi (pre := [(a0, .inr (0, [.ref a1, .ref a2, .ref a3, .ref a4, .int (nI K.1), .int (nI en)])), (a1, .inl (cI, 13, .inl K.2.1)), (a2, .inl (cI, 13, .inl K.2.2.1)), (a3, .inl (cI, 13, .inl K.2.2.2.1)), (a4, .inl (cI, 13, .inl K.2.2.2.2))]) (wc := [(b0, .inr (3, [.ref b1, .ref b2])), (b1, .inl (cI, 292, .inl f)), (b2, .inl (cI, 40, .inl g))]) (po := []) (As := [.int (nI r), .int 3]) (rest := []) ⟨hx, hb, hml, hown, hw⟩ (c_G_field l dC dI cI cZ b0 b1 b2 f g r 3 (by omega)) (gw_cV 2 hw mw_438 mw_266 mw_267 mw_2 mw_268 hd_G_field ⟨Nat.le_of_ble_eq_true rfl, Nat.le_of_ble_eq_true rfl⟩) (ci := 3) rfl rfl rfl hK hP hD hS hA rfl hl.1 rfl (Nat.le_of_ble_eq_true rfl) dn_C_isWellFormed_34 ⟨Nat.zero_le _, Nat.zero_le _⟩ (fun r34 u34 H locs hc34 hP hD hS => ?_)
    subst hc34
    have hP : va_P (dC, dI) vwCl [(a0, .inr (0, [.ref a1, .ref a2, .ref a3, .ref a4, .int (nI K.1), .int (nI en)])), (a1, .inl (cI, 13, .inl K.2.1)), (a2, .inl (cI, 13, .inl K.2.2.1)), (a3, .inl (cI, 13, .inl K.2.2.2.1)), (a4, .inl (cI, 13, .inl K.2.2.2.2)), (b0, .inr (3, [.ref b1, .ref b2])), (b1, .inl (cI, 292, .inl f)), (b2, .inl (cI, 40, .inl g))] H := hP
    have hD : va_D A [(a0, .inr (0, [.ref a1, .ref a2, .ref a3, .ref a4, .int (nI K.1), .int (nI en)])), (a1, .inl (cI, 13, .inl K.2.1)), (a2, .inl (cI, 13, .inl K.2.2.1)), (a3, .inl (cI, 13, .inl K.2.2.2.1)), (a4, .inl (cI, 13, .inl K.2.2.2.2)), (b0, .inr (3, [.ref b1, .ref b2])), (b1, .inl (cI, 292, .inl f)), (b2, .inl (cI, 40, .inl g))] := hD
    refine lv_if_ne (tgt := 49) hx hb dn_C_isWellFormed_37 (by decide) (fun h37 => ?_) (fun h37 => ?_)
    · skip
      refine lv_iconst (v := 0) hx hb dn_C_isWellFormed_49 (by decide) ?_
      exact hret 0 () _ _ _ _ (Or.inr ⟨rfl, by unfold ct_wf; simp [h9, h37]⟩) rfl hP hD hS dn_C_isWellFormed_50
    · skip
      refine lv_aload_n hx hb dn_C_isWellFormed_40 rfl (lv_at hl 2 rfl) ?_
      refine lv_iload_n hx hb dn_C_isWellFormed_41 rfl (lv_at hl 3 rfl) ?_
      refine lv_iconst (v := 4) hx hb dn_C_isWellFormed_42 (by decide) ?_
      refine gc_vi (pre := [(a0, .inr (0, [.ref a1, .ref a2, .ref a3, .ref a4, .int (nI K.1), .int (nI en)])), (a1, .inl (cI, 13, .inl K.2.1)), (a2, .inl (cI, 13, .inl K.2.2.1)), (a3, .inl (cI, 13, .inl K.2.2.2.1)), (a4, .inl (cI, 13, .inl K.2.2.2.2))]) (wc := [(b0, .inr (3, [.ref b1, .ref b2])), (b1, .inl (cI, 292, .inl f)), (b2, .inl (cI, 40, .inl g))]) (po := []) (As := [.int (nI r), .int 4]) (rest := []) ⟨hx, hb, hml, hown, hw⟩ (c_G_field l dC dI cI cZ b0 b1 b2 f g r 4 (by omega)) (gw_cV 2 hw mw_438 mw_266 mw_267 mw_2 mw_268 hd_G_field ⟨Nat.le_of_ble_eq_true rfl, Nat.le_of_ble_eq_true rfl⟩) (ci := 3) rfl rfl rfl hK hP hD hS hA rfl hl.1 rfl (Nat.le_of_ble_eq_true rfl) dn_C_isWellFormed_43 ⟨Nat.zero_le _, Nat.zero_le _⟩ (fun r43 u43 H locs hc43 hP hD hS => ?_)
      subst hc43
      have hP : va_P (dC, dI) vwCl [(a0, .inr (0, [.ref a1, .ref a2, .ref a3, .ref a4, .int (nI K.1), .int (nI en)])), (a1, .inl (cI, 13, .inl K.2.1)), (a2, .inl (cI, 13, .inl K.2.2.1)), (a3, .inl (cI, 13, .inl K.2.2.2.1)), (a4, .inl (cI, 13, .inl K.2.2.2.2)), (b0, .inr (3, [.ref b1, .ref b2])), (b1, .inl (cI, 292, .inl f)), (b2, .inl (cI, 40, .inl g))] H := hP
      have hD : va_D A [(a0, .inr (0, [.ref a1, .ref a2, .ref a3, .ref a4, .int (nI K.1), .int (nI en)])), (a1, .inl (cI, 13, .inl K.2.1)), (a2, .inl (cI, 13, .inl K.2.2.1)), (a3, .inl (cI, 13, .inl K.2.2.2.1)), (a4, .inl (cI, 13, .inl K.2.2.2.2)), (b0, .inr (3, [.ref b1, .ref b2])), (b1, .inl (cI, 292, .inl f)), (b2, .inl (cI, 40, .inl g))] := hD
      refine lv_if_eq (tgt := 51) hx hb dn_C_isWellFormed_46 (by decide) (fun h46 => ?_) (fun h46 => ?_)
      · skip
        refine lv_iload_n hx hb dn_C_isWellFormed_51 rfl (lv_at hl 0 rfl) ?_
        refine lv_iconst (v := 5) hx hb dn_C_isWellFormed_52 (by decide) ?_
        refine lv_icmp_eq (tgt := 62) hx hb dn_C_isWellFormed_53 (by decide) (fun h53 => ?_) (fun h53 => ?_)
        · skip
          refine lv_iconst (v := 1) hx hb dn_C_isWellFormed_62 (by decide) ?_
          refine lv_goto (tgt := 67) hx hb dn_C_isWellFormed_63 (by decide) ?_
          refine lv_istore (lv' := [(4, .int 1), (3, .int (f (7 * r))), (0, .ref a0), (1, .ref b0), (2, .int (nI r))]) hx hb dn_C_isWellFormed_67 hl (by decide) rfl (fun ls hl => ?_)
          refine lv_iload hx hb dn_C_isWellFormed_69 (lv_at hl 0 rfl) ?_
          refine lv_if_eq (tgt := 83) hx hb dn_C_isWellFormed_71 (by decide) (fun h => absurd h (by decide)) (fun _ => ?_)
          refine lv_aload_n hx hb dn_C_isWellFormed_74 rfl (lv_at hl 3 rfl) ?_
          refine lv_iload_n hx hb dn_C_isWellFormed_75 rfl (lv_at hl 4 rfl) ?_
          refine lv_iconst (v := 2) hx hb dn_C_isWellFormed_76 (by decide) ?_
          refine gc_vi (pre := [(a0, .inr (0, [.ref a1, .ref a2, .ref a3, .ref a4, .int (nI K.1), .int (nI en)])), (a1, .inl (cI, 13, .inl K.2.1)), (a2, .inl (cI, 13, .inl K.2.2.1)), (a3, .inl (cI, 13, .inl K.2.2.2.1)), (a4, .inl (cI, 13, .inl K.2.2.2.2))]) (wc := [(b0, .inr (3, [.ref b1, .ref b2])), (b1, .inl (cI, 292, .inl f)), (b2, .inl (cI, 40, .inl g))]) (po := []) (As := [.int (nI r), .int 2]) (rest := []) ⟨hx, hb, hml, hown, hw⟩ (c_G_field l dC dI cI cZ b0 b1 b2 f g r 2 (by omega)) (gw_cV 2 hw mw_438 mw_266 mw_267 mw_2 mw_268 hd_G_field ⟨Nat.le_of_ble_eq_true rfl, Nat.le_of_ble_eq_true rfl⟩) (ci := 3) rfl rfl rfl hK hP hD hS hA rfl hl.1 rfl (Nat.le_of_ble_eq_true rfl) dn_C_isWellFormed_77 ⟨Nat.zero_le _, Nat.zero_le _⟩ (fun r77 u77 H locs hc77 hP hD hS => ?_)
          subst hc77
          have hP : va_P (dC, dI) vwCl [(a0, .inr (0, [.ref a1, .ref a2, .ref a3, .ref a4, .int (nI K.1), .int (nI en)])), (a1, .inl (cI, 13, .inl K.2.1)), (a2, .inl (cI, 13, .inl K.2.2.1)), (a3, .inl (cI, 13, .inl K.2.2.2.1)), (a4, .inl (cI, 13, .inl K.2.2.2.2)), (b0, .inr (3, [.ref b1, .ref b2])), (b1, .inl (cI, 292, .inl f)), (b2, .inl (cI, 40, .inl g))] H := hP
          have hD : va_D A [(a0, .inr (0, [.ref a1, .ref a2, .ref a3, .ref a4, .int (nI K.1), .int (nI en)])), (a1, .inl (cI, 13, .inl K.2.1)), (a2, .inl (cI, 13, .inl K.2.2.1)), (a3, .inl (cI, 13, .inl K.2.2.2.1)), (a4, .inl (cI, 13, .inl K.2.2.2.2)), (b0, .inr (3, [.ref b1, .ref b2])), (b1, .inl (cI, 292, .inl f)), (b2, .inl (cI, 40, .inl g))] := hD
          refine lv_if_ne (tgt := 87) hx hb dn_C_isWellFormed_80 (by decide) (fun h80 => ?_) (fun h80 => ?_)
          · skip
            refine lv_iconst (v := 0) hx hb dn_C_isWellFormed_87 (by decide) ?_
            exact hret 0 () _ _ _ _ (Or.inr ⟨rfl, by unfold ct_wf; simp [h9, h37, h46, h53, h80]⟩) rfl hP hD hS dn_C_isWellFormed_88
          · skip
            refine lv_iconst (v := 1) hx hb dn_C_isWellFormed_83 (by decide) ?_
            refine lv_goto (tgt := 88) hx hb dn_C_isWellFormed_84 (by decide) ?_
            exact hret 1 () _ _ _ _ (Or.inl ⟨rfl, by unfold ct_wf; refine ⟨?_, ?_, ?_⟩ <;> simp [h9, h37, h46, h53, h80]⟩) rfl hP hD hS dn_C_isWellFormed_88
        · skip
          refine lv_iload_n hx hb dn_C_isWellFormed_56 rfl (lv_at hl 0 rfl) ?_
          refine lv_bipush (v := 6) hx hb dn_C_isWellFormed_57 (by decide) ?_
          refine lv_icmp_ne (tgt := 66) hx hb dn_C_isWellFormed_59 (by decide) (fun h59 => ?_) (fun h59 => ?_)
          · skip
            refine lv_iconst (v := 0) hx hb dn_C_isWellFormed_66 (by decide) ?_
            refine lv_istore (lv' := [(4, .int 0), (3, .int (f (7 * r))), (0, .ref a0), (1, .ref b0), (2, .int (nI r))]) hx hb dn_C_isWellFormed_67 hl (by decide) rfl (fun ls hl => ?_)
            refine lv_iload hx hb dn_C_isWellFormed_69 (lv_at hl 0 rfl) ?_
            refine lv_if_eq (tgt := 83) hx hb dn_C_isWellFormed_71 (by decide) (fun _ => ?_) (fun h => absurd h (by decide))
            refine lv_iconst (v := 1) hx hb dn_C_isWellFormed_83 (by decide) ?_
            refine lv_goto (tgt := 88) hx hb dn_C_isWellFormed_84 (by decide) ?_
            exact hret 1 () _ _ _ _ (Or.inl ⟨rfl, by unfold ct_wf; refine ⟨?_, ?_, ?_⟩ <;> simp [h9, h37, h46, h53, h59]⟩) rfl hP hD hS dn_C_isWellFormed_88
          · skip
            refine lv_iconst (v := 1) hx hb dn_C_isWellFormed_62 (by decide) ?_
            refine lv_goto (tgt := 67) hx hb dn_C_isWellFormed_63 (by decide) ?_
            refine lv_istore (lv' := [(4, .int 1), (3, .int (f (7 * r))), (0, .ref a0), (1, .ref b0), (2, .int (nI r))]) hx hb dn_C_isWellFormed_67 hl (by decide) rfl (fun ls hl => ?_)
            refine lv_iload hx hb dn_C_isWellFormed_69 (lv_at hl 0 rfl) ?_
            refine lv_if_eq (tgt := 83) hx hb dn_C_isWellFormed_71 (by decide) (fun h => absurd h (by decide)) (fun _ => ?_)
            refine lv_aload_n hx hb dn_C_isWellFormed_74 rfl (lv_at hl 3 rfl) ?_
            refine lv_iload_n hx hb dn_C_isWellFormed_75 rfl (lv_at hl 4 rfl) ?_
            refine lv_iconst (v := 2) hx hb dn_C_isWellFormed_76 (by decide) ?_
            refine gc_vi (pre := [(a0, .inr (0, [.ref a1, .ref a2, .ref a3, .ref a4, .int (nI K.1), .int (nI en)])), (a1, .inl (cI, 13, .inl K.2.1)), (a2, .inl (cI, 13, .inl K.2.2.1)), (a3, .inl (cI, 13, .inl K.2.2.2.1)), (a4, .inl (cI, 13, .inl K.2.2.2.2))]) (wc := [(b0, .inr (3, [.ref b1, .ref b2])), (b1, .inl (cI, 292, .inl f)), (b2, .inl (cI, 40, .inl g))]) (po := []) (As := [.int (nI r), .int 2]) (rest := []) ⟨hx, hb, hml, hown, hw⟩ (c_G_field l dC dI cI cZ b0 b1 b2 f g r 2 (by omega)) (gw_cV 2 hw mw_438 mw_266 mw_267 mw_2 mw_268 hd_G_field ⟨Nat.le_of_ble_eq_true rfl, Nat.le_of_ble_eq_true rfl⟩) (ci := 3) rfl rfl rfl hK hP hD hS hA rfl hl.1 rfl (Nat.le_of_ble_eq_true rfl) dn_C_isWellFormed_77 ⟨Nat.zero_le _, Nat.zero_le _⟩ (fun r77 u77 H locs hc77 hP hD hS => ?_)
            subst hc77
            have hP : va_P (dC, dI) vwCl [(a0, .inr (0, [.ref a1, .ref a2, .ref a3, .ref a4, .int (nI K.1), .int (nI en)])), (a1, .inl (cI, 13, .inl K.2.1)), (a2, .inl (cI, 13, .inl K.2.2.1)), (a3, .inl (cI, 13, .inl K.2.2.2.1)), (a4, .inl (cI, 13, .inl K.2.2.2.2)), (b0, .inr (3, [.ref b1, .ref b2])), (b1, .inl (cI, 292, .inl f)), (b2, .inl (cI, 40, .inl g))] H := hP
            have hD : va_D A [(a0, .inr (0, [.ref a1, .ref a2, .ref a3, .ref a4, .int (nI K.1), .int (nI en)])), (a1, .inl (cI, 13, .inl K.2.1)), (a2, .inl (cI, 13, .inl K.2.2.1)), (a3, .inl (cI, 13, .inl K.2.2.2.1)), (a4, .inl (cI, 13, .inl K.2.2.2.2)), (b0, .inr (3, [.ref b1, .ref b2])), (b1, .inl (cI, 292, .inl f)), (b2, .inl (cI, 40, .inl g))] := hD
            refine lv_if_ne (tgt := 87) hx hb dn_C_isWellFormed_80 (by decide) (fun h80 => ?_) (fun h80 => ?_)
            · skip
              refine lv_iconst (v := 0) hx hb dn_C_isWellFormed_87 (by decide) ?_
              exact hret 0 () _ _ _ _ (Or.inr ⟨rfl, by unfold ct_wf; simp [h9, h37, h46, h53, h59, h80]⟩) rfl hP hD hS dn_C_isWellFormed_88
            · skip
              refine lv_iconst (v := 1) hx hb dn_C_isWellFormed_83 (by decide) ?_
              refine lv_goto (tgt := 88) hx hb dn_C_isWellFormed_84 (by decide) ?_
              exact hret 1 () _ _ _ _ (Or.inl ⟨rfl, by unfold ct_wf; refine ⟨?_, ?_, ?_⟩ <;> simp [h9, h37, h46, h53, h59, h80]⟩) rfl hP hD hS dn_C_isWellFormed_88
      · skip
        refine lv_iconst (v := 0) hx hb dn_C_isWellFormed_49 (by decide) ?_
        exact hret 0 () _ _ _ _ (Or.inr ⟨rfl, by unfold ct_wf; simp [h9, h37, h46]⟩) rfl hP hD hS dn_C_isWellFormed_50
  · skip
    refine lv_aload_n hx hb dn_C_isWellFormed_12 rfl (lv_at hl 2 rfl) ?_
    refine lv_iload_n hx hb dn_C_isWellFormed_13 rfl (lv_at hl 3 rfl) ?_
    refine lv_iconst (v := 1) hx hb dn_C_isWellFormed_14 (by decide) ?_
    refine gc_vi (pre := [(a0, .inr (0, [.ref a1, .ref a2, .ref a3, .ref a4, .int (nI K.1), .int (nI en)])), (a1, .inl (cI, 13, .inl K.2.1)), (a2, .inl (cI, 13, .inl K.2.2.1)), (a3, .inl (cI, 13, .inl K.2.2.2.1)), (a4, .inl (cI, 13, .inl K.2.2.2.2))]) (wc := [(b0, .inr (3, [.ref b1, .ref b2])), (b1, .inl (cI, 292, .inl f)), (b2, .inl (cI, 40, .inl g))]) (po := []) (As := [.int (nI r), .int 1]) (rest := []) ⟨hx, hb, hml, hown, hw⟩ (c_G_field l dC dI cI cZ b0 b1 b2 f g r 1 (by omega)) (gw_cV 2 hw mw_438 mw_266 mw_267 mw_2 mw_268 hd_G_field ⟨Nat.le_of_ble_eq_true rfl, Nat.le_of_ble_eq_true rfl⟩) (ci := 3) rfl rfl rfl hK hP hD hS hA rfl hl.1 rfl (Nat.le_of_ble_eq_true rfl) dn_C_isWellFormed_15 ⟨Nat.zero_le _, Nat.zero_le _⟩ (fun r15 u15 H locs hc15 hP hD hS => ?_)
    subst hc15
    have hP : va_P (dC, dI) vwCl [(a0, .inr (0, [.ref a1, .ref a2, .ref a3, .ref a4, .int (nI K.1), .int (nI en)])), (a1, .inl (cI, 13, .inl K.2.1)), (a2, .inl (cI, 13, .inl K.2.2.1)), (a3, .inl (cI, 13, .inl K.2.2.2.1)), (a4, .inl (cI, 13, .inl K.2.2.2.2)), (b0, .inr (3, [.ref b1, .ref b2])), (b1, .inl (cI, 292, .inl f)), (b2, .inl (cI, 40, .inl g))] H := hP
    have hD : va_D A [(a0, .inr (0, [.ref a1, .ref a2, .ref a3, .ref a4, .int (nI K.1), .int (nI en)])), (a1, .inl (cI, 13, .inl K.2.1)), (a2, .inl (cI, 13, .inl K.2.2.1)), (a3, .inl (cI, 13, .inl K.2.2.2.1)), (a4, .inl (cI, 13, .inl K.2.2.2.2)), (b0, .inr (3, [.ref b1, .ref b2])), (b1, .inl (cI, 292, .inl f)), (b2, .inl (cI, 40, .inl g))] := hD
    refine lv_aload_n hx hb dn_C_isWellFormed_18 rfl (lv_at hl 1 rfl) ?_
    refine gc_vi (pre := []) (wc := [(a0, .inr (0, [.ref a1, .ref a2, .ref a3, .ref a4, .int (nI K.1), .int (nI en)])), (a1, .inl (cI, 13, .inl K.2.1)), (a2, .inl (cI, 13, .inl K.2.2.1)), (a3, .inl (cI, 13, .inl K.2.2.2.1)), (a4, .inl (cI, 13, .inl K.2.2.2.2))]) (po := [(b0, .inr (3, [.ref b1, .ref b2])), (b1, .inl (cI, 292, .inl f)), (b2, .inl (cI, 40, .inl g))]) (As := []) (rest := [.int (f (7 * r + 1))]) ⟨hx, hb, hml, hown, hw⟩ (c_C_nextId l dC dI cI cZ a0 a1 a2 a3 a4 K en (by omega) ) (gw_cV 0 hw mw_443 mw_131 mw_132 mw_3 mw_133 hd_C_nextId ⟨Nat.le_of_ble_eq_true rfl, Nat.le_of_ble_eq_true rfl⟩) (ci := 0) rfl rfl rfl hK hP hD hS hA rfl hl.1 rfl (Nat.le_of_ble_eq_true rfl) dn_C_isWellFormed_19 ⟨Nat.zero_le _, Nat.zero_le _⟩ (fun r19 u19 H locs hc19 hP hD hS => ?_)
    subst hc19
    have hP : va_P (dC, dI) vwCl [(a0, .inr (0, [.ref a1, .ref a2, .ref a3, .ref a4, .int (nI K.1), .int (nI en)])), (a1, .inl (cI, 13, .inl K.2.1)), (a2, .inl (cI, 13, .inl K.2.2.1)), (a3, .inl (cI, 13, .inl K.2.2.2.1)), (a4, .inl (cI, 13, .inl K.2.2.2.2)), (b0, .inr (3, [.ref b1, .ref b2])), (b1, .inl (cI, 292, .inl f)), (b2, .inl (cI, 40, .inl g))] H := hP
    have hD : va_D A [(a0, .inr (0, [.ref a1, .ref a2, .ref a3, .ref a4, .int (nI K.1), .int (nI en)])), (a1, .inl (cI, 13, .inl K.2.1)), (a2, .inl (cI, 13, .inl K.2.2.1)), (a3, .inl (cI, 13, .inl K.2.2.2.1)), (a4, .inl (cI, 13, .inl K.2.2.2.2)), (b0, .inr (3, [.ref b1, .ref b2])), (b1, .inl (cI, 292, .inl f)), (b2, .inl (cI, 40, .inl g))] := hD
    refine lv_icmp_ne (tgt := 29) hx hb dn_C_isWellFormed_22 (by decide) (fun h22 => ?_) (fun h22 => ?_)
    · skip
      refine lv_iconst (v := 0) hx hb dn_C_isWellFormed_29 (by decide) ?_
      exact hret 0 () _ _ _ _ (Or.inr ⟨rfl, by unfold ct_wf; simp [h9, h22]⟩) rfl hP hD hS dn_C_isWellFormed_30
    · skip
      refine lv_iconst (v := 1) hx hb dn_C_isWellFormed_25 (by decide) ?_
      refine lv_goto (tgt := 30) hx hb dn_C_isWellFormed_26 (by decide) ?_
      exact hret 1 () _ _ _ _ (Or.inl ⟨rfl, by unfold ct_wf; refine ⟨?_, ?_, ?_⟩ <;> simp [h9, h22]⟩) rfl hP hD hS dn_C_isWellFormed_30
