theorem dn_J_rotateLeft_0 : decode cn_J_rotateLeft 0 = .ok (.iload_n 0, 1) := by decide +kernel
theorem dn_J_rotateLeft_1 : decode cn_J_rotateLeft 1 = .ok (.iload_n 1, 1) := by decide +kernel
theorem dn_J_rotateLeft_2 : decode cn_J_rotateLeft 2 = .ok (.ishl, 1) := by decide +kernel
theorem dn_J_rotateLeft_3 : decode cn_J_rotateLeft 3 = .ok (.iload_n 0, 1) := by decide +kernel
theorem dn_J_rotateLeft_4 : decode cn_J_rotateLeft 4 = .ok (.iload_n 1, 1) := by decide +kernel
theorem dn_J_rotateLeft_5 : decode cn_J_rotateLeft 5 = .ok (.ineg, 1) := by decide +kernel
theorem dn_J_rotateLeft_6 : decode cn_J_rotateLeft 6 = .ok (.iushr, 1) := by decide +kernel
theorem dn_J_rotateLeft_7 : decode cn_J_rotateLeft 7 = .ok (.ior, 1) := by decide +kernel
theorem dn_J_rotateLeft_8 : decode cn_J_rotateLeft 8 = .ok (.ireturn, 1) := by decide +kernel
theorem dn_H_mix_0 : decode cn_H_mix 0 = .ok (.iload_n 0, 1) := by decide +kernel
theorem dn_H_mix_1 : decode cn_H_mix 1 = .ok (.bipush 11, 2) := by decide +kernel
theorem dn_H_mix_3 : decode cn_H_mix 3 = .ok (.invokestatic 7, 3) := by decide +kernel
theorem dn_H_mix_6 : decode cn_H_mix 6 = .ok (.iload_n 1, 1) := by decide +kernel
theorem dn_H_mix_7 : decode cn_H_mix 7 = .ok (.ixor, 1) := by decide +kernel
theorem dn_H_mix_8 : decode cn_H_mix 8 = .ok (.ldc 13, 2) := by decide +kernel
theorem dn_H_mix_10 : decode cn_H_mix 10 = .ok (.imul, 1) := by decide +kernel
theorem dn_H_mix_11 : decode cn_H_mix 11 = .ok (.sipush 12345, 3) := by decide +kernel
theorem dn_H_mix_14 : decode cn_H_mix 14 = .ok (.iadd, 1) := by decide +kernel
theorem dn_H_mix_15 : decode cn_H_mix 15 = .ok (.istore_n 2, 1) := by decide +kernel
theorem dn_H_mix_16 : decode cn_H_mix 16 = .ok (.iload_n 2, 1) := by decide +kernel
theorem dn_H_mix_17 : decode cn_H_mix 17 = .ok (.iload_n 2, 1) := by decide +kernel
theorem dn_H_mix_18 : decode cn_H_mix 18 = .ok (.bipush 15, 2) := by decide +kernel
theorem dn_H_mix_20 : decode cn_H_mix 20 = .ok (.iushr, 1) := by decide +kernel
theorem dn_H_mix_21 : decode cn_H_mix 21 = .ok (.ixor, 1) := by decide +kernel
theorem dn_H_mix_22 : decode cn_H_mix 22 = .ok (.ireturn, 1) := by decide +kernel
theorem dn_H_node_0 : decode cn_H_node 0 = .ok (.iconst 2, 1) := by decide +kernel
theorem dn_H_node_1 : decode cn_H_node 1 = .ok (.iload_n 0, 1) := by decide +kernel
theorem dn_H_node_2 : decode cn_H_node 2 = .ok (.invokestatic 14, 3) := by decide +kernel
theorem dn_H_node_5 : decode cn_H_node 5 = .ok (.iload_n 1, 1) := by decide +kernel
theorem dn_H_node_6 : decode cn_H_node 6 = .ok (.invokestatic 14, 3) := by decide +kernel
theorem dn_H_node_9 : decode cn_H_node 9 = .ok (.ireturn, 1) := by decide +kernel
theorem dn_H_pad_0 : decode cn_H_pad 0 = .ok (.iload_n 0, 1) := by decide +kernel
theorem dn_H_pad_1 : decode cn_H_pad 1 = .ok (.iload_n 1, 1) := by decide +kernel
theorem dn_H_pad_2 : decode cn_H_pad 2 = .ok (.invokestatic 14, 3) := by decide +kernel
theorem dn_H_pad_5 : decode cn_H_pad 5 = .ok (.iload_n 2, 1) := by decide +kernel
theorem dn_H_pad_6 : decode cn_H_pad 6 = .ok (.invokestatic 14, 3) := by decide +kernel
theorem dn_H_pad_9 : decode cn_H_pad 9 = .ok (.ireturn, 1) := by decide +kernel
theorem dn_H_leafAt_0 : decode cn_H_leafAt 0 = .ok (.iconst 1, 1) := by decide +kernel
theorem dn_H_leafAt_1 : decode cn_H_leafAt 1 = .ok (.istore_n 2, 1) := by decide +kernel
theorem dn_H_leafAt_2 : decode cn_H_leafAt 2 = .ok (.iload_n 1, 1) := by decide +kernel
theorem dn_H_leafAt_3 : decode cn_H_leafAt 3 = .ok (.ifCond .lt 12, 3) := by decide +kernel
theorem dn_H_leafAt_6 : decode cn_H_leafAt 6 = .ok (.iload_n 1, 1) := by decide +kernel
theorem dn_H_leafAt_7 : decode cn_H_leafAt 7 = .ok (.aload_n 0, 1) := by decide +kernel
theorem dn_H_leafAt_8 : decode cn_H_leafAt 8 = .ok (.arraylength, 1) := by decide +kernel
theorem dn_H_leafAt_9 : decode cn_H_leafAt 9 = .ok (.bipush 6, 2) := by decide +kernel
theorem dn_H_leafAt_11 : decode cn_H_leafAt 11 = .ok (.isub, 1) := by decide +kernel
theorem dn_H_leafAt_12 : decode cn_H_leafAt 12 = .ok (.if_icmp .le 5, 3) := by decide +kernel
theorem dn_H_leafAt_15 : decode cn_H_leafAt 15 = .ok (.iload_n 2, 1) := by decide +kernel
theorem dn_H_leafAt_16 : decode cn_H_leafAt 16 = .ok (.ireturn, 1) := by decide +kernel
theorem dn_H_leafAt_17 : decode cn_H_leafAt 17 = .ok (.iconst 0, 1) := by decide +kernel
theorem dn_H_leafAt_18 : decode cn_H_leafAt 18 = .ok (.istore_n 3, 1) := by decide +kernel
theorem dn_H_leafAt_19 : decode cn_H_leafAt 19 = .ok (.iload_n 3, 1) := by decide +kernel
theorem dn_H_leafAt_20 : decode cn_H_leafAt 20 = .ok (.bipush 6, 2) := by decide +kernel
theorem dn_H_leafAt_22 : decode cn_H_leafAt 22 = .ok (.if_icmp .ge 19, 3) := by decide +kernel
theorem dn_H_leafAt_25 : decode cn_H_leafAt 25 = .ok (.iload_n 2, 1) := by decide +kernel
theorem dn_H_leafAt_26 : decode cn_H_leafAt 26 = .ok (.aload_n 0, 1) := by decide +kernel
theorem dn_H_leafAt_27 : decode cn_H_leafAt 27 = .ok (.iload_n 1, 1) := by decide +kernel
theorem dn_H_leafAt_28 : decode cn_H_leafAt 28 = .ok (.iload_n 3, 1) := by decide +kernel
theorem dn_H_leafAt_29 : decode cn_H_leafAt 29 = .ok (.iadd, 1) := by decide +kernel
theorem dn_H_leafAt_30 : decode cn_H_leafAt 30 = .ok (.iaload, 1) := by decide +kernel
theorem dn_H_leafAt_31 : decode cn_H_leafAt 31 = .ok (.invokestatic 14, 3) := by decide +kernel
theorem dn_H_leafAt_34 : decode cn_H_leafAt 34 = .ok (.istore_n 2, 1) := by decide +kernel
theorem dn_H_leafAt_35 : decode cn_H_leafAt 35 = .ok (.iinc 3 1, 3) := by decide +kernel
theorem dn_H_leafAt_38 : decode cn_H_leafAt 38 = .ok (.goto (-19), 3) := by decide +kernel
theorem dn_H_leafAt_41 : decode cn_H_leafAt 41 = .ok (.iload_n 2, 1) := by decide +kernel
theorem dn_H_leafAt_42 : decode cn_H_leafAt 42 = .ok (.ireturn, 1) := by decide +kernel

set_option maxRecDepth 100000 in
set_option maxHeartbeats 4000000 in
theorem c_J_rotateLeft (l : Launch) (dC : Nat → ClassId) (dI : Nat → Nat → Nat) (cI cZ : ClassId) (a : Int32) : gc_I l yn_J_rotateLeft (gw yn_J_rotateLeft cn_J_rotateLeft 2 (some .int)) (rm_ 0 0) (dC, dI) vwCl (gT cI cZ) [.int a, .int 11] [] (fun r (_ : Unit) => r = hf_rot a) (fun _ => []) := by
  refine gc_I_of (cc := cn_J_rotateLeft) (maxL := 2) (ty := .int) (by decide) rfl (Nat.le_of_ble_eq_true rfl) ?_
  intro pp ee ss mm ar be me cd A Q ls H0 H locs hx hb hml hown hts hK hP hD hS hA hl hret
  have hw : ∀ w ∈ gw_T, w.before ar ss = true := fun w h => hts w (List.mem_cons_of_mem _ h)
  have hl : lv_has ls 2 [(0, .int a), (1, .int 11)] := hl
  refine lv_iload_n hx hb dn_J_rotateLeft_0 rfl (lv_at hl 0 rfl) ?_
  refine lv_iload_n hx hb dn_J_rotateLeft_1 rfl (lv_at hl 1 rfl) ?_
  refine lv_ishl hx hb dn_J_rotateLeft_2 ?_
  refine lv_iload_n hx hb dn_J_rotateLeft_3 rfl (lv_at hl 0 rfl) ?_
  refine lv_iload_n hx hb dn_J_rotateLeft_4 rfl (lv_at hl 1 rfl) ?_
  refine lv_ineg hx hb dn_J_rotateLeft_5 ?_
  refine lv_iushr hx hb dn_J_rotateLeft_6 rfl ?_
  refine lv_ior hx hb dn_J_rotateLeft_7 ?_
  exact hret ((a <<< (11 &&& 31)) ||| (((a : Int32).toUInt32 >>> (((-11) : Int32).toUInt32 &&& Int32.toUInt32 31)).toInt32)) () _ _ _ _ (by unfold hf_rot; rw [show ((-11 : Int32).toUInt32 &&& Int32.toUInt32 31) = ((21 : Int32).toUInt32 &&& Int32.toUInt32 31) from by decide]) rfl hP hD hS dn_J_rotateLeft_8

set_option maxRecDepth 100000 in
set_option maxHeartbeats 4000000 in
theorem c_H_mix (l : Launch) (dC : Nat → ClassId) (dI : Nat → Nat → Nat) (cI cZ : ClassId) (a b : Int32) : gc_I l yn_H_mix (gw yn_H_mix cn_H_mix 3 (some .int)) (rm_ 1 21) (dC, dI) vwCl (gT cI cZ) [.int a, .int b] [] (fun r (_ : Unit) => r = (hf_mix a b)) (fun _ => []) := by
  refine gc_I_of (cc := cn_H_mix) (maxL := 3) (ty := .int) (by decide) rfl (Nat.le_of_ble_eq_true rfl) ?_
  intro pp ee ss mm ar be me cd A Q ls H0 H locs hx hb hml hown hts hK hP hD hS hA hl hret
  have hw : ∀ w ∈ gw_T, w.before ar ss = true := fun w h => hts w (List.mem_cons_of_mem _ h)
  have hl : lv_has ls 3 [(0, .int a), (1, .int b)] := hl
  refine lv_iload_n hx hb dn_H_mix_0 rfl (lv_at hl 0 rfl) ?_
  refine lv_bipush (v := 11) hx hb dn_H_mix_1 (by decide) ?_
  refine gc_s0 (v := (hf_rot a)) (As := [.int a, .int 11]) (rest := []) ⟨hx, hb, hml, hown, hw⟩ (c_J_rotateLeft l dC dI cI cZ a) (gw_cS 2 hw mw_180 mw_181 mw_8 mw_182 hd_J_rotateLeft ⟨Nat.le_of_ble_eq_true rfl, Nat.le_of_ble_eq_true rfl⟩) hK hP hD hS hA rfl hl.1 rfl (Nat.le_of_ble_eq_true rfl) dn_H_mix_3 ⟨Nat.zero_le _, Nat.zero_le _⟩ (fun H locs hP hD hS => ?_)
  refine lv_iload_n hx hb dn_H_mix_6 rfl (lv_at hl 1 rfl) ?_
  refine lv_ixor hx hb dn_H_mix_7 ?_
  refine lv_ldc (v := 48271001) hx hb hown (hw _ mw_183) dn_H_mix_8 ?_
  refine lv_imul hx hb dn_H_mix_10 ?_
  refine lv_sipush (v := 12345) hx hb dn_H_mix_11 (by decide) ?_
  refine lv_iadd hx hb dn_H_mix_14 ?_
  refine lv_istore_n (lv' := [(2, .int ((((hf_rot a) ^^^ b) * 48271001) + 12345)), (0, .int a), (1, .int b)]) hx hb dn_H_mix_15 rfl hl (by decide) rfl (fun ls hl => ?_)
  refine lv_iload_n hx hb dn_H_mix_16 rfl (lv_at hl 0 rfl) ?_
  refine lv_iload_n hx hb dn_H_mix_17 rfl (lv_at hl 0 rfl) ?_
  refine lv_bipush (v := 15) hx hb dn_H_mix_18 (by decide) ?_
  refine lv_iushr hx hb dn_H_mix_20 rfl ?_
  refine lv_ixor hx hb dn_H_mix_21 ?_
  exact hret (((((hf_rot a) ^^^ b) * 48271001) + 12345) ^^^ (((((((hf_rot a) ^^^ b) * 48271001) + 12345) : Int32).toUInt32 >>> ((15 : Int32).toUInt32 &&& Int32.toUInt32 31)).toInt32)) () _ _ _ _ rfl rfl hP hD hS dn_H_mix_22

set_option maxRecDepth 100000 in
set_option maxHeartbeats 4000000 in
theorem c_H_node (l : Launch) (dC : Nat → ClassId) (dI : Nat → Nat → Nat) (cI cZ : ClassId) (a b : Int32) : gc_I l yn_H_node (gw yn_H_node cn_H_node 2 (some .int)) (rm_ 2 43) (dC, dI) vwCl (gT cI cZ) [.int a, .int b] [] (fun r (_ : Unit) => r = (hf_node a b)) (fun _ => []) := by
  refine gc_I_of (cc := cn_H_node) (maxL := 2) (ty := .int) (by decide) rfl (Nat.le_of_ble_eq_true rfl) ?_
  intro pp ee ss mm ar be me cd A Q ls H0 H locs hx hb hml hown hts hK hP hD hS hA hl hret
  have hw : ∀ w ∈ gw_T, w.before ar ss = true := fun w h => hts w (List.mem_cons_of_mem _ h)
  have hl : lv_has ls 2 [(0, .int a), (1, .int b)] := hl
  refine lv_iconst (v := 2) hx hb dn_H_node_0 (by decide) ?_
  refine lv_iload_n hx hb dn_H_node_1 rfl (lv_at hl 0 rfl) ?_
  refine gc_s0 (v := (hf_mix 2 a)) (As := [.int 2, .int a]) (rest := []) ⟨hx, hb, hml, hown, hw⟩ (c_H_mix l dC dI cI cZ 2 a) (gw_cS 2 hw mw_177 mw_178 mw_7 mw_179 hd_H_mix ⟨Nat.le_of_ble_eq_true rfl, Nat.le_of_ble_eq_true rfl⟩) hK hP hD hS hA rfl hl.1 rfl (Nat.le_of_ble_eq_true rfl) dn_H_node_2 ⟨Nat.zero_le _, Nat.zero_le _⟩ (fun H locs hP hD hS => ?_)
  refine lv_iload_n hx hb dn_H_node_5 rfl (lv_at hl 1 rfl) ?_
  refine gc_s0 (v := (hf_mix (hf_mix 2 a) b)) (As := [.int (hf_mix 2 a), .int b]) (rest := []) ⟨hx, hb, hml, hown, hw⟩ (c_H_mix l dC dI cI cZ (hf_mix 2 a) b) (gw_cS 2 hw mw_177 mw_178 mw_7 mw_179 hd_H_mix ⟨Nat.le_of_ble_eq_true rfl, Nat.le_of_ble_eq_true rfl⟩) hK hP hD hS hA rfl hl.1 rfl (Nat.le_of_ble_eq_true rfl) dn_H_node_6 ⟨Nat.zero_le _, Nat.zero_le _⟩ (fun H locs hP hD hS => ?_)
  exact hret (hf_mix (hf_mix 2 a) b) () _ _ _ _ rfl rfl hP hD hS dn_H_node_9

set_option maxRecDepth 100000 in
set_option maxHeartbeats 4000000 in
theorem c_H_pad (l : Launch) (dC : Nat → ClassId) (dI : Nat → Nat → Nat) (cI cZ : ClassId) (a b c : Int32) : gc_I l yn_H_pad (gw yn_H_pad cn_H_pad 3 (some .int)) (rm_ 2 43) (dC, dI) vwCl (gT cI cZ) [.int a, .int b, .int c] [] (fun r (_ : Unit) => r = (hf_pad a b c)) (fun _ => []) := by
  refine gc_I_of (cc := cn_H_pad) (maxL := 3) (ty := .int) (by decide) rfl (Nat.le_of_ble_eq_true rfl) ?_
  intro pp ee ss mm ar be me cd A Q ls H0 H locs hx hb hml hown hts hK hP hD hS hA hl hret
  have hw : ∀ w ∈ gw_T, w.before ar ss = true := fun w h => hts w (List.mem_cons_of_mem _ h)
  have hl : lv_has ls 3 [(0, .int a), (1, .int b), (2, .int c)] := hl
  refine lv_iload_n hx hb dn_H_pad_0 rfl (lv_at hl 0 rfl) ?_
  refine lv_iload_n hx hb dn_H_pad_1 rfl (lv_at hl 1 rfl) ?_
  refine gc_s0 (v := (hf_mix a b)) (As := [.int a, .int b]) (rest := []) ⟨hx, hb, hml, hown, hw⟩ (c_H_mix l dC dI cI cZ a b) (gw_cS 2 hw mw_177 mw_178 mw_7 mw_179 hd_H_mix ⟨Nat.le_of_ble_eq_true rfl, Nat.le_of_ble_eq_true rfl⟩) hK hP hD hS hA rfl hl.1 rfl (Nat.le_of_ble_eq_true rfl) dn_H_pad_2 ⟨Nat.zero_le _, Nat.zero_le _⟩ (fun H locs hP hD hS => ?_)
  refine lv_iload_n hx hb dn_H_pad_5 rfl (lv_at hl 2 rfl) ?_
  refine gc_s0 (v := (hf_mix (hf_mix a b) c)) (As := [.int (hf_mix a b), .int c]) (rest := []) ⟨hx, hb, hml, hown, hw⟩ (c_H_mix l dC dI cI cZ (hf_mix a b) c) (gw_cS 2 hw mw_177 mw_178 mw_7 mw_179 hd_H_mix ⟨Nat.le_of_ble_eq_true rfl, Nat.le_of_ble_eq_true rfl⟩) hK hP hD hS hA rfl hl.1 rfl (Nat.le_of_ble_eq_true rfl) dn_H_pad_6 ⟨Nat.zero_le _, Nat.zero_le _⟩ (fun H locs hP hD hS => ?_)
  exact hret (hf_mix (hf_mix a b) c) () _ _ _ _ rfl rfl hP hD hS dn_H_pad_9

set_option maxRecDepth 100000 in
set_option maxHeartbeats 4000000 in
theorem c_H_leafAt (l : Launch) (dC : Nat → ClassId) (dI : Nat → Nat → Nat) (cI cZ : ClassId) (a : Nat) (f : Nat → Int32) (n k : Nat) (hk : k + 6 ≤ n) (hn : n < 2 ^ 31) : gc_I l yn_H_leafAt (gw yn_H_leafAt cn_H_leafAt 4 (some .int)) (rm_ 2 43) (dC, dI) vwCl (gT cI cZ) [.ref a, .int (nI k)] [(a, .inl (cI, n, .inl f))] (fun r (_ : Unit) => r = hf_leaf f k) (fun _ => [(a, .inl (cI, n, .inl f))]) := by
  refine gc_I_of (cc := cn_H_leafAt) (maxL := 4) (ty := .int) (by decide) rfl (Nat.le_of_ble_eq_true rfl) ?_
  intro pp ee ss mm ar be me cd A Q ls H0 H locs hx hb hml hown hts hK hP hD hS hA hl hret
  have hw : ∀ w ∈ gw_T, w.before ar ss = true := fun w h => hts w (List.mem_cons_of_mem _ h)
  have hl : lv_has ls 4 [(0, .ref a), (1, .int (nI k))] := hl
  refine lv_iconst (v := 1) hx hb dn_H_leafAt_0 (by decide) ?_
  refine lv_istore_n (lv' := [(2, .int 1), (0, .ref a), (1, .int (nI k))]) hx hb dn_H_leafAt_1 rfl hl (by decide) rfl (fun ls hl => ?_)
  refine lv_iload_n hx hb dn_H_leafAt_2 rfl (lv_at hl 2 rfl) ?_
  refine gr_zlt (tgt := 15) hx hb k rfl (by omega) dn_H_leafAt_3 (by decide) ?_
  refine lv_iload_n hx hb dn_H_leafAt_6 rfl (lv_at hl 2 rfl) ?_
  refine lv_aload_n hx hb dn_H_leafAt_7 rfl (lv_at hl 1 rfl) ?_
  refine va_alen (v := (nI n)) hx hb hK hP 0 0 rfl rfl rfl dn_H_leafAt_8 ?_
  refine lv_bipush (v := 6) hx hb dn_H_leafAt_9 (by decide) ?_
  refine gr_subN hx hb n 6 rfl rfl (by omega) dn_H_leafAt_11 ?_
  refine gr_cle (tgt := 17) hx hb k (n - 6) rfl rfl (by omega) (by omega) dn_H_leafAt_12 (by decide) (fun h12 => ?_) (fun h12 => absurd h12 (by omega))
  refine lv_iconst (v := 0) hx hb dn_H_leafAt_17 (by decide) ?_
  refine lv_istore_n (lv' := [(3, .int 0), (2, .int 1), (0, .ref a), (1, .int (nI k))]) hx hb dn_H_leafAt_18 rfl hl (by decide) rfl (fun ls hl => ?_)
  refine lv_iload_n hx hb dn_H_leafAt_19 rfl (lv_at hl 0 rfl) ?_
  refine lv_bipush (v := 6) hx hb dn_H_leafAt_20 (by decide) ?_
  refine lv_icmp_ge (tgt := 41) hx hb dn_H_leafAt_22 (by decide) (fun h => absurd h (by decide)) (fun _ => ?_)
  refine lv_iload_n hx hb dn_H_leafAt_25 rfl (lv_at hl 1 rfl) ?_
  refine lv_aload_n hx hb dn_H_leafAt_26 rfl (lv_at hl 2 rfl) ?_
  refine lv_iload_n hx hb dn_H_leafAt_27 rfl (lv_at hl 3 rfl) ?_
  refine lv_iload_n hx hb dn_H_leafAt_28 rfl (lv_at hl 0 rfl) ?_
  refine gr_addN hx hb k 0 rfl rfl dn_H_leafAt_29 ?_
  refine gr_iald hx hb hK hP 0 0 rfl rfl (k + 0) rfl (by omega) (by omega) dn_H_leafAt_30 ?_
  refine gc_s0 (v := (hf_mix 1 (f (k + 0)))) (As := [.int 1, .int (f (k + 0))]) (rest := []) ⟨hx, hb, hml, hown, hw⟩ (c_H_mix l dC dI cI cZ 1 (f (k + 0))) (gw_cS 2 hw mw_177 mw_178 mw_7 mw_179 hd_H_mix ⟨Nat.le_of_ble_eq_true rfl, Nat.le_of_ble_eq_true rfl⟩) hK hP hD hS hA rfl hl.1 rfl (Nat.le_of_ble_eq_true rfl) dn_H_leafAt_31 ⟨Nat.zero_le _, Nat.zero_le _⟩ (fun H locs hP hD hS => ?_)
  refine lv_istore_n (lv' := [(2, .int (hf_mix 1 (f (k + 0)))), (3, .int 0), (0, .ref a), (1, .int (nI k))]) hx hb dn_H_leafAt_34 rfl hl (by decide) rfl (fun ls hl => ?_)
  refine lv_iinc (lv' := [(3, .int 1), (2, .int (hf_mix 1 (f (k + 0)))), (0, .ref a), (1, .int (nI k))]) (v := 1) (k := 1) hx hb dn_H_leafAt_35 hl rfl (by decide) (by decide) rfl (fun ls hl => ?_)
  refine lv_goto (tgt := 19) hx hb dn_H_leafAt_38 (by decide) ?_
  refine lv_iload_n hx hb dn_H_leafAt_19 rfl (lv_at hl 0 rfl) ?_
  refine lv_bipush (v := 6) hx hb dn_H_leafAt_20 (by decide) ?_
  refine lv_icmp_ge (tgt := 41) hx hb dn_H_leafAt_22 (by decide) (fun h => absurd h (by decide)) (fun _ => ?_)
  refine lv_iload_n hx hb dn_H_leafAt_25 rfl (lv_at hl 1 rfl) ?_
  refine lv_aload_n hx hb dn_H_leafAt_26 rfl (lv_at hl 2 rfl) ?_
  refine lv_iload_n hx hb dn_H_leafAt_27 rfl (lv_at hl 3 rfl) ?_
  refine lv_iload_n hx hb dn_H_leafAt_28 rfl (lv_at hl 0 rfl) ?_
  refine gr_addN hx hb k 1 rfl rfl dn_H_leafAt_29 ?_
  refine gr_iald hx hb hK hP 0 0 rfl rfl (k + 1) rfl (by omega) (by omega) dn_H_leafAt_30 ?_
  refine gc_s0 (v := (hf_mix (hf_mix 1 (f (k + 0))) (f (k + 1)))) (As := [.int (hf_mix 1 (f (k + 0))), .int (f (k + 1))]) (rest := []) ⟨hx, hb, hml, hown, hw⟩ (c_H_mix l dC dI cI cZ (hf_mix 1 (f (k + 0))) (f (k + 1))) (gw_cS 2 hw mw_177 mw_178 mw_7 mw_179 hd_H_mix ⟨Nat.le_of_ble_eq_true rfl, Nat.le_of_ble_eq_true rfl⟩) hK hP hD hS hA rfl hl.1 rfl (Nat.le_of_ble_eq_true rfl) dn_H_leafAt_31 ⟨Nat.zero_le _, Nat.zero_le _⟩ (fun H locs hP hD hS => ?_)
  refine lv_istore_n (lv' := [(2, .int (hf_mix (hf_mix 1 (f (k + 0))) (f (k + 1)))), (3, .int 1), (0, .ref a), (1, .int (nI k))]) hx hb dn_H_leafAt_34 rfl hl (by decide) rfl (fun ls hl => ?_)
  refine lv_iinc (lv' := [(3, .int 2), (2, .int (hf_mix (hf_mix 1 (f (k + 0))) (f (k + 1)))), (0, .ref a), (1, .int (nI k))]) (v := 2) (k := 1) hx hb dn_H_leafAt_35 hl rfl (by decide) (by decide) rfl (fun ls hl => ?_)
  refine lv_goto (tgt := 19) hx hb dn_H_leafAt_38 (by decide) ?_
  refine lv_iload_n hx hb dn_H_leafAt_19 rfl (lv_at hl 0 rfl) ?_
  refine lv_bipush (v := 6) hx hb dn_H_leafAt_20 (by decide) ?_
  refine lv_icmp_ge (tgt := 41) hx hb dn_H_leafAt_22 (by decide) (fun h => absurd h (by decide)) (fun _ => ?_)
  refine lv_iload_n hx hb dn_H_leafAt_25 rfl (lv_at hl 1 rfl) ?_
  refine lv_aload_n hx hb dn_H_leafAt_26 rfl (lv_at hl 2 rfl) ?_
  refine lv_iload_n hx hb dn_H_leafAt_27 rfl (lv_at hl 3 rfl) ?_
  refine lv_iload_n hx hb dn_H_leafAt_28 rfl (lv_at hl 0 rfl) ?_
  refine gr_addN hx hb k 2 rfl rfl dn_H_leafAt_29 ?_
  refine gr_iald hx hb hK hP 0 0 rfl rfl (k + 2) rfl (by omega) (by omega) dn_H_leafAt_30 ?_
  refine gc_s0 (v := (hf_mix (hf_mix (hf_mix 1 (f (k + 0))) (f (k + 1))) (f (k + 2)))) (As := [.int (hf_mix (hf_mix 1 (f (k + 0))) (f (k + 1))), .int (f (k + 2))]) (rest := []) ⟨hx, hb, hml, hown, hw⟩ (c_H_mix l dC dI cI cZ (hf_mix (hf_mix 1 (f (k + 0))) (f (k + 1))) (f (k + 2))) (gw_cS 2 hw mw_177 mw_178 mw_7 mw_179 hd_H_mix ⟨Nat.le_of_ble_eq_true rfl, Nat.le_of_ble_eq_true rfl⟩) hK hP hD hS hA rfl hl.1 rfl (Nat.le_of_ble_eq_true rfl) dn_H_leafAt_31 ⟨Nat.zero_le _, Nat.zero_le _⟩ (fun H locs hP hD hS => ?_)
  refine lv_istore_n (lv' := [(2, .int (hf_mix (hf_mix (hf_mix 1 (f (k + 0))) (f (k + 1))) (f (k + 2)))), (3, .int 2), (0, .ref a), (1, .int (nI k))]) hx hb dn_H_leafAt_34 rfl hl (by decide) rfl (fun ls hl => ?_)
  refine lv_iinc (lv' := [(3, .int 3), (2, .int (hf_mix (hf_mix (hf_mix 1 (f (k + 0))) (f (k + 1))) (f (k + 2)))), (0, .ref a), (1, .int (nI k))]) (v := 3) (k := 1) hx hb dn_H_leafAt_35 hl rfl (by decide) (by decide) rfl (fun ls hl => ?_)
  refine lv_goto (tgt := 19) hx hb dn_H_leafAt_38 (by decide) ?_
  refine lv_iload_n hx hb dn_H_leafAt_19 rfl (lv_at hl 0 rfl) ?_
  refine lv_bipush (v := 6) hx hb dn_H_leafAt_20 (by decide) ?_
  refine lv_icmp_ge (tgt := 41) hx hb dn_H_leafAt_22 (by decide) (fun h => absurd h (by decide)) (fun _ => ?_)
  refine lv_iload_n hx hb dn_H_leafAt_25 rfl (lv_at hl 1 rfl) ?_
  refine lv_aload_n hx hb dn_H_leafAt_26 rfl (lv_at hl 2 rfl) ?_
  refine lv_iload_n hx hb dn_H_leafAt_27 rfl (lv_at hl 3 rfl) ?_
  refine lv_iload_n hx hb dn_H_leafAt_28 rfl (lv_at hl 0 rfl) ?_
  refine gr_addN hx hb k 3 rfl rfl dn_H_leafAt_29 ?_
  refine gr_iald hx hb hK hP 0 0 rfl rfl (k + 3) rfl (by omega) (by omega) dn_H_leafAt_30 ?_
  refine gc_s0 (v := (hf_mix (hf_mix (hf_mix (hf_mix 1 (f (k + 0))) (f (k + 1))) (f (k + 2))) (f (k + 3)))) (As := [.int (hf_mix (hf_mix (hf_mix 1 (f (k + 0))) (f (k + 1))) (f (k + 2))), .int (f (k + 3))]) (rest := []) ⟨hx, hb, hml, hown, hw⟩ (c_H_mix l dC dI cI cZ (hf_mix (hf_mix (hf_mix 1 (f (k + 0))) (f (k + 1))) (f (k + 2))) (f (k + 3))) (gw_cS 2 hw mw_177 mw_178 mw_7 mw_179 hd_H_mix ⟨Nat.le_of_ble_eq_true rfl, Nat.le_of_ble_eq_true rfl⟩) hK hP hD hS hA rfl hl.1 rfl (Nat.le_of_ble_eq_true rfl) dn_H_leafAt_31 ⟨Nat.zero_le _, Nat.zero_le _⟩ (fun H locs hP hD hS => ?_)
  refine lv_istore_n (lv' := [(2, .int (hf_mix (hf_mix (hf_mix (hf_mix 1 (f (k + 0))) (f (k + 1))) (f (k + 2))) (f (k + 3)))), (3, .int 3), (0, .ref a), (1, .int (nI k))]) hx hb dn_H_leafAt_34 rfl hl (by decide) rfl (fun ls hl => ?_)
  refine lv_iinc (lv' := [(3, .int 4), (2, .int (hf_mix (hf_mix (hf_mix (hf_mix 1 (f (k + 0))) (f (k + 1))) (f (k + 2))) (f (k + 3)))), (0, .ref a), (1, .int (nI k))]) (v := 4) (k := 1) hx hb dn_H_leafAt_35 hl rfl (by decide) (by decide) rfl (fun ls hl => ?_)
  refine lv_goto (tgt := 19) hx hb dn_H_leafAt_38 (by decide) ?_
  refine lv_iload_n hx hb dn_H_leafAt_19 rfl (lv_at hl 0 rfl) ?_
  refine lv_bipush (v := 6) hx hb dn_H_leafAt_20 (by decide) ?_
  refine lv_icmp_ge (tgt := 41) hx hb dn_H_leafAt_22 (by decide) (fun h => absurd h (by decide)) (fun _ => ?_)
  refine lv_iload_n hx hb dn_H_leafAt_25 rfl (lv_at hl 1 rfl) ?_
  refine lv_aload_n hx hb dn_H_leafAt_26 rfl (lv_at hl 2 rfl) ?_
  refine lv_iload_n hx hb dn_H_leafAt_27 rfl (lv_at hl 3 rfl) ?_
  refine lv_iload_n hx hb dn_H_leafAt_28 rfl (lv_at hl 0 rfl) ?_
  refine gr_addN hx hb k 4 rfl rfl dn_H_leafAt_29 ?_
  refine gr_iald hx hb hK hP 0 0 rfl rfl (k + 4) rfl (by omega) (by omega) dn_H_leafAt_30 ?_
  refine gc_s0 (v := (hf_mix (hf_mix (hf_mix (hf_mix (hf_mix 1 (f (k + 0))) (f (k + 1))) (f (k + 2))) (f (k + 3))) (f (k + 4)))) (As := [.int (hf_mix (hf_mix (hf_mix (hf_mix 1 (f (k + 0))) (f (k + 1))) (f (k + 2))) (f (k + 3))), .int (f (k + 4))]) (rest := []) ⟨hx, hb, hml, hown, hw⟩ (c_H_mix l dC dI cI cZ (hf_mix (hf_mix (hf_mix (hf_mix 1 (f (k + 0))) (f (k + 1))) (f (k + 2))) (f (k + 3))) (f (k + 4))) (gw_cS 2 hw mw_177 mw_178 mw_7 mw_179 hd_H_mix ⟨Nat.le_of_ble_eq_true rfl, Nat.le_of_ble_eq_true rfl⟩) hK hP hD hS hA rfl hl.1 rfl (Nat.le_of_ble_eq_true rfl) dn_H_leafAt_31 ⟨Nat.zero_le _, Nat.zero_le _⟩ (fun H locs hP hD hS => ?_)
  refine lv_istore_n (lv' := [(2, .int (hf_mix (hf_mix (hf_mix (hf_mix (hf_mix 1 (f (k + 0))) (f (k + 1))) (f (k + 2))) (f (k + 3))) (f (k + 4)))), (3, .int 4), (0, .ref a), (1, .int (nI k))]) hx hb dn_H_leafAt_34 rfl hl (by decide) rfl (fun ls hl => ?_)
  refine lv_iinc (lv' := [(3, .int 5), (2, .int (hf_mix (hf_mix (hf_mix (hf_mix (hf_mix 1 (f (k + 0))) (f (k + 1))) (f (k + 2))) (f (k + 3))) (f (k + 4)))), (0, .ref a), (1, .int (nI k))]) (v := 5) (k := 1) hx hb dn_H_leafAt_35 hl rfl (by decide) (by decide) rfl (fun ls hl => ?_)
  refine lv_goto (tgt := 19) hx hb dn_H_leafAt_38 (by decide) ?_
  refine lv_iload_n hx hb dn_H_leafAt_19 rfl (lv_at hl 0 rfl) ?_
  refine lv_bipush (v := 6) hx hb dn_H_leafAt_20 (by decide) ?_
  refine lv_icmp_ge (tgt := 41) hx hb dn_H_leafAt_22 (by decide) (fun h => absurd h (by decide)) (fun _ => ?_)
  refine lv_iload_n hx hb dn_H_leafAt_25 rfl (lv_at hl 1 rfl) ?_
  refine lv_aload_n hx hb dn_H_leafAt_26 rfl (lv_at hl 2 rfl) ?_
  refine lv_iload_n hx hb dn_H_leafAt_27 rfl (lv_at hl 3 rfl) ?_
  refine lv_iload_n hx hb dn_H_leafAt_28 rfl (lv_at hl 0 rfl) ?_
  refine gr_addN hx hb k 5 rfl rfl dn_H_leafAt_29 ?_
  refine gr_iald hx hb hK hP 0 0 rfl rfl (k + 5) rfl (by omega) (by omega) dn_H_leafAt_30 ?_
  refine gc_s0 (v := (hf_mix (hf_mix (hf_mix (hf_mix (hf_mix (hf_mix 1 (f (k + 0))) (f (k + 1))) (f (k + 2))) (f (k + 3))) (f (k + 4))) (f (k + 5)))) (As := [.int (hf_mix (hf_mix (hf_mix (hf_mix (hf_mix 1 (f (k + 0))) (f (k + 1))) (f (k + 2))) (f (k + 3))) (f (k + 4))), .int (f (k + 5))]) (rest := []) ⟨hx, hb, hml, hown, hw⟩ (c_H_mix l dC dI cI cZ (hf_mix (hf_mix (hf_mix (hf_mix (hf_mix 1 (f (k + 0))) (f (k + 1))) (f (k + 2))) (f (k + 3))) (f (k + 4))) (f (k + 5))) (gw_cS 2 hw mw_177 mw_178 mw_7 mw_179 hd_H_mix ⟨Nat.le_of_ble_eq_true rfl, Nat.le_of_ble_eq_true rfl⟩) hK hP hD hS hA rfl hl.1 rfl (Nat.le_of_ble_eq_true rfl) dn_H_leafAt_31 ⟨Nat.zero_le _, Nat.zero_le _⟩ (fun H locs hP hD hS => ?_)
  refine lv_istore_n (lv' := [(2, .int (hf_mix (hf_mix (hf_mix (hf_mix (hf_mix (hf_mix 1 (f (k + 0))) (f (k + 1))) (f (k + 2))) (f (k + 3))) (f (k + 4))) (f (k + 5)))), (3, .int 5), (0, .ref a), (1, .int (nI k))]) hx hb dn_H_leafAt_34 rfl hl (by decide) rfl (fun ls hl => ?_)
  refine lv_iinc (lv' := [(3, .int 6), (2, .int (hf_mix (hf_mix (hf_mix (hf_mix (hf_mix (hf_mix 1 (f (k + 0))) (f (k + 1))) (f (k + 2))) (f (k + 3))) (f (k + 4))) (f (k + 5)))), (0, .ref a), (1, .int (nI k))]) (v := 6) (k := 1) hx hb dn_H_leafAt_35 hl rfl (by decide) (by decide) rfl (fun ls hl => ?_)
  refine lv_goto (tgt := 19) hx hb dn_H_leafAt_38 (by decide) ?_
  refine lv_iload_n hx hb dn_H_leafAt_19 rfl (lv_at hl 0 rfl) ?_
  refine lv_bipush (v := 6) hx hb dn_H_leafAt_20 (by decide) ?_
  refine lv_icmp_ge (tgt := 41) hx hb dn_H_leafAt_22 (by decide) (fun _ => ?_) (fun h => absurd h (by decide))
  refine lv_iload_n hx hb dn_H_leafAt_41 rfl (lv_at hl 1 rfl) ?_
  exact hret (hf_mix (hf_mix (hf_mix (hf_mix (hf_mix (hf_mix 1 (f (k + 0))) (f (k + 1))) (f (k + 2))) (f (k + 3))) (f (k + 4))) (f (k + 5))) () _ _ _ _ rfl rfl hP hD hS dn_H_leafAt_42
