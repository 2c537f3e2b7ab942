def pf_x (fd : Nat → Int32) (e : Int32) : Nat → Int32
  | 0 => e
  | _ + 1 => fd 0

theorem dn_F_add_0 : decode cn_F_add 0 = .ok (.aload_n 0, 1) := by decide +kernel
theorem dn_F_add_1 : decode cn_F_add 1 = .ok (.getfield 13, 3) := by decide +kernel
theorem dn_F_add_4 : decode cn_F_add 4 = .ok (.bipush 12, 2) := by decide +kernel
theorem dn_F_add_6 : decode cn_F_add 6 = .ok (.if_icmp .lt 5, 3) := by decide +kernel
theorem dn_F_add_9 : decode cn_F_add 9 = .ok (.iconst 0, 1) := by decide +kernel
theorem dn_F_add_10 : decode cn_F_add 10 = .ok (.ireturn, 1) := by decide +kernel
theorem dn_F_add_11 : decode cn_F_add 11 = .ok (.aload_n 0, 1) := by decide +kernel
theorem dn_F_add_12 : decode cn_F_add 12 = .ok (.getfield 9, 3) := by decide +kernel
theorem dn_F_add_15 : decode cn_F_add 15 = .ok (.aload_n 0, 1) := by decide +kernel
theorem dn_F_add_16 : decode cn_F_add 16 = .ok (.getfield 13, 3) := by decide +kernel
theorem dn_F_add_19 : decode cn_F_add 19 = .ok (.iload_n 1, 1) := by decide +kernel
theorem dn_F_add_20 : decode cn_F_add 20 = .ok (.iastore, 1) := by decide +kernel
theorem dn_F_add_21 : decode cn_F_add 21 = .ok (.aload_n 0, 1) := by decide +kernel
theorem dn_F_add_22 : decode cn_F_add 22 = .ok (.dup, 1) := by decide +kernel
theorem dn_F_add_23 : decode cn_F_add 23 = .ok (.getfield 13, 3) := by decide +kernel
theorem dn_F_add_26 : decode cn_F_add 26 = .ok (.iconst 1, 1) := by decide +kernel
theorem dn_F_add_27 : decode cn_F_add 27 = .ok (.iadd, 1) := by decide +kernel
theorem dn_F_add_28 : decode cn_F_add 28 = .ok (.putfield 13, 3) := by decide +kernel
theorem dn_F_add_31 : decode cn_F_add 31 = .ok (.iconst 1, 1) := by decide +kernel
theorem dn_F_add_32 : decode cn_F_add 32 = .ok (.ireturn, 1) := by decide +kernel
theorem dn_F_clear_0 : decode cn_F_clear 0 = .ok (.aload_n 0, 1) := by decide +kernel
theorem dn_F_clear_1 : decode cn_F_clear 1 = .ok (.iconst 0, 1) := by decide +kernel
theorem dn_F_clear_2 : decode cn_F_clear 2 = .ok (.putfield 13, 3) := by decide +kernel
theorem dn_F_clear_5 : decode cn_F_clear 5 = .ok (.return_, 1) := by decide +kernel
theorem dn_F_proveLeaf_0 : decode cn_F_proveLeaf 0 = .ok (.aload_n 0, 1) := by decide +kernel
theorem dn_F_proveLeaf_1 : decode cn_F_proveLeaf 1 = .ok (.getfield 13, 3) := by decide +kernel
theorem dn_F_proveLeaf_4 : decode cn_F_proveLeaf 4 = .ok (.aload_n 1, 1) := by decide +kernel
theorem dn_F_proveLeaf_5 : decode cn_F_proveLeaf 5 = .ok (.invokevirtual 17, 3) := by decide +kernel
theorem dn_F_proveLeaf_8 : decode cn_F_proveLeaf 8 = .ok (.if_icmp .eq 5, 3) := by decide +kernel
theorem dn_F_proveLeaf_11 : decode cn_F_proveLeaf 11 = .ok (.iconst 0, 1) := by decide +kernel
theorem dn_F_proveLeaf_12 : decode cn_F_proveLeaf 12 = .ok (.ireturn, 1) := by decide +kernel
theorem dn_F_proveLeaf_13 : decode cn_F_proveLeaf 13 = .ok (.aload_n 0, 1) := by decide +kernel
theorem dn_F_proveLeaf_14 : decode cn_F_proveLeaf 14 = .ok (.getfield 9, 3) := by decide +kernel
theorem dn_F_proveLeaf_17 : decode cn_F_proveLeaf 17 = .ok (.iconst 0, 1) := by decide +kernel
theorem dn_F_proveLeaf_18 : decode cn_F_proveLeaf 18 = .ok (.iaload, 1) := by decide +kernel
theorem dn_F_proveLeaf_19 : decode cn_F_proveLeaf 19 = .ok (.istore_n 3, 1) := by decide +kernel
theorem dn_F_proveLeaf_20 : decode cn_F_proveLeaf 20 = .ok (.iconst 1, 1) := by decide +kernel
theorem dn_F_proveLeaf_21 : decode cn_F_proveLeaf 21 = .ok (.istore 4, 2) := by decide +kernel
theorem dn_F_proveLeaf_23 : decode cn_F_proveLeaf 23 = .ok (.iload 4, 2) := by decide +kernel
theorem dn_F_proveLeaf_25 : decode cn_F_proveLeaf 25 = .ok (.aload_n 0, 1) := by decide +kernel
theorem dn_F_proveLeaf_26 : decode cn_F_proveLeaf 26 = .ok (.getfield 13, 3) := by decide +kernel
theorem dn_F_proveLeaf_29 : decode cn_F_proveLeaf 29 = .ok (.if_icmp .ge 44, 3) := by decide +kernel
theorem dn_F_proveLeaf_32 : decode cn_F_proveLeaf 32 = .ok (.aload_n 1, 1) := by decide +kernel
theorem dn_F_proveLeaf_33 : decode cn_F_proveLeaf 33 = .ok (.iload 4, 2) := by decide +kernel
theorem dn_F_proveLeaf_35 : decode cn_F_proveLeaf 35 = .ok (.invokevirtual 23, 3) := by decide +kernel
theorem dn_F_proveLeaf_38 : decode cn_F_proveLeaf 38 = .ok (.ifCond .eq 17, 3) := by decide +kernel
theorem dn_F_proveLeaf_41 : decode cn_F_proveLeaf 41 = .ok (.aload_n 0, 1) := by decide +kernel
theorem dn_F_proveLeaf_42 : decode cn_F_proveLeaf 42 = .ok (.getfield 9, 3) := by decide +kernel
theorem dn_F_proveLeaf_45 : decode cn_F_proveLeaf 45 = .ok (.iload 4, 2) := by decide +kernel
theorem dn_F_proveLeaf_47 : decode cn_F_proveLeaf 47 = .ok (.iaload, 1) := by decide +kernel
theorem dn_F_proveLeaf_48 : decode cn_F_proveLeaf 48 = .ok (.iload_n 3, 1) := by decide +kernel
theorem dn_F_proveLeaf_49 : decode cn_F_proveLeaf 49 = .ok (.invokestatic 27, 3) := by decide +kernel
theorem dn_F_proveLeaf_52 : decode cn_F_proveLeaf 52 = .ok (.goto 14, 3) := by decide +kernel
theorem dn_F_proveLeaf_55 : decode cn_F_proveLeaf 55 = .ok (.iload_n 3, 1) := by decide +kernel
theorem dn_F_proveLeaf_56 : decode cn_F_proveLeaf 56 = .ok (.aload_n 0, 1) := by decide +kernel
theorem dn_F_proveLeaf_57 : decode cn_F_proveLeaf 57 = .ok (.getfield 9, 3) := by decide +kernel
theorem dn_F_proveLeaf_60 : decode cn_F_proveLeaf 60 = .ok (.iload 4, 2) := by decide +kernel
theorem dn_F_proveLeaf_62 : decode cn_F_proveLeaf 62 = .ok (.iaload, 1) := by decide +kernel
theorem dn_F_proveLeaf_63 : decode cn_F_proveLeaf 63 = .ok (.invokestatic 27, 3) := by decide +kernel
theorem dn_F_proveLeaf_66 : decode cn_F_proveLeaf 66 = .ok (.istore_n 3, 1) := by decide +kernel
theorem dn_F_proveLeaf_67 : decode cn_F_proveLeaf 67 = .ok (.iinc 4 1, 3) := by decide +kernel
theorem dn_F_proveLeaf_70 : decode cn_F_proveLeaf 70 = .ok (.goto (-47), 3) := by decide +kernel
theorem dn_F_proveLeaf_73 : decode cn_F_proveLeaf 73 = .ok (.iload_n 3, 1) := by decide +kernel
theorem dn_F_proveLeaf_74 : decode cn_F_proveLeaf 74 = .ok (.iload_n 2, 1) := by decide +kernel
theorem dn_F_proveLeaf_75 : decode cn_F_proveLeaf 75 = .ok (.if_icmp .ne 7, 3) := by decide +kernel
theorem dn_F_proveLeaf_78 : decode cn_F_proveLeaf 78 = .ok (.iconst 1, 1) := by decide +kernel
theorem dn_F_proveLeaf_79 : decode cn_F_proveLeaf 79 = .ok (.goto 4, 3) := by decide +kernel
theorem dn_F_proveLeaf_82 : decode cn_F_proveLeaf 82 = .ok (.iconst 0, 1) := by decide +kernel
theorem dn_F_proveLeaf_83 : decode cn_F_proveLeaf 83 = .ok (.ireturn, 1) := by decide +kernel
theorem dn_F_proveGrowth_0 : decode cn_F_proveGrowth 0 = .ok (.aload_n 0, 1) := by decide +kernel
theorem dn_F_proveGrowth_1 : decode cn_F_proveGrowth 1 = .ok (.getfield 13, 3) := by decide +kernel
theorem dn_F_proveGrowth_4 : decode cn_F_proveGrowth 4 = .ok (.aload_n 1, 1) := by decide +kernel
theorem dn_F_proveGrowth_5 : decode cn_F_proveGrowth 5 = .ok (.invokevirtual 17, 3) := by decide +kernel
theorem dn_F_proveGrowth_8 : decode cn_F_proveGrowth 8 = .ok (.if_icmp .eq 5, 3) := by decide +kernel
theorem dn_F_proveGrowth_11 : decode cn_F_proveGrowth 11 = .ok (.iconst 0, 1) := by decide +kernel
theorem dn_F_proveGrowth_12 : decode cn_F_proveGrowth 12 = .ok (.ireturn, 1) := by decide +kernel
theorem dn_F_proveGrowth_13 : decode cn_F_proveGrowth 13 = .ok (.aload_n 1, 1) := by decide +kernel
theorem dn_F_proveGrowth_14 : decode cn_F_proveGrowth 14 = .ok (.invokevirtual 33, 3) := by decide +kernel
theorem dn_F_proveGrowth_17 : decode cn_F_proveGrowth 17 = .ok (.ifCond .eq 12, 3) := by decide +kernel
theorem dn_F_proveGrowth_20 : decode cn_F_proveGrowth 20 = .ok (.aload_n 0, 1) := by decide +kernel
theorem dn_F_proveGrowth_21 : decode cn_F_proveGrowth 21 = .ok (.getfield 9, 3) := by decide +kernel
theorem dn_F_proveGrowth_24 : decode cn_F_proveGrowth 24 = .ok (.iconst 0, 1) := by decide +kernel
theorem dn_F_proveGrowth_25 : decode cn_F_proveGrowth 25 = .ok (.iaload, 1) := by decide +kernel
theorem dn_F_proveGrowth_26 : decode cn_F_proveGrowth 26 = .ok (.goto 4, 3) := by decide +kernel
theorem dn_F_proveGrowth_29 : decode cn_F_proveGrowth 29 = .ok (.iload_n 2, 1) := by decide +kernel
theorem dn_F_proveGrowth_30 : decode cn_F_proveGrowth 30 = .ok (.istore 4, 2) := by decide +kernel
theorem dn_F_proveGrowth_32 : decode cn_F_proveGrowth 32 = .ok (.iload 4, 2) := by decide +kernel
theorem dn_F_proveGrowth_34 : decode cn_F_proveGrowth 34 = .ok (.istore 5, 2) := by decide +kernel
theorem dn_F_proveGrowth_36 : decode cn_F_proveGrowth 36 = .ok (.iload 4, 2) := by decide +kernel
theorem dn_F_proveGrowth_38 : decode cn_F_proveGrowth 38 = .ok (.istore 6, 2) := by decide +kernel
theorem dn_F_proveGrowth_40 : decode cn_F_proveGrowth 40 = .ok (.aload_n 1, 1) := by decide +kernel
theorem dn_F_proveGrowth_41 : decode cn_F_proveGrowth 41 = .ok (.invokevirtual 33, 3) := by decide +kernel
theorem dn_F_proveGrowth_44 : decode cn_F_proveGrowth 44 = .ok (.ifCond .eq 7, 3) := by decide +kernel
theorem dn_F_proveGrowth_47 : decode cn_F_proveGrowth 47 = .ok (.iconst 1, 1) := by decide +kernel
theorem dn_F_proveGrowth_48 : decode cn_F_proveGrowth 48 = .ok (.goto 4, 3) := by decide +kernel
theorem dn_F_proveGrowth_51 : decode cn_F_proveGrowth 51 = .ok (.iconst 0, 1) := by decide +kernel
theorem dn_F_proveGrowth_52 : decode cn_F_proveGrowth 52 = .ok (.istore 7, 2) := by decide +kernel
theorem dn_F_proveGrowth_54 : decode cn_F_proveGrowth 54 = .ok (.iload 7, 2) := by decide +kernel
theorem dn_F_proveGrowth_56 : decode cn_F_proveGrowth 56 = .ok (.aload_n 0, 1) := by decide +kernel
theorem dn_F_proveGrowth_57 : decode cn_F_proveGrowth 57 = .ok (.getfield 13, 3) := by decide +kernel
theorem dn_F_proveGrowth_60 : decode cn_F_proveGrowth 60 = .ok (.if_icmp .ge 63, 3) := by decide +kernel
theorem dn_F_proveGrowth_63 : decode cn_F_proveGrowth 63 = .ok (.aload_n 1, 1) := by decide +kernel
theorem dn_F_proveGrowth_64 : decode cn_F_proveGrowth 64 = .ok (.iload 7, 2) := by decide +kernel
theorem dn_F_proveGrowth_66 : decode cn_F_proveGrowth 66 = .ok (.invokevirtual 23, 3) := by decide +kernel
theorem dn_F_proveGrowth_69 : decode cn_F_proveGrowth 69 = .ok (.ifCond .eq 34, 3) := by decide +kernel
theorem dn_F_proveGrowth_72 : decode cn_F_proveGrowth 72 = .ok (.aload_n 0, 1) := by decide +kernel
theorem dn_F_proveGrowth_73 : decode cn_F_proveGrowth 73 = .ok (.getfield 9, 3) := by decide +kernel
theorem dn_F_proveGrowth_76 : decode cn_F_proveGrowth 76 = .ok (.iload 7, 2) := by decide +kernel
theorem dn_F_proveGrowth_78 : decode cn_F_proveGrowth 78 = .ok (.iaload, 1) := by decide +kernel
theorem dn_F_proveGrowth_79 : decode cn_F_proveGrowth 79 = .ok (.iload 5, 2) := by decide +kernel
theorem dn_F_proveGrowth_81 : decode cn_F_proveGrowth 81 = .ok (.invokestatic 27, 3) := by decide +kernel
theorem dn_F_proveGrowth_84 : decode cn_F_proveGrowth 84 = .ok (.istore 5, 2) := by decide +kernel
theorem dn_F_proveGrowth_86 : decode cn_F_proveGrowth 86 = .ok (.aload_n 0, 1) := by decide +kernel
theorem dn_F_proveGrowth_87 : decode cn_F_proveGrowth 87 = .ok (.getfield 9, 3) := by decide +kernel
theorem dn_F_proveGrowth_90 : decode cn_F_proveGrowth 90 = .ok (.iload 7, 2) := by decide +kernel
theorem dn_F_proveGrowth_92 : decode cn_F_proveGrowth 92 = .ok (.iaload, 1) := by decide +kernel
theorem dn_F_proveGrowth_93 : decode cn_F_proveGrowth 93 = .ok (.iload 6, 2) := by decide +kernel
theorem dn_F_proveGrowth_95 : decode cn_F_proveGrowth 95 = .ok (.invokestatic 27, 3) := by decide +kernel
theorem dn_F_proveGrowth_98 : decode cn_F_proveGrowth 98 = .ok (.istore 6, 2) := by decide +kernel
theorem dn_F_proveGrowth_100 : decode cn_F_proveGrowth 100 = .ok (.goto 17, 3) := by decide +kernel
theorem dn_F_proveGrowth_103 : decode cn_F_proveGrowth 103 = .ok (.iload 6, 2) := by decide +kernel
theorem dn_F_proveGrowth_105 : decode cn_F_proveGrowth 105 = .ok (.aload_n 0, 1) := by decide +kernel
theorem dn_F_proveGrowth_106 : decode cn_F_proveGrowth 106 = .ok (.getfield 9, 3) := by decide +kernel
theorem dn_F_proveGrowth_109 : decode cn_F_proveGrowth 109 = .ok (.iload 7, 2) := by decide +kernel
theorem dn_F_proveGrowth_111 : decode cn_F_proveGrowth 111 = .ok (.iaload, 1) := by decide +kernel
theorem dn_F_proveGrowth_112 : decode cn_F_proveGrowth 112 = .ok (.invokestatic 27, 3) := by decide +kernel
theorem dn_F_proveGrowth_115 : decode cn_F_proveGrowth 115 = .ok (.istore 6, 2) := by decide +kernel
theorem dn_F_proveGrowth_117 : decode cn_F_proveGrowth 117 = .ok (.iinc 7 1, 3) := by decide +kernel
theorem dn_F_proveGrowth_120 : decode cn_F_proveGrowth 120 = .ok (.goto (-66), 3) := by decide +kernel
theorem dn_F_proveGrowth_123 : decode cn_F_proveGrowth 123 = .ok (.iload 5, 2) := by decide +kernel
theorem dn_F_proveGrowth_125 : decode cn_F_proveGrowth 125 = .ok (.iload_n 2, 1) := by decide +kernel
theorem dn_F_proveGrowth_126 : decode cn_F_proveGrowth 126 = .ok (.if_icmp .ne 13, 3) := by decide +kernel
theorem dn_F_proveGrowth_129 : decode cn_F_proveGrowth 129 = .ok (.iload 6, 2) := by decide +kernel
theorem dn_F_proveGrowth_131 : decode cn_F_proveGrowth 131 = .ok (.iload_n 3, 1) := by decide +kernel
theorem dn_F_proveGrowth_132 : decode cn_F_proveGrowth 132 = .ok (.if_icmp .ne 7, 3) := by decide +kernel
theorem dn_F_proveGrowth_135 : decode cn_F_proveGrowth 135 = .ok (.iconst 1, 1) := by decide +kernel
theorem dn_F_proveGrowth_136 : decode cn_F_proveGrowth 136 = .ok (.goto 4, 3) := by decide +kernel
theorem dn_F_proveGrowth_139 : decode cn_F_proveGrowth 139 = .ok (.iconst 0, 1) := by decide +kernel
theorem dn_F_proveGrowth_140 : decode cn_F_proveGrowth 140 = .ok (.ireturn, 1) := by decide +kernel

set_option maxRecDepth 100000 in
set_option maxHeartbeats 4000000 in
theorem c_E_firstUnder (l : Launch) (dC : Nat → ClassId) (dI : Nat → Nat → Nat) (cI cZ : ClassId) (a0 a1 a2 a3 : Nat) (X Y Z : Nat → Int32) (t n st b : Nat) (hb1 : b ≤ 1) (hst : st ≤ 6) (har : de_ar t n st X Y Z) (k : Nat) (hk : k < st + b) : gc_I l yn_E_firstUnder (gw yn_E_firstUnder cn_E_firstUnder 3 (some .int)) (rm_ 2 41) (dC, dI) vwCl (gT cI cZ) [.ref a0, .int (nI k)] [(a0, .inr (1, [.ref a1, .ref a2, .ref a3, .int (nI st), .int (nI ((ds_at t n st).1)), .int (nI ((ds_at t n st).2)), .int (nI b)])), (a1, .inl (cZ, 6, .inl X)), (a2, .inl (cI, 6, .inl Y)), (a3, .inl (cI, 6, .inl Z))] (fun r (_ : Unit) => r = nI (du_f t n st b k)) (fun _ => [(a0, .inr (1, [.ref a1, .ref a2, .ref a3, .int (nI st), .int (nI ((ds_at t n st).1)), .int (nI ((ds_at t n st).2)), .int (nI b)])), (a1, .inl (cZ, 6, .inl X)), (a2, .inl (cI, 6, .inl Y)), (a3, .inl (cI, 6, .inl Z))]) := by
  refine gc_I_of (cc := cn_E_firstUnder) (maxL := 3) (ty := .int) (by decide) rfl (Nat.le_of_ble_eq_true rfl) ?_
  intro pp ee ss mm ar be me cd A Q ls H0 H locs hx hb hml hown hts hK hP hD hS hA hl hret
  have hw : ∀ w ∈ gw_T, w.before ar ss = true := fun w h => hts w (List.mem_cons_of_mem _ h)
  have hl : lv_has ls 3 [(0, .ref a0), (1, .int (nI k))] := hl
  refine lv_aload_n hx hb dn_E_firstUnder_0 rfl (lv_at hl 0 rfl) ?_
  refine lv_iload_n hx hb dn_E_firstUnder_1 rfl (lv_at hl 1 rfl) ?_
  refine gc_vi (pre := []) (wc := [(a0, .inr (1, [.ref a1, .ref a2, .ref a3, .int (nI st), .int (nI ((ds_at t n st).1)), .int (nI ((ds_at t n st).2)), .int (nI b)])), (a1, .inl (cZ, 6, .inl X)), (a2, .inl (cI, 6, .inl Y)), (a3, .inl (cI, 6, .inl Z))]) (po := []) (As := [.int (nI k)]) (rest := []) ⟨hx, hb, hml, hown, hw⟩ (c_E_stepOf l dC dI cI cZ a0 a1 a2 a3 X Y Z st ((ds_at t n st).1) ((ds_at t n st).2) b (by omega) (by omega) k (st + b - 1 - k) (by omega)) (gw_cV 1 hw mw_353 mw_355 mv_17 mw_4 mw_356 hd_E_stepOf ⟨Nat.le_of_ble_eq_true rfl, Nat.le_of_ble_eq_true rfl⟩) (ci := 1) rfl rfl rfl hK hP hD hS hA rfl hl.1 rfl (Nat.le_of_ble_eq_true rfl) dn_E_firstUnder_2 ⟨Nat.zero_le _, Nat.zero_le _⟩ (fun r2 u2 H locs hc2 hP hD hS => ?_)
  subst hc2
  have hP : va_P (dC, dI) vwCl [(a0, .inr (1, [.ref a1, .ref a2, .ref a3, .int (nI st), .int (nI ((ds_at t n st).1)), .int (nI ((ds_at t n st).2)), .int (nI b)])), (a1, .inl (cZ, 6, .inl X)), (a2, .inl (cI, 6, .inl Y)), (a3, .inl (cI, 6, .inl Z))] H := hP
  have hD : va_D A [(a0, .inr (1, [.ref a1, .ref a2, .ref a3, .int (nI st), .int (nI ((ds_at t n st).1)), .int (nI ((ds_at t n st).2)), .int (nI b)])), (a1, .inl (cZ, 6, .inl X)), (a2, .inl (cI, 6, .inl Y)), (a3, .inl (cI, 6, .inl Z))] := hD
  refine lv_istore_n (lv' := [(2, .int (nI (st + b - 1 - k))), (0, .ref a0), (1, .int (nI k))]) hx hb dn_E_firstUnder_5 rfl hl (by decide) rfl (fun ls hl => ?_)
  refine lv_iconst (v := 0) hx hb dn_E_firstUnder_6 (by decide) ?_
  refine lv_iload_n hx hb dn_E_firstUnder_7 rfl (lv_at hl 0 rfl) ?_
  refine gr_cgt (tgt := 28) hx hb 0 (st + b - 1 - k) rfl rfl (by decide) (by omega) dn_E_firstUnder_8 (by decide) (fun h8 => absurd h8 (by omega)) (fun h8 => ?_)
  refine lv_iload_n hx hb dn_E_firstUnder_11 rfl (lv_at hl 0 rfl) ?_
  refine lv_aload_n hx hb dn_E_firstUnder_12 rfl (lv_at hl 1 rfl) ?_
  refine va_get (D := (dC, dI)) (ci := 1) (v := .int (nI st)) (C := rn_E) (T := tn_E) (N := 7) hx hb hw ml_E hown hK hP 0 rfl rfl 3 (by decide) (hw _ mw_65) (fun _ h9 => h9) rfl dn_E_firstUnder_13 ?_
  refine gr_cge (tgt := 28) hx hb (st + b - 1 - k) st rfl rfl (by omega) (by omega) dn_E_firstUnder_16 (by decide) (fun h16 => ?_) (fun h16 => ?_)
  · skip
    refine lv_aload_n hx hb dn_E_firstUnder_28 rfl (lv_at hl 1 rfl) ?_
    refine va_get (D := (dC, dI)) (ci := 1) (v := .int (nI ((ds_at t n st).1))) (C := rn_E) (T := tn_E) (N := 7) hx hb hw ml_E hown hK hP 0 rfl rfl 4 (by decide) (hw _ mw_66) (fun _ h9 => h9) rfl dn_E_firstUnder_29 ?_
    exact hret (nI ((ds_at t n st).1)) () _ _ _ _ (by unfold du_f; first | rw [if_pos h16] | rw [if_neg (by omega)]) rfl hP hD hS dn_E_firstUnder_32
  · skip
    refine lv_aload_n hx hb dn_E_firstUnder_19 rfl (lv_at hl 1 rfl) ?_
    refine va_get (D := (dC, dI)) (ci := 1) (v := .ref a2) (C := rn_E) (T := tn_E) (N := 7) hx hb hw ml_E hown hK hP 0 rfl rfl 1 (by decide) (hw _ mw_63) (fun _ h9 => h9) rfl dn_E_firstUnder_20 ?_
    refine lv_iload_n hx hb dn_E_firstUnder_23 rfl (lv_at hl 0 rfl) ?_
    refine gr_iald hx hb hK hP 2 0 rfl rfl (st + b - 1 - k) rfl (by omega) (by decide) dn_E_firstUnder_24 ?_
    refine gr_top (y := (nI (ds_sf t n (st + b - 1 - k)))) (har.2.1 _ h16) ?_
    refine lv_goto (tgt := 32) hx hb dn_E_firstUnder_25 (by decide) ?_
    exact hret (nI (ds_sf t n (st + b - 1 - k))) () _ _ _ _ (by unfold du_f; first | rw [if_pos h16] | rw [if_neg (by omega)]) rfl hP hD hS dn_E_firstUnder_32

set_option maxRecDepth 100000 in
set_option maxHeartbeats 4000000 in
theorem c_E_countUnder (l : Launch) (dC : Nat → ClassId) (dI : Nat → Nat → Nat) (cI cZ : ClassId) (a0 a1 a2 a3 : Nat) (X Y Z : Nat → Int32) (t n st b : Nat) (hb1 : b ≤ 1) (hst : st ≤ 6) (har : de_ar t n st X Y Z) (k : Nat) (hk : k < st + b) : gc_I l yn_E_countUnder (gw yn_E_countUnder cn_E_countUnder 3 (some .int)) (rm_ 2 41) (dC, dI) vwCl (gT cI cZ) [.ref a0, .int (nI k)] [(a0, .inr (1, [.ref a1, .ref a2, .ref a3, .int (nI st), .int (nI ((ds_at t n st).1)), .int (nI ((ds_at t n st).2)), .int (nI b)])), (a1, .inl (cZ, 6, .inl X)), (a2, .inl (cI, 6, .inl Y)), (a3, .inl (cI, 6, .inl Z))] (fun r (_ : Unit) => r = nI (du_c t n st b k)) (fun _ => [(a0, .inr (1, [.ref a1, .ref a2, .ref a3, .int (nI st), .int (nI ((ds_at t n st).1)), .int (nI ((ds_at t n st).2)), .int (nI b)])), (a1, .inl (cZ, 6, .inl X)), (a2, .inl (cI, 6, .inl Y)), (a3, .inl (cI, 6, .inl Z))]) := by
  refine gc_I_of (cc := cn_E_countUnder) (maxL := 3) (ty := .int) (by decide) rfl (Nat.le_of_ble_eq_true rfl) ?_
  intro pp ee ss mm ar be me cd A Q ls H0 H locs hx hb hml hown hts hK hP hD hS hA hl hret
  have hw : ∀ w ∈ gw_T, w.before ar ss = true := fun w h => hts w (List.mem_cons_of_mem _ h)
  have hl : lv_has ls 3 [(0, .ref a0), (1, .int (nI k))] := hl
  refine lv_aload_n hx hb dn_E_countUnder_0 rfl (lv_at hl 0 rfl) ?_
  refine lv_iload_n hx hb dn_E_countUnder_1 rfl (lv_at hl 1 rfl) ?_
  refine gc_vi (pre := []) (wc := [(a0, .inr (1, [.ref a1, .ref a2, .ref a3, .int (nI st), .int (nI ((ds_at t n st).1)), .int (nI ((ds_at t n st).2)), .int (nI b)])), (a1, .inl (cZ, 6, .inl X)), (a2, .inl (cI, 6, .inl Y)), (a3, .inl (cI, 6, .inl Z))]) (po := []) (As := [.int (nI k)]) (rest := []) ⟨hx, hb, hml, hown, hw⟩ (c_E_stepOf l dC dI cI cZ a0 a1 a2 a3 X Y Z st ((ds_at t n st).1) ((ds_at t n st).2) b (by omega) (by omega) k (st + b - 1 - k) (by omega)) (gw_cV 1 hw mw_353 mw_355 mv_17 mw_4 mw_356 hd_E_stepOf ⟨Nat.le_of_ble_eq_true rfl, Nat.le_of_ble_eq_true rfl⟩) (ci := 1) rfl rfl rfl hK hP hD hS hA rfl hl.1 rfl (Nat.le_of_ble_eq_true rfl) dn_E_countUnder_2 ⟨Nat.zero_le _, Nat.zero_le _⟩ (fun r2 u2 H locs hc2 hP hD hS => ?_)
  subst hc2
  have hP : va_P (dC, dI) vwCl [(a0, .inr (1, [.ref a1, .ref a2, .ref a3, .int (nI st), .int (nI ((ds_at t n st).1)), .int (nI ((ds_at t n st).2)), .int (nI b)])), (a1, .inl (cZ, 6, .inl X)), (a2, .inl (cI, 6, .inl Y)), (a3, .inl (cI, 6, .inl Z))] H := hP
  have hD : va_D A [(a0, .inr (1, [.ref a1, .ref a2, .ref a3, .int (nI st), .int (nI ((ds_at t n st).1)), .int (nI ((ds_at t n st).2)), .int (nI b)])), (a1, .inl (cZ, 6, .inl X)), (a2, .inl (cI, 6, .inl Y)), (a3, .inl (cI, 6, .inl Z))] := hD
  refine lv_istore_n (lv' := [(2, .int (nI (st + b - 1 - k))), (0, .ref a0), (1, .int (nI k))]) hx hb dn_E_countUnder_5 rfl hl (by decide) rfl (fun ls hl => ?_)
  refine lv_iconst (v := 0) hx hb dn_E_countUnder_6 (by decide) ?_
  refine lv_iload_n hx hb dn_E_countUnder_7 rfl (lv_at hl 0 rfl) ?_
  refine gr_cgt (tgt := 28) hx hb 0 (st + b - 1 - k) rfl rfl (by decide) (by omega) dn_E_countUnder_8 (by decide) (fun h8 => absurd h8 (by omega)) (fun h8 => ?_)
  refine lv_iload_n hx hb dn_E_countUnder_11 rfl (lv_at hl 0 rfl) ?_
  refine lv_aload_n hx hb dn_E_countUnder_12 rfl (lv_at hl 1 rfl) ?_
  refine va_get (D := (dC, dI)) (ci := 1) (v := .int (nI st)) (C := rn_E) (T := tn_E) (N := 7) hx hb hw ml_E hown hK hP 0 rfl rfl 3 (by decide) (hw _ mw_65) (fun _ h9 => h9) rfl dn_E_countUnder_13 ?_
  refine gr_cge (tgt := 28) hx hb (st + b - 1 - k) st rfl rfl (by omega) (by omega) dn_E_countUnder_16 (by decide) (fun h16 => ?_) (fun h16 => ?_)
  · skip
    refine lv_aload_n hx hb dn_E_countUnder_28 rfl (lv_at hl 1 rfl) ?_
    refine va_get (D := (dC, dI)) (ci := 1) (v := .int (nI ((ds_at t n st).2))) (C := rn_E) (T := tn_E) (N := 7) hx hb hw ml_E hown hK hP 0 rfl rfl 5 (by decide) (hw _ mw_67) (fun _ h9 => h9) rfl dn_E_countUnder_29 ?_
    exact hret (nI ((ds_at t n st).2)) () _ _ _ _ (by unfold du_c; first | rw [if_pos h16] | rw [if_neg (by omega)]) rfl hP hD hS dn_E_countUnder_32
  · skip
    refine lv_aload_n hx hb dn_E_countUnder_19 rfl (lv_at hl 1 rfl) ?_
    refine va_get (D := (dC, dI)) (ci := 1) (v := .ref a3) (C := rn_E) (T := tn_E) (N := 7) hx hb hw ml_E hown hK hP 0 rfl rfl 2 (by decide) (hw _ mw_64) (fun _ h9 => h9) rfl dn_E_countUnder_20 ?_
    refine lv_iload_n hx hb dn_E_countUnder_23 rfl (lv_at hl 0 rfl) ?_
    refine gr_iald hx hb hK hP 3 0 rfl rfl (st + b - 1 - k) rfl (by omega) (by decide) dn_E_countUnder_24 ?_
    refine gr_top (y := (nI (ds_sc t n (st + b - 1 - k)))) (har.2.2 _ h16) ?_
    refine lv_goto (tgt := 32) hx hb dn_E_countUnder_25 (by decide) ?_
    exact hret (nI (ds_sc t n (st + b - 1 - k))) () _ _ _ _ (by unfold du_c; first | rw [if_pos h16] | rw [if_neg (by omega)]) rfl hP hD hS dn_E_countUnder_32

set_option maxRecDepth 100000 in
set_option maxHeartbeats 4000000 in
theorem c_E_wentRightAbove (l : Launch) (dC : Nat → ClassId) (dI : Nat → Nat → Nat) (cI cZ : ClassId) (a0 a1 a2 a3 : Nat) (X Y Z : Nat → Int32) (t n st b : Nat) (hb1 : b ≤ 1) (hst : st ≤ 6) (har : de_ar t n st X Y Z) (k s : Nat) (hks : s + 1 + k = st + b) : gc_I l yn_E_wentRightAbove (gw yn_E_wentRightAbove cn_E_wentRightAbove 3 (some .boolean)) (rm_ 2 41) (dC, dI) vwCl (gT cI cZ) [.ref a0, .int (nI k)] [(a0, .inr (1, [.ref a1, .ref a2, .ref a3, .int (nI st), .int (nI ((ds_at t n st).1)), .int (nI ((ds_at t n st).2)), .int (nI b)])), (a1, .inl (cZ, 6, .inl X)), (a2, .inl (cI, 6, .inl Y)), (a3, .inl (cI, 6, .inl Z))] (fun r (_ : Unit) => (r = 1 ∧ s < st ∧ ds_rt t n s = 1) ∨ (r = 0 ∧ ¬ (s < st ∧ ds_rt t n s = 1))) (fun _ => [(a0, .inr (1, [.ref a1, .ref a2, .ref a3, .int (nI st), .int (nI ((ds_at t n st).1)), .int (nI ((ds_at t n st).2)), .int (nI b)])), (a1, .inl (cZ, 6, .inl X)), (a2, .inl (cI, 6, .inl Y)), (a3, .inl (cI, 6, .inl Z))]) := by
  refine gc_I_of (cc := cn_E_wentRightAbove) (maxL := 3) (ty := .boolean) (by decide) rfl (Nat.le_of_ble_eq_true rfl) ?_
  intro pp ee ss mm ar be me cd A Q ls H0 H locs hx hb hml hown hts hK hP hD hS hA hl hret
  have hw : ∀ w ∈ gw_T, w.before ar ss = true := fun w h => hts w (List.mem_cons_of_mem _ h)
  have hl : lv_has ls 3 [(0, .ref a0), (1, .int (nI k))] := hl
  refine lv_aload_n hx hb dn_E_wentRightAbove_0 rfl (lv_at hl 0 rfl) ?_
  refine lv_iload_n hx hb dn_E_wentRightAbove_1 rfl (lv_at hl 1 rfl) ?_
  refine gc_vi (pre := []) (wc := [(a0, .inr (1, [.ref a1, .ref a2, .ref a3, .int (nI st), .int (nI ((ds_at t n st).1)), .int (nI ((ds_at t n st).2)), .int (nI b)])), (a1, .inl (cZ, 6, .inl X)), (a2, .inl (cI, 6, .inl Y)), (a3, .inl (cI, 6, .inl Z))]) (po := []) (As := [.int (nI k)]) (rest := []) ⟨hx, hb, hml, hown, hw⟩ (c_E_stepOf l dC dI cI cZ a0 a1 a2 a3 X Y Z st ((ds_at t n st).1) ((ds_at t n st).2) b (by omega) (by omega) k s (by omega)) (gw_cV 1 hw mw_353 mw_355 mv_17 mw_4 mw_356 hd_E_stepOf ⟨Nat.le_of_ble_eq_true rfl, Nat.le_of_ble_eq_true rfl⟩) (ci := 1) rfl rfl rfl hK hP hD hS hA rfl hl.1 rfl (Nat.le_of_ble_eq_true rfl) dn_E_wentRightAbove_2 ⟨Nat.zero_le _, Nat.zero_le _⟩ (fun r2 u2 H locs hc2 hP hD hS => ?_)
  subst hc2
  have hP : va_P (dC, dI) vwCl [(a0, .inr (1, [.ref a1, .ref a2, .ref a3, .int (nI st), .int (nI ((ds_at t n st).1)), .int (nI ((ds_at t n st).2)), .int (nI b)])), (a1, .inl (cZ, 6, .inl X)), (a2, .inl (cI, 6, .inl Y)), (a3, .inl (cI, 6, .inl Z))] H := hP
  have hD : va_D A [(a0, .inr (1, [.ref a1, .ref a2, .ref a3, .int (nI st), .int (nI ((ds_at t n st).1)), .int (nI ((ds_at t n st).2)), .int (nI b)])), (a1, .inl (cZ, 6, .inl X)), (a2, .inl (cI, 6, .inl Y)), (a3, .inl (cI, 6, .inl Z))] := hD
  refine lv_istore_n (lv' := [(2, .int (nI s)), (0, .ref a0), (1, .int (nI k))]) hx hb dn_E_wentRightAbove_5 rfl hl (by decide) rfl (fun ls hl => ?_)
  refine lv_iconst (v := 0) hx hb dn_E_wentRightAbove_6 (by decide) ?_
  refine lv_iload_n hx hb dn_E_wentRightAbove_7 rfl (lv_at hl 0 rfl) ?_
  refine gr_cgt (tgt := 32) hx hb 0 s rfl rfl (by decide) (by omega) dn_E_wentRightAbove_8 (by decide) (fun h8 => absurd h8 (by omega)) (fun h8 => ?_)
  refine lv_iload_n hx hb dn_E_wentRightAbove_11 rfl (lv_at hl 0 rfl) ?_
  refine lv_aload_n hx hb dn_E_wentRightAbove_12 rfl (lv_at hl 1 rfl) ?_
  refine va_get (D := (dC, dI)) (ci := 1) (v := .int (nI st)) (C := rn_E) (T := tn_E) (N := 7) hx hb hw ml_E hown hK hP 0 rfl rfl 3 (by decide) (hw _ mw_65) (fun _ h9 => h9) rfl dn_E_wentRightAbove_13 ?_
  refine gr_cge (tgt := 32) hx hb s st rfl rfl (by omega) (by omega) dn_E_wentRightAbove_16 (by decide) (fun h16 => ?_) (fun h16 => ?_)
  · skip
    refine lv_iconst (v := 0) hx hb dn_E_wentRightAbove_32 (by decide) ?_
    exact hret 0 () _ _ _ _ (Or.inr ⟨rfl, fun q => by first | omega | exact absurd ((har.1 _ h16).symm.trans h25) (by rw [q.2]; decide)⟩) rfl hP hD hS dn_E_wentRightAbove_33
  · skip
    refine lv_aload_n hx hb dn_E_wentRightAbove_19 rfl (lv_at hl 1 rfl) ?_
    refine va_get (D := (dC, dI)) (ci := 1) (v := .ref a1) (C := rn_E) (T := tn_E) (N := 7) hx hb hw ml_E hown hK hP 0 rfl rfl 0 (by decide) (hw _ mw_62) (fun _ h9 => h9) rfl dn_E_wentRightAbove_20 ?_
    refine lv_iload_n hx hb dn_E_wentRightAbove_23 rfl (lv_at hl 0 rfl) ?_
    refine gr_zald hx hb hK hP 1 1 rfl rfl s rfl (by omega) (by decide) dn_E_wentRightAbove_24 ?_
    refine lv_if_eq (tgt := 32) hx hb dn_E_wentRightAbove_25 (by decide) (fun h25 => ?_) (fun h25 => ?_)
    · skip
      refine lv_iconst (v := 0) hx hb dn_E_wentRightAbove_32 (by decide) ?_
      exact hret 0 () _ _ _ _ (Or.inr ⟨rfl, fun q => by first | omega | exact absurd ((har.1 _ h16).symm.trans h25) (by rw [q.2]; decide)⟩) rfl hP hD hS dn_E_wentRightAbove_33
    · skip
      refine lv_iconst (v := 1) hx hb dn_E_wentRightAbove_28 (by decide) ?_
      refine lv_goto (tgt := 33) hx hb dn_E_wentRightAbove_29 (by decide) ?_
      exact hret 1 () _ _ _ _ (Or.inl ⟨rfl, h16, (ds_rt01 t n s).elim (fun q => absurd ((har.1 _ h16).trans q) h25) id⟩) rfl hP hD hS dn_E_wentRightAbove_33

set_option maxRecDepth 100000 in
set_option maxHeartbeats 4000000 in
theorem c_F_add (l : Launch) (dC : Nat → ClassId) (dI : Nat → Nat → Nat) (cI cZ : ClassId) (a0 a1 : Nat) (fd : Nat → Int32) (c : Nat) (hc : c ≤ 12) (x : Int32) : gc_I l yn_F_add (gw yn_F_add cn_F_add 2 (some .boolean)) (rm_ 0 0) (dC, dI) vwCl (gT cI cZ) [.ref a0, .int x] [(a0, .inr (2, [.ref a1, .int (nI c)])), (a1, .inl (cI, 12, .inl fd))] (fun r (u : (Nat → Int32) × Nat) => (r = 1 ∧ c < 12 ∧ u = (upd fd c x, c + 1)) ∨ (r = 0 ∧ 12 ≤ c ∧ u = (fd, c))) (fun u => [(a0, .inr (2, [.ref a1, .int (nI u.2)])), (a1, .inl (cI, 12, .inl u.1))]) := by
  refine gc_I_of (cc := cn_F_add) (maxL := 2) (ty := .boolean) (by decide) rfl (Nat.le_of_ble_eq_true rfl) ?_
  intro pp ee ss mm ar be me cd A Q ls H0 H locs hx hb hml hown hts hK hP hD hS hA hl hret
  have hw : ∀ w ∈ gw_T, w.before ar ss = true := fun w h => hts w (List.mem_cons_of_mem _ h)
  have hl : lv_has ls 2 [(0, .ref a0), (1, .int x)] := hl
  refine lv_aload_n hx hb dn_F_add_0 rfl (lv_at hl 0 rfl) ?_
  refine va_get (D := (dC, dI)) (ci := 2) (v := .int (nI c)) (C := rn_F) (T := tn_F) (N := 2) hx hb hw ml_F hown hK hP 0 rfl rfl 1 (by decide) (hw _ mw_92) (fun _ h9 => h9) rfl dn_F_add_1 ?_
  refine lv_bipush (v := 12) hx hb dn_F_add_4 (by decide) ?_
  refine gr_clt (tgt := 11) hx hb c 12 rfl rfl (by omega) (by decide) dn_F_add_6 (by decide) (fun h6 => ?_) (fun h6 => ?_)
  · skip
    refine lv_aload_n hx hb dn_F_add_11 rfl (lv_at hl 0 rfl) ?_
    refine va_get (D := (dC, dI)) (ci := 2) (v := .ref a1) (C := rn_F) (T := tn_F) (N := 2) hx hb hw ml_F hown hK hP 0 rfl rfl 0 (by decide) (hw _ mw_91) (fun _ h9 => h9) rfl dn_F_add_12 ?_
    refine lv_aload_n hx hb dn_F_add_15 rfl (lv_at hl 0 rfl) ?_
    refine va_get (D := (dC, dI)) (ci := 2) (v := .int (nI c)) (C := rn_F) (T := tn_F) (N := 2) hx hb hw ml_F hown hK hP 0 rfl rfl 1 (by decide) (hw _ mw_92) (fun _ h9 => h9) rfl dn_F_add_16 ?_
    refine lv_iload_n hx hb dn_F_add_19 rfl (lv_at hl 1 rfl) ?_
    refine gr_iast hx hb hK hP hD hS 1 0 rfl rfl c rfl (by omega) (by decide) dn_F_add_20 (fun H locs hP hD hS => ?_)
    have hP : va_P (dC, dI) vwCl [(a0, .inr (2, [.ref a1, .int (nI c)])), (a1, .inl (cI, 12, .inl (upd fd c x)))] H := hP
    have hD : va_D A [(a0, .inr (2, [.ref a1, .int (nI c)])), (a1, .inl (cI, 12, .inl (upd fd c x)))] := hD
    refine lv_aload_n hx hb dn_F_add_21 rfl (lv_at hl 0 rfl) ?_
    refine lv_dup hx hb dn_F_add_22 rfl ?_
    refine va_get (D := (dC, dI)) (ci := 2) (v := .int (nI c)) (C := rn_F) (T := tn_F) (N := 2) hx hb hw ml_F hown hK hP 0 rfl rfl 1 (by decide) (hw _ mw_92) (fun _ h9 => h9) rfl dn_F_add_23 ?_
    refine lv_iconst (v := 1) hx hb dn_F_add_26 (by decide) ?_
    refine gr_addN hx hb c 1 rfl rfl dn_F_add_27 ?_
    refine va_put (D := (dC, dI)) (ci := 2) (v := .int (nI (c + 1))) (ty := .int) (C := rn_F) (T := tn_F) (N := 2) hx hb hw ml_F tt_F to_F nd_F hown hK hP hD hS 0 rfl rfl 1 (by decide) (hw _ mw_92) (fun _ h9 => h9) rfl (by decide +kernel) rfl rfl (Nat.le_of_ble_eq_true rfl) dn_F_add_28 (fun H locs hP hD hS => ?_)
    have hP : va_P (dC, dI) vwCl [(a0, .inr (2, [.ref a1, .int (nI (c + 1))])), (a1, .inl (cI, 12, .inl (upd fd c x)))] H := hP
    have hD : va_D A [(a0, .inr (2, [.ref a1, .int (nI (c + 1))])), (a1, .inl (cI, 12, .inl (upd fd c x)))] := hD
    refine lv_iconst (v := 1) hx hb dn_F_add_31 (by decide) ?_
    exact hret 1 (upd fd c x, (c + 1)) _ _ _ _ (Or.inl ⟨rfl, h6, rfl⟩) rfl hP hD hS dn_F_add_32
  · skip
    refine lv_iconst (v := 0) hx hb dn_F_add_9 (by decide) ?_
    exact hret 0 (fd, c) _ _ _ _ (Or.inr ⟨rfl, h6, rfl⟩) rfl hP hD hS dn_F_add_10

set_option maxRecDepth 100000 in
set_option maxHeartbeats 4000000 in
theorem c_F_clear (l : Launch) (dC : Nat → ClassId) (dI : Nat → Nat → Nat) (cI cZ : ClassId) (a0 a1 : Nat) (fd : Nat → Int32) (c : Nat) : gc_V l yn_F_clear (gw yn_F_clear cn_F_clear 1 none) (rm_ 0 0) (dC, dI) vwCl (gT cI cZ) [.ref a0] [(a0, .inr (2, [.ref a1, .int (nI c)])), (a1, .inl (cI, 12, .inl fd))] (fun (_ : Unit) => True) (fun _ => [(a0, .inr (2, [.ref a1, .int (nI 0)])), (a1, .inl (cI, 12, .inl fd))]) := by
  refine gc_V_of (cc := cn_F_clear) (maxL := 1) (by decide) rfl (Nat.le_of_ble_eq_true rfl) ?_
  intro pp ee ss mm ar be me cd A Q ls H0 H locs hx hb hml hown hts hK hP hD hS hA hl hret
  have hw : ∀ w ∈ gw_T, w.before ar ss = true := fun w h => hts w (List.mem_cons_of_mem _ h)
  have hl : lv_has ls 1 [(0, .ref a0)] := hl
  refine lv_aload_n hx hb dn_F_clear_0 rfl (lv_at hl 0 rfl) ?_
  refine lv_iconst (v := 0) hx hb dn_F_clear_1 (by decide) ?_
  refine va_put (D := (dC, dI)) (ci := 2) (v := .int 0) (ty := .int) (C := rn_F) (T := tn_F) (N := 2) hx hb hw ml_F tt_F to_F nd_F hown hK hP hD hS 0 rfl rfl 1 (by decide) (hw _ mw_92) (fun _ h9 => h9) rfl (by decide +kernel) rfl rfl (Nat.le_of_ble_eq_true rfl) dn_F_clear_2 (fun H locs hP hD hS => ?_)
  have hP : va_P (dC, dI) vwCl [(a0, .inr (2, [.ref a1, .int 0])), (a1, .inl (cI, 12, .inl fd))] H := hP
  have hD : va_D A [(a0, .inr (2, [.ref a1, .int 0])), (a1, .inl (cI, 12, .inl fd))] := hD
  exact hret () _ _ _ _ trivial hP hD hS dn_F_clear_5

set_option maxRecDepth 100000 in
set_option maxHeartbeats 4000000 in
theorem c_F_proveLeaf (l : Launch) (dC : Nat → ClassId) (dI : Nat → Nat → Nat) (cI cZ : ClassId) (a0 a1 : Nat) (fd : Nat → Int32) (c : Nat) (hc : c ≤ 12) (b0 b1 b2 b3 : Nat) (X Y Z : Nat → Int32) (t n st : Nat) (hst : st ≤ 6) (har : de_ar t n st X Y Z) (root : Int32) : gc_I l yn_F_proveLeaf (gw yn_F_proveLeaf cn_F_proveLeaf 5 (some .boolean)) (rm_ 3 64) (dC, dI) vwCl (gT cI cZ) [.ref a0, .ref b0, .int root] [(a0, .inr (2, [.ref a1, .int (nI c)])), (a1, .inl (cI, 12, .inl fd)), (b0, .inr (1, [.ref b1, .ref b2, .ref b3, .int (nI st), .int (nI ((ds_at t n st).1)), .int (nI ((ds_at t n st).2)), .int (nI 1)])), (b1, .inl (cZ, 6, .inl X)), (b2, .inl (cI, 6, .inl Y)), (b3, .inl (cI, 6, .inl Z))] (fun r (_ : Unit) => (r = 1 ∧ (c = st + 1 ∧ pf_up fd t n st st = root)) ∨ (r = 0 ∧ ¬ (c = st + 1 ∧ pf_up fd t n st st = root))) (fun _ => [(a0, .inr (2, [.ref a1, .int (nI c)])), (a1, .inl (cI, 12, .inl fd)), (b0, .inr (1, [.ref b1, .ref b2, .ref b3, .int (nI st), .int (nI ((ds_at t n st).1)), .int (nI ((ds_at t n st).2)), .int (nI 1)])), (b1, .inl (cZ, 6, .inl X)), (b2, .inl (cI, 6, .inl Y)), (b3, .inl (cI, 6, .inl Z))]) := by
  refine gc_I_of (cc := cn_F_proveLeaf) (maxL := 5) (ty := .boolean) (by decide) rfl (Nat.le_of_ble_eq_true rfl) ?_
  intro pp ee ss mm ar be me cd A Q ls H0 H locs hx hb hml hown hts hK hP hD hS hA hl hret
  have hw : ∀ w ∈ gw_T, w.before ar ss = true := fun w h => hts w (List.mem_cons_of_mem _ h)
  have hl : lv_has ls 5 [(0, .ref a0), (1, .ref b0), (2, .int root)] := hl
  refine lv_aload_n hx hb dn_F_proveLeaf_0 rfl (lv_at hl 0 rfl) ?_
  refine va_get (D := (dC, dI)) (ci := 2) (v := .int (nI c)) (C := rn_F) (T := tn_F) (N := 2) hx hb hw ml_F hown hK hP 0 rfl rfl 1 (by decide) (hw _ mw_92) (fun _ h9 => h9) rfl dn_F_proveLeaf_1 ?_
  refine lv_aload_n hx hb dn_F_proveLeaf_4 rfl (lv_at hl 1 rfl) ?_
  refine gc_vi (pre := [(a0, .inr (2, [.ref a1, .int (nI c)])), (a1, .inl (cI, 12, .inl fd))]) (wc := [(b0, .inr (1, [.ref b1, .ref b2, .ref b3, .int (nI st), .int (nI ((ds_at t n st).1)), .int (nI ((ds_at t n st).2)), .int (nI 1)])), (b1, .inl (cZ, 6, .inl X)), (b2, .inl (cI, 6, .inl Y)), (b3, .inl (cI, 6, .inl Z))]) (po := []) (As := []) (rest := [.int (nI c)]) ⟨hx, hb, hml, hown, hw⟩ (c_E_digestCount l dC dI cI cZ b0 b1 b2 b3 X Y Z st ((ds_at t n st).1) ((ds_at t n st).2) 1 (by omega) (by omega) ) (gw_cV 0 hw mw_387 mw_346 mw_347 mw_4 mw_348 hd_E_digestCount ⟨Nat.le_of_ble_eq_true rfl, Nat.le_of_ble_eq_true rfl⟩) (ci := 1) rfl rfl rfl hK hP hD hS hA rfl hl.1 rfl (Nat.le_of_ble_eq_true rfl) dn_F_proveLeaf_5 ⟨Nat.zero_le _, Nat.zero_le _⟩ (fun r5 u5 H locs hc5 hP hD hS => ?_)
  subst hc5
  have hP : va_P (dC, dI) vwCl [(a0, .inr (2, [.ref a1, .int (nI c)])), (a1, .inl (cI, 12, .inl fd)), (b0, .inr (1, [.ref b1, .ref b2, .ref b3, .int (nI st), .int (nI ((ds_at t n st).1)), .int (nI ((ds_at t n st).2)), .int (nI 1)])), (b1, .inl (cZ, 6, .inl X)), (b2, .inl (cI, 6, .inl Y)), (b3, .inl (cI, 6, .inl Z))] H := hP
  have hD : va_D A [(a0, .inr (2, [.ref a1, .int (nI c)])), (a1, .inl (cI, 12, .inl fd)), (b0, .inr (1, [.ref b1, .ref b2, .ref b3, .int (nI st), .int (nI ((ds_at t n st).1)), .int (nI ((ds_at t n st).2)), .int (nI 1)])), (b1, .inl (cZ, 6, .inl X)), (b2, .inl (cI, 6, .inl Y)), (b3, .inl (cI, 6, .inl Z))] := hD
  refine gr_ceq (tgt := 13) hx hb c (st + 1) rfl rfl (by omega) (by omega) dn_F_proveLeaf_8 (by decide) (fun h8 => ?_) (fun h8 => ?_)
  · skip
    refine lv_aload_n hx hb dn_F_proveLeaf_13 rfl (lv_at hl 0 rfl) ?_
    refine va_get (D := (dC, dI)) (ci := 2) (v := .ref a1) (C := rn_F) (T := tn_F) (N := 2) hx hb hw ml_F hown hK hP 0 rfl rfl 0 (by decide) (hw _ mw_91) (fun _ h9 => h9) rfl dn_F_proveLeaf_14 ?_
    refine lv_iconst (v := 0) hx hb dn_F_proveLeaf_17 (by decide) ?_
    refine gr_iald hx hb hK hP 1 0 rfl rfl 0 rfl (by omega) (by decide) dn_F_proveLeaf_18 ?_
    refine lv_istore_n (lv' := [(3, .int (fd 0)), (0, .ref a0), (1, .ref b0), (2, .int root)]) hx hb dn_F_proveLeaf_19 rfl hl (by decide) rfl (fun ls hl => ?_)
    refine lv_iconst (v := 1) hx hb dn_F_proveLeaf_20 (by decide) ?_
    refine lv_istore (lv' := [(4, .int 1), (3, .int (fd 0)), (0, .ref a0), (1, .ref b0), (2, .int root)]) hx hb dn_F_proveLeaf_21 hl (by decide) rfl (fun ls hl => ?_)
    have lp23 : ∀ (n23_ : Nat) (q : Nat) (ls : Array Slot) (H : Heap) (locs : List Loc), st - q = n23_ → lv_has ls 5 [(0, .ref a0), (1, .ref b0), (2, .int root), (3, .int (pf_up fd t n st q)), (4, .int (nI (q + 1)))] → va_P (dC, dI) vwCl [(a0, .inr (2, [.ref a1, .int (nI c)])), (a1, .inl (cI, 12, .inl fd)), (b0, .inr (1, [.ref b1, .ref b2, .ref b3, .int (nI st), .int (nI ((ds_at t n st).1)), .int (nI ((ds_at t n st).2)), .int (nI 1)])), (b1, .inl (cZ, 6, .inl X)), (b2, .inl (cI, 6, .inl Y)), (b3, .inl (cI, 6, .inl Z))] H → va_D A [(a0, .inr (2, [.ref a1, .int (nI c)])), (a1, .inl (cI, 12, .inl fd)), (b0, .inr (1, [.ref b1, .ref b2, .ref b3, .int (nI st), .int (nI ((ds_at t n st).1)), .int (nI ((ds_at t n st).2)), .int (nI 1)])), (b1, .inl (cZ, 6, .inl X)), (b2, .inl (cI, 6, .inl Y)), (b3, .inl (cI, 6, .inl Z))] → va_S A H0 H locs → (q ≤ st) → W pp l ee (headSpec (gw yn_F_proveLeaf cn_F_proveLeaf 5 (some .boolean)) (rm_ 3 64)).room ss mm ar be me cd H locs 0 0 Q (F0 mm 23 ls []) := by
      intro n23_
      induction n23_ using Nat.strongRecOn with
      | ind n23_ ih23 =>
        intro q ls H locs hn23_ hl hP hD hS hq
        refine lv_iload hx hb dn_F_proveLeaf_23 (lv_at hl 4 rfl) ?_
        refine lv_aload_n hx hb dn_F_proveLeaf_25 rfl (lv_at hl 0 rfl) ?_
        refine va_get (D := (dC, dI)) (ci := 2) (v := .int (nI c)) (C := rn_F) (T := tn_F) (N := 2) hx hb hw ml_F hown hK hP 0 rfl rfl 1 (by decide) (hw _ mw_92) (fun _ h9 => h9) rfl dn_F_proveLeaf_26 ?_
        refine gr_cge (tgt := 73) hx hb (q + 1) c rfl rfl (by omega) (by omega) dn_F_proveLeaf_29 (by decide) (fun h29 => ?_) (fun h29 => ?_)
        · skip
          obtain rfl : st = q := by omega
          refine lv_iload_n hx hb dn_F_proveLeaf_73 rfl (lv_at hl 3 rfl) ?_
          refine lv_iload_n hx hb dn_F_proveLeaf_74 rfl (lv_at hl 2 rfl) ?_
          refine lv_icmp_ne (tgt := 82) hx hb dn_F_proveLeaf_75 (by decide) (fun h75 => ?_) (fun h75 => ?_)
          · skip
            refine lv_iconst (v := 0) hx hb dn_F_proveLeaf_82 (by decide) ?_
            exact hret 0 () _ _ _ _ (Or.inr ⟨rfl, fun q => h75 q.2⟩) rfl hP hD hS dn_F_proveLeaf_83
          · skip
            refine lv_iconst (v := 1) hx hb dn_F_proveLeaf_78 (by decide) ?_
            refine lv_goto (tgt := 83) hx hb dn_F_proveLeaf_79 (by decide) ?_
            exact hret 1 () _ _ _ _ (Or.inl ⟨rfl, h8, h75⟩) rfl hP hD hS dn_F_proveLeaf_83
        · skip
          refine lv_aload_n hx hb dn_F_proveLeaf_32 rfl (lv_at hl 1 rfl) ?_
          refine lv_iload hx hb dn_F_proveLeaf_33 (lv_at hl 4 rfl) ?_
          refine gc_vi (pre := [(a0, .inr (2, [.ref a1, .int (nI c)])), (a1, .inl (cI, 12, .inl fd))]) (wc := [(b0, .inr (1, [.ref b1, .ref b2, .ref b3, .int (nI st), .int (nI ((ds_at t n st).1)), .int (nI ((ds_at t n st).2)), .int (nI 1)])), (b1, .inl (cZ, 6, .inl X)), (b2, .inl (cI, 6, .inl Y)), (b3, .inl (cI, 6, .inl Z))]) (po := []) (As := [.int (nI (q + 1))]) (rest := []) ⟨hx, hb, hml, hown, hw⟩ (c_E_wentRightAbove l dC dI cI cZ b0 b1 b2 b3 X Y Z t n st 1 (by omega) (by omega) har (q + 1) (st - (q + 1)) (by omega)) (gw_cV 1 hw mw_388 mw_389 mw_390 mw_4 mw_391 hd_E_wentRightAbove ⟨Nat.le_of_ble_eq_true rfl, Nat.le_of_ble_eq_true rfl⟩) (ci := 1) rfl rfl rfl hK hP hD hS hA rfl hl.1 rfl (Nat.le_of_ble_eq_true rfl) dn_F_proveLeaf_35 ⟨Nat.zero_le _, Nat.zero_le _⟩ (fun r35 u35 H locs hc35 hP hD hS => ?_)
          have hP : va_P (dC, dI) vwCl [(a0, .inr (2, [.ref a1, .int (nI c)])), (a1, .inl (cI, 12, .inl fd)), (b0, .inr (1, [.ref b1, .ref b2, .ref b3, .int (nI st), .int (nI ((ds_at t n st).1)), .int (nI ((ds_at t n st).2)), .int (nI 1)])), (b1, .inl (cZ, 6, .inl X)), (b2, .inl (cI, 6, .inl Y)), (b3, .inl (cI, 6, .inl Z))] H := hP
          have hD : va_D A [(a0, .inr (2, [.ref a1, .int (nI c)])), (a1, .inl (cI, 12, .inl fd)), (b0, .inr (1, [.ref b1, .ref b2, .ref b3, .int (nI st), .int (nI ((ds_at t n st).1)), .int (nI ((ds_at t n st).2)), .int (nI 1)])), (b1, .inl (cZ, 6, .inl X)), (b2, .inl (cI, 6, .inl Y)), (b3, .inl (cI, 6, .inl Z))] := hD
          rcases hc35 with ⟨rfl, hw35⟩ | ⟨rfl, hw35⟩
          · skip
            refine lv_if_eq (tgt := 55) hx hb dn_F_proveLeaf_38 (by decide) (fun h => absurd h (by decide)) (fun _ => ?_)
            refine lv_aload_n hx hb dn_F_proveLeaf_41 rfl (lv_at hl 0 rfl) ?_
            refine va_get (D := (dC, dI)) (ci := 2) (v := .ref a1) (C := rn_F) (T := tn_F) (N := 2) hx hb hw ml_F hown hK hP 0 rfl rfl 0 (by decide) (hw _ mw_91) (fun _ h9 => h9) rfl dn_F_proveLeaf_42 ?_
            refine lv_iload hx hb dn_F_proveLeaf_45 (lv_at hl 4 rfl) ?_
            refine gr_iald hx hb hK hP 1 0 rfl rfl (q + 1) rfl (by omega) (by decide) dn_F_proveLeaf_47 ?_
            refine lv_iload_n hx hb dn_F_proveLeaf_48 rfl (lv_at hl 3 rfl) ?_
            refine gc_s0 (v := (hf_node (fd (q + 1)) (pf_up fd t n st q))) (As := [.int (fd (q + 1)), .int (pf_up fd t n st q)]) (rest := []) ⟨hx, hb, hml, hown, hw⟩ (c_H_node l dC dI cI cZ (fd (q + 1)) (pf_up fd t n st q)) (gw_cS 2 hw mw_392 mw_315 mw_7 mw_316 hd_H_node ⟨Nat.le_of_ble_eq_true rfl, Nat.le_of_ble_eq_true rfl⟩) hK hP hD hS hA rfl hl.1 rfl (Nat.le_of_ble_eq_true rfl) dn_F_proveLeaf_49 ⟨Nat.zero_le _, Nat.zero_le _⟩ (fun H locs hP hD hS => ?_)
            refine lv_goto (tgt := 66) hx hb dn_F_proveLeaf_52 (by decide) ?_
            refine gr_top (y := pf_up fd t n st (q + 1)) (by rw [pf_up]; first | rw [if_pos hw35.2] | rw [if_neg (fun z => hw35 ⟨by omega, z⟩)]) ?_
            refine lv_istore_n (lv' := [(3, .int (pf_up fd t n st (q + 1))), (0, .ref a0), (1, .ref b0), (2, .int root), (4, .int (nI (q + 1)))]) hx hb dn_F_proveLeaf_66 rfl hl (by decide) rfl (fun ls hl => ?_)
            refine lv_iinc (lv' := [(4, .int (nI ((q + 1) + 1))), (3, .int (pf_up fd t n st (q + 1))), (0, .ref a0), (1, .ref b0), (2, .int root)]) (v := (nI ((q + 1) + 1))) (k := 4) hx hb dn_F_proveLeaf_67 hl rfl (nI_add (q + 1) 1) (by decide) rfl (fun ls hl => ?_)
            refine lv_goto (tgt := 23) hx hb dn_F_proveLeaf_70 (by decide) ?_
            exact ih23 (st - (q + 1)) (by omega) (q + 1) ls H locs rfl (lv_sub hl [2, 3, 4, 1, 0] rfl) hP hD hS (by omega)
          · skip
            refine lv_if_eq (tgt := 55) hx hb dn_F_proveLeaf_38 (by decide) (fun _ => ?_) (fun h => absurd h (by decide))
            refine lv_iload_n hx hb dn_F_proveLeaf_55 rfl (lv_at hl 3 rfl) ?_
            refine lv_aload_n hx hb dn_F_proveLeaf_56 rfl (lv_at hl 0 rfl) ?_
            refine va_get (D := (dC, dI)) (ci := 2) (v := .ref a1) (C := rn_F) (T := tn_F) (N := 2) hx hb hw ml_F hown hK hP 0 rfl rfl 0 (by decide) (hw _ mw_91) (fun _ h9 => h9) rfl dn_F_proveLeaf_57 ?_
            refine lv_iload hx hb dn_F_proveLeaf_60 (lv_at hl 4 rfl) ?_
            refine gr_iald hx hb hK hP 1 0 rfl rfl (q + 1) rfl (by omega) (by decide) dn_F_proveLeaf_62 ?_
            refine gc_s0 (v := (hf_node (pf_up fd t n st q) (fd (q + 1)))) (As := [.int (pf_up fd t n st q), .int (fd (q + 1))]) (rest := []) ⟨hx, hb, hml, hown, hw⟩ (c_H_node l dC dI cI cZ (pf_up fd t n st q) (fd (q + 1))) (gw_cS 2 hw mw_392 mw_315 mw_7 mw_316 hd_H_node ⟨Nat.le_of_ble_eq_true rfl, Nat.le_of_ble_eq_true rfl⟩) hK hP hD hS hA rfl hl.1 rfl (Nat.le_of_ble_eq_true rfl) dn_F_proveLeaf_63 ⟨Nat.zero_le _, Nat.zero_le _⟩ (fun H locs hP hD hS => ?_)
            refine gr_top (y := pf_up fd t n st (q + 1)) (by rw [pf_up]; first | rw [if_pos hw35.2] | rw [if_neg (fun z => hw35 ⟨by omega, z⟩)]) ?_
            refine lv_istore_n (lv' := [(3, .int (pf_up fd t n st (q + 1))), (0, .ref a0), (1, .ref b0), (2, .int root), (4, .int (nI (q + 1)))]) hx hb dn_F_proveLeaf_66 rfl hl (by decide) rfl (fun ls hl => ?_)
            refine lv_iinc (lv' := [(4, .int (nI ((q + 1) + 1))), (3, .int (pf_up fd t n st (q + 1))), (0, .ref a0), (1, .ref b0), (2, .int root)]) (v := (nI ((q + 1) + 1))) (k := 4) hx hb dn_F_proveLeaf_67 hl rfl (nI_add (q + 1) 1) (by decide) rfl (fun ls hl => ?_)
            refine lv_goto (tgt := 23) hx hb dn_F_proveLeaf_70 (by decide) ?_
            exact ih23 (st - (q + 1)) (by omega) (q + 1) ls H locs rfl (lv_sub hl [2, 3, 4, 1, 0] rfl) hP hD hS (by omega)
    exact lp23 _ 0 ls H locs rfl (lv_sub hl [2, 3, 4, 1, 0] rfl) hP hD hS (Nat.zero_le _)
  · skip
    refine lv_iconst (v := 0) hx hb dn_F_proveLeaf_11 (by decide) ?_
    exact hret 0 () _ _ _ _ (Or.inr ⟨rfl, fun q => h8 q.1⟩) rfl hP hD hS dn_F_proveLeaf_12

set_option maxRecDepth 100000 in
set_option maxHeartbeats 4000000 in
theorem c_F_proveGrowth (l : Launch) (dC : Nat → ClassId) (dI : Nat → Nat → Nat) (cI cZ : ClassId) (a0 a1 : Nat) (fd : Nat → Int32) (c : Nat) (hc : c ≤ 12) (b0 b1 b2 b3 : Nat) (X Y Z : Nat → Int32) (t n st b : Nat) (hb1 : b ≤ 1) (hst : st ≤ 6) (har : de_ar t n st X Y Z) (early late : Int32) : gc_I l yn_F_proveGrowth (gw yn_F_proveGrowth cn_F_proveGrowth 8 (some .boolean)) (rm_ 3 64) (dC, dI) vwCl (gT cI cZ) [.ref a0, .ref b0, .int early, .int late] [(a0, .inr (2, [.ref a1, .int (nI c)])), (a1, .inl (cI, 12, .inl fd)), (b0, .inr (1, [.ref b1, .ref b2, .ref b3, .int (nI st), .int (nI ((ds_at t n st).1)), .int (nI ((ds_at t n st).2)), .int (nI b)])), (b1, .inl (cZ, 6, .inl X)), (b2, .inl (cI, 6, .inl Y)), (b3, .inl (cI, 6, .inl Z))] (fun r (_ : Unit) => (r = 1 ∧ (c = st + b ∧ pf_old fd (pf_x fd early b) b t n st st = early ∧ pf_new fd (pf_x fd early b) b t n st st = late)) ∨ (r = 0 ∧ ¬ (c = st + b ∧ pf_old fd (pf_x fd early b) b t n st st = early ∧ pf_new fd (pf_x fd early b) b t n st st = late))) (fun _ => [(a0, .inr (2, [.ref a1, .int (nI c)])), (a1, .inl (cI, 12, .inl fd)), (b0, .inr (1, [.ref b1, .ref b2, .ref b3, .int (nI st), .int (nI ((ds_at t n st).1)), .int (nI ((ds_at t n st).2)), .int (nI b)])), (b1, .inl (cZ, 6, .inl X)), (b2, .inl (cI, 6, .inl Y)), (b3, .inl (cI, 6, .inl Z))]) := by
  refine gc_I_of (cc := cn_F_proveGrowth) (maxL := 8) (ty := .boolean) (by decide) rfl (Nat.le_of_ble_eq_true rfl) ?_
  intro pp ee ss mm ar be me cd A Q ls H0 H locs hx hb hml hown hts hK hP hD hS hA hl hret
  have hw : ∀ w ∈ gw_T, w.before ar ss = true := fun w h => hts w (List.mem_cons_of_mem _ h)
  have hl : lv_has ls 8 [(0, .ref a0), (1, .ref b0), (2, .int early), (3, .int late)] := hl
  refine lv_aload_n hx hb dn_F_proveGrowth_0 rfl (lv_at hl 0 rfl) ?_
  refine va_get (D := (dC, dI)) (ci := 2) (v := .int (nI c)) (C := rn_F) (T := tn_F) (N := 2) hx hb hw ml_F hown hK hP 0 rfl rfl 1 (by decide) (hw _ mw_92) (fun _ h9 => h9) rfl dn_F_proveGrowth_1 ?_
  refine lv_aload_n hx hb dn_F_proveGrowth_4 rfl (lv_at hl 1 rfl) ?_
  refine gc_vi (pre := [(a0, .inr (2, [.ref a1, .int (nI c)])), (a1, .inl (cI, 12, .inl fd))]) (wc := [(b0, .inr (1, [.ref b1, .ref b2, .ref b3, .int (nI st), .int (nI ((ds_at t n st).1)), .int (nI ((ds_at t n st).2)), .int (nI b)])), (b1, .inl (cZ, 6, .inl X)), (b2, .inl (cI, 6, .inl Y)), (b3, .inl (cI, 6, .inl Z))]) (po := []) (As := []) (rest := [.int (nI c)]) ⟨hx, hb, hml, hown, hw⟩ (c_E_digestCount l dC dI cI cZ b0 b1 b2 b3 X Y Z st ((ds_at t n st).1) ((ds_at t n st).2) b (by omega) (by omega) ) (gw_cV 0 hw mw_387 mw_346 mw_347 mw_4 mw_348 hd_E_digestCount ⟨Nat.le_of_ble_eq_true rfl, Nat.le_of_ble_eq_true rfl⟩) (ci := 1) rfl rfl rfl hK hP hD hS hA rfl hl.1 rfl (Nat.le_of_ble_eq_true rfl) dn_F_proveGrowth_5 ⟨Nat.zero_le _, Nat.zero_le _⟩ (fun r5 u5 H locs hc5 hP hD hS => ?_)
  subst hc5
  have hP : va_P (dC, dI) vwCl [(a0, .inr (2, [.ref a1, .int (nI c)])), (a1, .inl (cI, 12, .inl fd)), (b0, .inr (1, [.ref b1, .ref b2, .ref b3, .int (nI st), .int (nI ((ds_at t n st).1)), .int (nI ((ds_at t n st).2)), .int (nI b)])), (b1, .inl (cZ, 6, .inl X)), (b2, .inl (cI, 6, .inl Y)), (b3, .inl (cI, 6, .inl Z))] H := hP
  have hD : va_D A [(a0, .inr (2, [.ref a1, .int (nI c)])), (a1, .inl (cI, 12, .inl fd)), (b0, .inr (1, [.ref b1, .ref b2, .ref b3, .int (nI st), .int (nI ((ds_at t n st).1)), .int (nI ((ds_at t n st).2)), .int (nI b)])), (b1, .inl (cZ, 6, .inl X)), (b2, .inl (cI, 6, .inl Y)), (b3, .inl (cI, 6, .inl Z))] := hD
  refine gr_ceq (tgt := 13) hx hb c (st + b) rfl rfl (by omega) (by omega) dn_F_proveGrowth_8 (by decide) (fun h8 => ?_) (fun h8 => ?_)
  · skip
    refine lv_aload_n hx hb dn_F_proveGrowth_13 rfl (lv_at hl 1 rfl) ?_
    refine gc_vi (pre := [(a0, .inr (2, [.ref a1, .int (nI c)])), (a1, .inl (cI, 12, .inl fd))]) (wc := [(b0, .inr (1, [.ref b1, .ref b2, .ref b3, .int (nI st), .int (nI ((ds_at t n st).1)), .int (nI ((ds_at t n st).2)), .int (nI b)])), (b1, .inl (cZ, 6, .inl X)), (b2, .inl (cI, 6, .inl Y)), (b3, .inl (cI, 6, .inl Z))]) (po := []) (As := []) (rest := []) ⟨hx, hb, hml, hown, hw⟩ (c_E_showsFoot l dC dI cI cZ b0 b1 b2 b3 X Y Z st ((ds_at t n st).1) ((ds_at t n st).2) b (by omega) (by omega) ) (gw_cV 0 hw mw_405 mw_406 mw_407 mw_4 mw_408 hd_E_showsFoot ⟨Nat.le_of_ble_eq_true rfl, Nat.le_of_ble_eq_true rfl⟩) (ci := 1) rfl rfl rfl hK hP hD hS hA rfl hl.1 rfl (Nat.le_of_ble_eq_true rfl) dn_F_proveGrowth_14 ⟨Nat.zero_le _, Nat.zero_le _⟩ (fun r14 u14 H locs hc14 hP hD hS => ?_)
    subst hc14
    have hP : va_P (dC, dI) vwCl [(a0, .inr (2, [.ref a1, .int (nI c)])), (a1, .inl (cI, 12, .inl fd)), (b0, .inr (1, [.ref b1, .ref b2, .ref b3, .int (nI st), .int (nI ((ds_at t n st).1)), .int (nI ((ds_at t n st).2)), .int (nI b)])), (b1, .inl (cZ, 6, .inl X)), (b2, .inl (cI, 6, .inl Y)), (b3, .inl (cI, 6, .inl Z))] H := hP
    have hD : va_D A [(a0, .inr (2, [.ref a1, .int (nI c)])), (a1, .inl (cI, 12, .inl fd)), (b0, .inr (1, [.ref b1, .ref b2, .ref b3, .int (nI st), .int (nI ((ds_at t n st).1)), .int (nI ((ds_at t n st).2)), .int (nI b)])), (b1, .inl (cZ, 6, .inl X)), (b2, .inl (cI, 6, .inl Y)), (b3, .inl (cI, 6, .inl Z))] := hD
    refine gr_zeq (tgt := 29) hx hb b rfl (by omega) dn_F_proveGrowth_17 (by decide) (fun h17 => ?_) (fun h17 => ?_)
    · skip
      obtain rfl : 0 = b := by omega
      refine lv_iload_n hx hb dn_F_proveGrowth_29 rfl (lv_at hl 2 rfl) ?_
      refine lv_istore (lv' := [(4, .int early), (0, .ref a0), (1, .ref b0), (2, .int early), (3, .int late)]) hx hb dn_F_proveGrowth_30 hl (by decide) rfl (fun ls hl => ?_)
      refine lv_iload hx hb dn_F_proveGrowth_32 (lv_at hl 0 rfl) ?_
      refine lv_istore (lv' := [(5, .int early), (4, .int early), (0, .ref a0), (1, .ref b0), (2, .int early), (3, .int late)]) hx hb dn_F_proveGrowth_34 hl (by decide) rfl (fun ls hl => ?_)
      refine lv_iload hx hb dn_F_proveGrowth_36 (lv_at hl 1 rfl) ?_
      refine lv_istore (lv' := [(6, .int early), (5, .int early), (4, .int early), (0, .ref a0), (1, .ref b0), (2, .int early), (3, .int late)]) hx hb dn_F_proveGrowth_38 hl (by decide) rfl (fun ls hl => ?_)
      refine lv_aload_n hx hb dn_F_proveGrowth_40 rfl (lv_at hl 4 rfl) ?_
      refine gc_vi (pre := [(a0, .inr (2, [.ref a1, .int (nI c)])), (a1, .inl (cI, 12, .inl fd))]) (wc := [(b0, .inr (1, [.ref b1, .ref b2, .ref b3, .int (nI st), .int (nI ((ds_at t n st).1)), .int (nI ((ds_at t n st).2)), .int 0])), (b1, .inl (cZ, 6, .inl X)), (b2, .inl (cI, 6, .inl Y)), (b3, .inl (cI, 6, .inl Z))]) (po := []) (As := []) (rest := []) ⟨hx, hb, hml, hown, hw⟩ (c_E_showsFoot l dC dI cI cZ b0 b1 b2 b3 X Y Z st ((ds_at t n st).1) ((ds_at t n st).2) 0 (by omega) (by omega) ) (gw_cV 0 hw mw_405 mw_406 mw_407 mw_4 mw_408 hd_E_showsFoot ⟨Nat.le_of_ble_eq_true rfl, Nat.le_of_ble_eq_true rfl⟩) (ci := 1) rfl rfl rfl hK hP hD hS hA rfl hl.1 rfl (Nat.le_of_ble_eq_true rfl) dn_F_proveGrowth_41 ⟨Nat.zero_le _, Nat.zero_le _⟩ (fun r41 u41 H locs hc41 hP hD hS => ?_)
      subst hc41
      have hP : va_P (dC, dI) vwCl [(a0, .inr (2, [.ref a1, .int (nI c)])), (a1, .inl (cI, 12, .inl fd)), (b0, .inr (1, [.ref b1, .ref b2, .ref b3, .int (nI st), .int (nI ((ds_at t n st).1)), .int (nI ((ds_at t n st).2)), .int 0])), (b1, .inl (cZ, 6, .inl X)), (b2, .inl (cI, 6, .inl Y)), (b3, .inl (cI, 6, .inl Z))] H := hP
      have hD : va_D A [(a0, .inr (2, [.ref a1, .int (nI c)])), (a1, .inl (cI, 12, .inl fd)), (b0, .inr (1, [.ref b1, .ref b2, .ref b3, .int (nI st), .int (nI ((ds_at t n st).1)), .int (nI ((ds_at t n st).2)), .int 0])), (b1, .inl (cZ, 6, .inl X)), (b2, .inl (cI, 6, .inl Y)), (b3, .inl (cI, 6, .inl Z))] := hD
      refine lv_if_eq (tgt := 51) hx hb dn_F_proveGrowth_44 (by decide) (fun _ => ?_) (fun h => absurd h (by decide))
      refine lv_iconst (v := 0) hx hb dn_F_proveGrowth_51 (by decide) ?_
      refine lv_istore (lv' := [(7, .int 0), (6, .int early), (5, .int early), (4, .int early), (0, .ref a0), (1, .ref b0), (2, .int early), (3, .int late)]) hx hb dn_F_proveGrowth_52 hl (by decide) rfl (fun ls hl => ?_)
      have lp54 : ∀ (n54_ : Nat) (i : Nat) (ls : Array Slot) (H : Heap) (locs : List Loc), st - i = n54_ → lv_has ls 8 [(0, .ref a0), (1, .ref b0), (2, .int early), (3, .int late), (4, .int early), (5, .int (pf_old fd early 0 t n st i)), (6, .int (pf_new fd early 0 t n st i)), (7, .int (nI (0 + i)))] → va_P (dC, dI) vwCl [(a0, .inr (2, [.ref a1, .int (nI c)])), (a1, .inl (cI, 12, .inl fd)), (b0, .inr (1, [.ref b1, .ref b2, .ref b3, .int (nI st), .int (nI ((ds_at t n st).1)), .int (nI ((ds_at t n st).2)), .int (nI 0)])), (b1, .inl (cZ, 6, .inl X)), (b2, .inl (cI, 6, .inl Y)), (b3, .inl (cI, 6, .inl Z))] H → va_D A [(a0, .inr (2, [.ref a1, .int (nI c)])), (a1, .inl (cI, 12, .inl fd)), (b0, .inr (1, [.ref b1, .ref b2, .ref b3, .int (nI st), .int (nI ((ds_at t n st).1)), .int (nI ((ds_at t n st).2)), .int (nI 0)])), (b1, .inl (cZ, 6, .inl X)), (b2, .inl (cI, 6, .inl Y)), (b3, .inl (cI, 6, .inl Z))] → va_S A H0 H locs → (i ≤ st) → W pp l ee (headSpec (gw yn_F_proveGrowth cn_F_proveGrowth 8 (some .boolean)) (rm_ 3 64)).room ss mm ar be me cd H locs 0 0 Q (F0 mm 54 ls []) := by
        intro n54_
        induction n54_ using Nat.strongRecOn with
        | ind n54_ ih54 =>
          intro i ls H locs hn54_ hl hP hD hS hi
          refine lv_iload hx hb dn_F_proveGrowth_54 (lv_at hl 7 rfl) ?_
          refine lv_aload_n hx hb dn_F_proveGrowth_56 rfl (lv_at hl 0 rfl) ?_
          refine va_get (D := (dC, dI)) (ci := 2) (v := .int (nI c)) (C := rn_F) (T := tn_F) (N := 2) hx hb hw ml_F hown hK hP 0 rfl rfl 1 (by decide) (hw _ mw_92) (fun _ h9 => h9) rfl dn_F_proveGrowth_57 ?_
          refine gr_cge (tgt := 123) hx hb (0 + i) c rfl rfl (by omega) (by omega) dn_F_proveGrowth_60 (by decide) (fun h60 => ?_) (fun h60 => ?_)
          · skip
            obtain rfl : st = i := by omega
            refine lv_iload hx hb dn_F_proveGrowth_123 (lv_at hl 5 rfl) ?_
            refine lv_iload_n hx hb dn_F_proveGrowth_125 rfl (lv_at hl 2 rfl) ?_
            refine lv_icmp_ne (tgt := 139) hx hb dn_F_proveGrowth_126 (by decide) (fun h126 => ?_) (fun h126 => ?_)
            · skip
              refine lv_iconst (v := 0) hx hb dn_F_proveGrowth_139 (by decide) ?_
              exact hret 0 () _ _ _ _ (Or.inr ⟨rfl, fun q => by first | exact h132 q.2.2 | exact h126 q.2.1⟩) rfl hP hD hS dn_F_proveGrowth_140
            · skip
              refine lv_iload hx hb dn_F_proveGrowth_129 (lv_at hl 6 rfl) ?_
              refine lv_iload_n hx hb dn_F_proveGrowth_131 rfl (lv_at hl 3 rfl) ?_
              refine lv_icmp_ne (tgt := 139) hx hb dn_F_proveGrowth_132 (by decide) (fun h132 => ?_) (fun h132 => ?_)
              · skip
                refine lv_iconst (v := 0) hx hb dn_F_proveGrowth_139 (by decide) ?_
                exact hret 0 () _ _ _ _ (Or.inr ⟨rfl, fun q => by first | exact h132 q.2.2 | exact h126 q.2.1⟩) rfl hP hD hS dn_F_proveGrowth_140
              · skip
                refine lv_iconst (v := 1) hx hb dn_F_proveGrowth_135 (by decide) ?_
                refine lv_goto (tgt := 140) hx hb dn_F_proveGrowth_136 (by decide) ?_
                exact hret 1 () _ _ _ _ (Or.inl ⟨rfl, h8, h126, h132⟩) rfl hP hD hS dn_F_proveGrowth_140
          · skip
            refine lv_aload_n hx hb dn_F_proveGrowth_63 rfl (lv_at hl 1 rfl) ?_
            refine lv_iload hx hb dn_F_proveGrowth_64 (lv_at hl 7 rfl) ?_
            refine gc_vi (pre := [(a0, .inr (2, [.ref a1, .int (nI c)])), (a1, .inl (cI, 12, .inl fd))]) (wc := [(b0, .inr (1, [.ref b1, .ref b2, .ref b3, .int (nI st), .int (nI ((ds_at t n st).1)), .int (nI ((ds_at t n st).2)), .int (nI 0)])), (b1, .inl (cZ, 6, .inl X)), (b2, .inl (cI, 6, .inl Y)), (b3, .inl (cI, 6, .inl Z))]) (po := []) (As := [.int (nI (0 + i))]) (rest := []) ⟨hx, hb, hml, hown, hw⟩ (c_E_wentRightAbove l dC dI cI cZ b0 b1 b2 b3 X Y Z t n st 0 (by omega) (by omega) har (0 + i) (st - 1 - i) (by omega)) (gw_cV 1 hw mw_388 mw_389 mw_390 mw_4 mw_391 hd_E_wentRightAbove ⟨Nat.le_of_ble_eq_true rfl, Nat.le_of_ble_eq_true rfl⟩) (ci := 1) rfl rfl rfl hK hP hD hS hA rfl hl.1 rfl (Nat.le_of_ble_eq_true rfl) dn_F_proveGrowth_66 ⟨Nat.zero_le _, Nat.zero_le _⟩ (fun r66 u66 H locs hc66 hP hD hS => ?_)
            have hP : va_P (dC, dI) vwCl [(a0, .inr (2, [.ref a1, .int (nI c)])), (a1, .inl (cI, 12, .inl fd)), (b0, .inr (1, [.ref b1, .ref b2, .ref b3, .int (nI st), .int (nI ((ds_at t n st).1)), .int (nI ((ds_at t n st).2)), .int (nI 0)])), (b1, .inl (cZ, 6, .inl X)), (b2, .inl (cI, 6, .inl Y)), (b3, .inl (cI, 6, .inl Z))] H := hP
            have hD : va_D A [(a0, .inr (2, [.ref a1, .int (nI c)])), (a1, .inl (cI, 12, .inl fd)), (b0, .inr (1, [.ref b1, .ref b2, .ref b3, .int (nI st), .int (nI ((ds_at t n st).1)), .int (nI ((ds_at t n st).2)), .int (nI 0)])), (b1, .inl (cZ, 6, .inl X)), (b2, .inl (cI, 6, .inl Y)), (b3, .inl (cI, 6, .inl Z))] := hD
            rcases hc66 with ⟨rfl, hw66⟩ | ⟨rfl, hw66⟩
            · skip
              refine lv_if_eq (tgt := 103) hx hb dn_F_proveGrowth_69 (by decide) (fun h => absurd h (by decide)) (fun _ => ?_)
              refine lv_aload_n hx hb dn_F_proveGrowth_72 rfl (lv_at hl 0 rfl) ?_
              refine va_get (D := (dC, dI)) (ci := 2) (v := .ref a1) (C := rn_F) (T := tn_F) (N := 2) hx hb hw ml_F hown hK hP 0 rfl rfl 0 (by decide) (hw _ mw_91) (fun _ h9 => h9) rfl dn_F_proveGrowth_73 ?_
              refine lv_iload hx hb dn_F_proveGrowth_76 (lv_at hl 7 rfl) ?_
              refine gr_iald hx hb hK hP 1 0 rfl rfl (0 + i) rfl (by omega) (by decide) dn_F_proveGrowth_78 ?_
              refine lv_iload hx hb dn_F_proveGrowth_79 (lv_at hl 5 rfl) ?_
              refine gc_s0 (v := (hf_node (fd (0 + i)) (pf_old fd early 0 t n st i))) (As := [.int (fd (0 + i)), .int (pf_old fd early 0 t n st i)]) (rest := []) ⟨hx, hb, hml, hown, hw⟩ (c_H_node l dC dI cI cZ (fd (0 + i)) (pf_old fd early 0 t n st i)) (gw_cS 2 hw mw_392 mw_315 mw_7 mw_316 hd_H_node ⟨Nat.le_of_ble_eq_true rfl, Nat.le_of_ble_eq_true rfl⟩) hK hP hD hS hA rfl hl.1 rfl (Nat.le_of_ble_eq_true rfl) dn_F_proveGrowth_81 ⟨Nat.zero_le _, Nat.zero_le _⟩ (fun H locs hP hD hS => ?_)
              refine gr_top (y := pf_old fd early 0 t n st (i + 1)) (by rw [pf_old]; first | rw [if_pos hw66.2] | rw [if_neg (fun z => hw66 ⟨by omega, z⟩)]) ?_
              refine lv_istore (lv' := [(5, .int (pf_old fd early 0 t n st (i + 1))), (0, .ref a0), (1, .ref b0), (2, .int early), (3, .int late), (4, .int early), (6, .int (pf_new fd early 0 t n st i)), (7, .int (nI (0 + i)))]) hx hb dn_F_proveGrowth_84 hl (by decide) rfl (fun ls hl => ?_)
              refine lv_aload_n hx hb dn_F_proveGrowth_86 rfl (lv_at hl 1 rfl) ?_
              refine va_get (D := (dC, dI)) (ci := 2) (v := .ref a1) (C := rn_F) (T := tn_F) (N := 2) hx hb hw ml_F hown hK hP 0 rfl rfl 0 (by decide) (hw _ mw_91) (fun _ h9 => h9) rfl dn_F_proveGrowth_87 ?_
              refine lv_iload hx hb dn_F_proveGrowth_90 (lv_at hl 7 rfl) ?_
              refine gr_iald hx hb hK hP 1 0 rfl rfl (0 + i) rfl (by omega) (by decide) dn_F_proveGrowth_92 ?_
              refine lv_iload hx hb dn_F_proveGrowth_93 (lv_at hl 6 rfl) ?_
              refine gc_s0 (v := (hf_node (fd (0 + i)) (pf_new fd early 0 t n st i))) (As := [.int (fd (0 + i)), .int (pf_new fd early 0 t n st i)]) (rest := []) ⟨hx, hb, hml, hown, hw⟩ (c_H_node l dC dI cI cZ (fd (0 + i)) (pf_new fd early 0 t n st i)) (gw_cS 2 hw mw_392 mw_315 mw_7 mw_316 hd_H_node ⟨Nat.le_of_ble_eq_true rfl, Nat.le_of_ble_eq_true rfl⟩) hK hP hD hS hA rfl hl.1 rfl (Nat.le_of_ble_eq_true rfl) dn_F_proveGrowth_95 ⟨Nat.zero_le _, Nat.zero_le _⟩ (fun H locs hP hD hS => ?_)
              refine gr_top (y := pf_new fd early 0 t n st (i + 1)) (by rw [pf_new]; first | rw [if_pos hw66.2] | rw [if_neg (fun z => hw66 ⟨by omega, z⟩)]) ?_
              refine lv_istore (lv' := [(6, .int (pf_new fd early 0 t n st (i + 1))), (5, .int (pf_old fd early 0 t n st (i + 1))), (0, .ref a0), (1, .ref b0), (2, .int early), (3, .int late), (4, .int early), (7, .int (nI (0 + i)))]) hx hb dn_F_proveGrowth_98 hl (by decide) rfl (fun ls hl => ?_)
              refine lv_goto (tgt := 117) hx hb dn_F_proveGrowth_100 (by decide) ?_
              refine lv_iinc (lv' := [(7, .int (nI ((0 + i) + 1))), (6, .int (pf_new fd early 0 t n st (i + 1))), (5, .int (pf_old fd early 0 t n st (i + 1))), (0, .ref a0), (1, .ref b0), (2, .int early), (3, .int late), (4, .int early)]) (v := (nI ((0 + i) + 1))) (k := 7) hx hb dn_F_proveGrowth_117 hl rfl (nI_add (0 + i) 1) (by decide) rfl (fun ls hl => ?_)
              refine lv_goto (tgt := 54) hx hb dn_F_proveGrowth_120 (by decide) ?_
              exact ih54 (st - (i + 1)) (by omega) (i + 1) ls H locs rfl (lv_sub hl [3, 4, 5, 6, 7, 2, 1, 0] rfl) hP hD hS (by omega)
            · skip
              refine lv_if_eq (tgt := 103) hx hb dn_F_proveGrowth_69 (by decide) (fun _ => ?_) (fun h => absurd h (by decide))
              refine lv_iload hx hb dn_F_proveGrowth_103 (lv_at hl 6 rfl) ?_
              refine lv_aload_n hx hb dn_F_proveGrowth_105 rfl (lv_at hl 0 rfl) ?_
              refine va_get (D := (dC, dI)) (ci := 2) (v := .ref a1) (C := rn_F) (T := tn_F) (N := 2) hx hb hw ml_F hown hK hP 0 rfl rfl 0 (by decide) (hw _ mw_91) (fun _ h9 => h9) rfl dn_F_proveGrowth_106 ?_
              refine lv_iload hx hb dn_F_proveGrowth_109 (lv_at hl 7 rfl) ?_
              refine gr_iald hx hb hK hP 1 0 rfl rfl (0 + i) rfl (by omega) (by decide) dn_F_proveGrowth_111 ?_
              refine gc_s0 (v := (hf_node (pf_new fd early 0 t n st i) (fd (0 + i)))) (As := [.int (pf_new fd early 0 t n st i), .int (fd (0 + i))]) (rest := []) ⟨hx, hb, hml, hown, hw⟩ (c_H_node l dC dI cI cZ (pf_new fd early 0 t n st i) (fd (0 + i))) (gw_cS 2 hw mw_392 mw_315 mw_7 mw_316 hd_H_node ⟨Nat.le_of_ble_eq_true rfl, Nat.le_of_ble_eq_true rfl⟩) hK hP hD hS hA rfl hl.1 rfl (Nat.le_of_ble_eq_true rfl) dn_F_proveGrowth_112 ⟨Nat.zero_le _, Nat.zero_le _⟩ (fun H locs hP hD hS => ?_)
              refine gr_top (y := pf_new fd early 0 t n st (i + 1)) (by rw [pf_new]; first | rw [if_pos hw66.2] | rw [if_neg (fun z => hw66 ⟨by omega, z⟩)]) ?_
              rw [show pf_old fd early 0 t n st i = pf_old fd early 0 t n st (i + 1) from by rw [pf_old, if_neg (fun z => hw66 ⟨by omega, z⟩)]] at hl
              refine lv_istore (lv' := [(6, .int (pf_new fd early 0 t n st (i + 1))), (0, .ref a0), (1, .ref b0), (2, .int early), (3, .int late), (4, .int early), (5, .int (pf_old fd early 0 t n st (i + 1))), (7, .int (nI (0 + i)))]) hx hb dn_F_proveGrowth_115 hl (by decide) rfl (fun ls hl => ?_)
              refine lv_iinc (lv' := [(7, .int (nI ((0 + i) + 1))), (6, .int (pf_new fd early 0 t n st (i + 1))), (0, .ref a0), (1, .ref b0), (2, .int early), (3, .int late), (4, .int early), (5, .int (pf_old fd early 0 t n st (i + 1)))]) (v := (nI ((0 + i) + 1))) (k := 7) hx hb dn_F_proveGrowth_117 hl rfl (nI_add (0 + i) 1) (by decide) rfl (fun ls hl => ?_)
              refine lv_goto (tgt := 54) hx hb dn_F_proveGrowth_120 (by decide) ?_
              exact ih54 (st - (i + 1)) (by omega) (i + 1) ls H locs rfl (lv_sub hl [2, 3, 4, 5, 6, 7, 1, 0] rfl) hP hD hS (by omega)
      exact lp54 _ 0 ls H locs rfl (lv_sub hl [4, 5, 6, 7, 3, 2, 1, 0] rfl) hP hD hS (Nat.zero_le _)
    · skip
      obtain rfl : 1 = b := by omega
      refine lv_aload_n hx hb dn_F_proveGrowth_20 rfl (lv_at hl 0 rfl) ?_
      refine va_get (D := (dC, dI)) (ci := 2) (v := .ref a1) (C := rn_F) (T := tn_F) (N := 2) hx hb hw ml_F hown hK hP 0 rfl rfl 0 (by decide) (hw _ mw_91) (fun _ h9 => h9) rfl dn_F_proveGrowth_21 ?_
      refine lv_iconst (v := 0) hx hb dn_F_proveGrowth_24 (by decide) ?_
      refine gr_iald hx hb hK hP 1 0 rfl rfl 0 rfl (by omega) (by decide) dn_F_proveGrowth_25 ?_
      refine lv_goto (tgt := 30) hx hb dn_F_proveGrowth_26 (by decide) ?_
      refine lv_istore (lv' := [(4, .int (fd 0)), (0, .ref a0), (1, .ref b0), (2, .int early), (3, .int late)]) hx hb dn_F_proveGrowth_30 hl (by decide) rfl (fun ls hl => ?_)
      refine lv_iload hx hb dn_F_proveGrowth_32 (lv_at hl 0 rfl) ?_
      refine lv_istore (lv' := [(5, .int (fd 0)), (4, .int (fd 0)), (0, .ref a0), (1, .ref b0), (2, .int early), (3, .int late)]) hx hb dn_F_proveGrowth_34 hl (by decide) rfl (fun ls hl => ?_)
      refine lv_iload hx hb dn_F_proveGrowth_36 (lv_at hl 1 rfl) ?_
      refine lv_istore (lv' := [(6, .int (fd 0)), (5, .int (fd 0)), (4, .int (fd 0)), (0, .ref a0), (1, .ref b0), (2, .int early), (3, .int late)]) hx hb dn_F_proveGrowth_38 hl (by decide) rfl (fun ls hl => ?_)
      refine lv_aload_n hx hb dn_F_proveGrowth_40 rfl (lv_at hl 4 rfl) ?_
      refine gc_vi (pre := [(a0, .inr (2, [.ref a1, .int (nI c)])), (a1, .inl (cI, 12, .inl fd))]) (wc := [(b0, .inr (1, [.ref b1, .ref b2, .ref b3, .int (nI st), .int (nI ((ds_at t n st).1)), .int (nI ((ds_at t n st).2)), .int 1])), (b1, .inl (cZ, 6, .inl X)), (b2, .inl (cI, 6, .inl Y)), (b3, .inl (cI, 6, .inl Z))]) (po := []) (As := []) (rest := []) ⟨hx, hb, hml, hown, hw⟩ (c_E_showsFoot l dC dI cI cZ b0 b1 b2 b3 X Y Z st ((ds_at t n st).1) ((ds_at t n st).2) 1 (by omega) (by omega) ) (gw_cV 0 hw mw_405 mw_406 mw_407 mw_4 mw_408 hd_E_showsFoot ⟨Nat.le_of_ble_eq_true rfl, Nat.le_of_ble_eq_true rfl⟩) (ci := 1) rfl rfl rfl hK hP hD hS hA rfl hl.1 rfl (Nat.le_of_ble_eq_true rfl) dn_F_proveGrowth_41 ⟨Nat.zero_le _, Nat.zero_le _⟩ (fun r41 u41 H locs hc41 hP hD hS => ?_)
      subst hc41
      have hP : va_P (dC, dI) vwCl [(a0, .inr (2, [.ref a1, .int (nI c)])), (a1, .inl (cI, 12, .inl fd)), (b0, .inr (1, [.ref b1, .ref b2, .ref b3, .int (nI st), .int (nI ((ds_at t n st).1)), .int (nI ((ds_at t n st).2)), .int 1])), (b1, .inl (cZ, 6, .inl X)), (b2, .inl (cI, 6, .inl Y)), (b3, .inl (cI, 6, .inl Z))] H := hP
      have hD : va_D A [(a0, .inr (2, [.ref a1, .int (nI c)])), (a1, .inl (cI, 12, .inl fd)), (b0, .inr (1, [.ref b1, .ref b2, .ref b3, .int (nI st), .int (nI ((ds_at t n st).1)), .int (nI ((ds_at t n st).2)), .int 1])), (b1, .inl (cZ, 6, .inl X)), (b2, .inl (cI, 6, .inl Y)), (b3, .inl (cI, 6, .inl Z))] := hD
      refine lv_if_eq (tgt := 51) hx hb dn_F_proveGrowth_44 (by decide) (fun h => absurd h (by decide)) (fun _ => ?_)
      refine lv_iconst (v := 1) hx hb dn_F_proveGrowth_47 (by decide) ?_
      refine lv_goto (tgt := 52) hx hb dn_F_proveGrowth_48 (by decide) ?_
      refine lv_istore (lv' := [(7, .int 1), (6, .int (fd 0)), (5, .int (fd 0)), (4, .int (fd 0)), (0, .ref a0), (1, .ref b0), (2, .int early), (3, .int late)]) hx hb dn_F_proveGrowth_52 hl (by decide) rfl (fun ls hl => ?_)
      have lp54 : ∀ (n54_ : Nat) (i : Nat) (ls : Array Slot) (H : Heap) (locs : List Loc), st - i = n54_ → lv_has ls 8 [(0, .ref a0), (1, .ref b0), (2, .int early), (3, .int late), (4, .int (fd 0)), (5, .int (pf_old fd (fd 0) 1 t n st i)), (6, .int (pf_new fd (fd 0) 1 t n st i)), (7, .int (nI (1 + i)))] → va_P (dC, dI) vwCl [(a0, .inr (2, [.ref a1, .int (nI c)])), (a1, .inl (cI, 12, .inl fd)), (b0, .inr (1, [.ref b1, .ref b2, .ref b3, .int (nI st), .int (nI ((ds_at t n st).1)), .int (nI ((ds_at t n st).2)), .int (nI 1)])), (b1, .inl (cZ, 6, .inl X)), (b2, .inl (cI, 6, .inl Y)), (b3, .inl (cI, 6, .inl Z))] H → va_D A [(a0, .inr (2, [.ref a1, .int (nI c)])), (a1, .inl (cI, 12, .inl fd)), (b0, .inr (1, [.ref b1, .ref b2, .ref b3, .int (nI st), .int (nI ((ds_at t n st).1)), .int (nI ((ds_at t n st).2)), .int (nI 1)])), (b1, .inl (cZ, 6, .inl X)), (b2, .inl (cI, 6, .inl Y)), (b3, .inl (cI, 6, .inl Z))] → va_S A H0 H locs → (i ≤ st) → W pp l ee (headSpec (gw yn_F_proveGrowth cn_F_proveGrowth 8 (some .boolean)) (rm_ 3 64)).room ss mm ar be me cd H locs 0 0 Q (F0 mm 54 ls []) := by
        intro n54_
        induction n54_ using Nat.strongRecOn with
        | ind n54_ ih54 =>
          intro i ls H locs hn54_ hl hP hD hS hi
          refine lv_iload hx hb dn_F_proveGrowth_54 (lv_at hl 7 rfl) ?_
          refine lv_aload_n hx hb dn_F_proveGrowth_56 rfl (lv_at hl 0 rfl) ?_
          refine va_get (D := (dC, dI)) (ci := 2) (v := .int (nI c)) (C := rn_F) (T := tn_F) (N := 2) hx hb hw ml_F hown hK hP 0 rfl rfl 1 (by decide) (hw _ mw_92) (fun _ h9 => h9) rfl dn_F_proveGrowth_57 ?_
          refine gr_cge (tgt := 123) hx hb (1 + i) c rfl rfl (by omega) (by omega) dn_F_proveGrowth_60 (by decide) (fun h60 => ?_) (fun h60 => ?_)
          · skip
            obtain rfl : st = i := by omega
            refine lv_iload hx hb dn_F_proveGrowth_123 (lv_at hl 5 rfl) ?_
            refine lv_iload_n hx hb dn_F_proveGrowth_125 rfl (lv_at hl 2 rfl) ?_
            refine lv_icmp_ne (tgt := 139) hx hb dn_F_proveGrowth_126 (by decide) (fun h126 => ?_) (fun h126 => ?_)
            · skip
              refine lv_iconst (v := 0) hx hb dn_F_proveGrowth_139 (by decide) ?_
              exact hret 0 () _ _ _ _ (Or.inr ⟨rfl, fun q => by first | exact h132 q.2.2 | exact h126 q.2.1⟩) rfl hP hD hS dn_F_proveGrowth_140
            · skip
              refine lv_iload hx hb dn_F_proveGrowth_129 (lv_at hl 6 rfl) ?_
              refine lv_iload_n hx hb dn_F_proveGrowth_131 rfl (lv_at hl 3 rfl) ?_
              refine lv_icmp_ne (tgt := 139) hx hb dn_F_proveGrowth_132 (by decide) (fun h132 => ?_) (fun h132 => ?_)
              · skip
                refine lv_iconst (v := 0) hx hb dn_F_proveGrowth_139 (by decide) ?_
                exact hret 0 () _ _ _ _ (Or.inr ⟨rfl, fun q => by first | exact h132 q.2.2 | exact h126 q.2.1⟩) rfl hP hD hS dn_F_proveGrowth_140
              · skip
                refine lv_iconst (v := 1) hx hb dn_F_proveGrowth_135 (by decide) ?_
                refine lv_goto (tgt := 140) hx hb dn_F_proveGrowth_136 (by decide) ?_
                exact hret 1 () _ _ _ _ (Or.inl ⟨rfl, h8, h126, h132⟩) rfl hP hD hS dn_F_proveGrowth_140
          · skip
            refine lv_aload_n hx hb dn_F_proveGrowth_63 rfl (lv_at hl 1 rfl) ?_
            refine lv_iload hx hb dn_F_proveGrowth_64 (lv_at hl 7 rfl) ?_
            refine gc_vi (pre := [(a0, .inr (2, [.ref a1, .int (nI c)])), (a1, .inl (cI, 12, .inl fd))]) (wc := [(b0, .inr (1, [.ref b1, .ref b2, .ref b3, .int (nI st), .int (nI ((ds_at t n st).1)), .int (nI ((ds_at t n st).2)), .int (nI 1)])), (b1, .inl (cZ, 6, .inl X)), (b2, .inl (cI, 6, .inl Y)), (b3, .inl (cI, 6, .inl Z))]) (po := []) (As := [.int (nI (1 + i))]) (rest := []) ⟨hx, hb, hml, hown, hw⟩ (c_E_wentRightAbove l dC dI cI cZ b0 b1 b2 b3 X Y Z t n st 1 (by omega) (by omega) har (1 + i) (st - 1 - i) (by omega)) (gw_cV 1 hw mw_388 mw_389 mw_390 mw_4 mw_391 hd_E_wentRightAbove ⟨Nat.le_of_ble_eq_true rfl, Nat.le_of_ble_eq_true rfl⟩) (ci := 1) rfl rfl rfl hK hP hD hS hA rfl hl.1 rfl (Nat.le_of_ble_eq_true rfl) dn_F_proveGrowth_66 ⟨Nat.zero_le _, Nat.zero_le _⟩ (fun r66 u66 H locs hc66 hP hD hS => ?_)
            have hP : va_P (dC, dI) vwCl [(a0, .inr (2, [.ref a1, .int (nI c)])), (a1, .inl (cI, 12, .inl fd)), (b0, .inr (1, [.ref b1, .ref b2, .ref b3, .int (nI st), .int (nI ((ds_at t n st).1)), .int (nI ((ds_at t n st).2)), .int (nI 1)])), (b1, .inl (cZ, 6, .inl X)), (b2, .inl (cI, 6, .inl Y)), (b3, .inl (cI, 6, .inl Z))] H := hP
            have hD : va_D A [(a0, .inr (2, [.ref a1, .int (nI c)])), (a1, .inl (cI, 12, .inl fd)), (b0, .inr (1, [.ref b1, .ref b2, .ref b3, .int (nI st), .int (nI ((ds_at t n st).1)), .int (nI ((ds_at t n st).2)), .int (nI 1)])), (b1, .inl (cZ, 6, .inl X)), (b2, .inl (cI, 6, .inl Y)), (b3, .inl (cI, 6, .inl Z))] := hD
            rcases hc66 with ⟨rfl, hw66⟩ | ⟨rfl, hw66⟩
            · skip
              refine lv_if_eq (tgt := 103) hx hb dn_F_proveGrowth_69 (by decide) (fun h => absurd h (by decide)) (fun _ => ?_)
              refine lv_aload_n hx hb dn_F_proveGrowth_72 rfl (lv_at hl 0 rfl) ?_
              refine va_get (D := (dC, dI)) (ci := 2) (v := .ref a1) (C := rn_F) (T := tn_F) (N := 2) hx hb hw ml_F hown hK hP 0 rfl rfl 0 (by decide) (hw _ mw_91) (fun _ h9 => h9) rfl dn_F_proveGrowth_73 ?_
              refine lv_iload hx hb dn_F_proveGrowth_76 (lv_at hl 7 rfl) ?_
              refine gr_iald hx hb hK hP 1 0 rfl rfl (1 + i) rfl (by omega) (by decide) dn_F_proveGrowth_78 ?_
              refine lv_iload hx hb dn_F_proveGrowth_79 (lv_at hl 5 rfl) ?_
              refine gc_s0 (v := (hf_node (fd (1 + i)) (pf_old fd (fd 0) 1 t n st i))) (As := [.int (fd (1 + i)), .int (pf_old fd (fd 0) 1 t n st i)]) (rest := []) ⟨hx, hb, hml, hown, hw⟩ (c_H_node l dC dI cI cZ (fd (1 + i)) (pf_old fd (fd 0) 1 t n st i)) (gw_cS 2 hw mw_392 mw_315 mw_7 mw_316 hd_H_node ⟨Nat.le_of_ble_eq_true rfl, Nat.le_of_ble_eq_true rfl⟩) hK hP hD hS hA rfl hl.1 rfl (Nat.le_of_ble_eq_true rfl) dn_F_proveGrowth_81 ⟨Nat.zero_le _, Nat.zero_le _⟩ (fun H locs hP hD hS => ?_)
              refine gr_top (y := pf_old fd (fd 0) 1 t n st (i + 1)) (by rw [pf_old]; first | rw [if_pos hw66.2] | rw [if_neg (fun z => hw66 ⟨by omega, z⟩)]) ?_
              refine lv_istore (lv' := [(5, .int (pf_old fd (fd 0) 1 t n st (i + 1))), (0, .ref a0), (1, .ref b0), (2, .int early), (3, .int late), (4, .int (fd 0)), (6, .int (pf_new fd (fd 0) 1 t n st i)), (7, .int (nI (1 + i)))]) hx hb dn_F_proveGrowth_84 hl (by decide) rfl (fun ls hl => ?_)
              refine lv_aload_n hx hb dn_F_proveGrowth_86 rfl (lv_at hl 1 rfl) ?_
              refine va_get (D := (dC, dI)) (ci := 2) (v := .ref a1) (C := rn_F) (T := tn_F) (N := 2) hx hb hw ml_F hown hK hP 0 rfl rfl 0 (by decide) (hw _ mw_91) (fun _ h9 => h9) rfl dn_F_proveGrowth_87 ?_
              refine lv_iload hx hb dn_F_proveGrowth_90 (lv_at hl 7 rfl) ?_
              refine gr_iald hx hb hK hP 1 0 rfl rfl (1 + i) rfl (by omega) (by decide) dn_F_proveGrowth_92 ?_
              refine lv_iload hx hb dn_F_proveGrowth_93 (lv_at hl 6 rfl) ?_
              refine gc_s0 (v := (hf_node (fd (1 + i)) (pf_new fd (fd 0) 1 t n st i))) (As := [.int (fd (1 + i)), .int (pf_new fd (fd 0) 1 t n st i)]) (rest := []) ⟨hx, hb, hml, hown, hw⟩ (c_H_node l dC dI cI cZ (fd (1 + i)) (pf_new fd (fd 0) 1 t n st i)) (gw_cS 2 hw mw_392 mw_315 mw_7 mw_316 hd_H_node ⟨Nat.le_of_ble_eq_true rfl, Nat.le_of_ble_eq_true rfl⟩) hK hP hD hS hA rfl hl.1 rfl (Nat.le_of_ble_eq_true rfl) dn_F_proveGrowth_95 ⟨Nat.zero_le _, Nat.zero_le _⟩ (fun H locs hP hD hS => ?_)
              refine gr_top (y := pf_new fd (fd 0) 1 t n st (i + 1)) (by rw [pf_new]; first | rw [if_pos hw66.2] | rw [if_neg (fun z => hw66 ⟨by omega, z⟩)]) ?_
              refine lv_istore (lv' := [(6, .int (pf_new fd (fd 0) 1 t n st (i + 1))), (5, .int (pf_old fd (fd 0) 1 t n st (i + 1))), (0, .ref a0), (1, .ref b0), (2, .int early), (3, .int late), (4, .int (fd 0)), (7, .int (nI (1 + i)))]) hx hb dn_F_proveGrowth_98 hl (by decide) rfl (fun ls hl => ?_)
              refine lv_goto (tgt := 117) hx hb dn_F_proveGrowth_100 (by decide) ?_
              refine lv_iinc (lv' := [(7, .int (nI ((1 + i) + 1))), (6, .int (pf_new fd (fd 0) 1 t n st (i + 1))), (5, .int (pf_old fd (fd 0) 1 t n st (i + 1))), (0, .ref a0), (1, .ref b0), (2, .int early), (3, .int late), (4, .int (fd 0))]) (v := (nI ((1 + i) + 1))) (k := 7) hx hb dn_F_proveGrowth_117 hl rfl (nI_add (1 + i) 1) (by decide) rfl (fun ls hl => ?_)
              refine lv_goto (tgt := 54) hx hb dn_F_proveGrowth_120 (by decide) ?_
              exact ih54 (st - (i + 1)) (by omega) (i + 1) ls H locs rfl (lv_sub hl [3, 4, 5, 6, 7, 2, 1, 0] rfl) hP hD hS (by omega)
            · skip
              refine lv_if_eq (tgt := 103) hx hb dn_F_proveGrowth_69 (by decide) (fun _ => ?_) (fun h => absurd h (by decide))
              refine lv_iload hx hb dn_F_proveGrowth_103 (lv_at hl 6 rfl) ?_
              refine lv_aload_n hx hb dn_F_proveGrowth_105 rfl (lv_at hl 0 rfl) ?_
              refine va_get (D := (dC, dI)) (ci := 2) (v := .ref a1) (C := rn_F) (T := tn_F) (N := 2) hx hb hw ml_F hown hK hP 0 rfl rfl 0 (by decide) (hw _ mw_91) (fun _ h9 => h9) rfl dn_F_proveGrowth_106 ?_
              refine lv_iload hx hb dn_F_proveGrowth_109 (lv_at hl 7 rfl) ?_
              refine gr_iald hx hb hK hP 1 0 rfl rfl (1 + i) rfl (by omega) (by decide) dn_F_proveGrowth_111 ?_
              refine gc_s0 (v := (hf_node (pf_new fd (fd 0) 1 t n st i) (fd (1 + i)))) (As := [.int (pf_new fd (fd 0) 1 t n st i), .int (fd (1 + i))]) (rest := []) ⟨hx, hb, hml, hown, hw⟩ (c_H_node l dC dI cI cZ (pf_new fd (fd 0) 1 t n st i) (fd (1 + i))) (gw_cS 2 hw mw_392 mw_315 mw_7 mw_316 hd_H_node ⟨Nat.le_of_ble_eq_true rfl, Nat.le_of_ble_eq_true rfl⟩) hK hP hD hS hA rfl hl.1 rfl (Nat.le_of_ble_eq_true rfl) dn_F_proveGrowth_112 ⟨Nat.zero_le _, Nat.zero_le _⟩ (fun H locs hP hD hS => ?_)
              refine gr_top (y := pf_new fd (fd 0) 1 t n st (i + 1)) (by rw [pf_new]; first | rw [if_pos hw66.2] | rw [if_neg (fun z => hw66 ⟨by omega, z⟩)]) ?_
              rw [show pf_old fd (fd 0) 1 t n st i = pf_old fd (fd 0) 1 t n st (i + 1) from by rw [pf_old, if_neg (fun z => hw66 ⟨by omega, z⟩)]] at hl
              refine lv_istore (lv' := [(6, .int (pf_new fd (fd 0) 1 t n st (i + 1))), (0, .ref a0), (1, .ref b0), (2, .int early), (3, .int late), (4, .int (fd 0)), (5, .int (pf_old fd (fd 0) 1 t n st (i + 1))), (7, .int (nI (1 + i)))]) hx hb dn_F_proveGrowth_115 hl (by decide) rfl (fun ls hl => ?_)
              refine lv_iinc (lv' := [(7, .int (nI ((1 + i) + 1))), (6, .int (pf_new fd (fd 0) 1 t n st (i + 1))), (0, .ref a0), (1, .ref b0), (2, .int early), (3, .int late), (4, .int (fd 0)), (5, .int (pf_old fd (fd 0) 1 t n st (i + 1)))]) (v := (nI ((1 + i) + 1))) (k := 7) hx hb dn_F_proveGrowth_117 hl rfl (nI_add (1 + i) 1) (by decide) rfl (fun ls hl => ?_)
              refine lv_goto (tgt := 54) hx hb dn_F_proveGrowth_120 (by decide) ?_
              exact ih54 (st - (i + 1)) (by omega) (i + 1) ls H locs rfl (lv_sub hl [2, 3, 4, 5, 6, 7, 1, 0] rfl) hP hD hS (by omega)
      exact lp54 _ 0 ls H locs rfl (lv_sub hl [4, 5, 6, 7, 3, 2, 1, 0] rfl) hP hD hS (Nat.zero_le _)
  · skip
    refine lv_iconst (v := 0) hx hb dn_F_proveGrowth_11 (by decide) ?_
    exact hret 0 () _ _ _ _ (Or.inr ⟨rfl, fun q => h8 q.1⟩) rfl hP hD hS dn_F_proveGrowth_12
