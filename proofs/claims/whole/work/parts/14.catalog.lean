theorem sw_1_6 (x : Int32) : x = 1 ∨ x = 2 ∨ x = 3 ∨ x = 4 ∨ x = 5 ∨ x = 6 ∨ (x.toInt < 1 ∨ 6 < x.toInt) := by
  by_cases h : x.toInt < 1 ∨ 6 < x.toInt
  · exact Or.inr (Or.inr (Or.inr (Or.inr (Or.inr (Or.inr (h))))))
  · have q : x.toInt = 1 ∨ x.toInt = 2 ∨ x.toInt = 3 ∨ x.toInt = 4 ∨ x.toInt = 5 ∨ x.toInt = 6 := by omega
    rcases q with q | q | q | q | q | q
    · exact Or.inl (Int32.toInt_inj.mp (q.trans (by decide)))
    · exact Or.inr (Or.inl (Int32.toInt_inj.mp (q.trans (by decide))))
    · exact Or.inr (Or.inr (Or.inl (Int32.toInt_inj.mp (q.trans (by decide)))))
    · exact Or.inr (Or.inr (Or.inr (Or.inl (Int32.toInt_inj.mp (q.trans (by decide))))))
    · exact Or.inr (Or.inr (Or.inr (Or.inr (Or.inl (Int32.toInt_inj.mp (q.trans (by decide)))))))
    · exact Or.inr (Or.inr (Or.inr (Or.inr (Or.inr (Or.inl (Int32.toInt_inj.mp (q.trans (by decide))))))))

theorem sw_2_6 (x : Int32) : x = 2 ∨ x = 3 ∨ x = 4 ∨ x = 5 ∨ x = 6 ∨ (x.toInt < 2 ∨ 6 < x.toInt) := by
  by_cases h : x.toInt < 2 ∨ 6 < x.toInt
  · exact Or.inr (Or.inr (Or.inr (Or.inr (Or.inr (h)))))
  · have q : x.toInt = 2 ∨ x.toInt = 3 ∨ x.toInt = 4 ∨ x.toInt = 5 ∨ x.toInt = 6 := by omega
    rcases q with q | q | q | q | q
    · exact Or.inl (Int32.toInt_inj.mp (q.trans (by decide)))
    · exact Or.inr (Or.inl (Int32.toInt_inj.mp (q.trans (by decide))))
    · exact Or.inr (Or.inr (Or.inl (Int32.toInt_inj.mp (q.trans (by decide)))))
    · exact Or.inr (Or.inr (Or.inr (Or.inl (Int32.toInt_inj.mp (q.trans (by decide))))))
    · exact Or.inr (Or.inr (Or.inr (Or.inr (Or.inl (Int32.toInt_inj.mp (q.trans (by decide)))))))

theorem sw_0_2 (x : Int32) : x = 0 ∨ x = 1 ∨ x = 2 ∨ (x.toInt < 0 ∨ 2 < x.toInt) := by
  by_cases h : x.toInt < 0 ∨ 2 < x.toInt
  · exact Or.inr (Or.inr (Or.inr (h)))
  · have q : x.toInt = 0 ∨ x.toInt = 1 ∨ x.toInt = 2 := by omega
    rcases q with q | q | q
    · exact Or.inl (Int32.toInt_inj.mp (q.trans (by decide)))
    · exact Or.inr (Or.inl (Int32.toInt_inj.mp (q.trans (by decide))))
    · exact Or.inr (Or.inr (Or.inl (Int32.toInt_inj.mp (q.trans (by decide)))))

theorem dn_C_nextId_0 : decode cn_C_nextId 0 = .ok (.aload_n 0, 1) := by decide +kernel
theorem dn_C_nextId_1 : decode cn_C_nextId 1 = .ok (.getfield 24, 3) := by decide +kernel
theorem dn_C_nextId_4 : decode cn_C_nextId 4 = .ok (.iconst 1, 1) := by decide +kernel
theorem dn_C_nextId_5 : decode cn_C_nextId 5 = .ok (.iadd, 1) := by decide +kernel
theorem dn_C_nextId_6 : decode cn_C_nextId 6 = .ok (.ireturn, 1) := by decide +kernel
theorem dn_C_recordCount_0 : decode cn_C_recordCount 0 = .ok (.aload_n 0, 1) := by decide +kernel
theorem dn_C_recordCount_1 : decode cn_C_recordCount 1 = .ok (.getfield 28, 3) := by decide +kernel
theorem dn_C_recordCount_4 : decode cn_C_recordCount 4 = .ok (.ireturn, 1) := by decide +kernel
theorem dn_C_isThere_0 : decode cn_C_isThere 0 = .ok (.iconst 1, 1) := by decide +kernel
theorem dn_C_isThere_1 : decode cn_C_isThere 1 = .ok (.iload_n 1, 1) := by decide +kernel
theorem dn_C_isThere_2 : decode cn_C_isThere 2 = .ok (.if_icmp .gt 15, 3) := by decide +kernel
theorem dn_C_isThere_5 : decode cn_C_isThere 5 = .ok (.iload_n 1, 1) := by decide +kernel
theorem dn_C_isThere_6 : decode cn_C_isThere 6 = .ok (.aload_n 0, 1) := by decide +kernel
theorem dn_C_isThere_7 : decode cn_C_isThere 7 = .ok (.getfield 24, 3) := by decide +kernel
theorem dn_C_isThere_10 : decode cn_C_isThere 10 = .ok (.if_icmp .gt 7, 3) := by decide +kernel
theorem dn_C_isThere_13 : decode cn_C_isThere 13 = .ok (.iconst 1, 1) := by decide +kernel
theorem dn_C_isThere_14 : decode cn_C_isThere 14 = .ok (.goto 4, 3) := by decide +kernel
theorem dn_C_isThere_17 : decode cn_C_isThere 17 = .ok (.iconst 0, 1) := by decide +kernel
theorem dn_C_isThere_18 : decode cn_C_isThere 18 = .ok (.ireturn, 1) := by decide +kernel
theorem dn_C_stateOf_0 : decode cn_C_stateOf 0 = .ok (.aload_n 0, 1) := by decide +kernel
theorem dn_C_stateOf_1 : decode cn_C_stateOf 1 = .ok (.iload_n 1, 1) := by decide +kernel
theorem dn_C_stateOf_2 : decode cn_C_stateOf 2 = .ok (.invokevirtual 35, 3) := by decide +kernel
theorem dn_C_stateOf_5 : decode cn_C_stateOf 5 = .ok (.ifCond .eq 12, 3) := by decide +kernel
theorem dn_C_stateOf_8 : decode cn_C_stateOf 8 = .ok (.aload_n 0, 1) := by decide +kernel
theorem dn_C_stateOf_9 : decode cn_C_stateOf 9 = .ok (.getfield 9, 3) := by decide +kernel
theorem dn_C_stateOf_12 : decode cn_C_stateOf 12 = .ok (.iload_n 1, 1) := by decide +kernel
theorem dn_C_stateOf_13 : decode cn_C_stateOf 13 = .ok (.iaload, 1) := by decide +kernel
theorem dn_C_stateOf_14 : decode cn_C_stateOf 14 = .ok (.goto 4, 3) := by decide +kernel
theorem dn_C_stateOf_17 : decode cn_C_stateOf 17 = .ok (.iconst 0, 1) := by decide +kernel
theorem dn_C_stateOf_18 : decode cn_C_stateOf 18 = .ok (.ireturn, 1) := by decide +kernel
theorem dn_C_dateOf_0 : decode cn_C_dateOf 0 = .ok (.aload_n 0, 1) := by decide +kernel
theorem dn_C_dateOf_1 : decode cn_C_dateOf 1 = .ok (.iload_n 1, 1) := by decide +kernel
theorem dn_C_dateOf_2 : decode cn_C_dateOf 2 = .ok (.invokevirtual 35, 3) := by decide +kernel
theorem dn_C_dateOf_5 : decode cn_C_dateOf 5 = .ok (.ifCond .eq 12, 3) := by decide +kernel
theorem dn_C_dateOf_8 : decode cn_C_dateOf 8 = .ok (.aload_n 0, 1) := by decide +kernel
theorem dn_C_dateOf_9 : decode cn_C_dateOf 9 = .ok (.getfield 15, 3) := by decide +kernel
theorem dn_C_dateOf_12 : decode cn_C_dateOf 12 = .ok (.iload_n 1, 1) := by decide +kernel
theorem dn_C_dateOf_13 : decode cn_C_dateOf 13 = .ok (.iaload, 1) := by decide +kernel
theorem dn_C_dateOf_14 : decode cn_C_dateOf 14 = .ok (.goto 4, 3) := by decide +kernel
theorem dn_C_dateOf_17 : decode cn_C_dateOf 17 = .ok (.iconst 0, 1) := by decide +kernel
theorem dn_C_dateOf_18 : decode cn_C_dateOf 18 = .ok (.ireturn, 1) := by decide +kernel
theorem dn_C_holdsOf_0 : decode cn_C_holdsOf 0 = .ok (.aload_n 0, 1) := by decide +kernel
theorem dn_C_holdsOf_1 : decode cn_C_holdsOf 1 = .ok (.iload_n 1, 1) := by decide +kernel
theorem dn_C_holdsOf_2 : decode cn_C_holdsOf 2 = .ok (.invokevirtual 35, 3) := by decide +kernel
theorem dn_C_holdsOf_5 : decode cn_C_holdsOf 5 = .ok (.ifCond .eq 12, 3) := by decide +kernel
theorem dn_C_holdsOf_8 : decode cn_C_holdsOf 8 = .ok (.aload_n 0, 1) := by decide +kernel
theorem dn_C_holdsOf_9 : decode cn_C_holdsOf 9 = .ok (.getfield 18, 3) := by decide +kernel
theorem dn_C_holdsOf_12 : decode cn_C_holdsOf 12 = .ok (.iload_n 1, 1) := by decide +kernel
theorem dn_C_holdsOf_13 : decode cn_C_holdsOf 13 = .ok (.iaload, 1) := by decide +kernel
theorem dn_C_holdsOf_14 : decode cn_C_holdsOf 14 = .ok (.goto 4, 3) := by decide +kernel
theorem dn_C_holdsOf_17 : decode cn_C_holdsOf 17 = .ok (.iconst 0, 1) := by decide +kernel
theorem dn_C_holdsOf_18 : decode cn_C_holdsOf 18 = .ok (.ireturn, 1) := by decide +kernel
theorem dn_C_putRecordOf_0 : decode cn_C_putRecordOf 0 = .ok (.aload_n 0, 1) := by decide +kernel
theorem dn_C_putRecordOf_1 : decode cn_C_putRecordOf 1 = .ok (.iload_n 1, 1) := by decide +kernel
theorem dn_C_putRecordOf_2 : decode cn_C_putRecordOf 2 = .ok (.invokevirtual 35, 3) := by decide +kernel
theorem dn_C_putRecordOf_5 : decode cn_C_putRecordOf 5 = .ok (.ifCond .eq 12, 3) := by decide +kernel
theorem dn_C_putRecordOf_8 : decode cn_C_putRecordOf 8 = .ok (.aload_n 0, 1) := by decide +kernel
theorem dn_C_putRecordOf_9 : decode cn_C_putRecordOf 9 = .ok (.getfield 21, 3) := by decide +kernel
theorem dn_C_putRecordOf_12 : decode cn_C_putRecordOf 12 = .ok (.iload_n 1, 1) := by decide +kernel
theorem dn_C_putRecordOf_13 : decode cn_C_putRecordOf 13 = .ok (.iaload, 1) := by decide +kernel
theorem dn_C_putRecordOf_14 : decode cn_C_putRecordOf 14 = .ok (.goto 4, 3) := by decide +kernel
theorem dn_C_putRecordOf_17 : decode cn_C_putRecordOf 17 = .ok (.iconst 0, 1) := by decide +kernel
theorem dn_C_putRecordOf_18 : decode cn_C_putRecordOf 18 = .ok (.ireturn, 1) := by decide +kernel
theorem dn_C_isLive_0 : decode cn_C_isLive 0 = .ok (.aload_n 0, 1) := by decide +kernel
theorem dn_C_isLive_1 : decode cn_C_isLive 1 = .ok (.iload_n 1, 1) := by decide +kernel
theorem dn_C_isLive_2 : decode cn_C_isLive 2 = .ok (.invokevirtual 31, 3) := by decide +kernel
theorem dn_C_isLive_5 : decode cn_C_isLive 5 = .ok (.iconst 1, 1) := by decide +kernel
theorem dn_C_isLive_6 : decode cn_C_isLive 6 = .ok (.if_icmp .ne 7, 3) := by decide +kernel
theorem dn_C_isLive_9 : decode cn_C_isLive 9 = .ok (.iconst 1, 1) := by decide +kernel
theorem dn_C_isLive_10 : decode cn_C_isLive 10 = .ok (.goto 4, 3) := by decide +kernel
theorem dn_C_isLive_13 : decode cn_C_isLive 13 = .ok (.iconst 0, 1) := by decide +kernel
theorem dn_C_isLive_14 : decode cn_C_isLive 14 = .ok (.ireturn, 1) := by decide +kernel
theorem dn_C_mayKeepKey_0 : decode cn_C_mayKeepKey 0 = .ok (.aload_n 0, 1) := by decide +kernel
theorem dn_C_mayKeepKey_1 : decode cn_C_mayKeepKey 1 = .ok (.iload_n 1, 1) := by decide +kernel
theorem dn_C_mayKeepKey_2 : decode cn_C_mayKeepKey 2 = .ok (.invokevirtual 35, 3) := by decide +kernel
theorem dn_C_mayKeepKey_5 : decode cn_C_mayKeepKey 5 = .ok (.ifCond .eq 16, 3) := by decide +kernel
theorem dn_C_mayKeepKey_8 : decode cn_C_mayKeepKey 8 = .ok (.aload_n 0, 1) := by decide +kernel
theorem dn_C_mayKeepKey_9 : decode cn_C_mayKeepKey 9 = .ok (.iload_n 1, 1) := by decide +kernel
theorem dn_C_mayKeepKey_10 : decode cn_C_mayKeepKey 10 = .ok (.invokevirtual 31, 3) := by decide +kernel
theorem dn_C_mayKeepKey_13 : decode cn_C_mayKeepKey 13 = .ok (.iconst 3, 1) := by decide +kernel
theorem dn_C_mayKeepKey_14 : decode cn_C_mayKeepKey 14 = .ok (.if_icmp .eq 7, 3) := by decide +kernel
theorem dn_C_mayKeepKey_17 : decode cn_C_mayKeepKey 17 = .ok (.iconst 1, 1) := by decide +kernel
theorem dn_C_mayKeepKey_18 : decode cn_C_mayKeepKey 18 = .ok (.goto 4, 3) := by decide +kernel
theorem dn_C_mayKeepKey_21 : decode cn_C_mayKeepKey 21 = .ok (.iconst 0, 1) := by decide +kernel
theorem dn_C_mayKeepKey_22 : decode cn_C_mayKeepKey 22 = .ok (.ireturn, 1) := by decide +kernel
theorem dn_C_isDate_0 : decode cn_C_isDate 0 = .ok (.iconst 0, 1) := by decide +kernel
theorem dn_C_isDate_1 : decode cn_C_isDate 1 = .ok (.iload_n 0, 1) := by decide +kernel
theorem dn_C_isDate_2 : decode cn_C_isDate 2 = .ok (.if_icmp .gt 13, 3) := by decide +kernel
theorem dn_C_isDate_5 : decode cn_C_isDate 5 = .ok (.iload_n 0, 1) := by decide +kernel
theorem dn_C_isDate_6 : decode cn_C_isDate 6 = .ok (.ldc 61, 2) := by decide +kernel
theorem dn_C_isDate_8 : decode cn_C_isDate 8 = .ok (.if_icmp .gt 7, 3) := by decide +kernel
theorem dn_C_isDate_11 : decode cn_C_isDate 11 = .ok (.iconst 1, 1) := by decide +kernel
theorem dn_C_isDate_12 : decode cn_C_isDate 12 = .ok (.goto 4, 3) := by decide +kernel
theorem dn_C_isDate_15 : decode cn_C_isDate 15 = .ok (.iconst 0, 1) := by decide +kernel
theorem dn_C_isDate_16 : decode cn_C_isDate 16 = .ok (.ireturn, 1) := by decide +kernel
theorem dn_C_putVerdict_0 : decode cn_C_putVerdict 0 = .ok (.iload_n 1, 1) := by decide +kernel
theorem dn_C_putVerdict_1 : decode cn_C_putVerdict 1 = .ok (.invokestatic 58, 3) := by decide +kernel
theorem dn_C_putVerdict_4 : decode cn_C_putVerdict 4 = .ok (.ifCond .ne 5, 3) := by decide +kernel
theorem dn_C_putVerdict_7 : decode cn_C_putVerdict 7 = .ok (.iconst (-1), 1) := by decide +kernel
theorem dn_C_putVerdict_8 : decode cn_C_putVerdict 8 = .ok (.ireturn, 1) := by decide +kernel
theorem dn_C_putVerdict_9 : decode cn_C_putVerdict 9 = .ok (.iload_n 1, 1) := by decide +kernel
theorem dn_C_putVerdict_10 : decode cn_C_putVerdict 10 = .ok (.iload_n 2, 1) := by decide +kernel
theorem dn_C_putVerdict_11 : decode cn_C_putVerdict 11 = .ok (.if_icmp .ge 6, 3) := by decide +kernel
theorem dn_C_putVerdict_14 : decode cn_C_putVerdict 14 = .ok (.bipush (-4), 2) := by decide +kernel
theorem dn_C_putVerdict_16 : decode cn_C_putVerdict 16 = .ok (.ireturn, 1) := by decide +kernel
theorem dn_C_putVerdict_17 : decode cn_C_putVerdict 17 = .ok (.aload_n 0, 1) := by decide +kernel
theorem dn_C_putVerdict_18 : decode cn_C_putVerdict 18 = .ok (.getfield 24, 3) := by decide +kernel
theorem dn_C_putVerdict_21 : decode cn_C_putVerdict 21 = .ok (.bipush 12, 2) := by decide +kernel
theorem dn_C_putVerdict_23 : decode cn_C_putVerdict 23 = .ok (.if_icmp .lt 8, 3) := by decide +kernel
theorem dn_C_putVerdict_26 : decode cn_C_putVerdict 26 = .ok (.bipush (-8), 2) := by decide +kernel
theorem dn_C_putVerdict_28 : decode cn_C_putVerdict 28 = .ok (.goto 4, 3) := by decide +kernel
theorem dn_C_putVerdict_31 : decode cn_C_putVerdict 31 = .ok (.iconst 0, 1) := by decide +kernel
theorem dn_C_putVerdict_32 : decode cn_C_putVerdict 32 = .ok (.ireturn, 1) := by decide +kernel
theorem dn_C_extendVerdict_0 : decode cn_C_extendVerdict 0 = .ok (.iload_n 2, 1) := by decide +kernel
theorem dn_C_extendVerdict_1 : decode cn_C_extendVerdict 1 = .ok (.invokestatic 58, 3) := by decide +kernel
theorem dn_C_extendVerdict_4 : decode cn_C_extendVerdict 4 = .ok (.ifCond .ne 5, 3) := by decide +kernel
theorem dn_C_extendVerdict_7 : decode cn_C_extendVerdict 7 = .ok (.iconst (-1), 1) := by decide +kernel
theorem dn_C_extendVerdict_8 : decode cn_C_extendVerdict 8 = .ok (.ireturn, 1) := by decide +kernel
theorem dn_C_extendVerdict_9 : decode cn_C_extendVerdict 9 = .ok (.aload_n 0, 1) := by decide +kernel
theorem dn_C_extendVerdict_10 : decode cn_C_extendVerdict 10 = .ok (.iload_n 1, 1) := by decide +kernel
theorem dn_C_extendVerdict_11 : decode cn_C_extendVerdict 11 = .ok (.invokevirtual 35, 3) := by decide +kernel
theorem dn_C_extendVerdict_14 : decode cn_C_extendVerdict 14 = .ok (.ifCond .ne 6, 3) := by decide +kernel
theorem dn_C_extendVerdict_17 : decode cn_C_extendVerdict 17 = .ok (.bipush (-2), 2) := by decide +kernel
theorem dn_C_extendVerdict_19 : decode cn_C_extendVerdict 19 = .ok (.ireturn, 1) := by decide +kernel
theorem dn_C_extendVerdict_20 : decode cn_C_extendVerdict 20 = .ok (.aload_n 0, 1) := by decide +kernel
theorem dn_C_extendVerdict_21 : decode cn_C_extendVerdict 21 = .ok (.getfield 9, 3) := by decide +kernel
theorem dn_C_extendVerdict_24 : decode cn_C_extendVerdict 24 = .ok (.iload_n 1, 1) := by decide +kernel
theorem dn_C_extendVerdict_25 : decode cn_C_extendVerdict 25 = .ok (.iaload, 1) := by decide +kernel
theorem dn_C_extendVerdict_26 : decode cn_C_extendVerdict 26 = .ok (.iconst 1, 1) := by decide +kernel
theorem dn_C_extendVerdict_27 : decode cn_C_extendVerdict 27 = .ok (.if_icmp .eq 6, 3) := by decide +kernel
theorem dn_C_extendVerdict_30 : decode cn_C_extendVerdict 30 = .ok (.bipush (-3), 2) := by decide +kernel
theorem dn_C_extendVerdict_32 : decode cn_C_extendVerdict 32 = .ok (.ireturn, 1) := by decide +kernel
theorem dn_C_extendVerdict_33 : decode cn_C_extendVerdict 33 = .ok (.iload_n 2, 1) := by decide +kernel
theorem dn_C_extendVerdict_34 : decode cn_C_extendVerdict 34 = .ok (.aload_n 0, 1) := by decide +kernel
theorem dn_C_extendVerdict_35 : decode cn_C_extendVerdict 35 = .ok (.getfield 15, 3) := by decide +kernel
theorem dn_C_extendVerdict_38 : decode cn_C_extendVerdict 38 = .ok (.iload_n 1, 1) := by decide +kernel
theorem dn_C_extendVerdict_39 : decode cn_C_extendVerdict 39 = .ok (.iaload, 1) := by decide +kernel
theorem dn_C_extendVerdict_40 : decode cn_C_extendVerdict 40 = .ok (.if_icmp .gt 8, 3) := by decide +kernel
theorem dn_C_extendVerdict_43 : decode cn_C_extendVerdict 43 = .ok (.bipush (-4), 2) := by decide +kernel
theorem dn_C_extendVerdict_45 : decode cn_C_extendVerdict 45 = .ok (.goto 4, 3) := by decide +kernel
theorem dn_C_extendVerdict_48 : decode cn_C_extendVerdict 48 = .ok (.iconst 0, 1) := by decide +kernel
theorem dn_C_extendVerdict_49 : decode cn_C_extendVerdict 49 = .ok (.ireturn, 1) := by decide +kernel

set_option maxRecDepth 100000 in
set_option maxHeartbeats 4000000 in
theorem c_C_nextId (l : Launch) (dC : Nat → ClassId) (dI : Nat → Nat → Nat) (cI cZ : ClassId) (a0 a1 a2 a3 a4 : Nat) (K : ct_T) (en : Nat) (ho : K.1 ≤ 12)  : gc_I l yn_C_nextId (gw yn_C_nextId cn_C_nextId 1 (some .int)) (rm_ 0 0) (dC, dI) vwCl (gT cI cZ) [.ref a0] [(a0, .inr (0, [.ref a1, .ref a2, .ref a3, .ref a4, .int (nI K.1), .int (nI en)])), (a1, .inl (cI, 13, .inl K.2.1)), (a2, .inl (cI, 13, .inl K.2.2.1)), (a3, .inl (cI, 13, .inl K.2.2.2.1)), (a4, .inl (cI, 13, .inl K.2.2.2.2))] (fun r (_ : Unit) => r = nI (K.1 + 1)) (fun _ => [(a0, .inr (0, [.ref a1, .ref a2, .ref a3, .ref a4, .int (nI K.1), .int (nI en)])), (a1, .inl (cI, 13, .inl K.2.1)), (a2, .inl (cI, 13, .inl K.2.2.1)), (a3, .inl (cI, 13, .inl K.2.2.2.1)), (a4, .inl (cI, 13, .inl K.2.2.2.2))]) := by
  refine gc_I_of (cc := cn_C_nextId) (maxL := 1) (ty := .int) (by decide) rfl (Nat.le_of_ble_eq_true rfl) ?_
  intro pp ee ss mm ar be me cd A Q ls H0 H locs hx hb hml hown hts hK hP hD hS hA hl hret
  have hw : ∀ w ∈ gw_T, w.before ar ss = true := fun w h => hts w (List.mem_cons_of_mem _ h)
  have hl : lv_has ls 1 [(0, .ref a0)] := hl
  refine lv_aload_n hx hb dn_C_nextId_0 rfl (lv_at hl 0 rfl) ?_
  refine va_get (D := (dC, dI)) (ci := 0) (v := .int (nI K.1)) (C := rn_C) (T := tn_C) (N := 6) hx hb hw ml_C hown hK hP 0 rfl rfl 4 (by decide) (hw _ mw_41) (fun _ h9 => h9) rfl dn_C_nextId_1 ?_
  refine lv_iconst (v := 1) hx hb dn_C_nextId_4 (by decide) ?_
  refine gr_addN hx hb K.1 1 rfl rfl dn_C_nextId_5 ?_
  exact hret (nI (K.1 + 1)) () _ _ _ _ rfl rfl hP hD hS dn_C_nextId_6

set_option maxRecDepth 100000 in
set_option maxHeartbeats 4000000 in
theorem c_C_recordCount (l : Launch) (dC : Nat → ClassId) (dI : Nat → Nat → Nat) (cI cZ : ClassId) (a0 a1 a2 a3 a4 : Nat) (K : ct_T) (en : Nat) (ho : K.1 ≤ 12)  : gc_I l yn_C_recordCount (gw yn_C_recordCount cn_C_recordCount 1 (some .int)) (rm_ 0 0) (dC, dI) vwCl (gT cI cZ) [.ref a0] [(a0, .inr (0, [.ref a1, .ref a2, .ref a3, .ref a4, .int (nI K.1), .int (nI en)])), (a1, .inl (cI, 13, .inl K.2.1)), (a2, .inl (cI, 13, .inl K.2.2.1)), (a3, .inl (cI, 13, .inl K.2.2.2.1)), (a4, .inl (cI, 13, .inl K.2.2.2.2))] (fun r (_ : Unit) => r = nI en) (fun _ => [(a0, .inr (0, [.ref a1, .ref a2, .ref a3, .ref a4, .int (nI K.1), .int (nI en)])), (a1, .inl (cI, 13, .inl K.2.1)), (a2, .inl (cI, 13, .inl K.2.2.1)), (a3, .inl (cI, 13, .inl K.2.2.2.1)), (a4, .inl (cI, 13, .inl K.2.2.2.2))]) := by
  refine gc_I_of (cc := cn_C_recordCount) (maxL := 1) (ty := .int) (by decide) rfl (Nat.le_of_ble_eq_true rfl) ?_
  intro pp ee ss mm ar be me cd A Q ls H0 H locs hx hb hml hown hts hK hP hD hS hA hl hret
  have hw : ∀ w ∈ gw_T, w.before ar ss = true := fun w h => hts w (List.mem_cons_of_mem _ h)
  have hl : lv_has ls 1 [(0, .ref a0)] := hl
  refine lv_aload_n hx hb dn_C_recordCount_0 rfl (lv_at hl 0 rfl) ?_
  refine va_get (D := (dC, dI)) (ci := 0) (v := .int (nI en)) (C := rn_C) (T := tn_C) (N := 6) hx hb hw ml_C hown hK hP 0 rfl rfl 5 (by decide) (hw _ mw_42) (fun _ h9 => h9) rfl dn_C_recordCount_1 ?_
  exact hret (nI en) () _ _ _ _ rfl rfl hP hD hS dn_C_recordCount_4

set_option maxRecDepth 100000 in
set_option maxHeartbeats 4000000 in
theorem c_C_isThere (l : Launch) (dC : Nat → ClassId) (dI : Nat → Nat → Nat) (cI cZ : ClassId) (a0 a1 a2 a3 a4 : Nat) (K : ct_T) (en : Nat) (ho : K.1 ≤ 12) (id : Int32) : gc_I l yn_C_isThere (gw yn_C_isThere cn_C_isThere 2 (some .boolean)) (rm_ 0 0) (dC, dI) vwCl (gT cI cZ) [.ref a0, .int id] [(a0, .inr (0, [.ref a1, .ref a2, .ref a3, .ref a4, .int (nI K.1), .int (nI en)])), (a1, .inl (cI, 13, .inl K.2.1)), (a2, .inl (cI, 13, .inl K.2.2.1)), (a3, .inl (cI, 13, .inl K.2.2.2.1)), (a4, .inl (cI, 13, .inl K.2.2.2.2))] (fun r (_ : Unit) => (r = 1 ∧ ∃ j, 1 ≤ j ∧ j ≤ K.1 ∧ id = nI j) ∨ (r = 0 ∧ (id < 1 ∨ nI K.1 < id))) (fun _ => [(a0, .inr (0, [.ref a1, .ref a2, .ref a3, .ref a4, .int (nI K.1), .int (nI en)])), (a1, .inl (cI, 13, .inl K.2.1)), (a2, .inl (cI, 13, .inl K.2.2.1)), (a3, .inl (cI, 13, .inl K.2.2.2.1)), (a4, .inl (cI, 13, .inl K.2.2.2.2))]) := by
  refine gc_I_of (cc := cn_C_isThere) (maxL := 2) (ty := .boolean) (by decide) rfl (Nat.le_of_ble_eq_true rfl) ?_
  intro pp ee ss mm ar be me cd A Q ls H0 H locs hx hb hml hown hts hK hP hD hS hA hl hret
  have hw : ∀ w ∈ gw_T, w.before ar ss = true := fun w h => hts w (List.mem_cons_of_mem _ h)
  have hl : lv_has ls 2 [(0, .ref a0), (1, .int id)] := hl
  refine lv_iconst (v := 1) hx hb dn_C_isThere_0 (by decide) ?_
  refine lv_iload_n hx hb dn_C_isThere_1 rfl (lv_at hl 1 rfl) ?_
  refine lv_icmp_gt (tgt := 17) hx hb dn_C_isThere_2 (by decide) (fun h2 => ?_) (fun h2 => ?_)
  · skip
    refine lv_iconst (v := 0) hx hb dn_C_isThere_17 (by decide) ?_
    exact hret 0 () _ _ _ _ (Or.inr ⟨rfl, by first | exact Or.inl h2 | exact Or.inr h10⟩) rfl hP hD hS dn_C_isThere_18
  · skip
    refine lv_iload_n hx hb dn_C_isThere_5 rfl (lv_at hl 1 rfl) ?_
    refine lv_aload_n hx hb dn_C_isThere_6 rfl (lv_at hl 0 rfl) ?_
    refine va_get (D := (dC, dI)) (ci := 0) (v := .int (nI K.1)) (C := rn_C) (T := tn_C) (N := 6) hx hb hw ml_C hown hK hP 0 rfl rfl 4 (by decide) (hw _ mw_41) (fun _ h9 => h9) rfl dn_C_isThere_7 ?_
    refine lv_icmp_gt (tgt := 17) hx hb dn_C_isThere_10 (by decide) (fun h10 => ?_) (fun h10 => ?_)
    · skip
      refine lv_iconst (v := 0) hx hb dn_C_isThere_17 (by decide) ?_
      exact hret 0 () _ _ _ _ (Or.inr ⟨rfl, by first | exact Or.inl h2 | exact Or.inr h10⟩) rfl hP hD hS dn_C_isThere_18
    · skip
      refine lv_iconst (v := 1) hx hb dn_C_isThere_13 (by decide) ?_
      refine lv_goto (tgt := 18) hx hb dn_C_isThere_14 (by decide) ?_
      exact hret 1 () _ _ _ _ (Or.inl ⟨rfl, ct_id (by omega) h2 h10⟩) rfl hP hD hS dn_C_isThere_18

set_option maxRecDepth 100000 in
set_option maxHeartbeats 4000000 in
theorem c_C_isThereN (l : Launch) (dC : Nat → ClassId) (dI : Nat → Nat → Nat) (cI cZ : ClassId) (a0 a1 a2 a3 a4 : Nat) (K : ct_T) (en : Nat) (ho : K.1 ≤ 12) (j : Nat) (hj1 : 1 ≤ j) (hj2 : j ≤ K.1) : gc_I l yn_C_isThere (gw yn_C_isThere cn_C_isThere 2 (some .boolean)) (rm_ 0 0) (dC, dI) vwCl (gT cI cZ) [.ref a0, .int (nI j)] [(a0, .inr (0, [.ref a1, .ref a2, .ref a3, .ref a4, .int (nI K.1), .int (nI en)])), (a1, .inl (cI, 13, .inl K.2.1)), (a2, .inl (cI, 13, .inl K.2.2.1)), (a3, .inl (cI, 13, .inl K.2.2.2.1)), (a4, .inl (cI, 13, .inl K.2.2.2.2))] (fun r (_ : Unit) => r = 1) (fun _ => [(a0, .inr (0, [.ref a1, .ref a2, .ref a3, .ref a4, .int (nI K.1), .int (nI en)])), (a1, .inl (cI, 13, .inl K.2.1)), (a2, .inl (cI, 13, .inl K.2.2.1)), (a3, .inl (cI, 13, .inl K.2.2.2.1)), (a4, .inl (cI, 13, .inl K.2.2.2.2))]) := by
  refine gc_I_of (cc := cn_C_isThere) (maxL := 2) (ty := .boolean) (by decide) rfl (Nat.le_of_ble_eq_true rfl) ?_
  intro pp ee ss mm ar be me cd A Q ls H0 H locs hx hb hml hown hts hK hP hD hS hA hl hret
  have hw : ∀ w ∈ gw_T, w.before ar ss = true := fun w h => hts w (List.mem_cons_of_mem _ h)
  have hl : lv_has ls 2 [(0, .ref a0), (1, .int (nI j))] := hl
  refine lv_iconst (v := 1) hx hb dn_C_isThere_0 (by decide) ?_
  refine lv_iload_n hx hb dn_C_isThere_1 rfl (lv_at hl 1 rfl) ?_
  refine gr_cgt (tgt := 17) hx hb 1 j rfl rfl (by decide) (by omega) dn_C_isThere_2 (by decide) (fun h2 => absurd h2 (by omega)) (fun h2 => ?_)
  refine lv_iload_n hx hb dn_C_isThere_5 rfl (lv_at hl 1 rfl) ?_
  refine lv_aload_n hx hb dn_C_isThere_6 rfl (lv_at hl 0 rfl) ?_
  refine va_get (D := (dC, dI)) (ci := 0) (v := .int (nI K.1)) (C := rn_C) (T := tn_C) (N := 6) hx hb hw ml_C hown hK hP 0 rfl rfl 4 (by decide) (hw _ mw_41) (fun _ h9 => h9) rfl dn_C_isThere_7 ?_
  refine gr_cgt (tgt := 17) hx hb j K.1 rfl rfl (by omega) (by omega) dn_C_isThere_10 (by decide) (fun h10 => absurd h10 (by omega)) (fun h10 => ?_)
  refine lv_iconst (v := 1) hx hb dn_C_isThere_13 (by decide) ?_
  refine lv_goto (tgt := 18) hx hb dn_C_isThere_14 (by decide) ?_
  exact hret 1 () _ _ _ _ rfl rfl hP hD hS dn_C_isThere_18

set_option maxRecDepth 100000 in
set_option maxHeartbeats 4000000 in
theorem c_C_isThereK (l : Launch) (dC : Nat → ClassId) (dI : Nat → Nat → Nat) (cI cZ : ClassId) (a0 a1 a2 a3 a4 : Nat) (K : ct_T) (en : Nat) (ho : K.1 ≤ 12) (j : Nat) (hj1 : 1 ≤ j) (hj : j ≤ 12) : gc_I l yn_C_isThere (gw yn_C_isThere cn_C_isThere 2 (some .boolean)) (rm_ 0 0) (dC, dI) vwCl (gT cI cZ) [.ref a0, .int (nI j)] [(a0, .inr (0, [.ref a1, .ref a2, .ref a3, .ref a4, .int (nI K.1), .int (nI en)])), (a1, .inl (cI, 13, .inl K.2.1)), (a2, .inl (cI, 13, .inl K.2.2.1)), (a3, .inl (cI, 13, .inl K.2.2.2.1)), (a4, .inl (cI, 13, .inl K.2.2.2.2))] (fun r (_ : Unit) => (r = 1 ∧ j ≤ K.1) ∨ (r = 0 ∧ K.1 < j)) (fun _ => [(a0, .inr (0, [.ref a1, .ref a2, .ref a3, .ref a4, .int (nI K.1), .int (nI en)])), (a1, .inl (cI, 13, .inl K.2.1)), (a2, .inl (cI, 13, .inl K.2.2.1)), (a3, .inl (cI, 13, .inl K.2.2.2.1)), (a4, .inl (cI, 13, .inl K.2.2.2.2))]) := by
  refine gc_I_of (cc := cn_C_isThere) (maxL := 2) (ty := .boolean) (by decide) rfl (Nat.le_of_ble_eq_true rfl) ?_
  intro pp ee ss mm ar be me cd A Q ls H0 H locs hx hb hml hown hts hK hP hD hS hA hl hret
  have hw : ∀ w ∈ gw_T, w.before ar ss = true := fun w h => hts w (List.mem_cons_of_mem _ h)
  have hl : lv_has ls 2 [(0, .ref a0), (1, .int (nI j))] := hl
  refine lv_iconst (v := 1) hx hb dn_C_isThere_0 (by decide) ?_
  refine lv_iload_n hx hb dn_C_isThere_1 rfl (lv_at hl 1 rfl) ?_
  refine gr_cgt (tgt := 17) hx hb 1 j rfl rfl (by decide) (by omega) dn_C_isThere_2 (by decide) (fun h2 => absurd h2 (by omega)) (fun h2 => ?_)
  refine lv_iload_n hx hb dn_C_isThere_5 rfl (lv_at hl 1 rfl) ?_
  refine lv_aload_n hx hb dn_C_isThere_6 rfl (lv_at hl 0 rfl) ?_
  refine va_get (D := (dC, dI)) (ci := 0) (v := .int (nI K.1)) (C := rn_C) (T := tn_C) (N := 6) hx hb hw ml_C hown hK hP 0 rfl rfl 4 (by decide) (hw _ mw_41) (fun _ h9 => h9) rfl dn_C_isThere_7 ?_
  refine gr_cgt (tgt := 17) hx hb j K.1 rfl rfl (by omega) (by omega) dn_C_isThere_10 (by decide) (fun h10 => ?_) (fun h10 => ?_)
  · skip
    refine lv_iconst (v := 0) hx hb dn_C_isThere_17 (by decide) ?_
    exact hret 0 () _ _ _ _ (Or.inr ⟨rfl, by omega⟩) rfl hP hD hS dn_C_isThere_18
  · skip
    refine lv_iconst (v := 1) hx hb dn_C_isThere_13 (by decide) ?_
    refine lv_goto (tgt := 18) hx hb dn_C_isThere_14 (by decide) ?_
    exact hret 1 () _ _ _ _ (Or.inl ⟨rfl, by omega⟩) rfl hP hD hS dn_C_isThere_18

set_option maxRecDepth 100000 in
set_option maxHeartbeats 4000000 in
theorem c_C_stateOf (l : Launch) (dC : Nat → ClassId) (dI : Nat → Nat → Nat) (cI cZ : ClassId) (a0 a1 a2 a3 a4 : Nat) (K : ct_T) (en : Nat) (ho : K.1 ≤ 12) (id : Int32) : gc_I l yn_C_stateOf (gw yn_C_stateOf cn_C_stateOf 2 (some .int)) (rm_ 1 21) (dC, dI) vwCl (gT cI cZ) [.ref a0, .int id] [(a0, .inr (0, [.ref a1, .ref a2, .ref a3, .ref a4, .int (nI K.1), .int (nI en)])), (a1, .inl (cI, 13, .inl K.2.1)), (a2, .inl (cI, 13, .inl K.2.2.1)), (a3, .inl (cI, 13, .inl K.2.2.2.1)), (a4, .inl (cI, 13, .inl K.2.2.2.2))] (fun r (_ : Unit) => r = ct_so K K.2.1 id) (fun _ => [(a0, .inr (0, [.ref a1, .ref a2, .ref a3, .ref a4, .int (nI K.1), .int (nI en)])), (a1, .inl (cI, 13, .inl K.2.1)), (a2, .inl (cI, 13, .inl K.2.2.1)), (a3, .inl (cI, 13, .inl K.2.2.2.1)), (a4, .inl (cI, 13, .inl K.2.2.2.2))]) := by
  refine gc_I_of (cc := cn_C_stateOf) (maxL := 2) (ty := .int) (by decide) rfl (Nat.le_of_ble_eq_true rfl) ?_
  intro pp ee ss mm ar be me cd A Q ls H0 H locs hx hb hml hown hts hK hP hD hS hA hl hret
  have hw : ∀ w ∈ gw_T, w.before ar ss = true := fun w h => hts w (List.mem_cons_of_mem _ h)
  have hl : lv_has ls 2 [(0, .ref a0), (1, .int id)] := hl
  refine lv_aload_n hx hb dn_C_stateOf_0 rfl (lv_at hl 0 rfl) ?_
  refine lv_iload_n hx hb dn_C_stateOf_1 rfl (lv_at hl 1 rfl) ?_
  refine gc_vi (pre := []) (wc := [(a0, .inr (0, [.ref a1, .ref a2, .ref a3, .ref a4, .int (nI K.1), .int (nI en)])), (a1, .inl (cI, 13, .inl K.2.1)), (a2, .inl (cI, 13, .inl K.2.2.1)), (a3, .inl (cI, 13, .inl K.2.2.2.1)), (a4, .inl (cI, 13, .inl K.2.2.2.2))]) (po := []) (As := [.int id]) (rest := []) ⟨hx, hb, hml, hown, hw⟩ (c_C_isThere l dC dI cI cZ a0 a1 a2 a3 a4 K en (by omega) id) (gw_cV 1 hw mw_158 mw_159 mw_160 mw_3 mw_161 hd_C_isThere ⟨Nat.le_of_ble_eq_true rfl, Nat.le_of_ble_eq_true rfl⟩) (ci := 0) rfl rfl rfl hK hP hD hS hA rfl hl.1 rfl (Nat.le_of_ble_eq_true rfl) dn_C_stateOf_2 ⟨Nat.zero_le _, Nat.zero_le _⟩ (fun r2 u2 H locs hc2 hP hD hS => ?_)
  have hP : va_P (dC, dI) vwCl [(a0, .inr (0, [.ref a1, .ref a2, .ref a3, .ref a4, .int (nI K.1), .int (nI en)])), (a1, .inl (cI, 13, .inl K.2.1)), (a2, .inl (cI, 13, .inl K.2.2.1)), (a3, .inl (cI, 13, .inl K.2.2.2.1)), (a4, .inl (cI, 13, .inl K.2.2.2.2))] H := hP
  have hD : va_D A [(a0, .inr (0, [.ref a1, .ref a2, .ref a3, .ref a4, .int (nI K.1), .int (nI en)])), (a1, .inl (cI, 13, .inl K.2.1)), (a2, .inl (cI, 13, .inl K.2.2.1)), (a3, .inl (cI, 13, .inl K.2.2.2.1)), (a4, .inl (cI, 13, .inl K.2.2.2.2))] := hD
  rcases hc2 with ⟨rfl, j2, j2a, j2b, rfl⟩ | ⟨rfl, hno2⟩
  · skip
    refine lv_if_eq (tgt := 17) hx hb dn_C_stateOf_5 (by decide) (fun h => absurd h (by decide)) (fun _ => ?_)
    refine lv_aload_n hx hb dn_C_stateOf_8 rfl (lv_at hl 0 rfl) ?_
    refine va_get (D := (dC, dI)) (ci := 0) (v := .ref a1) (C := rn_C) (T := tn_C) (N := 6) hx hb hw ml_C hown hK hP 0 rfl rfl 0 (by decide) (hw _ mw_37) (fun _ h9 => h9) rfl dn_C_stateOf_9 ?_
    refine lv_iload_n hx hb dn_C_stateOf_12 rfl (lv_at hl 1 rfl) ?_
    refine gr_iald hx hb hK hP 1 0 rfl rfl j2 rfl (by omega) (by decide) dn_C_stateOf_13 ?_
    refine lv_goto (tgt := 18) hx hb dn_C_stateOf_14 (by decide) ?_
    exact hret (K.2.1 j2) () _ _ _ _ (ct_so_in j2a j2b ho).symm rfl hP hD hS dn_C_stateOf_18
  · skip
    refine lv_if_eq (tgt := 17) hx hb dn_C_stateOf_5 (by decide) (fun _ => ?_) (fun h => absurd h (by decide))
    refine lv_iconst (v := 0) hx hb dn_C_stateOf_17 (by decide) ?_
    exact hret 0 () _ _ _ _ (ct_so_out hno2).symm rfl hP hD hS dn_C_stateOf_18

set_option maxRecDepth 100000 in
set_option maxHeartbeats 4000000 in
theorem c_C_stateOfN (l : Launch) (dC : Nat → ClassId) (dI : Nat → Nat → Nat) (cI cZ : ClassId) (a0 a1 a2 a3 a4 : Nat) (K : ct_T) (en : Nat) (ho : K.1 ≤ 12) (j : Nat) (hj1 : 1 ≤ j) (hj2 : j ≤ K.1) : gc_I l yn_C_stateOf (gw yn_C_stateOf cn_C_stateOf 2 (some .int)) (rm_ 1 21) (dC, dI) vwCl (gT cI cZ) [.ref a0, .int (nI j)] [(a0, .inr (0, [.ref a1, .ref a2, .ref a3, .ref a4, .int (nI K.1), .int (nI en)])), (a1, .inl (cI, 13, .inl K.2.1)), (a2, .inl (cI, 13, .inl K.2.2.1)), (a3, .inl (cI, 13, .inl K.2.2.2.1)), (a4, .inl (cI, 13, .inl K.2.2.2.2))] (fun r (_ : Unit) => r = K.2.1 j) (fun _ => [(a0, .inr (0, [.ref a1, .ref a2, .ref a3, .ref a4, .int (nI K.1), .int (nI en)])), (a1, .inl (cI, 13, .inl K.2.1)), (a2, .inl (cI, 13, .inl K.2.2.1)), (a3, .inl (cI, 13, .inl K.2.2.2.1)), (a4, .inl (cI, 13, .inl K.2.2.2.2))]) := by
  refine gc_I_of (cc := cn_C_stateOf) (maxL := 2) (ty := .int) (by decide) rfl (Nat.le_of_ble_eq_true rfl) ?_
  intro pp ee ss mm ar be me cd A Q ls H0 H locs hx hb hml hown hts hK hP hD hS hA hl hret
  have hw : ∀ w ∈ gw_T, w.before ar ss = true := fun w h => hts w (List.mem_cons_of_mem _ h)
  have hl : lv_has ls 2 [(0, .ref a0), (1, .int (nI j))] := hl
  refine lv_aload_n hx hb dn_C_stateOf_0 rfl (lv_at hl 0 rfl) ?_
  refine lv_iload_n hx hb dn_C_stateOf_1 rfl (lv_at hl 1 rfl) ?_
  refine gc_vi (pre := []) (wc := [(a0, .inr (0, [.ref a1, .ref a2, .ref a3, .ref a4, .int (nI K.1), .int (nI en)])), (a1, .inl (cI, 13, .inl K.2.1)), (a2, .inl (cI, 13, .inl K.2.2.1)), (a3, .inl (cI, 13, .inl K.2.2.2.1)), (a4, .inl (cI, 13, .inl K.2.2.2.2))]) (po := []) (As := [.int (nI j)]) (rest := []) ⟨hx, hb, hml, hown, hw⟩ (c_C_isThereN l dC dI cI cZ a0 a1 a2 a3 a4 K en (by omega) j (by omega) (by omega)) (gw_cV 1 hw mw_158 mw_159 mw_160 mw_3 mw_161 hd_C_isThere ⟨Nat.le_of_ble_eq_true rfl, Nat.le_of_ble_eq_true rfl⟩) (ci := 0) rfl rfl rfl hK hP hD hS hA rfl hl.1 rfl (Nat.le_of_ble_eq_true rfl) dn_C_stateOf_2 ⟨Nat.zero_le _, Nat.zero_le _⟩ (fun r2 u2 H locs hc2 hP hD hS => ?_)
  subst hc2
  have hP : va_P (dC, dI) vwCl [(a0, .inr (0, [.ref a1, .ref a2, .ref a3, .ref a4, .int (nI K.1), .int (nI en)])), (a1, .inl (cI, 13, .inl K.2.1)), (a2, .inl (cI, 13, .inl K.2.2.1)), (a3, .inl (cI, 13, .inl K.2.2.2.1)), (a4, .inl (cI, 13, .inl K.2.2.2.2))] H := hP
  have hD : va_D A [(a0, .inr (0, [.ref a1, .ref a2, .ref a3, .ref a4, .int (nI K.1), .int (nI en)])), (a1, .inl (cI, 13, .inl K.2.1)), (a2, .inl (cI, 13, .inl K.2.2.1)), (a3, .inl (cI, 13, .inl K.2.2.2.1)), (a4, .inl (cI, 13, .inl K.2.2.2.2))] := hD
  refine lv_if_eq (tgt := 17) hx hb dn_C_stateOf_5 (by decide) (fun h => absurd h (by decide)) (fun _ => ?_)
  refine lv_aload_n hx hb dn_C_stateOf_8 rfl (lv_at hl 0 rfl) ?_
  refine va_get (D := (dC, dI)) (ci := 0) (v := .ref a1) (C := rn_C) (T := tn_C) (N := 6) hx hb hw ml_C hown hK hP 0 rfl rfl 0 (by decide) (hw _ mw_37) (fun _ h9 => h9) rfl dn_C_stateOf_9 ?_
  refine lv_iload_n hx hb dn_C_stateOf_12 rfl (lv_at hl 1 rfl) ?_
  refine gr_iald hx hb hK hP 1 0 rfl rfl j rfl (by omega) (by decide) dn_C_stateOf_13 ?_
  refine lv_goto (tgt := 18) hx hb dn_C_stateOf_14 (by decide) ?_
  exact hret (K.2.1 j) () _ _ _ _ rfl rfl hP hD hS dn_C_stateOf_18

set_option maxRecDepth 100000 in
set_option maxHeartbeats 4000000 in
theorem c_C_dateOf (l : Launch) (dC : Nat → ClassId) (dI : Nat → Nat → Nat) (cI cZ : ClassId) (a0 a1 a2 a3 a4 : Nat) (K : ct_T) (en : Nat) (ho : K.1 ≤ 12) (id : Int32) : gc_I l yn_C_dateOf (gw yn_C_dateOf cn_C_dateOf 2 (some .int)) (rm_ 1 21) (dC, dI) vwCl (gT cI cZ) [.ref a0, .int id] [(a0, .inr (0, [.ref a1, .ref a2, .ref a3, .ref a4, .int (nI K.1), .int (nI en)])), (a1, .inl (cI, 13, .inl K.2.1)), (a2, .inl (cI, 13, .inl K.2.2.1)), (a3, .inl (cI, 13, .inl K.2.2.2.1)), (a4, .inl (cI, 13, .inl K.2.2.2.2))] (fun r (_ : Unit) => r = ct_so K K.2.2.1 id) (fun _ => [(a0, .inr (0, [.ref a1, .ref a2, .ref a3, .ref a4, .int (nI K.1), .int (nI en)])), (a1, .inl (cI, 13, .inl K.2.1)), (a2, .inl (cI, 13, .inl K.2.2.1)), (a3, .inl (cI, 13, .inl K.2.2.2.1)), (a4, .inl (cI, 13, .inl K.2.2.2.2))]) := by
  refine gc_I_of (cc := cn_C_dateOf) (maxL := 2) (ty := .int) (by decide) rfl (Nat.le_of_ble_eq_true rfl) ?_
  intro pp ee ss mm ar be me cd A Q ls H0 H locs hx hb hml hown hts hK hP hD hS hA hl hret
  have hw : ∀ w ∈ gw_T, w.before ar ss = true := fun w h => hts w (List.mem_cons_of_mem _ h)
  have hl : lv_has ls 2 [(0, .ref a0), (1, .int id)] := hl
  refine lv_aload_n hx hb dn_C_dateOf_0 rfl (lv_at hl 0 rfl) ?_
  refine lv_iload_n hx hb dn_C_dateOf_1 rfl (lv_at hl 1 rfl) ?_
  refine gc_vi (pre := []) (wc := [(a0, .inr (0, [.ref a1, .ref a2, .ref a3, .ref a4, .int (nI K.1), .int (nI en)])), (a1, .inl (cI, 13, .inl K.2.1)), (a2, .inl (cI, 13, .inl K.2.2.1)), (a3, .inl (cI, 13, .inl K.2.2.2.1)), (a4, .inl (cI, 13, .inl K.2.2.2.2))]) (po := []) (As := [.int id]) (rest := []) ⟨hx, hb, hml, hown, hw⟩ (c_C_isThere l dC dI cI cZ a0 a1 a2 a3 a4 K en (by omega) id) (gw_cV 1 hw mw_158 mw_159 mw_160 mw_3 mw_161 hd_C_isThere ⟨Nat.le_of_ble_eq_true rfl, Nat.le_of_ble_eq_true rfl⟩) (ci := 0) rfl rfl rfl hK hP hD hS hA rfl hl.1 rfl (Nat.le_of_ble_eq_true rfl) dn_C_dateOf_2 ⟨Nat.zero_le _, Nat.zero_le _⟩ (fun r2 u2 H locs hc2 hP hD hS => ?_)
  have hP : va_P (dC, dI) vwCl [(a0, .inr (0, [.ref a1, .ref a2, .ref a3, .ref a4, .int (nI K.1), .int (nI en)])), (a1, .inl (cI, 13, .inl K.2.1)), (a2, .inl (cI, 13, .inl K.2.2.1)), (a3, .inl (cI, 13, .inl K.2.2.2.1)), (a4, .inl (cI, 13, .inl K.2.2.2.2))] H := hP
  have hD : va_D A [(a0, .inr (0, [.ref a1, .ref a2, .ref a3, .ref a4, .int (nI K.1), .int (nI en)])), (a1, .inl (cI, 13, .inl K.2.1)), (a2, .inl (cI, 13, .inl K.2.2.1)), (a3, .inl (cI, 13, .inl K.2.2.2.1)), (a4, .inl (cI, 13, .inl K.2.2.2.2))] := hD
  rcases hc2 with ⟨rfl, j2, j2a, j2b, rfl⟩ | ⟨rfl, hno2⟩
  · skip
    refine lv_if_eq (tgt := 17) hx hb dn_C_dateOf_5 (by decide) (fun h => absurd h (by decide)) (fun _ => ?_)
    refine lv_aload_n hx hb dn_C_dateOf_8 rfl (lv_at hl 0 rfl) ?_
    refine va_get (D := (dC, dI)) (ci := 0) (v := .ref a2) (C := rn_C) (T := tn_C) (N := 6) hx hb hw ml_C hown hK hP 0 rfl rfl 1 (by decide) (hw _ mw_38) (fun _ h9 => h9) rfl dn_C_dateOf_9 ?_
    refine lv_iload_n hx hb dn_C_dateOf_12 rfl (lv_at hl 1 rfl) ?_
    refine gr_iald hx hb hK hP 2 0 rfl rfl j2 rfl (by omega) (by decide) dn_C_dateOf_13 ?_
    refine lv_goto (tgt := 18) hx hb dn_C_dateOf_14 (by decide) ?_
    exact hret (K.2.2.1 j2) () _ _ _ _ (ct_so_in j2a j2b ho).symm rfl hP hD hS dn_C_dateOf_18
  · skip
    refine lv_if_eq (tgt := 17) hx hb dn_C_dateOf_5 (by decide) (fun _ => ?_) (fun h => absurd h (by decide))
    refine lv_iconst (v := 0) hx hb dn_C_dateOf_17 (by decide) ?_
    exact hret 0 () _ _ _ _ (ct_so_out hno2).symm rfl hP hD hS dn_C_dateOf_18

set_option maxRecDepth 100000 in
set_option maxHeartbeats 4000000 in
theorem c_C_dateOfN (l : Launch) (dC : Nat → ClassId) (dI : Nat → Nat → Nat) (cI cZ : ClassId) (a0 a1 a2 a3 a4 : Nat) (K : ct_T) (en : Nat) (ho : K.1 ≤ 12) (j : Nat) (hj1 : 1 ≤ j) (hj2 : j ≤ K.1) : gc_I l yn_C_dateOf (gw yn_C_dateOf cn_C_dateOf 2 (some .int)) (rm_ 1 21) (dC, dI) vwCl (gT cI cZ) [.ref a0, .int (nI j)] [(a0, .inr (0, [.ref a1, .ref a2, .ref a3, .ref a4, .int (nI K.1), .int (nI en)])), (a1, .inl (cI, 13, .inl K.2.1)), (a2, .inl (cI, 13, .inl K.2.2.1)), (a3, .inl (cI, 13, .inl K.2.2.2.1)), (a4, .inl (cI, 13, .inl K.2.2.2.2))] (fun r (_ : Unit) => r = K.2.2.1 j) (fun _ => [(a0, .inr (0, [.ref a1, .ref a2, .ref a3, .ref a4, .int (nI K.1), .int (nI en)])), (a1, .inl (cI, 13, .inl K.2.1)), (a2, .inl (cI, 13, .inl K.2.2.1)), (a3, .inl (cI, 13, .inl K.2.2.2.1)), (a4, .inl (cI, 13, .inl K.2.2.2.2))]) := by
  refine gc_I_of (cc := cn_C_dateOf) (maxL := 2) (ty := .int) (by decide) rfl (Nat.le_of_ble_eq_true rfl) ?_
  intro pp ee ss mm ar be me cd A Q ls H0 H locs hx hb hml hown hts hK hP hD hS hA hl hret
  have hw : ∀ w ∈ gw_T, w.before ar ss = true := fun w h => hts w (List.mem_cons_of_mem _ h)
  have hl : lv_has ls 2 [(0, .ref a0), (1, .int (nI j))] := hl
  refine lv_aload_n hx hb dn_C_dateOf_0 rfl (lv_at hl 0 rfl) ?_
  refine lv_iload_n hx hb dn_C_dateOf_1 rfl (lv_at hl 1 rfl) ?_
  refine gc_vi (pre := []) (wc := [(a0, .inr (0, [.ref a1, .ref a2, .ref a3, .ref a4, .int (nI K.1), .int (nI en)])), (a1, .inl (cI, 13, .inl K.2.1)), (a2, .inl (cI, 13, .inl K.2.2.1)), (a3, .inl (cI, 13, .inl K.2.2.2.1)), (a4, .inl (cI, 13, .inl K.2.2.2.2))]) (po := []) (As := [.int (nI j)]) (rest := []) ⟨hx, hb, hml, hown, hw⟩ (c_C_isThereN l dC dI cI cZ a0 a1 a2 a3 a4 K en (by omega) j (by omega) (by omega)) (gw_cV 1 hw mw_158 mw_159 mw_160 mw_3 mw_161 hd_C_isThere ⟨Nat.le_of_ble_eq_true rfl, Nat.le_of_ble_eq_true rfl⟩) (ci := 0) rfl rfl rfl hK hP hD hS hA rfl hl.1 rfl (Nat.le_of_ble_eq_true rfl) dn_C_dateOf_2 ⟨Nat.zero_le _, Nat.zero_le _⟩ (fun r2 u2 H locs hc2 hP hD hS => ?_)
  subst hc2
  have hP : va_P (dC, dI) vwCl [(a0, .inr (0, [.ref a1, .ref a2, .ref a3, .ref a4, .int (nI K.1), .int (nI en)])), (a1, .inl (cI, 13, .inl K.2.1)), (a2, .inl (cI, 13, .inl K.2.2.1)), (a3, .inl (cI, 13, .inl K.2.2.2.1)), (a4, .inl (cI, 13, .inl K.2.2.2.2))] H := hP
  have hD : va_D A [(a0, .inr (0, [.ref a1, .ref a2, .ref a3, .ref a4, .int (nI K.1), .int (nI en)])), (a1, .inl (cI, 13, .inl K.2.1)), (a2, .inl (cI, 13, .inl K.2.2.1)), (a3, .inl (cI, 13, .inl K.2.2.2.1)), (a4, .inl (cI, 13, .inl K.2.2.2.2))] := hD
  refine lv_if_eq (tgt := 17) hx hb dn_C_dateOf_5 (by decide) (fun h => absurd h (by decide)) (fun _ => ?_)
  refine lv_aload_n hx hb dn_C_dateOf_8 rfl (lv_at hl 0 rfl) ?_
  refine va_get (D := (dC, dI)) (ci := 0) (v := .ref a2) (C := rn_C) (T := tn_C) (N := 6) hx hb hw ml_C hown hK hP 0 rfl rfl 1 (by decide) (hw _ mw_38) (fun _ h9 => h9) rfl dn_C_dateOf_9 ?_
  refine lv_iload_n hx hb dn_C_dateOf_12 rfl (lv_at hl 1 rfl) ?_
  refine gr_iald hx hb hK hP 2 0 rfl rfl j rfl (by omega) (by decide) dn_C_dateOf_13 ?_
  refine lv_goto (tgt := 18) hx hb dn_C_dateOf_14 (by decide) ?_
  exact hret (K.2.2.1 j) () _ _ _ _ rfl rfl hP hD hS dn_C_dateOf_18

set_option maxRecDepth 100000 in
set_option maxHeartbeats 4000000 in
theorem c_C_holdsOf (l : Launch) (dC : Nat → ClassId) (dI : Nat → Nat → Nat) (cI cZ : ClassId) (a0 a1 a2 a3 a4 : Nat) (K : ct_T) (en : Nat) (ho : K.1 ≤ 12) (id : Int32) : gc_I l yn_C_holdsOf (gw yn_C_holdsOf cn_C_holdsOf 2 (some .int)) (rm_ 1 21) (dC, dI) vwCl (gT cI cZ) [.ref a0, .int id] [(a0, .inr (0, [.ref a1, .ref a2, .ref a3, .ref a4, .int (nI K.1), .int (nI en)])), (a1, .inl (cI, 13, .inl K.2.1)), (a2, .inl (cI, 13, .inl K.2.2.1)), (a3, .inl (cI, 13, .inl K.2.2.2.1)), (a4, .inl (cI, 13, .inl K.2.2.2.2))] (fun r (_ : Unit) => r = ct_so K K.2.2.2.1 id) (fun _ => [(a0, .inr (0, [.ref a1, .ref a2, .ref a3, .ref a4, .int (nI K.1), .int (nI en)])), (a1, .inl (cI, 13, .inl K.2.1)), (a2, .inl (cI, 13, .inl K.2.2.1)), (a3, .inl (cI, 13, .inl K.2.2.2.1)), (a4, .inl (cI, 13, .inl K.2.2.2.2))]) := by
  refine gc_I_of (cc := cn_C_holdsOf) (maxL := 2) (ty := .int) (by decide) rfl (Nat.le_of_ble_eq_true rfl) ?_
  intro pp ee ss mm ar be me cd A Q ls H0 H locs hx hb hml hown hts hK hP hD hS hA hl hret
  have hw : ∀ w ∈ gw_T, w.before ar ss = true := fun w h => hts w (List.mem_cons_of_mem _ h)
  have hl : lv_has ls 2 [(0, .ref a0), (1, .int id)] := hl
  refine lv_aload_n hx hb dn_C_holdsOf_0 rfl (lv_at hl 0 rfl) ?_
  refine lv_iload_n hx hb dn_C_holdsOf_1 rfl (lv_at hl 1 rfl) ?_
  refine gc_vi (pre := []) (wc := [(a0, .inr (0, [.ref a1, .ref a2, .ref a3, .ref a4, .int (nI K.1), .int (nI en)])), (a1, .inl (cI, 13, .inl K.2.1)), (a2, .inl (cI, 13, .inl K.2.2.1)), (a3, .inl (cI, 13, .inl K.2.2.2.1)), (a4, .inl (cI, 13, .inl K.2.2.2.2))]) (po := []) (As := [.int id]) (rest := []) ⟨hx, hb, hml, hown, hw⟩ (c_C_isThere l dC dI cI cZ a0 a1 a2 a3 a4 K en (by omega) id) (gw_cV 1 hw mw_158 mw_159 mw_160 mw_3 mw_161 hd_C_isThere ⟨Nat.le_of_ble_eq_true rfl, Nat.le_of_ble_eq_true rfl⟩) (ci := 0) rfl rfl rfl hK hP hD hS hA rfl hl.1 rfl (Nat.le_of_ble_eq_true rfl) dn_C_holdsOf_2 ⟨Nat.zero_le _, Nat.zero_le _⟩ (fun r2 u2 H locs hc2 hP hD hS => ?_)
  have hP : va_P (dC, dI) vwCl [(a0, .inr (0, [.ref a1, .ref a2, .ref a3, .ref a4, .int (nI K.1), .int (nI en)])), (a1, .inl (cI, 13, .inl K.2.1)), (a2, .inl (cI, 13, .inl K.2.2.1)), (a3, .inl (cI, 13, .inl K.2.2.2.1)), (a4, .inl (cI, 13, .inl K.2.2.2.2))] H := hP
  have hD : va_D A [(a0, .inr (0, [.ref a1, .ref a2, .ref a3, .ref a4, .int (nI K.1), .int (nI en)])), (a1, .inl (cI, 13, .inl K.2.1)), (a2, .inl (cI, 13, .inl K.2.2.1)), (a3, .inl (cI, 13, .inl K.2.2.2.1)), (a4, .inl (cI, 13, .inl K.2.2.2.2))] := hD
  rcases hc2 with ⟨rfl, j2, j2a, j2b, rfl⟩ | ⟨rfl, hno2⟩
  · skip
    refine lv_if_eq (tgt := 17) hx hb dn_C_holdsOf_5 (by decide) (fun h => absurd h (by decide)) (fun _ => ?_)
    refine lv_aload_n hx hb dn_C_holdsOf_8 rfl (lv_at hl 0 rfl) ?_
    refine va_get (D := (dC, dI)) (ci := 0) (v := .ref a3) (C := rn_C) (T := tn_C) (N := 6) hx hb hw ml_C hown hK hP 0 rfl rfl 2 (by decide) (hw _ mw_39) (fun _ h9 => h9) rfl dn_C_holdsOf_9 ?_
    refine lv_iload_n hx hb dn_C_holdsOf_12 rfl (lv_at hl 1 rfl) ?_
    refine gr_iald hx hb hK hP 3 0 rfl rfl j2 rfl (by omega) (by decide) dn_C_holdsOf_13 ?_
    refine lv_goto (tgt := 18) hx hb dn_C_holdsOf_14 (by decide) ?_
    exact hret (K.2.2.2.1 j2) () _ _ _ _ (ct_so_in j2a j2b ho).symm rfl hP hD hS dn_C_holdsOf_18
  · skip
    refine lv_if_eq (tgt := 17) hx hb dn_C_holdsOf_5 (by decide) (fun _ => ?_) (fun h => absurd h (by decide))
    refine lv_iconst (v := 0) hx hb dn_C_holdsOf_17 (by decide) ?_
    exact hret 0 () _ _ _ _ (ct_so_out hno2).symm rfl hP hD hS dn_C_holdsOf_18

set_option maxRecDepth 100000 in
set_option maxHeartbeats 4000000 in
theorem c_C_holdsOfN (l : Launch) (dC : Nat → ClassId) (dI : Nat → Nat → Nat) (cI cZ : ClassId) (a0 a1 a2 a3 a4 : Nat) (K : ct_T) (en : Nat) (ho : K.1 ≤ 12) (j : Nat) (hj1 : 1 ≤ j) (hj2 : j ≤ K.1) : gc_I l yn_C_holdsOf (gw yn_C_holdsOf cn_C_holdsOf 2 (some .int)) (rm_ 1 21) (dC, dI) vwCl (gT cI cZ) [.ref a0, .int (nI j)] [(a0, .inr (0, [.ref a1, .ref a2, .ref a3, .ref a4, .int (nI K.1), .int (nI en)])), (a1, .inl (cI, 13, .inl K.2.1)), (a2, .inl (cI, 13, .inl K.2.2.1)), (a3, .inl (cI, 13, .inl K.2.2.2.1)), (a4, .inl (cI, 13, .inl K.2.2.2.2))] (fun r (_ : Unit) => r = K.2.2.2.1 j) (fun _ => [(a0, .inr (0, [.ref a1, .ref a2, .ref a3, .ref a4, .int (nI K.1), .int (nI en)])), (a1, .inl (cI, 13, .inl K.2.1)), (a2, .inl (cI, 13, .inl K.2.2.1)), (a3, .inl (cI, 13, .inl K.2.2.2.1)), (a4, .inl (cI, 13, .inl K.2.2.2.2))]) := by
  refine gc_I_of (cc := cn_C_holdsOf) (maxL := 2) (ty := .int) (by decide) rfl (Nat.le_of_ble_eq_true rfl) ?_
  intro pp ee ss mm ar be me cd A Q ls H0 H locs hx hb hml hown hts hK hP hD hS hA hl hret
  have hw : ∀ w ∈ gw_T, w.before ar ss = true := fun w h => hts w (List.mem_cons_of_mem _ h)
  have hl : lv_has ls 2 [(0, .ref a0), (1, .int (nI j))] := hl
  refine lv_aload_n hx hb dn_C_holdsOf_0 rfl (lv_at hl 0 rfl) ?_
  refine lv_iload_n hx hb dn_C_holdsOf_1 rfl (lv_at hl 1 rfl) ?_
  refine gc_vi (pre := []) (wc := [(a0, .inr (0, [.ref a1, .ref a2, .ref a3, .ref a4, .int (nI K.1), .int (nI en)])), (a1, .inl (cI, 13, .inl K.2.1)), (a2, .inl (cI, 13, .inl K.2.2.1)), (a3, .inl (cI, 13, .inl K.2.2.2.1)), (a4, .inl (cI, 13, .inl K.2.2.2.2))]) (po := []) (As := [.int (nI j)]) (rest := []) ⟨hx, hb, hml, hown, hw⟩ (c_C_isThereN l dC dI cI cZ a0 a1 a2 a3 a4 K en (by omega) j (by omega) (by omega)) (gw_cV 1 hw mw_158 mw_159 mw_160 mw_3 mw_161 hd_C_isThere ⟨Nat.le_of_ble_eq_true rfl, Nat.le_of_ble_eq_true rfl⟩) (ci := 0) rfl rfl rfl hK hP hD hS hA rfl hl.1 rfl (Nat.le_of_ble_eq_true rfl) dn_C_holdsOf_2 ⟨Nat.zero_le _, Nat.zero_le _⟩ (fun r2 u2 H locs hc2 hP hD hS => ?_)
  subst hc2
  have hP : va_P (dC, dI) vwCl [(a0, .inr (0, [.ref a1, .ref a2, .ref a3, .ref a4, .int (nI K.1), .int (nI en)])), (a1, .inl (cI, 13, .inl K.2.1)), (a2, .inl (cI, 13, .inl K.2.2.1)), (a3, .inl (cI, 13, .inl K.2.2.2.1)), (a4, .inl (cI, 13, .inl K.2.2.2.2))] H := hP
  have hD : va_D A [(a0, .inr (0, [.ref a1, .ref a2, .ref a3, .ref a4, .int (nI K.1), .int (nI en)])), (a1, .inl (cI, 13, .inl K.2.1)), (a2, .inl (cI, 13, .inl K.2.2.1)), (a3, .inl (cI, 13, .inl K.2.2.2.1)), (a4, .inl (cI, 13, .inl K.2.2.2.2))] := hD
  refine lv_if_eq (tgt := 17) hx hb dn_C_holdsOf_5 (by decide) (fun h => absurd h (by decide)) (fun _ => ?_)
  refine lv_aload_n hx hb dn_C_holdsOf_8 rfl (lv_at hl 0 rfl) ?_
  refine va_get (D := (dC, dI)) (ci := 0) (v := .ref a3) (C := rn_C) (T := tn_C) (N := 6) hx hb hw ml_C hown hK hP 0 rfl rfl 2 (by decide) (hw _ mw_39) (fun _ h9 => h9) rfl dn_C_holdsOf_9 ?_
  refine lv_iload_n hx hb dn_C_holdsOf_12 rfl (lv_at hl 1 rfl) ?_
  refine gr_iald hx hb hK hP 3 0 rfl rfl j rfl (by omega) (by decide) dn_C_holdsOf_13 ?_
  refine lv_goto (tgt := 18) hx hb dn_C_holdsOf_14 (by decide) ?_
  exact hret (K.2.2.2.1 j) () _ _ _ _ rfl rfl hP hD hS dn_C_holdsOf_18

set_option maxRecDepth 100000 in
set_option maxHeartbeats 4000000 in
theorem c_C_putRecordOf (l : Launch) (dC : Nat → ClassId) (dI : Nat → Nat → Nat) (cI cZ : ClassId) (a0 a1 a2 a3 a4 : Nat) (K : ct_T) (en : Nat) (ho : K.1 ≤ 12) (id : Int32) : gc_I l yn_C_putRecordOf (gw yn_C_putRecordOf cn_C_putRecordOf 2 (some .int)) (rm_ 1 21) (dC, dI) vwCl (gT cI cZ) [.ref a0, .int id] [(a0, .inr (0, [.ref a1, .ref a2, .ref a3, .ref a4, .int (nI K.1), .int (nI en)])), (a1, .inl (cI, 13, .inl K.2.1)), (a2, .inl (cI, 13, .inl K.2.2.1)), (a3, .inl (cI, 13, .inl K.2.2.2.1)), (a4, .inl (cI, 13, .inl K.2.2.2.2))] (fun r (_ : Unit) => r = ct_so K K.2.2.2.2 id) (fun _ => [(a0, .inr (0, [.ref a1, .ref a2, .ref a3, .ref a4, .int (nI K.1), .int (nI en)])), (a1, .inl (cI, 13, .inl K.2.1)), (a2, .inl (cI, 13, .inl K.2.2.1)), (a3, .inl (cI, 13, .inl K.2.2.2.1)), (a4, .inl (cI, 13, .inl K.2.2.2.2))]) := by
  refine gc_I_of (cc := cn_C_putRecordOf) (maxL := 2) (ty := .int) (by decide) rfl (Nat.le_of_ble_eq_true rfl) ?_
  intro pp ee ss mm ar be me cd A Q ls H0 H locs hx hb hml hown hts hK hP hD hS hA hl hret
  have hw : ∀ w ∈ gw_T, w.before ar ss = true := fun w h => hts w (List.mem_cons_of_mem _ h)
  have hl : lv_has ls 2 [(0, .ref a0), (1, .int id)] := hl
  refine lv_aload_n hx hb dn_C_putRecordOf_0 rfl (lv_at hl 0 rfl) ?_
  refine lv_iload_n hx hb dn_C_putRecordOf_1 rfl (lv_at hl 1 rfl) ?_
  refine gc_vi (pre := []) (wc := [(a0, .inr (0, [.ref a1, .ref a2, .ref a3, .ref a4, .int (nI K.1), .int (nI en)])), (a1, .inl (cI, 13, .inl K.2.1)), (a2, .inl (cI, 13, .inl K.2.2.1)), (a3, .inl (cI, 13, .inl K.2.2.2.1)), (a4, .inl (cI, 13, .inl K.2.2.2.2))]) (po := []) (As := [.int id]) (rest := []) ⟨hx, hb, hml, hown, hw⟩ (c_C_isThere l dC dI cI cZ a0 a1 a2 a3 a4 K en (by omega) id) (gw_cV 1 hw mw_158 mw_159 mw_160 mw_3 mw_161 hd_C_isThere ⟨Nat.le_of_ble_eq_true rfl, Nat.le_of_ble_eq_true rfl⟩) (ci := 0) rfl rfl rfl hK hP hD hS hA rfl hl.1 rfl (Nat.le_of_ble_eq_true rfl) dn_C_putRecordOf_2 ⟨Nat.zero_le _, Nat.zero_le _⟩ (fun r2 u2 H locs hc2 hP hD hS => ?_)
  have hP : va_P (dC, dI) vwCl [(a0, .inr (0, [.ref a1, .ref a2, .ref a3, .ref a4, .int (nI K.1), .int (nI en)])), (a1, .inl (cI, 13, .inl K.2.1)), (a2, .inl (cI, 13, .inl K.2.2.1)), (a3, .inl (cI, 13, .inl K.2.2.2.1)), (a4, .inl (cI, 13, .inl K.2.2.2.2))] H := hP
  have hD : va_D A [(a0, .inr (0, [.ref a1, .ref a2, .ref a3, .ref a4, .int (nI K.1), .int (nI en)])), (a1, .inl (cI, 13, .inl K.2.1)), (a2, .inl (cI, 13, .inl K.2.2.1)), (a3, .inl (cI, 13, .inl K.2.2.2.1)), (a4, .inl (cI, 13, .inl K.2.2.2.2))] := hD
  rcases hc2 with ⟨rfl, j2, j2a, j2b, rfl⟩ | ⟨rfl, hno2⟩
  · skip
    refine lv_if_eq (tgt := 17) hx hb dn_C_putRecordOf_5 (by decide) (fun h => absurd h (by decide)) (fun _ => ?_)
    refine lv_aload_n hx hb dn_C_putRecordOf_8 rfl (lv_at hl 0 rfl) ?_
    refine va_get (D := (dC, dI)) (ci := 0) (v := .ref a4) (C := rn_C) (T := tn_C) (N := 6) hx hb hw ml_C hown hK hP 0 rfl rfl 3 (by decide) (hw _ mw_40) (fun _ h9 => h9) rfl dn_C_putRecordOf_9 ?_
    refine lv_iload_n hx hb dn_C_putRecordOf_12 rfl (lv_at hl 1 rfl) ?_
    refine gr_iald hx hb hK hP 4 0 rfl rfl j2 rfl (by omega) (by decide) dn_C_putRecordOf_13 ?_
    refine lv_goto (tgt := 18) hx hb dn_C_putRecordOf_14 (by decide) ?_
    exact hret (K.2.2.2.2 j2) () _ _ _ _ (ct_so_in j2a j2b ho).symm rfl hP hD hS dn_C_putRecordOf_18
  · skip
    refine lv_if_eq (tgt := 17) hx hb dn_C_putRecordOf_5 (by decide) (fun _ => ?_) (fun h => absurd h (by decide))
    refine lv_iconst (v := 0) hx hb dn_C_putRecordOf_17 (by decide) ?_
    exact hret 0 () _ _ _ _ (ct_so_out hno2).symm rfl hP hD hS dn_C_putRecordOf_18

set_option maxRecDepth 100000 in
set_option maxHeartbeats 4000000 in
theorem c_C_putRecordOfN (l : Launch) (dC : Nat → ClassId) (dI : Nat → Nat → Nat) (cI cZ : ClassId) (a0 a1 a2 a3 a4 : Nat) (K : ct_T) (en : Nat) (ho : K.1 ≤ 12) (j : Nat) (hj1 : 1 ≤ j) (hj2 : j ≤ K.1) : gc_I l yn_C_putRecordOf (gw yn_C_putRecordOf cn_C_putRecordOf 2 (some .int)) (rm_ 1 21) (dC, dI) vwCl (gT cI cZ) [.ref a0, .int (nI j)] [(a0, .inr (0, [.ref a1, .ref a2, .ref a3, .ref a4, .int (nI K.1), .int (nI en)])), (a1, .inl (cI, 13, .inl K.2.1)), (a2, .inl (cI, 13, .inl K.2.2.1)), (a3, .inl (cI, 13, .inl K.2.2.2.1)), (a4, .inl (cI, 13, .inl K.2.2.2.2))] (fun r (_ : Unit) => r = K.2.2.2.2 j) (fun _ => [(a0, .inr (0, [.ref a1, .ref a2, .ref a3, .ref a4, .int (nI K.1), .int (nI en)])), (a1, .inl (cI, 13, .inl K.2.1)), (a2, .inl (cI, 13, .inl K.2.2.1)), (a3, .inl (cI, 13, .inl K.2.2.2.1)), (a4, .inl (cI, 13, .inl K.2.2.2.2))]) := by
  refine gc_I_of (cc := cn_C_putRecordOf) (maxL := 2) (ty := .int) (by decide) rfl (Nat.le_of_ble_eq_true rfl) ?_
  intro pp ee ss mm ar be me cd A Q ls H0 H locs hx hb hml hown hts hK hP hD hS hA hl hret
  have hw : ∀ w ∈ gw_T, w.before ar ss = true := fun w h => hts w (List.mem_cons_of_mem _ h)
  have hl : lv_has ls 2 [(0, .ref a0), (1, .int (nI j))] := hl
  refine lv_aload_n hx hb dn_C_putRecordOf_0 rfl (lv_at hl 0 rfl) ?_
  refine lv_iload_n hx hb dn_C_putRecordOf_1 rfl (lv_at hl 1 rfl) ?_
  refine gc_vi (pre := []) (wc := [(a0, .inr (0, [.ref a1, .ref a2, .ref a3, .ref a4, .int (nI K.1), .int (nI en)])), (a1, .inl (cI, 13, .inl K.2.1)), (a2, .inl (cI, 13, .inl K.2.2.1)), (a3, .inl (cI, 13, .inl K.2.2.2.1)), (a4, .inl (cI, 13, .inl K.2.2.2.2))]) (po := []) (As := [.int (nI j)]) (rest := []) ⟨hx, hb, hml, hown, hw⟩ (c_C_isThereN l dC dI cI cZ a0 a1 a2 a3 a4 K en (by omega) j (by omega) (by omega)) (gw_cV 1 hw mw_158 mw_159 mw_160 mw_3 mw_161 hd_C_isThere ⟨Nat.le_of_ble_eq_true rfl, Nat.le_of_ble_eq_true rfl⟩) (ci := 0) rfl rfl rfl hK hP hD hS hA rfl hl.1 rfl (Nat.le_of_ble_eq_true rfl) dn_C_putRecordOf_2 ⟨Nat.zero_le _, Nat.zero_le _⟩ (fun r2 u2 H locs hc2 hP hD hS => ?_)
  subst hc2
  have hP : va_P (dC, dI) vwCl [(a0, .inr (0, [.ref a1, .ref a2, .ref a3, .ref a4, .int (nI K.1), .int (nI en)])), (a1, .inl (cI, 13, .inl K.2.1)), (a2, .inl (cI, 13, .inl K.2.2.1)), (a3, .inl (cI, 13, .inl K.2.2.2.1)), (a4, .inl (cI, 13, .inl K.2.2.2.2))] H := hP
  have hD : va_D A [(a0, .inr (0, [.ref a1, .ref a2, .ref a3, .ref a4, .int (nI K.1), .int (nI en)])), (a1, .inl (cI, 13, .inl K.2.1)), (a2, .inl (cI, 13, .inl K.2.2.1)), (a3, .inl (cI, 13, .inl K.2.2.2.1)), (a4, .inl (cI, 13, .inl K.2.2.2.2))] := hD
  refine lv_if_eq (tgt := 17) hx hb dn_C_putRecordOf_5 (by decide) (fun h => absurd h (by decide)) (fun _ => ?_)
  refine lv_aload_n hx hb dn_C_putRecordOf_8 rfl (lv_at hl 0 rfl) ?_
  refine va_get (D := (dC, dI)) (ci := 0) (v := .ref a4) (C := rn_C) (T := tn_C) (N := 6) hx hb hw ml_C hown hK hP 0 rfl rfl 3 (by decide) (hw _ mw_40) (fun _ h9 => h9) rfl dn_C_putRecordOf_9 ?_
  refine lv_iload_n hx hb dn_C_putRecordOf_12 rfl (lv_at hl 1 rfl) ?_
  refine gr_iald hx hb hK hP 4 0 rfl rfl j rfl (by omega) (by decide) dn_C_putRecordOf_13 ?_
  refine lv_goto (tgt := 18) hx hb dn_C_putRecordOf_14 (by decide) ?_
  exact hret (K.2.2.2.2 j) () _ _ _ _ rfl rfl hP hD hS dn_C_putRecordOf_18

set_option maxRecDepth 100000 in
set_option maxHeartbeats 4000000 in
theorem c_C_isLive (l : Launch) (dC : Nat → ClassId) (dI : Nat → Nat → Nat) (cI cZ : ClassId) (a0 a1 a2 a3 a4 : Nat) (K : ct_T) (en : Nat) (ho : K.1 ≤ 12) (id : Int32) : gc_I l yn_C_isLive (gw yn_C_isLive cn_C_isLive 2 (some .boolean)) (rm_ 2 42) (dC, dI) vwCl (gT cI cZ) [.ref a0, .int id] [(a0, .inr (0, [.ref a1, .ref a2, .ref a3, .ref a4, .int (nI K.1), .int (nI en)])), (a1, .inl (cI, 13, .inl K.2.1)), (a2, .inl (cI, 13, .inl K.2.2.1)), (a3, .inl (cI, 13, .inl K.2.2.2.1)), (a4, .inl (cI, 13, .inl K.2.2.2.2))] (fun r (_ : Unit) => (r = 1 ∧ ct_so K K.2.1 id = 1) ∨ (r = 0 ∧ ¬ ct_so K K.2.1 id = 1)) (fun _ => [(a0, .inr (0, [.ref a1, .ref a2, .ref a3, .ref a4, .int (nI K.1), .int (nI en)])), (a1, .inl (cI, 13, .inl K.2.1)), (a2, .inl (cI, 13, .inl K.2.2.1)), (a3, .inl (cI, 13, .inl K.2.2.2.1)), (a4, .inl (cI, 13, .inl K.2.2.2.2))]) := by
  refine gc_I_of (cc := cn_C_isLive) (maxL := 2) (ty := .boolean) (by decide) rfl (Nat.le_of_ble_eq_true rfl) ?_
  intro pp ee ss mm ar be me cd A Q ls H0 H locs hx hb hml hown hts hK hP hD hS hA hl hret
  have hw : ∀ w ∈ gw_T, w.before ar ss = true := fun w h => hts w (List.mem_cons_of_mem _ h)
  have hl : lv_has ls 2 [(0, .ref a0), (1, .int id)] := hl
  refine lv_aload_n hx hb dn_C_isLive_0 rfl (lv_at hl 0 rfl) ?_
  refine lv_iload_n hx hb dn_C_isLive_1 rfl (lv_at hl 1 rfl) ?_
  refine gc_vi (pre := []) (wc := [(a0, .inr (0, [.ref a1, .ref a2, .ref a3, .ref a4, .int (nI K.1), .int (nI en)])), (a1, .inl (cI, 13, .inl K.2.1)), (a2, .inl (cI, 13, .inl K.2.2.1)), (a3, .inl (cI, 13, .inl K.2.2.2.1)), (a4, .inl (cI, 13, .inl K.2.2.2.2))]) (po := []) (As := [.int id]) (rest := []) ⟨hx, hb, hml, hown, hw⟩ (c_C_stateOf l dC dI cI cZ a0 a1 a2 a3 a4 K en (by omega) id) (gw_cV 1 hw mw_166 mw_167 mw_168 mw_3 mw_169 hd_C_stateOf ⟨Nat.le_of_ble_eq_true rfl, Nat.le_of_ble_eq_true rfl⟩) (ci := 0) rfl rfl rfl hK hP hD hS hA rfl hl.1 rfl (Nat.le_of_ble_eq_true rfl) dn_C_isLive_2 ⟨Nat.zero_le _, Nat.zero_le _⟩ (fun r2 u2 H locs hc2 hP hD hS => ?_)
  subst hc2
  have hP : va_P (dC, dI) vwCl [(a0, .inr (0, [.ref a1, .ref a2, .ref a3, .ref a4, .int (nI K.1), .int (nI en)])), (a1, .inl (cI, 13, .inl K.2.1)), (a2, .inl (cI, 13, .inl K.2.2.1)), (a3, .inl (cI, 13, .inl K.2.2.2.1)), (a4, .inl (cI, 13, .inl K.2.2.2.2))] H := hP
  have hD : va_D A [(a0, .inr (0, [.ref a1, .ref a2, .ref a3, .ref a4, .int (nI K.1), .int (nI en)])), (a1, .inl (cI, 13, .inl K.2.1)), (a2, .inl (cI, 13, .inl K.2.2.1)), (a3, .inl (cI, 13, .inl K.2.2.2.1)), (a4, .inl (cI, 13, .inl K.2.2.2.2))] := hD
  refine lv_iconst (v := 1) hx hb dn_C_isLive_5 (by decide) ?_
  refine lv_icmp_ne (tgt := 13) hx hb dn_C_isLive_6 (by decide) (fun h6 => ?_) (fun h6 => ?_)
  · skip
    refine lv_iconst (v := 0) hx hb dn_C_isLive_13 (by decide) ?_
    exact hret 0 () _ _ _ _ (Or.inr ⟨rfl, h6⟩) rfl hP hD hS dn_C_isLive_14
  · skip
    refine lv_iconst (v := 1) hx hb dn_C_isLive_9 (by decide) ?_
    refine lv_goto (tgt := 14) hx hb dn_C_isLive_10 (by decide) ?_
    exact hret 1 () _ _ _ _ (Or.inl ⟨rfl, h6⟩) rfl hP hD hS dn_C_isLive_14

set_option maxRecDepth 100000 in
set_option maxHeartbeats 4000000 in
theorem c_C_mayKeepKey (l : Launch) (dC : Nat → ClassId) (dI : Nat → Nat → Nat) (cI cZ : ClassId) (a0 a1 a2 a3 a4 : Nat) (K : ct_T) (en : Nat) (ho : K.1 ≤ 12) (j : Nat) (hj1 : 1 ≤ j) (hj : j ≤ 12) : gc_I l yn_C_mayKeepKey (gw yn_C_mayKeepKey cn_C_mayKeepKey 2 (some .boolean)) (rm_ 2 42) (dC, dI) vwCl (gT cI cZ) [.ref a0, .int (nI j)] [(a0, .inr (0, [.ref a1, .ref a2, .ref a3, .ref a4, .int (nI K.1), .int (nI en)])), (a1, .inl (cI, 13, .inl K.2.1)), (a2, .inl (cI, 13, .inl K.2.2.1)), (a3, .inl (cI, 13, .inl K.2.2.2.1)), (a4, .inl (cI, 13, .inl K.2.2.2.2))] (fun r (_ : Unit) => (r = 1 ∧ ¬ (K.1 < j ∨ K.2.1 j = 3)) ∨ (r = 0 ∧ (K.1 < j ∨ K.2.1 j = 3))) (fun _ => [(a0, .inr (0, [.ref a1, .ref a2, .ref a3, .ref a4, .int (nI K.1), .int (nI en)])), (a1, .inl (cI, 13, .inl K.2.1)), (a2, .inl (cI, 13, .inl K.2.2.1)), (a3, .inl (cI, 13, .inl K.2.2.2.1)), (a4, .inl (cI, 13, .inl K.2.2.2.2))]) := by
  refine gc_I_of (cc := cn_C_mayKeepKey) (maxL := 2) (ty := .boolean) (by decide) rfl (Nat.le_of_ble_eq_true rfl) ?_
  intro pp ee ss mm ar be me cd A Q ls H0 H locs hx hb hml hown hts hK hP hD hS hA hl hret
  have hw : ∀ w ∈ gw_T, w.before ar ss = true := fun w h => hts w (List.mem_cons_of_mem _ h)
  have hl : lv_has ls 2 [(0, .ref a0), (1, .int (nI j))] := hl
  refine lv_aload_n hx hb dn_C_mayKeepKey_0 rfl (lv_at hl 0 rfl) ?_
  refine lv_iload_n hx hb dn_C_mayKeepKey_1 rfl (lv_at hl 1 rfl) ?_
  refine gc_vi (pre := []) (wc := [(a0, .inr (0, [.ref a1, .ref a2, .ref a3, .ref a4, .int (nI K.1), .int (nI en)])), (a1, .inl (cI, 13, .inl K.2.1)), (a2, .inl (cI, 13, .inl K.2.2.1)), (a3, .inl (cI, 13, .inl K.2.2.2.1)), (a4, .inl (cI, 13, .inl K.2.2.2.2))]) (po := []) (As := [.int (nI j)]) (rest := []) ⟨hx, hb, hml, hown, hw⟩ (c_C_isThereK l dC dI cI cZ a0 a1 a2 a3 a4 K en (by omega) j (by omega) (by omega)) (gw_cV 1 hw mw_158 mw_159 mw_160 mw_3 mw_161 hd_C_isThere ⟨Nat.le_of_ble_eq_true rfl, Nat.le_of_ble_eq_true rfl⟩) (ci := 0) rfl rfl rfl hK hP hD hS hA rfl hl.1 rfl (Nat.le_of_ble_eq_true rfl) dn_C_mayKeepKey_2 ⟨Nat.zero_le _, Nat.zero_le _⟩ (fun r2 u2 H locs hc2 hP hD hS => ?_)
  have hP : va_P (dC, dI) vwCl [(a0, .inr (0, [.ref a1, .ref a2, .ref a3, .ref a4, .int (nI K.1), .int (nI en)])), (a1, .inl (cI, 13, .inl K.2.1)), (a2, .inl (cI, 13, .inl K.2.2.1)), (a3, .inl (cI, 13, .inl K.2.2.2.1)), (a4, .inl (cI, 13, .inl K.2.2.2.2))] H := hP
  have hD : va_D A [(a0, .inr (0, [.ref a1, .ref a2, .ref a3, .ref a4, .int (nI K.1), .int (nI en)])), (a1, .inl (cI, 13, .inl K.2.1)), (a2, .inl (cI, 13, .inl K.2.2.1)), (a3, .inl (cI, 13, .inl K.2.2.2.1)), (a4, .inl (cI, 13, .inl K.2.2.2.2))] := hD
  rcases hc2 with ⟨rfl, hj2⟩ | ⟨rfl, hj2⟩
  · skip
    refine lv_if_eq (tgt := 21) hx hb dn_C_mayKeepKey_5 (by decide) (fun h => absurd h (by decide)) (fun _ => ?_)
    refine lv_aload_n hx hb dn_C_mayKeepKey_8 rfl (lv_at hl 0 rfl) ?_
    refine lv_iload_n hx hb dn_C_mayKeepKey_9 rfl (lv_at hl 1 rfl) ?_
    refine gc_vi (pre := []) (wc := [(a0, .inr (0, [.ref a1, .ref a2, .ref a3, .ref a4, .int (nI K.1), .int (nI en)])), (a1, .inl (cI, 13, .inl K.2.1)), (a2, .inl (cI, 13, .inl K.2.2.1)), (a3, .inl (cI, 13, .inl K.2.2.2.1)), (a4, .inl (cI, 13, .inl K.2.2.2.2))]) (po := []) (As := [.int (nI j)]) (rest := []) ⟨hx, hb, hml, hown, hw⟩ (c_C_stateOfN l dC dI cI cZ a0 a1 a2 a3 a4 K en (by omega) j (by omega) (by omega)) (gw_cV 1 hw mw_166 mw_167 mw_168 mw_3 mw_169 hd_C_stateOf ⟨Nat.le_of_ble_eq_true rfl, Nat.le_of_ble_eq_true rfl⟩) (ci := 0) rfl rfl rfl hK hP hD hS hA rfl hl.1 rfl (Nat.le_of_ble_eq_true rfl) dn_C_mayKeepKey_10 ⟨Nat.zero_le _, Nat.zero_le _⟩ (fun r10 u10 H locs hc10 hP hD hS => ?_)
    subst hc10
    have hP : va_P (dC, dI) vwCl [(a0, .inr (0, [.ref a1, .ref a2, .ref a3, .ref a4, .int (nI K.1), .int (nI en)])), (a1, .inl (cI, 13, .inl K.2.1)), (a2, .inl (cI, 13, .inl K.2.2.1)), (a3, .inl (cI, 13, .inl K.2.2.2.1)), (a4, .inl (cI, 13, .inl K.2.2.2.2))] H := hP
    have hD : va_D A [(a0, .inr (0, [.ref a1, .ref a2, .ref a3, .ref a4, .int (nI K.1), .int (nI en)])), (a1, .inl (cI, 13, .inl K.2.1)), (a2, .inl (cI, 13, .inl K.2.2.1)), (a3, .inl (cI, 13, .inl K.2.2.2.1)), (a4, .inl (cI, 13, .inl K.2.2.2.2))] := hD
    refine lv_iconst (v := 3) hx hb dn_C_mayKeepKey_13 (by decide) ?_
    refine lv_icmp_eq (tgt := 21) hx hb dn_C_mayKeepKey_14 (by decide) (fun h14 => ?_) (fun h14 => ?_)
    · skip
      refine lv_iconst (v := 0) hx hb dn_C_mayKeepKey_21 (by decide) ?_
      exact hret 0 () _ _ _ _ (Or.inr ⟨rfl, by first | exact Or.inl hj2 | exact Or.inr h14⟩) rfl hP hD hS dn_C_mayKeepKey_22
    · skip
      refine lv_iconst (v := 1) hx hb dn_C_mayKeepKey_17 (by decide) ?_
      refine lv_goto (tgt := 22) hx hb dn_C_mayKeepKey_18 (by decide) ?_
      exact hret 1 () _ _ _ _ (Or.inl ⟨rfl, fun q => q.elim (fun q => absurd q (by omega)) h14⟩) rfl hP hD hS dn_C_mayKeepKey_22
  · skip
    refine lv_if_eq (tgt := 21) hx hb dn_C_mayKeepKey_5 (by decide) (fun _ => ?_) (fun h => absurd h (by decide))
    refine lv_iconst (v := 0) hx hb dn_C_mayKeepKey_21 (by decide) ?_
    exact hret 0 () _ _ _ _ (Or.inr ⟨rfl, by first | exact Or.inl hj2 | exact Or.inr h14⟩) rfl hP hD hS dn_C_mayKeepKey_22

set_option maxRecDepth 100000 in
set_option maxHeartbeats 4000000 in
theorem c_C_isDate (l : Launch) (dC : Nat → ClassId) (dI : Nat → Nat → Nat) (cI cZ : ClassId) (v : Int32) : gc_I l yn_C_isDate (gw yn_C_isDate cn_C_isDate 1 (some .boolean)) (rm_ 0 0) (dC, dI) vwCl (gT cI cZ) [.int v] [] (fun r (_ : Unit) => (r = 1 ∧ ¬ (v < 0 ∨ 1000000 < v)) ∨ (r = 0 ∧ (v < 0 ∨ 1000000 < v))) (fun _ => []) := by
  refine gc_I_of (cc := cn_C_isDate) (maxL := 1) (ty := .boolean) (by decide) rfl (Nat.le_of_ble_eq_true rfl) ?_
  intro pp ee ss mm ar be me cd A Q ls H0 H locs hx hb hml hown hts hK hP hD hS hA hl hret
  have hw : ∀ w ∈ gw_T, w.before ar ss = true := fun w h => hts w (List.mem_cons_of_mem _ h)
  have hl : lv_has ls 1 [(0, .int v)] := hl
  refine lv_iconst (v := 0) hx hb dn_C_isDate_0 (by decide) ?_
  refine lv_iload_n hx hb dn_C_isDate_1 rfl (lv_at hl 0 rfl) ?_
  refine lv_icmp_gt (tgt := 15) hx hb dn_C_isDate_2 (by decide) (fun h2 => ?_) (fun h2 => ?_)
  · skip
    refine lv_iconst (v := 0) hx hb dn_C_isDate_15 (by decide) ?_
    exact hret 0 () _ _ _ _ (Or.inr ⟨rfl, by first | exact Or.inl h2 | exact Or.inr h8⟩) rfl hP hD hS dn_C_isDate_16
  · skip
    refine lv_iload_n hx hb dn_C_isDate_5 rfl (lv_at hl 0 rfl) ?_
    refine lv_ldc (v := 1000000) hx hb hown (hw _ mw_153) dn_C_isDate_6 ?_
    refine lv_icmp_gt (tgt := 15) hx hb dn_C_isDate_8 (by decide) (fun h8 => ?_) (fun h8 => ?_)
    · skip
      refine lv_iconst (v := 0) hx hb dn_C_isDate_15 (by decide) ?_
      exact hret 0 () _ _ _ _ (Or.inr ⟨rfl, by first | exact Or.inl h2 | exact Or.inr h8⟩) rfl hP hD hS dn_C_isDate_16
    · skip
      refine lv_iconst (v := 1) hx hb dn_C_isDate_11 (by decide) ?_
      refine lv_goto (tgt := 16) hx hb dn_C_isDate_12 (by decide) ?_
      exact hret 1 () _ _ _ _ (Or.inl ⟨rfl, fun q => q.elim h2 h8⟩) rfl hP hD hS dn_C_isDate_16

set_option maxRecDepth 100000 in
set_option maxHeartbeats 4000000 in
theorem c_C_putVerdict (l : Launch) (dC : Nat → ClassId) (dI : Nat → Nat → Nat) (cI cZ : ClassId) (a0 a1 a2 a3 a4 : Nat) (K : ct_T) (en : Nat) (ho : K.1 ≤ 12) (id v t : Int32) : gc_I l yn_C_putVerdict (gw yn_C_putVerdict cn_C_putVerdict 3 (some .int)) (rm_ 1 20) (dC, dI) vwCl (gT cI cZ) [.ref a0, .int v, .int t] [(a0, .inr (0, [.ref a1, .ref a2, .ref a3, .ref a4, .int (nI K.1), .int (nI en)])), (a1, .inl (cI, 13, .inl K.2.1)), (a2, .inl (cI, 13, .inl K.2.2.1)), (a3, .inl (cI, 13, .inl K.2.2.2.1)), (a4, .inl (cI, 13, .inl K.2.2.2.2))] (fun r (_ : Unit) => r = ct_ruC K 1 id v t) (fun _ => [(a0, .inr (0, [.ref a1, .ref a2, .ref a3, .ref a4, .int (nI K.1), .int (nI en)])), (a1, .inl (cI, 13, .inl K.2.1)), (a2, .inl (cI, 13, .inl K.2.2.1)), (a3, .inl (cI, 13, .inl K.2.2.2.1)), (a4, .inl (cI, 13, .inl K.2.2.2.2))]) := by
  refine gc_I_of (cc := cn_C_putVerdict) (maxL := 3) (ty := .int) (by decide) rfl (Nat.le_of_ble_eq_true rfl) ?_
  intro pp ee ss mm ar be me cd A Q ls H0 H locs hx hb hml hown hts hK hP hD hS hA hl hret
  have hw : ∀ w ∈ gw_T, w.before ar ss = true := fun w h => hts w (List.mem_cons_of_mem _ h)
  have hl : lv_has ls 3 [(0, .ref a0), (1, .int v), (2, .int t)] := hl
  refine lv_iload_n hx hb dn_C_putVerdict_0 rfl (lv_at hl 1 rfl) ?_
  refine gc_si (pre := [(a0, .inr (0, [.ref a1, .ref a2, .ref a3, .ref a4, .int (nI K.1), .int (nI en)])), (a1, .inl (cI, 13, .inl K.2.1)), (a2, .inl (cI, 13, .inl K.2.2.1)), (a3, .inl (cI, 13, .inl K.2.2.2.1)), (a4, .inl (cI, 13, .inl K.2.2.2.2))]) (wc := []) (po := []) (As := [.int v]) (rest := []) ⟨hx, hb, hml, hown, hw⟩ (c_C_isDate l dC dI cI cZ v) (gw_cS 1 hw mw_150 mw_151 mw_3 mw_152 hd_C_isDate ⟨Nat.le_of_ble_eq_true rfl, Nat.le_of_ble_eq_true rfl⟩) hK hP hD hS hA rfl hl.1 rfl (Nat.le_of_ble_eq_true rfl) dn_C_putVerdict_1 ⟨Nat.zero_le _, Nat.zero_le _⟩ (fun r1 u1 H locs hc1 hP hD hS => ?_)
  have hP : va_P (dC, dI) vwCl [(a0, .inr (0, [.ref a1, .ref a2, .ref a3, .ref a4, .int (nI K.1), .int (nI en)])), (a1, .inl (cI, 13, .inl K.2.1)), (a2, .inl (cI, 13, .inl K.2.2.1)), (a3, .inl (cI, 13, .inl K.2.2.2.1)), (a4, .inl (cI, 13, .inl K.2.2.2.2))] H := hP
  have hD : va_D A [(a0, .inr (0, [.ref a1, .ref a2, .ref a3, .ref a4, .int (nI K.1), .int (nI en)])), (a1, .inl (cI, 13, .inl K.2.1)), (a2, .inl (cI, 13, .inl K.2.2.1)), (a3, .inl (cI, 13, .inl K.2.2.2.1)), (a4, .inl (cI, 13, .inl K.2.2.2.2))] := hD
  rcases hc1 with ⟨rfl, hd1⟩ | ⟨rfl, hd1⟩
  · skip
    refine lv_if_ne (tgt := 9) hx hb dn_C_putVerdict_4 (by decide) (fun _ => ?_) (fun h => absurd h (by decide))
    refine lv_iload_n hx hb dn_C_putVerdict_9 rfl (lv_at hl 1 rfl) ?_
    refine lv_iload_n hx hb dn_C_putVerdict_10 rfl (lv_at hl 2 rfl) ?_
    refine lv_icmp_ge (tgt := 17) hx hb dn_C_putVerdict_11 (by decide) (fun h11 => ?_) (fun h11 => ?_)
    · skip
      refine lv_aload_n hx hb dn_C_putVerdict_17 rfl (lv_at hl 0 rfl) ?_
      refine va_get (D := (dC, dI)) (ci := 0) (v := .int (nI K.1)) (C := rn_C) (T := tn_C) (N := 6) hx hb hw ml_C hown hK hP 0 rfl rfl 4 (by decide) (hw _ mw_41) (fun _ h9 => h9) rfl dn_C_putVerdict_18 ?_
      refine lv_bipush (v := 12) hx hb dn_C_putVerdict_21 (by decide) ?_
      refine gr_clt (tgt := 31) hx hb K.1 12 rfl rfl (by omega) (by decide) dn_C_putVerdict_23 (by decide) (fun h23 => ?_) (fun h23 => ?_)
      · skip
        refine lv_iconst (v := 0) hx hb dn_C_putVerdict_31 (by decide) ?_
        exact hret 0 () _ _ _ _ (ru1_ok hd1 (Int32.not_lt.mpr h11) (by omega)) rfl hP hD hS dn_C_putVerdict_32
      · skip
        refine lv_bipush (v := (-8)) hx hb dn_C_putVerdict_26 (by decide) ?_
        refine lv_goto (tgt := 32) hx hb dn_C_putVerdict_28 (by decide) ?_
        exact hret (-8) () _ _ _ _ (ru1_full hd1 (Int32.not_lt.mpr h11) h23) rfl hP hD hS dn_C_putVerdict_32
    · skip
      refine lv_bipush (v := (-4)) hx hb dn_C_putVerdict_14 (by decide) ?_
      exact hret (-4) () _ _ _ _ (ru1_short hd1 (Int32.not_le.mp h11)) rfl hP hD hS dn_C_putVerdict_16
  · skip
    refine lv_if_ne (tgt := 9) hx hb dn_C_putVerdict_4 (by decide) (fun h => absurd h (by decide)) (fun _ => ?_)
    refine lv_iconst (v := (-1)) hx hb dn_C_putVerdict_7 (by decide) ?_
    exact hret (-1) () _ _ _ _ (ru1_bad hd1) rfl hP hD hS dn_C_putVerdict_8

set_option maxRecDepth 100000 in
set_option maxHeartbeats 4000000 in
theorem c_C_extendVerdict (l : Launch) (dC : Nat → ClassId) (dI : Nat → Nat → Nat) (cI cZ : ClassId) (a0 a1 a2 a3 a4 : Nat) (K : ct_T) (en : Nat) (ho : K.1 ≤ 12) (id v t : Int32) : gc_I l yn_C_extendVerdict (gw yn_C_extendVerdict cn_C_extendVerdict 3 (some .int)) (rm_ 1 21) (dC, dI) vwCl (gT cI cZ) [.ref a0, .int id, .int v] [(a0, .inr (0, [.ref a1, .ref a2, .ref a3, .ref a4, .int (nI K.1), .int (nI en)])), (a1, .inl (cI, 13, .inl K.2.1)), (a2, .inl (cI, 13, .inl K.2.2.1)), (a3, .inl (cI, 13, .inl K.2.2.2.1)), (a4, .inl (cI, 13, .inl K.2.2.2.2))] (fun r (_ : Unit) => r = ct_ruC K 2 id v t) (fun _ => [(a0, .inr (0, [.ref a1, .ref a2, .ref a3, .ref a4, .int (nI K.1), .int (nI en)])), (a1, .inl (cI, 13, .inl K.2.1)), (a2, .inl (cI, 13, .inl K.2.2.1)), (a3, .inl (cI, 13, .inl K.2.2.2.1)), (a4, .inl (cI, 13, .inl K.2.2.2.2))]) := by
  refine gc_I_of (cc := cn_C_extendVerdict) (maxL := 3) (ty := .int) (by decide) rfl (Nat.le_of_ble_eq_true rfl) ?_
  intro pp ee ss mm ar be me cd A Q ls H0 H locs hx hb hml hown hts hK hP hD hS hA hl hret
  have hw : ∀ w ∈ gw_T, w.before ar ss = true := fun w h => hts w (List.mem_cons_of_mem _ h)
  have hl : lv_has ls 3 [(0, .ref a0), (1, .int id), (2, .int v)] := hl
  refine lv_iload_n hx hb dn_C_extendVerdict_0 rfl (lv_at hl 2 rfl) ?_
  refine gc_si (pre := [(a0, .inr (0, [.ref a1, .ref a2, .ref a3, .ref a4, .int (nI K.1), .int (nI en)])), (a1, .inl (cI, 13, .inl K.2.1)), (a2, .inl (cI, 13, .inl K.2.2.1)), (a3, .inl (cI, 13, .inl K.2.2.2.1)), (a4, .inl (cI, 13, .inl K.2.2.2.2))]) (wc := []) (po := []) (As := [.int v]) (rest := []) ⟨hx, hb, hml, hown, hw⟩ (c_C_isDate l dC dI cI cZ v) (gw_cS 1 hw mw_150 mw_151 mw_3 mw_152 hd_C_isDate ⟨Nat.le_of_ble_eq_true rfl, Nat.le_of_ble_eq_true rfl⟩) hK hP hD hS hA rfl hl.1 rfl (Nat.le_of_ble_eq_true rfl) dn_C_extendVerdict_1 ⟨Nat.zero_le _, Nat.zero_le _⟩ (fun r1 u1 H locs hc1 hP hD hS => ?_)
  have hP : va_P (dC, dI) vwCl [(a0, .inr (0, [.ref a1, .ref a2, .ref a3, .ref a4, .int (nI K.1), .int (nI en)])), (a1, .inl (cI, 13, .inl K.2.1)), (a2, .inl (cI, 13, .inl K.2.2.1)), (a3, .inl (cI, 13, .inl K.2.2.2.1)), (a4, .inl (cI, 13, .inl K.2.2.2.2))] H := hP
  have hD : va_D A [(a0, .inr (0, [.ref a1, .ref a2, .ref a3, .ref a4, .int (nI K.1), .int (nI en)])), (a1, .inl (cI, 13, .inl K.2.1)), (a2, .inl (cI, 13, .inl K.2.2.1)), (a3, .inl (cI, 13, .inl K.2.2.2.1)), (a4, .inl (cI, 13, .inl K.2.2.2.2))] := hD
  rcases hc1 with ⟨rfl, hd1⟩ | ⟨rfl, hd1⟩
  · skip
    refine lv_if_ne (tgt := 9) hx hb dn_C_extendVerdict_4 (by decide) (fun _ => ?_) (fun h => absurd h (by decide))
    refine lv_aload_n hx hb dn_C_extendVerdict_9 rfl (lv_at hl 0 rfl) ?_
    refine lv_iload_n hx hb dn_C_extendVerdict_10 rfl (lv_at hl 1 rfl) ?_
    refine gc_vi (pre := []) (wc := [(a0, .inr (0, [.ref a1, .ref a2, .ref a3, .ref a4, .int (nI K.1), .int (nI en)])), (a1, .inl (cI, 13, .inl K.2.1)), (a2, .inl (cI, 13, .inl K.2.2.1)), (a3, .inl (cI, 13, .inl K.2.2.2.1)), (a4, .inl (cI, 13, .inl K.2.2.2.2))]) (po := []) (As := [.int id]) (rest := []) ⟨hx, hb, hml, hown, hw⟩ (c_C_isThere l dC dI cI cZ a0 a1 a2 a3 a4 K en (by omega) id) (gw_cV 1 hw mw_158 mw_159 mw_160 mw_3 mw_161 hd_C_isThere ⟨Nat.le_of_ble_eq_true rfl, Nat.le_of_ble_eq_true rfl⟩) (ci := 0) rfl rfl rfl hK hP hD hS hA rfl hl.1 rfl (Nat.le_of_ble_eq_true rfl) dn_C_extendVerdict_11 ⟨Nat.zero_le _, Nat.zero_le _⟩ (fun r11 u11 H locs hc11 hP hD hS => ?_)
    have hP : va_P (dC, dI) vwCl [(a0, .inr (0, [.ref a1, .ref a2, .ref a3, .ref a4, .int (nI K.1), .int (nI en)])), (a1, .inl (cI, 13, .inl K.2.1)), (a2, .inl (cI, 13, .inl K.2.2.1)), (a3, .inl (cI, 13, .inl K.2.2.2.1)), (a4, .inl (cI, 13, .inl K.2.2.2.2))] H := hP
    have hD : va_D A [(a0, .inr (0, [.ref a1, .ref a2, .ref a3, .ref a4, .int (nI K.1), .int (nI en)])), (a1, .inl (cI, 13, .inl K.2.1)), (a2, .inl (cI, 13, .inl K.2.2.1)), (a3, .inl (cI, 13, .inl K.2.2.2.1)), (a4, .inl (cI, 13, .inl K.2.2.2.2))] := hD
    rcases hc11 with ⟨rfl, j11, j11a, j11b, rfl⟩ | ⟨rfl, hno11⟩
    · skip
      refine lv_if_ne (tgt := 20) hx hb dn_C_extendVerdict_14 (by decide) (fun _ => ?_) (fun h => absurd h (by decide))
      refine lv_aload_n hx hb dn_C_extendVerdict_20 rfl (lv_at hl 0 rfl) ?_
      refine va_get (D := (dC, dI)) (ci := 0) (v := .ref a1) (C := rn_C) (T := tn_C) (N := 6) hx hb hw ml_C hown hK hP 0 rfl rfl 0 (by decide) (hw _ mw_37) (fun _ h9 => h9) rfl dn_C_extendVerdict_21 ?_
      refine lv_iload_n hx hb dn_C_extendVerdict_24 rfl (lv_at hl 1 rfl) ?_
      refine gr_iald hx hb hK hP 1 0 rfl rfl j11 rfl (by omega) (by decide) dn_C_extendVerdict_25 ?_
      refine lv_iconst (v := 1) hx hb dn_C_extendVerdict_26 (by decide) ?_
      refine lv_icmp_eq (tgt := 33) hx hb dn_C_extendVerdict_27 (by decide) (fun h27 => ?_) (fun h27 => ?_)
      · skip
        refine lv_iload_n hx hb dn_C_extendVerdict_33 rfl (lv_at hl 2 rfl) ?_
        refine lv_aload_n hx hb dn_C_extendVerdict_34 rfl (lv_at hl 0 rfl) ?_
        refine va_get (D := (dC, dI)) (ci := 0) (v := .ref a2) (C := rn_C) (T := tn_C) (N := 6) hx hb hw ml_C hown hK hP 0 rfl rfl 1 (by decide) (hw _ mw_38) (fun _ h9 => h9) rfl dn_C_extendVerdict_35 ?_
        refine lv_iload_n hx hb dn_C_extendVerdict_38 rfl (lv_at hl 1 rfl) ?_
        refine gr_iald hx hb hK hP 2 0 rfl rfl j11 rfl (by omega) (by decide) dn_C_extendVerdict_39 ?_
        refine lv_icmp_gt (tgt := 48) hx hb dn_C_extendVerdict_40 (by decide) (fun h40 => ?_) (fun h40 => ?_)
        · skip
          refine lv_iconst (v := 0) hx hb dn_C_extendVerdict_48 (by decide) ?_
          exact hret 0 () _ _ _ _ (ru2_ok hd1 j11a j11b ho h27 (Int32.not_le.mpr h40)) rfl hP hD hS dn_C_extendVerdict_49
        · skip
          refine lv_bipush (v := (-4)) hx hb dn_C_extendVerdict_43 (by decide) ?_
          refine lv_goto (tgt := 49) hx hb dn_C_extendVerdict_45 (by decide) ?_
          exact hret (-4) () _ _ _ _ (ru2_short hd1 j11a j11b ho h27 (Int32.not_lt.mp h40)) rfl hP hD hS dn_C_extendVerdict_49
      · skip
        refine lv_bipush (v := (-3)) hx hb dn_C_extendVerdict_30 (by decide) ?_
        exact hret (-3) () _ _ _ _ (ru2_gone hd1 j11a j11b ho h27) rfl hP hD hS dn_C_extendVerdict_32
    · skip
      refine lv_if_ne (tgt := 20) hx hb dn_C_extendVerdict_14 (by decide) (fun h => absurd h (by decide)) (fun _ => ?_)
      refine lv_bipush (v := (-2)) hx hb dn_C_extendVerdict_17 (by decide) ?_
      exact hret (-2) () _ _ _ _ (ru2_abs hd1 hno11) rfl hP hD hS dn_C_extendVerdict_19
  · skip
    refine lv_if_ne (tgt := 9) hx hb dn_C_extendVerdict_4 (by decide) (fun h => absurd h (by decide)) (fun _ => ?_)
    refine lv_iconst (v := (-1)) hx hb dn_C_extendVerdict_7 (by decide) ?_
    exact hret (-1) () _ _ _ _ (ru2_bad hd1) rfl hP hD hS dn_C_extendVerdict_8
