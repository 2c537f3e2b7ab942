theorem gp_in {x : Int32} (n : Nat) (hn : n < 2 ^ 31) (h0 : ¬ x < 0) (h1 : ¬ nI n ≤ x) : ∃ k, k < n ∧ x = nI k := by
  rcases pk_ix x hn with h | h | h
  · exact absurd h h0
  · exact absurd h h1
  · exact h

theorem dn_G_hasPlace_0 : decode cn_G_hasPlace 0 = .ok (.iconst 0, 1) := by decide +kernel
theorem dn_G_hasPlace_1 : decode cn_G_hasPlace 1 = .ok (.iload_n 0, 1) := by decide +kernel
theorem dn_G_hasPlace_2 : decode cn_G_hasPlace 2 = .ok (.if_icmp .gt 14, 3) := by decide +kernel
theorem dn_G_hasPlace_5 : decode cn_G_hasPlace 5 = .ok (.iload_n 0, 1) := by decide +kernel
theorem dn_G_hasPlace_6 : decode cn_G_hasPlace 6 = .ok (.sipush 292, 3) := by decide +kernel
theorem dn_G_hasPlace_9 : decode cn_G_hasPlace 9 = .ok (.if_icmp .ge 7, 3) := by decide +kernel
theorem dn_G_hasPlace_12 : decode cn_G_hasPlace 12 = .ok (.iconst 1, 1) := by decide +kernel
theorem dn_G_hasPlace_13 : decode cn_G_hasPlace 13 = .ok (.goto 4, 3) := by decide +kernel
theorem dn_G_hasPlace_16 : decode cn_G_hasPlace 16 = .ok (.iconst 0, 1) := by decide +kernel
theorem dn_G_hasPlace_17 : decode cn_G_hasPlace 17 = .ok (.ireturn, 1) := by decide +kernel
theorem dn_G_recordPlace_0 : decode cn_G_recordPlace 0 = .ok (.bipush 7, 2) := by decide +kernel
theorem dn_G_recordPlace_2 : decode cn_G_recordPlace 2 = .ok (.iload_n 0, 1) := by decide +kernel
theorem dn_G_recordPlace_3 : decode cn_G_recordPlace 3 = .ok (.imul, 1) := by decide +kernel
theorem dn_G_recordPlace_4 : decode cn_G_recordPlace 4 = .ok (.ireturn, 1) := by decide +kernel
theorem dn_G_keyPlace_0 : decode cn_G_keyPlace 0 = .ok (.sipush 279, 3) := by decide +kernel
theorem dn_G_keyPlace_3 : decode cn_G_keyPlace 3 = .ok (.iload_n 0, 1) := by decide +kernel
theorem dn_G_keyPlace_4 : decode cn_G_keyPlace 4 = .ok (.iadd, 1) := by decide +kernel
theorem dn_G_keyPlace_5 : decode cn_G_keyPlace 5 = .ok (.ireturn, 1) := by decide +kernel
theorem dn_G_read_0 : decode cn_G_read 0 = .ok (.iload_n 1, 1) := by decide +kernel
theorem dn_G_read_1 : decode cn_G_read 1 = .ok (.invokestatic 18, 3) := by decide +kernel
theorem dn_G_read_4 : decode cn_G_read 4 = .ok (.ifCond .eq 12, 3) := by decide +kernel
theorem dn_G_read_7 : decode cn_G_read 7 = .ok (.aload_n 0, 1) := by decide +kernel
theorem dn_G_read_8 : decode cn_G_read 8 = .ok (.getfield 11, 3) := by decide +kernel
theorem dn_G_read_11 : decode cn_G_read 11 = .ok (.iload_n 1, 1) := by decide +kernel
theorem dn_G_read_12 : decode cn_G_read 12 = .ok (.iaload, 1) := by decide +kernel
theorem dn_G_read_13 : decode cn_G_read 13 = .ok (.goto 4, 3) := by decide +kernel
theorem dn_G_read_16 : decode cn_G_read 16 = .ok (.iconst 0, 1) := by decide +kernel
theorem dn_G_read_17 : decode cn_G_read 17 = .ok (.ireturn, 1) := by decide +kernel
theorem dn_G_store_0 : decode cn_G_store 0 = .ok (.iload_n 1, 1) := by decide +kernel
theorem dn_G_store_1 : decode cn_G_store 1 = .ok (.invokestatic 18, 3) := by decide +kernel
theorem dn_G_store_4 : decode cn_G_store 4 = .ok (.ifCond .eq 10, 3) := by decide +kernel
theorem dn_G_store_7 : decode cn_G_store 7 = .ok (.aload_n 0, 1) := by decide +kernel
theorem dn_G_store_8 : decode cn_G_store 8 = .ok (.getfield 11, 3) := by decide +kernel
theorem dn_G_store_11 : decode cn_G_store 11 = .ok (.iload_n 1, 1) := by decide +kernel
theorem dn_G_store_12 : decode cn_G_store 12 = .ok (.iload_n 2, 1) := by decide +kernel
theorem dn_G_store_13 : decode cn_G_store 13 = .ok (.iastore, 1) := by decide +kernel
theorem dn_G_store_14 : decode cn_G_store 14 = .ok (.return_, 1) := by decide +kernel
theorem dn_G_field_0 : decode cn_G_field 0 = .ok (.aload_n 0, 1) := by decide +kernel
theorem dn_G_field_1 : decode cn_G_field 1 = .ok (.iload_n 1, 1) := by decide +kernel
theorem dn_G_field_2 : decode cn_G_field 2 = .ok (.invokestatic 22, 3) := by decide +kernel
theorem dn_G_field_5 : decode cn_G_field 5 = .ok (.iload_n 2, 1) := by decide +kernel
theorem dn_G_field_6 : decode cn_G_field 6 = .ok (.iadd, 1) := by decide +kernel
theorem dn_G_field_7 : decode cn_G_field 7 = .ok (.invokevirtual 26, 3) := by decide +kernel
theorem dn_G_field_10 : decode cn_G_field 10 = .ok (.ireturn, 1) := by decide +kernel
theorem dn_G_leaf_0 : decode cn_G_leaf 0 = .ok (.aload_n 0, 1) := by decide +kernel
theorem dn_G_leaf_1 : decode cn_G_leaf 1 = .ok (.getfield 11, 3) := by decide +kernel
theorem dn_G_leaf_4 : decode cn_G_leaf 4 = .ok (.iload_n 1, 1) := by decide +kernel
theorem dn_G_leaf_5 : decode cn_G_leaf 5 = .ok (.invokestatic 22, 3) := by decide +kernel
theorem dn_G_leaf_8 : decode cn_G_leaf 8 = .ok (.invokestatic 52, 3) := by decide +kernel
theorem dn_G_leaf_11 : decode cn_G_leaf 11 = .ok (.ireturn, 1) := by decide +kernel
theorem dn_G_checkIsRight_0 : decode cn_G_checkIsRight 0 = .ok (.aload_n 0, 1) := by decide +kernel
theorem dn_G_checkIsRight_1 : decode cn_G_checkIsRight 1 = .ok (.iload_n 1, 1) := by decide +kernel
theorem dn_G_checkIsRight_2 : decode cn_G_checkIsRight 2 = .ok (.bipush 6, 2) := by decide +kernel
theorem dn_G_checkIsRight_4 : decode cn_G_checkIsRight 4 = .ok (.invokevirtual 29, 3) := by decide +kernel
theorem dn_G_checkIsRight_7 : decode cn_G_checkIsRight 7 = .ok (.aload_n 0, 1) := by decide +kernel
theorem dn_G_checkIsRight_8 : decode cn_G_checkIsRight 8 = .ok (.iload_n 1, 1) := by decide +kernel
theorem dn_G_checkIsRight_9 : decode cn_G_checkIsRight 9 = .ok (.invokevirtual 33, 3) := by decide +kernel
theorem dn_G_checkIsRight_12 : decode cn_G_checkIsRight 12 = .ok (.iconst 1, 1) := by decide +kernel
theorem dn_G_checkIsRight_13 : decode cn_G_checkIsRight 13 = .ok (.ior, 1) := by decide +kernel
theorem dn_G_checkIsRight_14 : decode cn_G_checkIsRight 14 = .ok (.if_icmp .ne 7, 3) := by decide +kernel
theorem dn_G_checkIsRight_17 : decode cn_G_checkIsRight 17 = .ok (.iconst 1, 1) := by decide +kernel
theorem dn_G_checkIsRight_18 : decode cn_G_checkIsRight 18 = .ok (.goto 4, 3) := by decide +kernel
theorem dn_G_checkIsRight_21 : decode cn_G_checkIsRight 21 = .ok (.iconst 0, 1) := by decide +kernel
theorem dn_G_checkIsRight_22 : decode cn_G_checkIsRight 22 = .ok (.ireturn, 1) := by decide +kernel
theorem dn_G_wipeRecordsFrom_0 : decode cn_G_wipeRecordsFrom 0 = .ok (.bipush 40, 2) := by decide +kernel
theorem dn_G_wipeRecordsFrom_2 : decode cn_G_wipeRecordsFrom 2 = .ok (.invokestatic 22, 3) := by decide +kernel
theorem dn_G_wipeRecordsFrom_5 : decode cn_G_wipeRecordsFrom 5 = .ok (.istore_n 2, 1) := by decide +kernel
theorem dn_G_wipeRecordsFrom_6 : decode cn_G_wipeRecordsFrom 6 = .ok (.iload_n 1, 1) := by decide +kernel
theorem dn_G_wipeRecordsFrom_7 : decode cn_G_wipeRecordsFrom 7 = .ok (.invokestatic 22, 3) := by decide +kernel
theorem dn_G_wipeRecordsFrom_10 : decode cn_G_wipeRecordsFrom 10 = .ok (.istore_n 3, 1) := by decide +kernel
theorem dn_G_wipeRecordsFrom_11 : decode cn_G_wipeRecordsFrom 11 = .ok (.iload_n 3, 1) := by decide +kernel
theorem dn_G_wipeRecordsFrom_12 : decode cn_G_wipeRecordsFrom 12 = .ok (.iload_n 2, 1) := by decide +kernel
theorem dn_G_wipeRecordsFrom_13 : decode cn_G_wipeRecordsFrom 13 = .ok (.if_icmp .ge 15, 3) := by decide +kernel
theorem dn_G_wipeRecordsFrom_16 : decode cn_G_wipeRecordsFrom 16 = .ok (.aload_n 0, 1) := by decide +kernel
theorem dn_G_wipeRecordsFrom_17 : decode cn_G_wipeRecordsFrom 17 = .ok (.iload_n 3, 1) := by decide +kernel
theorem dn_G_wipeRecordsFrom_18 : decode cn_G_wipeRecordsFrom 18 = .ok (.iconst 0, 1) := by decide +kernel
theorem dn_G_wipeRecordsFrom_19 : decode cn_G_wipeRecordsFrom 19 = .ok (.invokevirtual 36, 3) := by decide +kernel
theorem dn_G_wipeRecordsFrom_22 : decode cn_G_wipeRecordsFrom 22 = .ok (.iinc 3 1, 3) := by decide +kernel
theorem dn_G_wipeRecordsFrom_25 : decode cn_G_wipeRecordsFrom 25 = .ok (.goto (-14), 3) := by decide +kernel
theorem dn_G_wipeRecordsFrom_28 : decode cn_G_wipeRecordsFrom 28 = .ok (.return_, 1) := by decide +kernel
theorem dn_G_joinNeighbours_0 : decode cn_G_joinNeighbours 0 = .ok (.iload_n 1, 1) := by decide +kernel
theorem dn_G_joinNeighbours_1 : decode cn_G_joinNeighbours 1 = .ok (.iconst 2, 1) := by decide +kernel
theorem dn_G_joinNeighbours_2 : decode cn_G_joinNeighbours 2 = .ok (.idiv, 1) := by decide +kernel
theorem dn_G_joinNeighbours_3 : decode cn_G_joinNeighbours 3 = .ok (.istore_n 2, 1) := by decide +kernel
theorem dn_G_joinNeighbours_4 : decode cn_G_joinNeighbours 4 = .ok (.iconst 0, 1) := by decide +kernel
theorem dn_G_joinNeighbours_5 : decode cn_G_joinNeighbours 5 = .ok (.istore_n 3, 1) := by decide +kernel
theorem dn_G_joinNeighbours_6 : decode cn_G_joinNeighbours 6 = .ok (.iload_n 3, 1) := by decide +kernel
theorem dn_G_joinNeighbours_7 : decode cn_G_joinNeighbours 7 = .ok (.iload_n 2, 1) := by decide +kernel
theorem dn_G_joinNeighbours_8 : decode cn_G_joinNeighbours 8 = .ok (.if_icmp .ge 36, 3) := by decide +kernel
theorem dn_G_joinNeighbours_11 : decode cn_G_joinNeighbours 11 = .ok (.aload_n 0, 1) := by decide +kernel
theorem dn_G_joinNeighbours_12 : decode cn_G_joinNeighbours 12 = .ok (.getfield 15, 3) := by decide +kernel
theorem dn_G_joinNeighbours_15 : decode cn_G_joinNeighbours 15 = .ok (.iload_n 3, 1) := by decide +kernel
theorem dn_G_joinNeighbours_16 : decode cn_G_joinNeighbours 16 = .ok (.aload_n 0, 1) := by decide +kernel
theorem dn_G_joinNeighbours_17 : decode cn_G_joinNeighbours 17 = .ok (.getfield 15, 3) := by decide +kernel
theorem dn_G_joinNeighbours_20 : decode cn_G_joinNeighbours 20 = .ok (.iconst 2, 1) := by decide +kernel
theorem dn_G_joinNeighbours_21 : decode cn_G_joinNeighbours 21 = .ok (.iload_n 3, 1) := by decide +kernel
theorem dn_G_joinNeighbours_22 : decode cn_G_joinNeighbours 22 = .ok (.imul, 1) := by decide +kernel
theorem dn_G_joinNeighbours_23 : decode cn_G_joinNeighbours 23 = .ok (.iaload, 1) := by decide +kernel
theorem dn_G_joinNeighbours_24 : decode cn_G_joinNeighbours 24 = .ok (.aload_n 0, 1) := by decide +kernel
theorem dn_G_joinNeighbours_25 : decode cn_G_joinNeighbours 25 = .ok (.getfield 15, 3) := by decide +kernel
theorem dn_G_joinNeighbours_28 : decode cn_G_joinNeighbours 28 = .ok (.iconst 2, 1) := by decide +kernel
theorem dn_G_joinNeighbours_29 : decode cn_G_joinNeighbours 29 = .ok (.iload_n 3, 1) := by decide +kernel
theorem dn_G_joinNeighbours_30 : decode cn_G_joinNeighbours 30 = .ok (.imul, 1) := by decide +kernel
theorem dn_G_joinNeighbours_31 : decode cn_G_joinNeighbours 31 = .ok (.iconst 1, 1) := by decide +kernel
theorem dn_G_joinNeighbours_32 : decode cn_G_joinNeighbours 32 = .ok (.iadd, 1) := by decide +kernel
theorem dn_G_joinNeighbours_33 : decode cn_G_joinNeighbours 33 = .ok (.iaload, 1) := by decide +kernel
theorem dn_G_joinNeighbours_34 : decode cn_G_joinNeighbours 34 = .ok (.invokestatic 47, 3) := by decide +kernel
theorem dn_G_joinNeighbours_37 : decode cn_G_joinNeighbours 37 = .ok (.iastore, 1) := by decide +kernel
theorem dn_G_joinNeighbours_38 : decode cn_G_joinNeighbours 38 = .ok (.iinc 3 1, 3) := by decide +kernel
theorem dn_G_joinNeighbours_41 : decode cn_G_joinNeighbours 41 = .ok (.goto (-35), 3) := by decide +kernel
theorem dn_G_joinNeighbours_44 : decode cn_G_joinNeighbours 44 = .ok (.iload_n 1, 1) := by decide +kernel
theorem dn_G_joinNeighbours_45 : decode cn_G_joinNeighbours 45 = .ok (.iconst 2, 1) := by decide +kernel
theorem dn_G_joinNeighbours_46 : decode cn_G_joinNeighbours 46 = .ok (.irem, 1) := by decide +kernel
theorem dn_G_joinNeighbours_47 : decode cn_G_joinNeighbours 47 = .ok (.iconst 1, 1) := by decide +kernel
theorem dn_G_joinNeighbours_48 : decode cn_G_joinNeighbours 48 = .ok (.if_icmp .ne 17, 3) := by decide +kernel
theorem dn_G_joinNeighbours_51 : decode cn_G_joinNeighbours 51 = .ok (.aload_n 0, 1) := by decide +kernel
theorem dn_G_joinNeighbours_52 : decode cn_G_joinNeighbours 52 = .ok (.getfield 15, 3) := by decide +kernel
theorem dn_G_joinNeighbours_55 : decode cn_G_joinNeighbours 55 = .ok (.iload_n 2, 1) := by decide +kernel
theorem dn_G_joinNeighbours_56 : decode cn_G_joinNeighbours 56 = .ok (.aload_n 0, 1) := by decide +kernel
theorem dn_G_joinNeighbours_57 : decode cn_G_joinNeighbours 57 = .ok (.getfield 15, 3) := by decide +kernel
theorem dn_G_joinNeighbours_60 : decode cn_G_joinNeighbours 60 = .ok (.iload_n 1, 1) := by decide +kernel
theorem dn_G_joinNeighbours_61 : decode cn_G_joinNeighbours 61 = .ok (.iconst 1, 1) := by decide +kernel
theorem dn_G_joinNeighbours_62 : decode cn_G_joinNeighbours 62 = .ok (.isub, 1) := by decide +kernel
theorem dn_G_joinNeighbours_63 : decode cn_G_joinNeighbours 63 = .ok (.iaload, 1) := by decide +kernel
theorem dn_G_joinNeighbours_64 : decode cn_G_joinNeighbours 64 = .ok (.iastore, 1) := by decide +kernel
theorem dn_G_joinNeighbours_65 : decode cn_G_joinNeighbours 65 = .ok (.return_, 1) := by decide +kernel
theorem dn_G_tree_0 : decode cn_G_tree 0 = .ok (.iload_n 1, 1) := by decide +kernel
theorem dn_G_tree_1 : decode cn_G_tree 1 = .ok (.ifCond .lt 16, 3) := by decide +kernel
theorem dn_G_tree_4 : decode cn_G_tree 4 = .ok (.iload_n 2, 1) := by decide +kernel
theorem dn_G_tree_5 : decode cn_G_tree 5 = .ok (.iconst 1, 1) := by decide +kernel
theorem dn_G_tree_6 : decode cn_G_tree 6 = .ok (.if_icmp .lt 11, 3) := by decide +kernel
theorem dn_G_tree_9 : decode cn_G_tree 9 = .ok (.iload_n 2, 1) := by decide +kernel
theorem dn_G_tree_10 : decode cn_G_tree 10 = .ok (.bipush 40, 2) := by decide +kernel
theorem dn_G_tree_12 : decode cn_G_tree 12 = .ok (.iload_n 1, 1) := by decide +kernel
theorem dn_G_tree_13 : decode cn_G_tree 13 = .ok (.isub, 1) := by decide +kernel
theorem dn_G_tree_14 : decode cn_G_tree 14 = .ok (.if_icmp .le 5, 3) := by decide +kernel
theorem dn_G_tree_17 : decode cn_G_tree 17 = .ok (.iconst 0, 1) := by decide +kernel
theorem dn_G_tree_18 : decode cn_G_tree 18 = .ok (.ireturn, 1) := by decide +kernel
theorem dn_G_tree_19 : decode cn_G_tree 19 = .ok (.iconst 0, 1) := by decide +kernel
theorem dn_G_tree_20 : decode cn_G_tree 20 = .ok (.istore_n 3, 1) := by decide +kernel
theorem dn_G_tree_21 : decode cn_G_tree 21 = .ok (.iload_n 3, 1) := by decide +kernel
theorem dn_G_tree_22 : decode cn_G_tree 22 = .ok (.iload_n 2, 1) := by decide +kernel
theorem dn_G_tree_23 : decode cn_G_tree 23 = .ok (.if_icmp .ge 22, 3) := by decide +kernel
theorem dn_G_tree_26 : decode cn_G_tree 26 = .ok (.aload_n 0, 1) := by decide +kernel
theorem dn_G_tree_27 : decode cn_G_tree 27 = .ok (.getfield 15, 3) := by decide +kernel
theorem dn_G_tree_30 : decode cn_G_tree 30 = .ok (.iload_n 3, 1) := by decide +kernel
theorem dn_G_tree_31 : decode cn_G_tree 31 = .ok (.aload_n 0, 1) := by decide +kernel
theorem dn_G_tree_32 : decode cn_G_tree 32 = .ok (.iload_n 1, 1) := by decide +kernel
theorem dn_G_tree_33 : decode cn_G_tree 33 = .ok (.iload_n 3, 1) := by decide +kernel
theorem dn_G_tree_34 : decode cn_G_tree 34 = .ok (.iadd, 1) := by decide +kernel
theorem dn_G_tree_35 : decode cn_G_tree 35 = .ok (.invokevirtual 33, 3) := by decide +kernel
theorem dn_G_tree_38 : decode cn_G_tree 38 = .ok (.iastore, 1) := by decide +kernel
theorem dn_G_tree_39 : decode cn_G_tree 39 = .ok (.iinc 3 1, 3) := by decide +kernel
theorem dn_G_tree_42 : decode cn_G_tree 42 = .ok (.goto (-21), 3) := by decide +kernel
theorem dn_G_tree_45 : decode cn_G_tree 45 = .ok (.iload_n 2, 1) := by decide +kernel
theorem dn_G_tree_46 : decode cn_G_tree 46 = .ok (.istore_n 3, 1) := by decide +kernel
theorem dn_G_tree_47 : decode cn_G_tree 47 = .ok (.iload_n 3, 1) := by decide +kernel
theorem dn_G_tree_48 : decode cn_G_tree 48 = .ok (.iconst 1, 1) := by decide +kernel
theorem dn_G_tree_49 : decode cn_G_tree 49 = .ok (.if_icmp .le 17, 3) := by decide +kernel
theorem dn_G_tree_52 : decode cn_G_tree 52 = .ok (.aload_n 0, 1) := by decide +kernel
theorem dn_G_tree_53 : decode cn_G_tree 53 = .ok (.iload_n 3, 1) := by decide +kernel
theorem dn_G_tree_54 : decode cn_G_tree 54 = .ok (.invokevirtual 43, 3) := by decide +kernel
theorem dn_G_tree_57 : decode cn_G_tree 57 = .ok (.iload_n 3, 1) := by decide +kernel
theorem dn_G_tree_58 : decode cn_G_tree 58 = .ok (.iconst 1, 1) := by decide +kernel
theorem dn_G_tree_59 : decode cn_G_tree 59 = .ok (.iadd, 1) := by decide +kernel
theorem dn_G_tree_60 : decode cn_G_tree 60 = .ok (.iconst 2, 1) := by decide +kernel
theorem dn_G_tree_61 : decode cn_G_tree 61 = .ok (.idiv, 1) := by decide +kernel
theorem dn_G_tree_62 : decode cn_G_tree 62 = .ok (.istore_n 3, 1) := by decide +kernel
theorem dn_G_tree_63 : decode cn_G_tree 63 = .ok (.goto (-16), 3) := by decide +kernel
theorem dn_G_tree_66 : decode cn_G_tree 66 = .ok (.aload_n 0, 1) := by decide +kernel
theorem dn_G_tree_67 : decode cn_G_tree 67 = .ok (.getfield 15, 3) := by decide +kernel
theorem dn_G_tree_70 : decode cn_G_tree 70 = .ok (.iconst 0, 1) := by decide +kernel
theorem dn_G_tree_71 : decode cn_G_tree 71 = .ok (.iaload, 1) := by decide +kernel
theorem dn_G_tree_72 : decode cn_G_tree 72 = .ok (.ireturn, 1) := by decide +kernel
theorem dn_G_rootOf_0 : decode cn_G_rootOf 0 = .ok (.iload_n 1, 1) := by decide +kernel
theorem dn_G_rootOf_1 : decode cn_G_rootOf 1 = .ok (.ifCond .ne 7, 3) := by decide +kernel
theorem dn_G_rootOf_4 : decode cn_G_rootOf 4 = .ok (.iconst 0, 1) := by decide +kernel
theorem dn_G_rootOf_5 : decode cn_G_rootOf 5 = .ok (.goto 9, 3) := by decide +kernel
theorem dn_G_rootOf_8 : decode cn_G_rootOf 8 = .ok (.aload_n 0, 1) := by decide +kernel
theorem dn_G_rootOf_9 : decode cn_G_rootOf 9 = .ok (.iconst 0, 1) := by decide +kernel
theorem dn_G_rootOf_10 : decode cn_G_rootOf 10 = .ok (.iload_n 1, 1) := by decide +kernel
theorem dn_G_rootOf_11 : decode cn_G_rootOf 11 = .ok (.invokevirtual 40, 3) := by decide +kernel
theorem dn_G_rootOf_14 : decode cn_G_rootOf 14 = .ok (.ireturn, 1) := by decide +kernel

set_option maxRecDepth 100000 in
set_option maxHeartbeats 4000000 in
theorem c_G_hasPlaceN (l : Launch) (dC : Nat → ClassId) (dI : Nat → Nat → Nat) (cI cZ : ClassId) (k : Nat) (hk : k < 292) : gc_I l yn_G_hasPlace (gw yn_G_hasPlace cn_G_hasPlace 1 (some .boolean)) (rm_ 0 0) (dC, dI) vwCl (gT cI cZ) [.int (nI k)] [] (fun r (_ : Unit) => r = 1) (fun _ => []) := by
  refine gc_I_of (cc := cn_G_hasPlace) (maxL := 1) (ty := .boolean) (by decide) rfl (Nat.le_of_ble_eq_true rfl) ?_
  intro pp ee ss mm ar be me cd A Q ls H0 H locs hx hb hml hown hts hK hP hD hS hA hl hret
  have hw : ∀ w ∈ gw_T, w.before ar ss = true := fun w h => hts w (List.mem_cons_of_mem _ h)
  have hl : lv_has ls 1 [(0, .int (nI k))] := hl
  refine lv_iconst (v := 0) hx hb dn_G_hasPlace_0 (by decide) ?_
  refine lv_iload_n hx hb dn_G_hasPlace_1 rfl (lv_at hl 0 rfl) ?_
  refine gr_cgt (tgt := 16) hx hb 0 k rfl rfl (by decide) (by omega) dn_G_hasPlace_2 (by decide) (fun h2 => absurd h2 (by omega)) (fun h2 => ?_)
  refine lv_iload_n hx hb dn_G_hasPlace_5 rfl (lv_at hl 0 rfl) ?_
  refine lv_sipush (v := 292) hx hb dn_G_hasPlace_6 (by decide) ?_
  refine gr_cge (tgt := 16) hx hb k 292 rfl rfl (by omega) (by decide) dn_G_hasPlace_9 (by decide) (fun h9 => absurd h9 (by omega)) (fun h9 => ?_)
  refine lv_iconst (v := 1) hx hb dn_G_hasPlace_12 (by decide) ?_
  refine lv_goto (tgt := 17) hx hb dn_G_hasPlace_13 (by decide) ?_
  exact hret 1 () _ _ _ _ rfl rfl hP hD hS dn_G_hasPlace_17

set_option maxRecDepth 100000 in
set_option maxHeartbeats 4000000 in
theorem c_G_hasPlace (l : Launch) (dC : Nat → ClassId) (dI : Nat → Nat → Nat) (cI cZ : ClassId) (x : Int32) : gc_I l yn_G_hasPlace (gw yn_G_hasPlace cn_G_hasPlace 1 (some .boolean)) (rm_ 0 0) (dC, dI) vwCl (gT cI cZ) [.int x] [] (fun r (_ : Unit) => (r = 1 ∧ ∃ k, k < 292 ∧ x = nI k) ∨ (r = 0 ∧ (x < 0 ∨ 292 ≤ x))) (fun _ => []) := by
  refine gc_I_of (cc := cn_G_hasPlace) (maxL := 1) (ty := .boolean) (by decide) rfl (Nat.le_of_ble_eq_true rfl) ?_
  intro pp ee ss mm ar be me cd A Q ls H0 H locs hx hb hml hown hts hK hP hD hS hA hl hret
  have hw : ∀ w ∈ gw_T, w.before ar ss = true := fun w h => hts w (List.mem_cons_of_mem _ h)
  have hl : lv_has ls 1 [(0, .int x)] := hl
  refine lv_iconst (v := 0) hx hb dn_G_hasPlace_0 (by decide) ?_
  refine lv_iload_n hx hb dn_G_hasPlace_1 rfl (lv_at hl 0 rfl) ?_
  refine lv_icmp_gt (tgt := 16) hx hb dn_G_hasPlace_2 (by decide) (fun h2 => ?_) (fun h2 => ?_)
  · skip
    refine lv_iconst (v := 0) hx hb dn_G_hasPlace_16 (by decide) ?_
    exact hret 0 () _ _ _ _ (Or.inr ⟨rfl, by first | exact Or.inl h2 | exact Or.inr h9⟩) rfl hP hD hS dn_G_hasPlace_17
  · skip
    refine lv_iload_n hx hb dn_G_hasPlace_5 rfl (lv_at hl 0 rfl) ?_
    refine lv_sipush (v := 292) hx hb dn_G_hasPlace_6 (by decide) ?_
    refine lv_icmp_ge (tgt := 16) hx hb dn_G_hasPlace_9 (by decide) (fun h9 => ?_) (fun h9 => ?_)
    · skip
      refine lv_iconst (v := 0) hx hb dn_G_hasPlace_16 (by decide) ?_
      exact hret 0 () _ _ _ _ (Or.inr ⟨rfl, by first | exact Or.inl h2 | exact Or.inr h9⟩) rfl hP hD hS dn_G_hasPlace_17
    · skip
      refine lv_iconst (v := 1) hx hb dn_G_hasPlace_12 (by decide) ?_
      refine lv_goto (tgt := 17) hx hb dn_G_hasPlace_13 (by decide) ?_
      exact hret 1 () _ _ _ _ (Or.inl ⟨rfl, gp_in 292 (by decide) h2 h9⟩) rfl hP hD hS dn_G_hasPlace_17

set_option maxRecDepth 100000 in
set_option maxHeartbeats 4000000 in
theorem c_G_recordPlace (l : Launch) (dC : Nat → ClassId) (dI : Nat → Nat → Nat) (cI cZ : ClassId) (k : Nat) : gc_I l yn_G_recordPlace (gw yn_G_recordPlace cn_G_recordPlace 1 (some .int)) (rm_ 0 0) (dC, dI) vwCl (gT cI cZ) [.int (nI k)] [] (fun r (_ : Unit) => r = (nI (7 * k))) (fun _ => []) := by
  refine gc_I_of (cc := cn_G_recordPlace) (maxL := 1) (ty := .int) (by decide) rfl (Nat.le_of_ble_eq_true rfl) ?_
  intro pp ee ss mm ar be me cd A Q ls H0 H locs hx hb hml hown hts hK hP hD hS hA hl hret
  have hw : ∀ w ∈ gw_T, w.before ar ss = true := fun w h => hts w (List.mem_cons_of_mem _ h)
  have hl : lv_has ls 1 [(0, .int (nI k))] := hl
  refine lv_bipush (v := 7) hx hb dn_G_recordPlace_0 (by decide) ?_
  refine lv_iload_n hx hb dn_G_recordPlace_2 rfl (lv_at hl 0 rfl) ?_
  refine gr_mulN hx hb 7 k rfl rfl dn_G_recordPlace_3 ?_
  exact hret (nI (7 * k)) () _ _ _ _ rfl rfl hP hD hS dn_G_recordPlace_4

set_option maxRecDepth 100000 in
set_option maxHeartbeats 4000000 in
theorem c_G_keyPlace (l : Launch) (dC : Nat → ClassId) (dI : Nat → Nat → Nat) (cI cZ : ClassId) (k : Nat) : gc_I l yn_G_keyPlace (gw yn_G_keyPlace cn_G_keyPlace 1 (some .int)) (rm_ 0 0) (dC, dI) vwCl (gT cI cZ) [.int (nI k)] [] (fun r (_ : Unit) => r = (nI (279 + k))) (fun _ => []) := by
  refine gc_I_of (cc := cn_G_keyPlace) (maxL := 1) (ty := .int) (by decide) rfl (Nat.le_of_ble_eq_true rfl) ?_
  intro pp ee ss mm ar be me cd A Q ls H0 H locs hx hb hml hown hts hK hP hD hS hA hl hret
  have hw : ∀ w ∈ gw_T, w.before ar ss = true := fun w h => hts w (List.mem_cons_of_mem _ h)
  have hl : lv_has ls 1 [(0, .int (nI k))] := hl
  refine lv_sipush (v := 279) hx hb dn_G_keyPlace_0 (by decide) ?_
  refine lv_iload_n hx hb dn_G_keyPlace_3 rfl (lv_at hl 0 rfl) ?_
  refine gr_addN hx hb 279 k rfl rfl dn_G_keyPlace_4 ?_
  exact hret (nI (279 + k)) () _ _ _ _ rfl rfl hP hD hS dn_G_keyPlace_5

set_option maxRecDepth 100000 in
set_option maxHeartbeats 4000000 in
theorem c_G_read (l : Launch) (dC : Nat → ClassId) (dI : Nat → Nat → Nat) (cI cZ : ClassId) (a0 a1 a2 : Nat) (f g : Nat → Int32) (k : Nat) (hk : k < 292) : gc_I l yn_G_read (gw yn_G_read cn_G_read 2 (some .int)) (rm_ 1 20) (dC, dI) vwCl (gT cI cZ) [.ref a0, .int (nI k)] [(a0, .inr (3, [.ref a1, .ref a2])), (a1, .inl (cI, 292, .inl f)), (a2, .inl (cI, 40, .inl g))] (fun r (_ : Unit) => r = f k) (fun _ => [(a0, .inr (3, [.ref a1, .ref a2])), (a1, .inl (cI, 292, .inl f)), (a2, .inl (cI, 40, .inl g))]) := by
  refine gc_I_of (cc := cn_G_read) (maxL := 2) (ty := .int) (by decide) rfl (Nat.le_of_ble_eq_true rfl) ?_
  intro pp ee ss mm ar be me cd A Q ls H0 H locs hx hb hml hown hts hK hP hD hS hA hl hret
  have hw : ∀ w ∈ gw_T, w.before ar ss = true := fun w h => hts w (List.mem_cons_of_mem _ h)
  have hl : lv_has ls 2 [(0, .ref a0), (1, .int (nI k))] := hl
  refine lv_iload_n hx hb dn_G_read_0 rfl (lv_at hl 1 rfl) ?_
  refine gc_s0 (v := 1) (As := [.int (nI k)]) (rest := []) ⟨hx, hb, hml, hown, hw⟩ (c_G_hasPlaceN l dC dI cI cZ k (by omega)) (gw_cS 1 hw mw_202 mw_203 mw_2 mw_204 hd_G_hasPlace ⟨Nat.le_of_ble_eq_true rfl, Nat.le_of_ble_eq_true rfl⟩) hK hP hD hS hA rfl hl.1 rfl (Nat.le_of_ble_eq_true rfl) dn_G_read_1 ⟨Nat.zero_le _, Nat.zero_le _⟩ (fun H locs hP hD hS => ?_)
  refine lv_if_eq (tgt := 16) hx hb dn_G_read_4 (by decide) (fun h => absurd h (by decide)) (fun _ => ?_)
  refine lv_aload_n hx hb dn_G_read_7 rfl (lv_at hl 0 rfl) ?_
  refine va_get (D := (dC, dI)) (ci := 3) (v := .ref a1) (C := rn_G) (T := tn_G) (N := 2) hx hb hw ml_G hown hK hP 0 rfl rfl 0 (by decide) (hw _ mw_23) (fun _ h9 => h9) rfl dn_G_read_8 ?_
  refine lv_iload_n hx hb dn_G_read_11 rfl (lv_at hl 1 rfl) ?_
  refine gr_iald hx hb hK hP 1 0 rfl rfl k rfl (by omega) (by decide) dn_G_read_12 ?_
  refine lv_goto (tgt := 17) hx hb dn_G_read_13 (by decide) ?_
  exact hret (f k) () _ _ _ _ rfl rfl hP hD hS dn_G_read_17

set_option maxRecDepth 100000 in
set_option maxHeartbeats 4000000 in
theorem c_G_store (l : Launch) (dC : Nat → ClassId) (dI : Nat → Nat → Nat) (cI cZ : ClassId) (a0 a1 a2 : Nat) (f g : Nat → Int32) (k : Nat) (hk : k < 292) (v : Int32) : gc_V l yn_G_store (gw yn_G_store cn_G_store 3 none) (rm_ 1 20) (dC, dI) vwCl (gT cI cZ) [.ref a0, .int (nI k), .int v] [(a0, .inr (3, [.ref a1, .ref a2])), (a1, .inl (cI, 292, .inl f)), (a2, .inl (cI, 40, .inl g))] (fun (_ : Unit) => True) (fun _ => [(a0, .inr (3, [.ref a1, .ref a2])), (a1, .inl (cI, 292, .inl (upd f k v))), (a2, .inl (cI, 40, .inl g))]) := by
  refine gc_V_of (cc := cn_G_store) (maxL := 3) (by decide) rfl (Nat.le_of_ble_eq_true rfl) ?_
  intro pp ee ss mm ar be me cd A Q ls H0 H locs hx hb hml hown hts hK hP hD hS hA hl hret
  have hw : ∀ w ∈ gw_T, w.before ar ss = true := fun w h => hts w (List.mem_cons_of_mem _ h)
  have hl : lv_has ls 3 [(0, .ref a0), (1, .int (nI k)), (2, .int v)] := hl
  refine lv_iload_n hx hb dn_G_store_0 rfl (lv_at hl 1 rfl) ?_
  refine gc_s0 (v := 1) (As := [.int (nI k)]) (rest := []) ⟨hx, hb, hml, hown, hw⟩ (c_G_hasPlaceN l dC dI cI cZ k (by omega)) (gw_cS 1 hw mw_202 mw_203 mw_2 mw_204 hd_G_hasPlace ⟨Nat.le_of_ble_eq_true rfl, Nat.le_of_ble_eq_true rfl⟩) hK hP hD hS hA rfl hl.1 rfl (Nat.le_of_ble_eq_true rfl) dn_G_store_1 ⟨Nat.zero_le _, Nat.zero_le _⟩ (fun H locs hP hD hS => ?_)
  refine lv_if_eq (tgt := 14) hx hb dn_G_store_4 (by decide) (fun h => absurd h (by decide)) (fun _ => ?_)
  refine lv_aload_n hx hb dn_G_store_7 rfl (lv_at hl 0 rfl) ?_
  refine va_get (D := (dC, dI)) (ci := 3) (v := .ref a1) (C := rn_G) (T := tn_G) (N := 2) hx hb hw ml_G hown hK hP 0 rfl rfl 0 (by decide) (hw _ mw_23) (fun _ h9 => h9) rfl dn_G_store_8 ?_
  refine lv_iload_n hx hb dn_G_store_11 rfl (lv_at hl 1 rfl) ?_
  refine lv_iload_n hx hb dn_G_store_12 rfl (lv_at hl 2 rfl) ?_
  refine gr_iast hx hb hK hP hD hS 1 0 rfl rfl k rfl (by omega) (by decide) dn_G_store_13 (fun H locs hP hD hS => ?_)
  have hP : va_P (dC, dI) vwCl [(a0, .inr (3, [.ref a1, .ref a2])), (a1, .inl (cI, 292, .inl (upd f k v))), (a2, .inl (cI, 40, .inl g))] H := hP
  have hD : va_D A [(a0, .inr (3, [.ref a1, .ref a2])), (a1, .inl (cI, 292, .inl (upd f k v))), (a2, .inl (cI, 40, .inl g))] := hD
  exact hret () _ _ _ _ trivial hP hD hS dn_G_store_14

set_option maxRecDepth 100000 in
set_option maxHeartbeats 4000000 in
theorem c_G_field (l : Launch) (dC : Nat → ClassId) (dI : Nat → Nat → Nat) (cI cZ : ClassId) (a0 a1 a2 : Nat) (f g : Nat → Int32) (r j : Nat) (hk : 7 * r + j < 292) : gc_I l yn_G_field (gw yn_G_field cn_G_field 3 (some .int)) (rm_ 2 41) (dC, dI) vwCl (gT cI cZ) [.ref a0, .int (nI r), .int (nI j)] [(a0, .inr (3, [.ref a1, .ref a2])), (a1, .inl (cI, 292, .inl f)), (a2, .inl (cI, 40, .inl g))] (fun x (_ : Unit) => x = f (7 * r + j)) (fun _ => [(a0, .inr (3, [.ref a1, .ref a2])), (a1, .inl (cI, 292, .inl f)), (a2, .inl (cI, 40, .inl g))]) := by
  refine gc_I_of (cc := cn_G_field) (maxL := 3) (ty := .int) (by decide) rfl (Nat.le_of_ble_eq_true rfl) ?_
  intro pp ee ss mm ar be me cd A Q ls H0 H locs hx hb hml hown hts hK hP hD hS hA hl hret
  have hw : ∀ w ∈ gw_T, w.before ar ss = true := fun w h => hts w (List.mem_cons_of_mem _ h)
  have hl : lv_has ls 3 [(0, .ref a0), (1, .int (nI r)), (2, .int (nI j))] := hl
  refine lv_aload_n hx hb dn_G_field_0 rfl (lv_at hl 0 rfl) ?_
  refine lv_iload_n hx hb dn_G_field_1 rfl (lv_at hl 1 rfl) ?_
  refine gc_s0 (v := (nI (7 * r))) (As := [.int (nI r)]) (rest := [.ref a0]) ⟨hx, hb, hml, hown, hw⟩ (c_G_recordPlace l dC dI cI cZ r) (gw_cS 1 hw mw_269 mw_214 mw_2 mw_215 hd_G_recordPlace ⟨Nat.le_of_ble_eq_true rfl, Nat.le_of_ble_eq_true rfl⟩) hK hP hD hS hA rfl hl.1 rfl (Nat.le_of_ble_eq_true rfl) dn_G_field_2 ⟨Nat.zero_le _, Nat.zero_le _⟩ (fun H locs hP hD hS => ?_)
  refine lv_iload_n hx hb dn_G_field_5 rfl (lv_at hl 2 rfl) ?_
  refine gr_addN hx hb (7 * r) j rfl rfl dn_G_field_6 ?_
  refine gc_vi (pre := []) (wc := [(a0, .inr (3, [.ref a1, .ref a2])), (a1, .inl (cI, 292, .inl f)), (a2, .inl (cI, 40, .inl g))]) (po := []) (As := [.int (nI ((7 * r) + j))]) (rest := []) ⟨hx, hb, hml, hown, hw⟩ (c_G_read l dC dI cI cZ a0 a1 a2 f g ((7 * r) + j) (by omega)) (gw_cV 1 hw mw_270 mw_271 mw_272 mw_2 mw_273 hd_G_read ⟨Nat.le_of_ble_eq_true rfl, Nat.le_of_ble_eq_true rfl⟩) (ci := 3) rfl rfl rfl hK hP hD hS hA rfl hl.1 rfl (Nat.le_of_ble_eq_true rfl) dn_G_field_7 ⟨Nat.zero_le _, Nat.zero_le _⟩ (fun r7 u7 H locs hc7 hP hD hS => ?_)
  subst hc7
  have hP : va_P (dC, dI) vwCl [(a0, .inr (3, [.ref a1, .ref a2])), (a1, .inl (cI, 292, .inl f)), (a2, .inl (cI, 40, .inl g))] H := hP
  have hD : va_D A [(a0, .inr (3, [.ref a1, .ref a2])), (a1, .inl (cI, 292, .inl f)), (a2, .inl (cI, 40, .inl g))] := hD
  exact hret (f ((7 * r) + j)) () _ _ _ _ rfl rfl hP hD hS dn_G_field_10

set_option maxRecDepth 100000 in
set_option maxHeartbeats 4000000 in
theorem c_G_field0 (l : Launch) (dC : Nat → ClassId) (dI : Nat → Nat → Nat) (cI cZ : ClassId) (a0 a1 a2 : Nat) (f g : Nat → Int32) (r : Nat) (hk : 7 * r < 292) : gc_I l yn_G_field (gw yn_G_field cn_G_field 3 (some .int)) (rm_ 2 41) (dC, dI) vwCl (gT cI cZ) [.ref a0, .int (nI r), .int 0] [(a0, .inr (3, [.ref a1, .ref a2])), (a1, .inl (cI, 292, .inl f)), (a2, .inl (cI, 40, .inl g))] (fun x (_ : Unit) => x = f (7 * r)) (fun _ => [(a0, .inr (3, [.ref a1, .ref a2])), (a1, .inl (cI, 292, .inl f)), (a2, .inl (cI, 40, .inl g))]) := by
  refine gc_I_of (cc := cn_G_field) (maxL := 3) (ty := .int) (by decide) rfl (Nat.le_of_ble_eq_true rfl) ?_
  intro pp ee ss mm ar be me cd A Q ls H0 H locs hx hb hml hown hts hK hP hD hS hA hl hret
  have hw : ∀ w ∈ gw_T, w.before ar ss = true := fun w h => hts w (List.mem_cons_of_mem _ h)
  have hl : lv_has ls 3 [(0, .ref a0), (1, .int (nI r)), (2, .int 0)] := hl
  refine lv_aload_n hx hb dn_G_field_0 rfl (lv_at hl 0 rfl) ?_
  refine lv_iload_n hx hb dn_G_field_1 rfl (lv_at hl 1 rfl) ?_
  refine gc_s0 (v := (nI (7 * r))) (As := [.int (nI r)]) (rest := [.ref a0]) ⟨hx, hb, hml, hown, hw⟩ (c_G_recordPlace l dC dI cI cZ r) (gw_cS 1 hw mw_269 mw_214 mw_2 mw_215 hd_G_recordPlace ⟨Nat.le_of_ble_eq_true rfl, Nat.le_of_ble_eq_true rfl⟩) hK hP hD hS hA rfl hl.1 rfl (Nat.le_of_ble_eq_true rfl) dn_G_field_2 ⟨Nat.zero_le _, Nat.zero_le _⟩ (fun H locs hP hD hS => ?_)
  refine lv_iload_n hx hb dn_G_field_5 rfl (lv_at hl 2 rfl) ?_
  refine gr_addN hx hb (7 * r) 0 rfl rfl dn_G_field_6 ?_
  refine gc_vi (pre := []) (wc := [(a0, .inr (3, [.ref a1, .ref a2])), (a1, .inl (cI, 292, .inl f)), (a2, .inl (cI, 40, .inl g))]) (po := []) (As := [.int (nI ((7 * r) + 0))]) (rest := []) ⟨hx, hb, hml, hown, hw⟩ (c_G_read l dC dI cI cZ a0 a1 a2 f g ((7 * r) + 0) (by omega)) (gw_cV 1 hw mw_270 mw_271 mw_272 mw_2 mw_273 hd_G_read ⟨Nat.le_of_ble_eq_true rfl, Nat.le_of_ble_eq_true rfl⟩) (ci := 3) rfl rfl rfl hK hP hD hS hA rfl hl.1 rfl (Nat.le_of_ble_eq_true rfl) dn_G_field_7 ⟨Nat.zero_le _, Nat.zero_le _⟩ (fun r7 u7 H locs hc7 hP hD hS => ?_)
  subst hc7
  have hP : va_P (dC, dI) vwCl [(a0, .inr (3, [.ref a1, .ref a2])), (a1, .inl (cI, 292, .inl f)), (a2, .inl (cI, 40, .inl g))] H := hP
  have hD : va_D A [(a0, .inr (3, [.ref a1, .ref a2])), (a1, .inl (cI, 292, .inl f)), (a2, .inl (cI, 40, .inl g))] := hD
  exact hret (f ((7 * r) + 0)) () _ _ _ _ rfl rfl hP hD hS dn_G_field_10

set_option maxRecDepth 100000 in
set_option maxHeartbeats 4000000 in
theorem c_G_leaf (l : Launch) (dC : Nat → ClassId) (dI : Nat → Nat → Nat) (cI cZ : ClassId) (a0 a1 a2 : Nat) (f g : Nat → Int32) (r : Nat) (hk : r < 40) : gc_I l yn_G_leaf (gw yn_G_leaf cn_G_leaf 2 (some .int)) (rm_ 3 66) (dC, dI) vwCl (gT cI cZ) [.ref a0, .int (nI r)] [(a0, .inr (3, [.ref a1, .ref a2])), (a1, .inl (cI, 292, .inl f)), (a2, .inl (cI, 40, .inl g))] (fun x (_ : Unit) => x = hf_leaf f (7 * r)) (fun _ => [(a0, .inr (3, [.ref a1, .ref a2])), (a1, .inl (cI, 292, .inl f)), (a2, .inl (cI, 40, .inl g))]) := by
  refine gc_I_of (cc := cn_G_leaf) (maxL := 2) (ty := .int) (by decide) rfl (Nat.le_of_ble_eq_true rfl) ?_
  intro pp ee ss mm ar be me cd A Q ls H0 H locs hx hb hml hown hts hK hP hD hS hA hl hret
  have hw : ∀ w ∈ gw_T, w.before ar ss = true := fun w h => hts w (List.mem_cons_of_mem _ h)
  have hl : lv_has ls 2 [(0, .ref a0), (1, .int (nI r))] := hl
  refine lv_aload_n hx hb dn_G_leaf_0 rfl (lv_at hl 0 rfl) ?_
  refine va_get (D := (dC, dI)) (ci := 3) (v := .ref a1) (C := rn_G) (T := tn_G) (N := 2) hx hb hw ml_G hown hK hP 0 rfl rfl 0 (by decide) (hw _ mw_23) (fun _ h9 => h9) rfl dn_G_leaf_1 ?_
  refine lv_iload_n hx hb dn_G_leaf_4 rfl (lv_at hl 1 rfl) ?_
  refine gc_s0 (v := (nI (7 * r))) (As := [.int (nI r)]) (rest := [.ref a1]) ⟨hx, hb, hml, hown, hw⟩ (c_G_recordPlace l dC dI cI cZ r) (gw_cS 1 hw mw_269 mw_214 mw_2 mw_215 hd_G_recordPlace ⟨Nat.le_of_ble_eq_true rfl, Nat.le_of_ble_eq_true rfl⟩) hK hP hD hS hA rfl hl.1 rfl (Nat.le_of_ble_eq_true rfl) dn_G_leaf_5 ⟨Nat.zero_le _, Nat.zero_le _⟩ (fun H locs hP hD hS => ?_)
  refine gc_si (pre := [(a0, .inr (3, [.ref a1, .ref a2]))]) (wc := [(a1, .inl (cI, 292, .inl f))]) (po := [(a2, .inl (cI, 40, .inl g))]) (As := [.ref a1, .int (nI (7 * r))]) (rest := []) ⟨hx, hb, hml, hown, hw⟩ (c_H_leafAt l dC dI cI cZ a1 f 292 (7 * r) (by omega) (by decide)) (gw_cS 2 hw mw_309 mw_189 mw_7 mw_190 hd_H_leafAt ⟨Nat.le_of_ble_eq_true rfl, Nat.le_of_ble_eq_true rfl⟩) hK hP hD hS hA rfl hl.1 rfl (Nat.le_of_ble_eq_true rfl) dn_G_leaf_8 ⟨Nat.zero_le _, Nat.zero_le _⟩ (fun r8 u8 H locs hc8 hP hD hS => ?_)
  subst hc8
  have hP : va_P (dC, dI) vwCl [(a0, .inr (3, [.ref a1, .ref a2])), (a1, .inl (cI, 292, .inl f)), (a2, .inl (cI, 40, .inl g))] H := hP
  have hD : va_D A [(a0, .inr (3, [.ref a1, .ref a2])), (a1, .inl (cI, 292, .inl f)), (a2, .inl (cI, 40, .inl g))] := hD
  exact hret (hf_leaf f (7 * r)) () _ _ _ _ rfl rfl hP hD hS dn_G_leaf_11

set_option maxRecDepth 100000 in
set_option maxHeartbeats 4000000 in
theorem c_G_checkIsRight (l : Launch) (dC : Nat → ClassId) (dI : Nat → Nat → Nat) (cI cZ : ClassId) (a0 a1 a2 : Nat) (f g : Nat → Int32) (r : Nat) (hk : r < 40) : gc_I l yn_G_checkIsRight (gw yn_G_checkIsRight cn_G_checkIsRight 2 (some .boolean)) (rm_ 4 87) (dC, dI) vwCl (gT cI cZ) [.ref a0, .int (nI r)] [(a0, .inr (3, [.ref a1, .ref a2])), (a1, .inl (cI, 292, .inl f)), (a2, .inl (cI, 40, .inl g))] (fun x (_ : Unit) => (x = 1 ∧ f (7 * r + 6) = (hf_leaf f (7 * r) ||| 1)) ∨ (x = 0 ∧ ¬ f (7 * r + 6) = (hf_leaf f (7 * r) ||| 1))) (fun _ => [(a0, .inr (3, [.ref a1, .ref a2])), (a1, .inl (cI, 292, .inl f)), (a2, .inl (cI, 40, .inl g))]) := by
  refine gc_I_of (cc := cn_G_checkIsRight) (maxL := 2) (ty := .boolean) (by decide) rfl (Nat.le_of_ble_eq_true rfl) ?_
  intro pp ee ss mm ar be me cd A Q ls H0 H locs hx hb hml hown hts hK hP hD hS hA hl hret
  have hw : ∀ w ∈ gw_T, w.before ar ss = true := fun w h => hts w (List.mem_cons_of_mem _ h)
  have hl : lv_has ls 2 [(0, .ref a0), (1, .int (nI r))] := hl
  refine lv_aload_n hx hb dn_G_checkIsRight_0 rfl (lv_at hl 0 rfl) ?_
  refine lv_iload_n hx hb dn_G_checkIsRight_1 rfl (lv_at hl 1 rfl) ?_
  refine lv_bipush (v := 6) hx hb dn_G_checkIsRight_2 (by decide) ?_
  refine gc_vi (pre := []) (wc := [(a0, .inr (3, [.ref a1, .ref a2])), (a1, .inl (cI, 292, .inl f)), (a2, .inl (cI, 40, .inl g))]) (po := []) (As := [.int (nI r), .int 6]) (rest := []) ⟨hx, hb, hml, hown, hw⟩ (c_G_field l dC dI cI cZ a0 a1 a2 f g r 6 (by omega)) (gw_cV 2 hw mw_434 mw_266 mw_267 mw_2 mw_268 hd_G_field ⟨Nat.le_of_ble_eq_true rfl, Nat.le_of_ble_eq_true rfl⟩) (ci := 3) rfl rfl rfl hK hP hD hS hA rfl hl.1 rfl (Nat.le_of_ble_eq_true rfl) dn_G_checkIsRight_4 ⟨Nat.zero_le _, Nat.zero_le _⟩ (fun r4 u4 H locs hc4 hP hD hS => ?_)
  subst hc4
  have hP : va_P (dC, dI) vwCl [(a0, .inr (3, [.ref a1, .ref a2])), (a1, .inl (cI, 292, .inl f)), (a2, .inl (cI, 40, .inl g))] H := hP
  have hD : va_D A [(a0, .inr (3, [.ref a1, .ref a2])), (a1, .inl (cI, 292, .inl f)), (a2, .inl (cI, 40, .inl g))] := hD
  refine lv_aload_n hx hb dn_G_checkIsRight_7 rfl (lv_at hl 0 rfl) ?_
  refine lv_iload_n hx hb dn_G_checkIsRight_8 rfl (lv_at hl 1 rfl) ?_
  refine gc_vi (pre := []) (wc := [(a0, .inr (3, [.ref a1, .ref a2])), (a1, .inl (cI, 292, .inl f)), (a2, .inl (cI, 40, .inl g))]) (po := []) (As := [.int (nI r)]) (rest := [.int (f (7 * r + 6))]) ⟨hx, hb, hml, hown, hw⟩ (c_G_leaf l dC dI cI cZ a0 a1 a2 f g r (by omega)) (gw_cV 1 hw mw_305 mw_307 mv_12 mw_2 mw_308 hd_G_leaf ⟨Nat.le_of_ble_eq_true rfl, Nat.le_of_ble_eq_true rfl⟩) (ci := 3) rfl rfl rfl hK hP hD hS hA rfl hl.1 rfl (Nat.le_of_ble_eq_true rfl) dn_G_checkIsRight_9 ⟨Nat.zero_le _, Nat.zero_le _⟩ (fun r9 u9 H locs hc9 hP hD hS => ?_)
  subst hc9
  have hP : va_P (dC, dI) vwCl [(a0, .inr (3, [.ref a1, .ref a2])), (a1, .inl (cI, 292, .inl f)), (a2, .inl (cI, 40, .inl g))] H := hP
  have hD : va_D A [(a0, .inr (3, [.ref a1, .ref a2])), (a1, .inl (cI, 292, .inl f)), (a2, .inl (cI, 40, .inl g))] := hD
  refine lv_iconst (v := 1) hx hb dn_G_checkIsRight_12 (by decide) ?_
  refine lv_ior hx hb dn_G_checkIsRight_13 ?_
  refine lv_icmp_ne (tgt := 21) hx hb dn_G_checkIsRight_14 (by decide) (fun h14 => ?_) (fun h14 => ?_)
  · skip
    refine lv_iconst (v := 0) hx hb dn_G_checkIsRight_21 (by decide) ?_
    exact hret 0 () _ _ _ _ (Or.inr ⟨rfl, h14⟩) rfl hP hD hS dn_G_checkIsRight_22
  · skip
    refine lv_iconst (v := 1) hx hb dn_G_checkIsRight_17 (by decide) ?_
    refine lv_goto (tgt := 22) hx hb dn_G_checkIsRight_18 (by decide) ?_
    exact hret 1 () _ _ _ _ (Or.inl ⟨rfl, h14⟩) rfl hP hD hS dn_G_checkIsRight_22

set_option maxRecDepth 100000 in
set_option maxHeartbeats 4000000 in
theorem c_G_wipeRecordsFrom (l : Launch) (dC : Nat → ClassId) (dI : Nat → Nat → Nat) (cI cZ : ClassId) (a0 a1 a2 : Nat) (f g : Nat → Int32) (n : Nat) (hk : n ≤ 40) : gc_V l yn_G_wipeRecordsFrom (gw yn_G_wipeRecordsFrom cn_G_wipeRecordsFrom 4 none) (rm_ 2 42) (dC, dI) vwCl (gT cI cZ) [.ref a0, .int (nI n)] [(a0, .inr (3, [.ref a1, .ref a2])), (a1, .inl (cI, 292, .inl f)), (a2, .inl (cI, 40, .inl g))] (fun (_ : Unit) => True) (fun _ => [(a0, .inr (3, [.ref a1, .ref a2])), (a1, .inl (cI, 292, .inl (wp_p f n 280))), (a2, .inl (cI, 40, .inl g))]) := by
  refine gc_V_of (cc := cn_G_wipeRecordsFrom) (maxL := 4) (by decide) rfl (Nat.le_of_ble_eq_true rfl) ?_
  intro pp ee ss mm ar be me cd A Q ls H0 H locs hx hb hml hown hts hK hP hD hS hA hl hret
  have hw : ∀ w ∈ gw_T, w.before ar ss = true := fun w h => hts w (List.mem_cons_of_mem _ h)
  have hl : lv_has ls 4 [(0, .ref a0), (1, .int (nI n))] := hl
  refine lv_bipush (v := 40) hx hb dn_G_wipeRecordsFrom_0 (by decide) ?_
  refine gc_s0 (v := (nI (7 * 40))) (As := [.int 40]) (rest := []) ⟨hx, hb, hml, hown, hw⟩ (c_G_recordPlace l dC dI cI cZ 40) (gw_cS 1 hw mw_269 mw_214 mw_2 mw_215 hd_G_recordPlace ⟨Nat.le_of_ble_eq_true rfl, Nat.le_of_ble_eq_true rfl⟩) hK hP hD hS hA rfl hl.1 rfl (Nat.le_of_ble_eq_true rfl) dn_G_wipeRecordsFrom_2 ⟨Nat.zero_le _, Nat.zero_le _⟩ (fun H locs hP hD hS => ?_)
  refine lv_istore_n (lv' := [(2, .int (nI (7 * 40))), (0, .ref a0), (1, .int (nI n))]) hx hb dn_G_wipeRecordsFrom_5 rfl hl (by decide) rfl (fun ls hl => ?_)
  refine lv_iload_n hx hb dn_G_wipeRecordsFrom_6 rfl (lv_at hl 2 rfl) ?_
  refine gc_s0 (v := (nI (7 * n))) (As := [.int (nI n)]) (rest := []) ⟨hx, hb, hml, hown, hw⟩ (c_G_recordPlace l dC dI cI cZ n) (gw_cS 1 hw mw_269 mw_214 mw_2 mw_215 hd_G_recordPlace ⟨Nat.le_of_ble_eq_true rfl, Nat.le_of_ble_eq_true rfl⟩) hK hP hD hS hA rfl hl.1 rfl (Nat.le_of_ble_eq_true rfl) dn_G_wipeRecordsFrom_7 ⟨Nat.zero_le _, Nat.zero_le _⟩ (fun H locs hP hD hS => ?_)
  refine lv_istore_n (lv' := [(3, .int (nI (7 * n))), (2, .int (nI (7 * 40))), (0, .ref a0), (1, .int (nI n))]) hx hb dn_G_wipeRecordsFrom_10 rfl hl (by decide) rfl (fun ls hl => ?_)
  rw [← wp_p_0 f n] at hP hD
  have hP : va_P (dC, dI) vwCl [(a0, .inr (3, [.ref a1, .ref a2])), (a1, .inl (cI, 292, .inl (wp_p f n (7 * n)))), (a2, .inl (cI, 40, .inl g))] H := hP
  have hD : va_D A [(a0, .inr (3, [.ref a1, .ref a2])), (a1, .inl (cI, 292, .inl (wp_p f n (7 * n)))), (a2, .inl (cI, 40, .inl g))] := hD
  have lp11 : ∀ (n11_ : Nat) (a : Nat) (ls : Array Slot) (H : Heap) (locs : List Loc), 280 - a = n11_ → lv_has ls 4 [(0, .ref a0), (1, .int (nI n)), (2, .int (nI (7 * 40))), (3, .int (nI a))] → va_P (dC, dI) vwCl [(a0, .inr (3, [.ref a1, .ref a2])), (a1, .inl (cI, 292, .inl (wp_p f n a))), (a2, .inl (cI, 40, .inl g))] H → va_D A [(a0, .inr (3, [.ref a1, .ref a2])), (a1, .inl (cI, 292, .inl (wp_p f n a))), (a2, .inl (cI, 40, .inl g))] → va_S A H0 H locs → (7 * n ≤ a) → (a ≤ 280) → W pp l ee (headSpec (gw yn_G_wipeRecordsFrom cn_G_wipeRecordsFrom 4 none) (rm_ 2 42)).room ss mm ar be me cd H locs 0 0 Q (F0 mm 11 ls []) := by
    intro n11_
    induction n11_ using Nat.strongRecOn with
    | ind n11_ ih11 =>
      intro a ls H locs hn11_ hl hP hD hS hi1 hi2
      refine lv_iload_n hx hb dn_G_wipeRecordsFrom_11 rfl (lv_at hl 3 rfl) ?_
      refine lv_iload_n hx hb dn_G_wipeRecordsFrom_12 rfl (lv_at hl 2 rfl) ?_
      refine gr_cge (tgt := 28) hx hb a (7 * 40) rfl rfl (by omega) (by omega) dn_G_wipeRecordsFrom_13 (by decide) (fun h13 => ?_) (fun h13 => ?_)
      · skip
        obtain rfl : 280 = a := by omega
        exact hret () _ _ _ _ trivial hP hD hS dn_G_wipeRecordsFrom_28
      · skip
        refine lv_aload_n hx hb dn_G_wipeRecordsFrom_16 rfl (lv_at hl 0 rfl) ?_
        refine lv_iload_n hx hb dn_G_wipeRecordsFrom_17 rfl (lv_at hl 3 rfl) ?_
        refine lv_iconst (v := 0) hx hb dn_G_wipeRecordsFrom_18 (by decide) ?_
        refine gc_vv (pre := []) (wc := [(a0, .inr (3, [.ref a1, .ref a2])), (a1, .inl (cI, 292, .inl (wp_p f n a))), (a2, .inl (cI, 40, .inl g))]) (po := []) (As := [.int (nI a), .int 0]) (rest := []) ⟨hx, hb, hml, hown, hw⟩ (c_G_store l dC dI cI cZ a0 a1 a2 (wp_p f n a) g a (by omega) 0) (gw_cV 2 hw mw_454 mw_199 mw_200 mw_2 mw_201 hd_G_store ⟨Nat.le_of_ble_eq_true rfl, Nat.le_of_ble_eq_true rfl⟩) (ci := 3) rfl rfl rfl hK hP hD hS hA rfl hl.1 rfl (Nat.le_of_ble_eq_true rfl) dn_G_wipeRecordsFrom_19 ⟨Nat.zero_le _, Nat.zero_le _⟩ (fun u19 H locs hc19 hP hD hS => ?_)
        have hP : va_P (dC, dI) vwCl [(a0, .inr (3, [.ref a1, .ref a2])), (a1, .inl (cI, 292, .inl (upd (wp_p f n a) a 0))), (a2, .inl (cI, 40, .inl g))] H := hP
        have hD : va_D A [(a0, .inr (3, [.ref a1, .ref a2])), (a1, .inl (cI, 292, .inl (upd (wp_p f n a) a 0))), (a2, .inl (cI, 40, .inl g))] := hD
        rw [show upd (wp_p f n a) a 0 = wp_p f n (a + 1) from (wp_p_s f (by omega))] at hP hD
        have hP : va_P (dC, dI) vwCl [(a0, .inr (3, [.ref a1, .ref a2])), (a1, .inl (cI, 292, .inl (wp_p f n (a + 1)))), (a2, .inl (cI, 40, .inl g))] H := hP
        have hD : va_D A [(a0, .inr (3, [.ref a1, .ref a2])), (a1, .inl (cI, 292, .inl (wp_p f n (a + 1)))), (a2, .inl (cI, 40, .inl g))] := hD
        refine lv_iinc (lv' := [(3, .int (nI (a + 1))), (0, .ref a0), (1, .int (nI n)), (2, .int (nI (7 * 40)))]) (v := (nI (a + 1))) (k := 3) hx hb dn_G_wipeRecordsFrom_22 hl rfl (nI_add a 1) (by decide) rfl (fun ls hl => ?_)
        refine lv_goto (tgt := 11) hx hb dn_G_wipeRecordsFrom_25 (by decide) ?_
        exact ih11 (280 - (a + 1)) (by omega) (a + 1) ls H locs rfl (lv_sub hl [1, 2, 3, 0] rfl) hP hD hS (by omega) (by omega)
  exact lp11 _ (7 * n) ls H locs rfl (lv_sub hl [2, 3, 1, 0] rfl) hP hD hS (Nat.le_refl _) (by omega)

set_option maxRecDepth 100000 in
set_option maxHeartbeats 4000000 in
theorem c_G_joinNeighbours (l : Launch) (dC : Nat → ClassId) (dI : Nat → Nat → Nat) (cI cZ : ClassId) (a0 a1 a2 : Nat) (f g : Nat → Int32) (w : Nat) (hw2 : 2 ≤ w) (hw40 : w ≤ 40) : gc_V l yn_G_joinNeighbours (gw yn_G_joinNeighbours cn_G_joinNeighbours 4 none) (rm_ 3 64) (dC, dI) vwCl (gT cI cZ) [.ref a0, .int (nI w)] [(a0, .inr (3, [.ref a1, .ref a2])), (a1, .inl (cI, 292, .inl f)), (a2, .inl (cI, 40, .inl g))] (fun (_ : Unit) => True) (fun _ => [(a0, .inr (3, [.ref a1, .ref a2])), (a1, .inl (cI, 292, .inl f)), (a2, .inl (cI, 40, .inl (tr_jn w g)))]) := by
  refine gc_V_of (cc := cn_G_joinNeighbours) (maxL := 4) (by decide) rfl (Nat.le_of_ble_eq_true rfl) ?_
  intro pp ee ss mm ar be me cd A Q ls H0 H locs hx hb hml hown hts hK hP hD hS hA hl hret
  have hw : ∀ w ∈ gw_T, w.before ar ss = true := fun w h => hts w (List.mem_cons_of_mem _ h)
  have hl : lv_has ls 4 [(0, .ref a0), (1, .int (nI w))] := hl
  refine lv_iload_n hx hb dn_G_joinNeighbours_0 rfl (lv_at hl 1 rfl) ?_
  refine lv_iconst (v := 2) hx hb dn_G_joinNeighbours_1 (by decide) ?_
  refine gr_divN hx hb w 2 rfl rfl (by omega) (by decide) (by decide) dn_G_joinNeighbours_2 ?_
  refine lv_istore_n (lv' := [(2, .int (nI (w / 2))), (0, .ref a0), (1, .int (nI w))]) hx hb dn_G_joinNeighbours_3 rfl hl (by decide) rfl (fun ls hl => ?_)
  refine lv_iconst (v := 0) hx hb dn_G_joinNeighbours_4 (by decide) ?_
  refine lv_istore_n (lv' := [(3, .int 0), (2, .int (nI (w / 2))), (0, .ref a0), (1, .int (nI w))]) hx hb dn_G_joinNeighbours_5 rfl hl (by decide) rfl (fun ls hl => ?_)
  rw [← tr_jp_0 g] at hP hD
  have hP : va_P (dC, dI) vwCl [(a0, .inr (3, [.ref a1, .ref a2])), (a1, .inl (cI, 292, .inl f)), (a2, .inl (cI, 40, .inl (tr_jp g 0)))] H := hP
  have hD : va_D A [(a0, .inr (3, [.ref a1, .ref a2])), (a1, .inl (cI, 292, .inl f)), (a2, .inl (cI, 40, .inl (tr_jp g 0)))] := hD
  have lp6 : ∀ (n6_ : Nat) (j : Nat) (ls : Array Slot) (H : Heap) (locs : List Loc), w / 2 - j = n6_ → lv_has ls 4 [(0, .ref a0), (1, .int (nI w)), (2, .int (nI (w / 2))), (3, .int (nI j))] → va_P (dC, dI) vwCl [(a0, .inr (3, [.ref a1, .ref a2])), (a1, .inl (cI, 292, .inl f)), (a2, .inl (cI, 40, .inl (tr_jp g j)))] H → va_D A [(a0, .inr (3, [.ref a1, .ref a2])), (a1, .inl (cI, 292, .inl f)), (a2, .inl (cI, 40, .inl (tr_jp g j)))] → va_S A H0 H locs → (j ≤ w / 2) → W pp l ee (headSpec (gw yn_G_joinNeighbours cn_G_joinNeighbours 4 none) (rm_ 3 64)).room ss mm ar be me cd H locs 0 0 Q (F0 mm 6 ls []) := by
    intro n6_
    induction n6_ using Nat.strongRecOn with
    | ind n6_ ih6 =>
      intro j ls H locs hn6_ hl hP hD hS hj
      refine lv_iload_n hx hb dn_G_joinNeighbours_6 rfl (lv_at hl 3 rfl) ?_
      refine lv_iload_n hx hb dn_G_joinNeighbours_7 rfl (lv_at hl 2 rfl) ?_
      refine gr_cge (tgt := 44) hx hb j (w / 2) rfl rfl (by omega) (by omega) dn_G_joinNeighbours_8 (by decide) (fun h8 => ?_) (fun h8 => ?_)
      · skip
        obtain rfl : w / 2 = j := by omega
        refine lv_iload_n hx hb dn_G_joinNeighbours_44 rfl (lv_at hl 1 rfl) ?_
        refine lv_iconst (v := 2) hx hb dn_G_joinNeighbours_45 (by decide) ?_
        refine gr_remN hx hb w 2 rfl rfl (by omega) (by decide) (by decide) dn_G_joinNeighbours_46 ?_
        refine lv_iconst (v := 1) hx hb dn_G_joinNeighbours_47 (by decide) ?_
        refine gr_cne (tgt := 65) hx hb (w % 2) 1 rfl rfl (by omega) (by decide) dn_G_joinNeighbours_48 (by decide) (fun h48 => ?_) (fun h48 => ?_)
        · skip
          rw [show tr_jp g (w / 2) = tr_jn w g from (by unfold tr_jn; rw [if_neg h48])] at hP hD
          have hP : va_P (dC, dI) vwCl [(a0, .inr (3, [.ref a1, .ref a2])), (a1, .inl (cI, 292, .inl f)), (a2, .inl (cI, 40, .inl (tr_jn w g)))] H := hP
          have hD : va_D A [(a0, .inr (3, [.ref a1, .ref a2])), (a1, .inl (cI, 292, .inl f)), (a2, .inl (cI, 40, .inl (tr_jn w g)))] := hD
          exact hret () _ _ _ _ trivial hP hD hS dn_G_joinNeighbours_65
        · skip
          refine lv_aload_n hx hb dn_G_joinNeighbours_51 rfl (lv_at hl 0 rfl) ?_
          refine va_get (D := (dC, dI)) (ci := 3) (v := .ref a2) (C := rn_G) (T := tn_G) (N := 2) hx hb hw ml_G hown hK hP 0 rfl rfl 1 (by decide) (hw _ mw_24) (fun _ h9 => h9) rfl dn_G_joinNeighbours_52 ?_
          refine lv_iload_n hx hb dn_G_joinNeighbours_55 rfl (lv_at hl 2 rfl) ?_
          refine lv_aload_n hx hb dn_G_joinNeighbours_56 rfl (lv_at hl 0 rfl) ?_
          refine va_get (D := (dC, dI)) (ci := 3) (v := .ref a2) (C := rn_G) (T := tn_G) (N := 2) hx hb hw ml_G hown hK hP 0 rfl rfl 1 (by decide) (hw _ mw_24) (fun _ h9 => h9) rfl dn_G_joinNeighbours_57 ?_
          refine lv_iload_n hx hb dn_G_joinNeighbours_60 rfl (lv_at hl 1 rfl) ?_
          refine lv_iconst (v := 1) hx hb dn_G_joinNeighbours_61 (by decide) ?_
          refine gr_subN hx hb w 1 rfl rfl (by omega) dn_G_joinNeighbours_62 ?_
          refine gr_iald hx hb hK hP 2 0 rfl rfl (w - 1) rfl (by omega) (by decide) dn_G_joinNeighbours_63 ?_
          refine gr_top (y := (g (w - 1))) (tr_jp_w g hw2) ?_
          refine gr_iast hx hb hK hP hD hS 2 0 rfl rfl (w / 2) rfl (by omega) (by decide) dn_G_joinNeighbours_64 (fun H locs hP hD hS => ?_)
          have hP : va_P (dC, dI) vwCl [(a0, .inr (3, [.ref a1, .ref a2])), (a1, .inl (cI, 292, .inl f)), (a2, .inl (cI, 40, .inl (upd (tr_jp g (w / 2)) (w / 2) (g (w - 1)))))] H := hP
          have hD : va_D A [(a0, .inr (3, [.ref a1, .ref a2])), (a1, .inl (cI, 292, .inl f)), (a2, .inl (cI, 40, .inl (upd (tr_jp g (w / 2)) (w / 2) (g (w - 1)))))] := hD
          rw [show upd (tr_jp g (w / 2)) (w / 2) (g (w - 1)) = tr_jn w g from (by unfold tr_jn; rw [if_pos h48])] at hP hD
          have hP : va_P (dC, dI) vwCl [(a0, .inr (3, [.ref a1, .ref a2])), (a1, .inl (cI, 292, .inl f)), (a2, .inl (cI, 40, .inl (tr_jn w g)))] H := hP
          have hD : va_D A [(a0, .inr (3, [.ref a1, .ref a2])), (a1, .inl (cI, 292, .inl f)), (a2, .inl (cI, 40, .inl (tr_jn w g)))] := hD
          exact hret () _ _ _ _ trivial hP hD hS dn_G_joinNeighbours_65
      · skip
        refine lv_aload_n hx hb dn_G_joinNeighbours_11 rfl (lv_at hl 0 rfl) ?_
        refine va_get (D := (dC, dI)) (ci := 3) (v := .ref a2) (C := rn_G) (T := tn_G) (N := 2) hx hb hw ml_G hown hK hP 0 rfl rfl 1 (by decide) (hw _ mw_24) (fun _ h9 => h9) rfl dn_G_joinNeighbours_12 ?_
        refine lv_iload_n hx hb dn_G_joinNeighbours_15 rfl (lv_at hl 3 rfl) ?_
        refine lv_aload_n hx hb dn_G_joinNeighbours_16 rfl (lv_at hl 0 rfl) ?_
        refine va_get (D := (dC, dI)) (ci := 3) (v := .ref a2) (C := rn_G) (T := tn_G) (N := 2) hx hb hw ml_G hown hK hP 0 rfl rfl 1 (by decide) (hw _ mw_24) (fun _ h9 => h9) rfl dn_G_joinNeighbours_17 ?_
        refine lv_iconst (v := 2) hx hb dn_G_joinNeighbours_20 (by decide) ?_
        refine lv_iload_n hx hb dn_G_joinNeighbours_21 rfl (lv_at hl 3 rfl) ?_
        refine gr_mulN hx hb 2 j rfl rfl dn_G_joinNeighbours_22 ?_
        refine gr_iald hx hb hK hP 2 0 rfl rfl (2 * j) rfl (by omega) (by decide) dn_G_joinNeighbours_23 ?_
        refine gr_top (y := (g (2 * j))) (tr_jp_a g j) ?_
        refine lv_aload_n hx hb dn_G_joinNeighbours_24 rfl (lv_at hl 0 rfl) ?_
        refine va_get (D := (dC, dI)) (ci := 3) (v := .ref a2) (C := rn_G) (T := tn_G) (N := 2) hx hb hw ml_G hown hK hP 0 rfl rfl 1 (by decide) (hw _ mw_24) (fun _ h9 => h9) rfl dn_G_joinNeighbours_25 ?_
        refine lv_iconst (v := 2) hx hb dn_G_joinNeighbours_28 (by decide) ?_
        refine lv_iload_n hx hb dn_G_joinNeighbours_29 rfl (lv_at hl 3 rfl) ?_
        refine gr_mulN hx hb 2 j rfl rfl dn_G_joinNeighbours_30 ?_
        refine lv_iconst (v := 1) hx hb dn_G_joinNeighbours_31 (by decide) ?_
        refine gr_addN hx hb (2 * j) 1 rfl rfl dn_G_joinNeighbours_32 ?_
        refine gr_iald hx hb hK hP 2 0 rfl rfl ((2 * j) + 1) rfl (by omega) (by decide) dn_G_joinNeighbours_33 ?_
        refine gr_top (y := (g (2 * j + 1))) (tr_jp_b g j) ?_
        refine gc_s0 (v := (hf_node (g (2 * j)) (g (2 * j + 1)))) (As := [.int (g (2 * j)), .int (g (2 * j + 1))]) (rest := [.int (nI j), .ref a2]) ⟨hx, hb, hml, hown, hw⟩ (c_H_node l dC dI cI cZ (g (2 * j)) (g (2 * j + 1))) (gw_cS 2 hw mw_314 mw_315 mw_7 mw_316 hd_H_node ⟨Nat.le_of_ble_eq_true rfl, Nat.le_of_ble_eq_true rfl⟩) hK hP hD hS hA rfl hl.1 rfl (Nat.le_of_ble_eq_true rfl) dn_G_joinNeighbours_34 ⟨Nat.zero_le _, Nat.zero_le _⟩ (fun H locs hP hD hS => ?_)
        refine gr_iast hx hb hK hP hD hS 2 0 rfl rfl j rfl (by omega) (by decide) dn_G_joinNeighbours_37 (fun H locs hP hD hS => ?_)
        have hP : va_P (dC, dI) vwCl [(a0, .inr (3, [.ref a1, .ref a2])), (a1, .inl (cI, 292, .inl f)), (a2, .inl (cI, 40, .inl (upd (tr_jp g j) j (hf_node (g (2 * j)) (g (2 * j + 1))))))] H := hP
        have hD : va_D A [(a0, .inr (3, [.ref a1, .ref a2])), (a1, .inl (cI, 292, .inl f)), (a2, .inl (cI, 40, .inl (upd (tr_jp g j) j (hf_node (g (2 * j)) (g (2 * j + 1))))))] := hD
        rw [show upd (tr_jp g j) j (hf_node (g (2 * j)) (g (2 * j + 1))) = tr_jp g (j + 1) from (tr_jp_s g j)] at hP hD
        have hP : va_P (dC, dI) vwCl [(a0, .inr (3, [.ref a1, .ref a2])), (a1, .inl (cI, 292, .inl f)), (a2, .inl (cI, 40, .inl (tr_jp g (j + 1))))] H := hP
        have hD : va_D A [(a0, .inr (3, [.ref a1, .ref a2])), (a1, .inl (cI, 292, .inl f)), (a2, .inl (cI, 40, .inl (tr_jp g (j + 1))))] := hD
        refine lv_iinc (lv' := [(3, .int (nI (j + 1))), (0, .ref a0), (1, .int (nI w)), (2, .int (nI (w / 2)))]) (v := (nI (j + 1))) (k := 3) hx hb dn_G_joinNeighbours_38 hl rfl (nI_add j 1) (by decide) rfl (fun ls hl => ?_)
        refine lv_goto (tgt := 6) hx hb dn_G_joinNeighbours_41 (by decide) ?_
        exact ih6 (w / 2 - (j + 1)) (by omega) (j + 1) ls H locs rfl (lv_sub hl [1, 2, 3, 0] rfl) hP hD hS (by omega)
  exact lp6 _ 0 ls H locs rfl (lv_sub hl [2, 3, 1, 0] rfl) hP hD hS (Nat.zero_le _)

set_option maxRecDepth 100000 in
set_option maxHeartbeats 4000000 in
theorem c_G_tree (l : Launch) (dC : Nat → ClassId) (dI : Nat → Nat → Nat) (cI cZ : ClassId) (a0 a1 a2 : Nat) (f g : Nat → Int32) (a cn : Nat) (hc1 : 1 ≤ cn) (hac : a + cn ≤ 40) : gc_I l yn_G_tree (gw yn_G_tree cn_G_tree 4 (some .int)) (rm_ 4 87) (dC, dI) vwCl (gT cI cZ) [.ref a0, .int (nI a), .int (nI cn)] [(a0, .inr (3, [.ref a1, .ref a2])), (a1, .inl (cI, 292, .inl f)), (a2, .inl (cI, 40, .inl g))] (fun x (_ : Unit) => x = tr_of f g a cn 0) (fun _ => [(a0, .inr (3, [.ref a1, .ref a2])), (a1, .inl (cI, 292, .inl f)), (a2, .inl (cI, 40, .inl (tr_of f g a cn)))]) := by
  refine gc_I_of (cc := cn_G_tree) (maxL := 4) (ty := .int) (by decide) rfl (Nat.le_of_ble_eq_true rfl) ?_
  intro pp ee ss mm ar be me cd A Q ls H0 H locs hx hb hml hown hts hK hP hD hS hA hl hret
  have hw : ∀ w ∈ gw_T, w.before ar ss = true := fun w h => hts w (List.mem_cons_of_mem _ h)
  have hl : lv_has ls 4 [(0, .ref a0), (1, .int (nI a)), (2, .int (nI cn))] := hl
  refine lv_iload_n hx hb dn_G_tree_0 rfl (lv_at hl 1 rfl) ?_
  refine gr_zlt (tgt := 17) hx hb a rfl (by omega) dn_G_tree_1 (by decide) ?_
  refine lv_iload_n hx hb dn_G_tree_4 rfl (lv_at hl 2 rfl) ?_
  refine lv_iconst (v := 1) hx hb dn_G_tree_5 (by decide) ?_
  refine gr_clt (tgt := 17) hx hb cn 1 rfl rfl (by omega) (by decide) dn_G_tree_6 (by decide) (fun h6 => absurd h6 (by omega)) (fun h6 => ?_)
  refine lv_iload_n hx hb dn_G_tree_9 rfl (lv_at hl 2 rfl) ?_
  refine lv_bipush (v := 40) hx hb dn_G_tree_10 (by decide) ?_
  refine lv_iload_n hx hb dn_G_tree_12 rfl (lv_at hl 1 rfl) ?_
  refine gr_subN hx hb 40 a rfl rfl (by omega) dn_G_tree_13 ?_
  refine gr_cle (tgt := 19) hx hb cn (40 - a) rfl rfl (by omega) (by omega) dn_G_tree_14 (by decide) (fun h14 => ?_) (fun h14 => absurd h14 (by omega))
  refine lv_iconst (v := 0) hx hb dn_G_tree_19 (by decide) ?_
  refine lv_istore_n (lv' := [(3, .int 0), (0, .ref a0), (1, .int (nI a)), (2, .int (nI cn))]) hx hb dn_G_tree_20 rfl hl (by decide) rfl (fun ls hl => ?_)
  rw [← tr_lv_0 f g a] at hP hD
  have hP : va_P (dC, dI) vwCl [(a0, .inr (3, [.ref a1, .ref a2])), (a1, .inl (cI, 292, .inl f)), (a2, .inl (cI, 40, .inl (tr_lv f a g 0)))] H := hP
  have hD : va_D A [(a0, .inr (3, [.ref a1, .ref a2])), (a1, .inl (cI, 292, .inl f)), (a2, .inl (cI, 40, .inl (tr_lv f a g 0)))] := hD
  have lp21 : ∀ (n21_ : Nat) (j : Nat) (ls : Array Slot) (H : Heap) (locs : List Loc), cn - j = n21_ → lv_has ls 4 [(0, .ref a0), (1, .int (nI a)), (2, .int (nI cn)), (3, .int (nI j))] → va_P (dC, dI) vwCl [(a0, .inr (3, [.ref a1, .ref a2])), (a1, .inl (cI, 292, .inl f)), (a2, .inl (cI, 40, .inl (tr_lv f a g j)))] H → va_D A [(a0, .inr (3, [.ref a1, .ref a2])), (a1, .inl (cI, 292, .inl f)), (a2, .inl (cI, 40, .inl (tr_lv f a g j)))] → va_S A H0 H locs → (j ≤ cn) → W pp l ee (headSpec (gw yn_G_tree cn_G_tree 4 (some .int)) (rm_ 4 87)).room ss mm ar be me cd H locs 0 0 Q (F0 mm 21 ls []) := by
    intro n21_
    induction n21_ using Nat.strongRecOn with
    | ind n21_ ih21 =>
      intro j ls H locs hn21_ hl hP hD hS hj
      refine lv_iload_n hx hb dn_G_tree_21 rfl (lv_at hl 3 rfl) ?_
      refine lv_iload_n hx hb dn_G_tree_22 rfl (lv_at hl 2 rfl) ?_
      refine gr_cge (tgt := 45) hx hb j cn rfl rfl (by omega) (by omega) dn_G_tree_23 (by decide) (fun h23 => ?_) (fun h23 => ?_)
      · skip
        obtain rfl : cn = j := by omega
        refine lv_iload_n hx hb dn_G_tree_45 rfl (lv_at hl 2 rfl) ?_
        refine lv_istore_n (lv' := [(3, .int (nI cn)), (0, .ref a0), (1, .int (nI a)), (2, .int (nI cn))]) hx hb dn_G_tree_46 rfl hl (by decide) rfl (fun ls hl => ?_)
        have lp47 : ∀ (n47_ : Nat) (w : Nat) (k : Nat) (h : Nat → Int32) (ls : Array Slot) (H : Heap) (locs : List Loc), w = n47_ → lv_has ls 4 [(0, .ref a0), (1, .int (nI a)), (2, .int (nI cn)), (3, .int (nI w))] → va_P (dC, dI) vwCl [(a0, .inr (3, [.ref a1, .ref a2])), (a1, .inl (cI, 292, .inl f)), (a2, .inl (cI, 40, .inl h))] H → va_D A [(a0, .inr (3, [.ref a1, .ref a2])), (a1, .inl (cI, 292, .inl f)), (a2, .inl (cI, 40, .inl h))] → va_S A H0 H locs → (1 ≤ w) → (w ≤ 40) → (w ≤ 2 ^ k) → (tr_go k w h = tr_of f g a cn) → W pp l ee (headSpec (gw yn_G_tree cn_G_tree 4 (some .int)) (rm_ 4 87)).room ss mm ar be me cd H locs 0 0 Q (F0 mm 47 ls []) := by
          intro n47_
          induction n47_ using Nat.strongRecOn with
          | ind n47_ ih47 =>
            intro w k h ls H locs hn47_ hl hP hD hS hw1 hw40 hk hi
            refine lv_iload_n hx hb dn_G_tree_47 rfl (lv_at hl 3 rfl) ?_
            refine lv_iconst (v := 1) hx hb dn_G_tree_48 (by decide) ?_
            refine gr_cle (tgt := 66) hx hb w 1 rfl rfl (by omega) (by decide) dn_G_tree_49 (by decide) (fun h49 => ?_) (fun h49 => ?_)
            · skip
              obtain rfl : tr_of f g a cn = h := by rw [← hi, tr_go_1 _ _ h49]
              refine lv_aload_n hx hb dn_G_tree_66 rfl (lv_at hl 0 rfl) ?_
              refine va_get (D := (dC, dI)) (ci := 3) (v := .ref a2) (C := rn_G) (T := tn_G) (N := 2) hx hb hw ml_G hown hK hP 0 rfl rfl 1 (by decide) (hw _ mw_24) (fun _ h9 => h9) rfl dn_G_tree_67 ?_
              refine lv_iconst (v := 0) hx hb dn_G_tree_70 (by decide) ?_
              refine gr_iald hx hb hK hP 2 0 rfl rfl 0 rfl (by omega) (by decide) dn_G_tree_71 ?_
              exact hret ((tr_of f g a cn) 0) () _ _ _ _ rfl rfl hP hD hS dn_G_tree_72
            · skip
              rcases k with _ | k
              · exact absurd hk (by rw [Nat.pow_zero]; omega)
              refine lv_aload_n hx hb dn_G_tree_52 rfl (lv_at hl 0 rfl) ?_
              refine lv_iload_n hx hb dn_G_tree_53 rfl (lv_at hl 3 rfl) ?_
              refine gc_vv (pre := []) (wc := [(a0, .inr (3, [.ref a1, .ref a2])), (a1, .inl (cI, 292, .inl f)), (a2, .inl (cI, 40, .inl h))]) (po := []) (As := [.int (nI w)]) (rest := []) ⟨hx, hb, hml, hown, hw⟩ (c_G_joinNeighbours l dC dI cI cZ a0 a1 a2 f h w (by omega) (by omega)) (gw_cV 1 hw mw_310 mw_312 mv_13 mw_2 mw_313 hd_G_joinNeighbours ⟨Nat.le_of_ble_eq_true rfl, Nat.le_of_ble_eq_true rfl⟩) (ci := 3) rfl rfl rfl hK hP hD hS hA rfl hl.1 rfl (Nat.le_of_ble_eq_true rfl) dn_G_tree_54 ⟨Nat.zero_le _, Nat.zero_le _⟩ (fun u54 H locs hc54 hP hD hS => ?_)
              have hP : va_P (dC, dI) vwCl [(a0, .inr (3, [.ref a1, .ref a2])), (a1, .inl (cI, 292, .inl f)), (a2, .inl (cI, 40, .inl (tr_jn w h)))] H := hP
              have hD : va_D A [(a0, .inr (3, [.ref a1, .ref a2])), (a1, .inl (cI, 292, .inl f)), (a2, .inl (cI, 40, .inl (tr_jn w h)))] := hD
              refine lv_iload_n hx hb dn_G_tree_57 rfl (lv_at hl 3 rfl) ?_
              refine lv_iconst (v := 1) hx hb dn_G_tree_58 (by decide) ?_
              refine gr_addN hx hb w 1 rfl rfl dn_G_tree_59 ?_
              refine lv_iconst (v := 2) hx hb dn_G_tree_60 (by decide) ?_
              refine gr_divN hx hb (w + 1) 2 rfl rfl (by omega) (by decide) (by decide) dn_G_tree_61 ?_
              refine lv_istore_n (lv' := [(3, .int (nI ((w + 1) / 2))), (0, .ref a0), (1, .int (nI a)), (2, .int (nI cn))]) hx hb dn_G_tree_62 rfl hl (by decide) rfl (fun ls hl => ?_)
              refine lv_goto (tgt := 47) hx hb dn_G_tree_63 (by decide) ?_
              exact ih47 ((w + 1) / 2) (by omega) ((w + 1) / 2) k (tr_jn w h) ls H locs rfl (lv_sub hl [1, 2, 3, 0] rfl) hP hD hS (by omega) (by omega) (by rw [Nat.pow_succ] at hk; omega) (by rw [← hi, tr_go, if_neg (by omega)])
        exact lp47 _ cn 6 (tr_lv f a g cn) ls H locs rfl (lv_sub hl [1, 2, 3, 0] rfl) hP hD hS (by omega) (by omega) (Nat.le_trans (show cn ≤ 40 by omega) (by decide)) rfl
      · skip
        refine lv_aload_n hx hb dn_G_tree_26 rfl (lv_at hl 0 rfl) ?_
        refine va_get (D := (dC, dI)) (ci := 3) (v := .ref a2) (C := rn_G) (T := tn_G) (N := 2) hx hb hw ml_G hown hK hP 0 rfl rfl 1 (by decide) (hw _ mw_24) (fun _ h9 => h9) rfl dn_G_tree_27 ?_
        refine lv_iload_n hx hb dn_G_tree_30 rfl (lv_at hl 3 rfl) ?_
        refine lv_aload_n hx hb dn_G_tree_31 rfl (lv_at hl 0 rfl) ?_
        refine lv_iload_n hx hb dn_G_tree_32 rfl (lv_at hl 1 rfl) ?_
        refine lv_iload_n hx hb dn_G_tree_33 rfl (lv_at hl 3 rfl) ?_
        refine gr_addN hx hb a j rfl rfl dn_G_tree_34 ?_
        refine gc_vi (pre := []) (wc := [(a0, .inr (3, [.ref a1, .ref a2])), (a1, .inl (cI, 292, .inl f)), (a2, .inl (cI, 40, .inl (tr_lv f a g j)))]) (po := []) (As := [.int (nI (a + j))]) (rest := [.int (nI j), .ref a2]) ⟨hx, hb, hml, hown, hw⟩ (c_G_leaf l dC dI cI cZ a0 a1 a2 f (tr_lv f a g j) (a + j) (by omega)) (gw_cV 1 hw mw_305 mw_307 mv_12 mw_2 mw_308 hd_G_leaf ⟨Nat.le_of_ble_eq_true rfl, Nat.le_of_ble_eq_true rfl⟩) (ci := 3) rfl rfl rfl hK hP hD hS hA rfl hl.1 rfl (Nat.le_of_ble_eq_true rfl) dn_G_tree_35 ⟨Nat.zero_le _, Nat.zero_le _⟩ (fun r35 u35 H locs hc35 hP hD hS => ?_)
        subst hc35
        have hP : va_P (dC, dI) vwCl [(a0, .inr (3, [.ref a1, .ref a2])), (a1, .inl (cI, 292, .inl f)), (a2, .inl (cI, 40, .inl (tr_lv f a g j)))] H := hP
        have hD : va_D A [(a0, .inr (3, [.ref a1, .ref a2])), (a1, .inl (cI, 292, .inl f)), (a2, .inl (cI, 40, .inl (tr_lv f a g j)))] := hD
        refine gr_iast hx hb hK hP hD hS 2 0 rfl rfl j rfl (by omega) (by decide) dn_G_tree_38 (fun H locs hP hD hS => ?_)
        have hP : va_P (dC, dI) vwCl [(a0, .inr (3, [.ref a1, .ref a2])), (a1, .inl (cI, 292, .inl f)), (a2, .inl (cI, 40, .inl (upd (tr_lv f a g j) j (hf_leaf f (7 * (a + j))))))] H := hP
        have hD : va_D A [(a0, .inr (3, [.ref a1, .ref a2])), (a1, .inl (cI, 292, .inl f)), (a2, .inl (cI, 40, .inl (upd (tr_lv f a g j) j (hf_leaf f (7 * (a + j))))))] := hD
        rw [show upd (tr_lv f a g j) j (hf_leaf f (7 * (a + j))) = tr_lv f a g (j + 1) from (tr_lv_s f g a j)] at hP hD
        have hP : va_P (dC, dI) vwCl [(a0, .inr (3, [.ref a1, .ref a2])), (a1, .inl (cI, 292, .inl f)), (a2, .inl (cI, 40, .inl (tr_lv f a g (j + 1))))] H := hP
        have hD : va_D A [(a0, .inr (3, [.ref a1, .ref a2])), (a1, .inl (cI, 292, .inl f)), (a2, .inl (cI, 40, .inl (tr_lv f a g (j + 1))))] := hD
        refine lv_iinc (lv' := [(3, .int (nI (j + 1))), (0, .ref a0), (1, .int (nI a)), (2, .int (nI cn))]) (v := (nI (j + 1))) (k := 3) hx hb dn_G_tree_39 hl rfl (nI_add j 1) (by decide) rfl (fun ls hl => ?_)
        refine lv_goto (tgt := 21) hx hb dn_G_tree_42 (by decide) ?_
        exact ih21 (cn - (j + 1)) (by omega) (j + 1) ls H locs rfl (lv_sub hl [1, 2, 3, 0] rfl) hP hD hS (by omega)
  exact lp21 _ 0 ls H locs rfl (lv_sub hl [1, 2, 3, 0] rfl) hP hD hS (Nat.zero_le _)

def rt_v (f g : Nat → Int32) (n : Nat) : Int32 := if n = 0 then 0 else tr_of f g 0 n 0
def rt_g (f g : Nat → Int32) (n : Nat) : Nat → Int32 := if n = 0 then g else tr_of f g 0 n

set_option maxRecDepth 100000 in
set_option maxHeartbeats 4000000 in
theorem c_G_rootOf (l : Launch) (dC : Nat → ClassId) (dI : Nat → Nat → Nat) (cI cZ : ClassId) (a0 a1 a2 : Nat) (f g : Nat → Int32) (n : Nat) (hn : n ≤ 40) : gc_I l yn_G_rootOf (gw yn_G_rootOf cn_G_rootOf 2 (some .int)) (rm_ 5 110) (dC, dI) vwCl (gT cI cZ) [.ref a0, .int (nI n)] [(a0, .inr (3, [.ref a1, .ref a2])), (a1, .inl (cI, 292, .inl f)), (a2, .inl (cI, 40, .inl g))] (fun x (_ : Unit) => x = rt_v f g n) (fun _ => [(a0, .inr (3, [.ref a1, .ref a2])), (a1, .inl (cI, 292, .inl f)), (a2, .inl (cI, 40, .inl (rt_g f g n)))]) := by
  refine gc_I_of (cc := cn_G_rootOf) (maxL := 2) (ty := .int) (by decide) rfl (Nat.le_of_ble_eq_true rfl) ?_
  intro pp ee ss mm ar be me cd A Q ls H0 H locs hx hb hml hown hts hK hP hD hS hA hl hret
  have hw : ∀ w ∈ gw_T, w.before ar ss = true := fun w h => hts w (List.mem_cons_of_mem _ h)
  have hl : lv_has ls 2 [(0, .ref a0), (1, .int (nI n))] := hl
  refine lv_iload_n hx hb dn_G_rootOf_0 rfl (lv_at hl 1 rfl) ?_
  refine gr_zne (tgt := 8) hx hb n rfl (by omega) dn_G_rootOf_1 (by decide) (fun h1 => ?_) (fun h1 => ?_)
  · skip
    refine lv_aload_n hx hb dn_G_rootOf_8 rfl (lv_at hl 0 rfl) ?_
    refine lv_iconst (v := 0) hx hb dn_G_rootOf_9 (by decide) ?_
    refine lv_iload_n hx hb dn_G_rootOf_10 rfl (lv_at hl 1 rfl) ?_
    refine gc_vi (pre := []) (wc := [(a0, .inr (3, [.ref a1, .ref a2])), (a1, .inl (cI, 292, .inl f)), (a2, .inl (cI, 40, .inl g))]) (po := []) (As := [.int 0, .int (nI n)]) (rest := []) ⟨hx, hb, hml, hown, hw⟩ (c_G_tree l dC dI cI cZ a0 a1 a2 f g 0 n (by omega) (by omega)) (gw_cV 2 hw mw_301 mw_302 mw_303 mw_2 mw_304 hd_G_tree ⟨Nat.le_of_ble_eq_true rfl, Nat.le_of_ble_eq_true rfl⟩) (ci := 3) rfl rfl rfl hK hP hD hS hA rfl hl.1 rfl (Nat.le_of_ble_eq_true rfl) dn_G_rootOf_11 ⟨Nat.zero_le _, Nat.zero_le _⟩ (fun r11 u11 H locs hc11 hP hD hS => ?_)
    subst hc11
    have hP : va_P (dC, dI) vwCl [(a0, .inr (3, [.ref a1, .ref a2])), (a1, .inl (cI, 292, .inl f)), (a2, .inl (cI, 40, .inl (tr_of f g 0 n)))] H := hP
    have hD : va_D A [(a0, .inr (3, [.ref a1, .ref a2])), (a1, .inl (cI, 292, .inl f)), (a2, .inl (cI, 40, .inl (tr_of f g 0 n)))] := hD
    rw [show tr_of f g 0 n = rt_g f g n from (by unfold rt_g; rw [if_neg h1])] at hP hD
    have hP : va_P (dC, dI) vwCl [(a0, .inr (3, [.ref a1, .ref a2])), (a1, .inl (cI, 292, .inl f)), (a2, .inl (cI, 40, .inl (rt_g f g n)))] H := hP
    have hD : va_D A [(a0, .inr (3, [.ref a1, .ref a2])), (a1, .inl (cI, 292, .inl f)), (a2, .inl (cI, 40, .inl (rt_g f g n)))] := hD
    exact hret (tr_of f g 0 n 0) () _ _ _ _ (by unfold rt_v; first | rw [if_pos h1] | rw [if_neg h1]) rfl hP hD hS dn_G_rootOf_14
  · skip
    refine lv_iconst (v := 0) hx hb dn_G_rootOf_4 (by decide) ?_
    refine lv_goto (tgt := 14) hx hb dn_G_rootOf_5 (by decide) ?_
    rw [show g = rt_g f g n from (by unfold rt_g; rw [if_pos h1])] at hP hD
    have hP : va_P (dC, dI) vwCl [(a0, .inr (3, [.ref a1, .ref a2])), (a1, .inl (cI, 292, .inl f)), (a2, .inl (cI, 40, .inl (rt_g f g n)))] H := hP
    have hD : va_D A [(a0, .inr (3, [.ref a1, .ref a2])), (a1, .inl (cI, 292, .inl f)), (a2, .inl (cI, 40, .inl (rt_g f g n)))] := hD
    exact hret 0 () _ _ _ _ (by unfold rt_v; first | rw [if_pos h1] | rw [if_neg h1]) rfl hP hD hS dn_G_rootOf_14
