theorem wr_nq {x u : wr_T} {a k : Nat} {d : Nat → Int32} (h : u = wr_n x a d k) (hx : x.2.1 = 0 ∨ x.2.1 = 1) : u.2.1 = 0 ∨ u.2.1 = 1 := by rw [h]; exact wr_n_pw a d hx k

theorem dn_M_put_0 : decode cn_M_put 0 = .ok (.aload_n 0, 1) := by decide +kernel
theorem dn_M_put_1 : decode cn_M_put 1 = .ok (.iconst 1, 1) := by decide +kernel
theorem dn_M_put_2 : decode cn_M_put 2 = .ok (.iconst 0, 1) := by decide +kernel
theorem dn_M_put_3 : decode cn_M_put 3 = .ok (.iload 4, 2) := by decide +kernel
theorem dn_M_put_5 : decode cn_M_put 5 = .ok (.invokevirtual 111, 3) := by decide +kernel
theorem dn_M_put_8 : decode cn_M_put 8 = .ok (.istore 5, 2) := by decide +kernel
theorem dn_M_put_10 : decode cn_M_put 10 = .ok (.iload 5, 2) := by decide +kernel
theorem dn_M_put_12 : decode cn_M_put 12 = .ok (.ifCond .eq 6, 3) := by decide +kernel
theorem dn_M_put_15 : decode cn_M_put 15 = .ok (.iload 5, 2) := by decide +kernel
theorem dn_M_put_17 : decode cn_M_put 17 = .ok (.ireturn, 1) := by decide +kernel
theorem dn_M_put_18 : decode cn_M_put 18 = .ok (.aload_n 0, 1) := by decide +kernel
theorem dn_M_put_19 : decode cn_M_put 19 = .ok (.getfield 83, 3) := by decide +kernel
theorem dn_M_put_22 : decode cn_M_put 22 = .ok (.iconst 1, 1) := by decide +kernel
theorem dn_M_put_23 : decode cn_M_put 23 = .ok (.iadd, 1) := by decide +kernel
theorem dn_M_put_24 : decode cn_M_put 24 = .ok (.istore 6, 2) := by decide +kernel
theorem dn_M_put_26 : decode cn_M_put 26 = .ok (.aload_n 0, 1) := by decide +kernel
theorem dn_M_put_27 : decode cn_M_put 27 = .ok (.sipush 279, 3) := by decide +kernel
theorem dn_M_put_30 : decode cn_M_put 30 = .ok (.iload 6, 2) := by decide +kernel
theorem dn_M_put_32 : decode cn_M_put 32 = .ok (.iadd, 1) := by decide +kernel
theorem dn_M_put_33 : decode cn_M_put 33 = .ok (.iload_n 3, 1) := by decide +kernel
theorem dn_M_put_34 : decode cn_M_put 34 = .ok (.invokevirtual 107, 3) := by decide +kernel
theorem dn_M_put_37 : decode cn_M_put 37 = .ok (.iload_n 3, 1) := by decide +kernel
theorem dn_M_put_38 : decode cn_M_put 38 = .ok (.iload 6, 2) := by decide +kernel
theorem dn_M_put_40 : decode cn_M_put 40 = .ok (.invokestatic 47, 3) := by decide +kernel
theorem dn_M_put_43 : decode cn_M_put 43 = .ok (.istore 7, 2) := by decide +kernel
theorem dn_M_put_45 : decode cn_M_put 45 = .ok (.iload 7, 2) := by decide +kernel
theorem dn_M_put_47 : decode cn_M_put 47 = .ok (.iconst 0, 1) := by decide +kernel
theorem dn_M_put_48 : decode cn_M_put 48 = .ok (.invokestatic 47, 3) := by decide +kernel
theorem dn_M_put_51 : decode cn_M_put 51 = .ok (.istore 8, 2) := by decide +kernel
theorem dn_M_put_53 : decode cn_M_put 53 = .ok (.iload 7, 2) := by decide +kernel
theorem dn_M_put_55 : decode cn_M_put 55 = .ok (.iconst 1, 1) := by decide +kernel
theorem dn_M_put_56 : decode cn_M_put 56 = .ok (.invokestatic 47, 3) := by decide +kernel
theorem dn_M_put_59 : decode cn_M_put 59 = .ok (.istore 9, 2) := by decide +kernel
theorem dn_M_put_61 : decode cn_M_put 61 = .ok (.aload_n 0, 1) := by decide +kernel
theorem dn_M_put_62 : decode cn_M_put 62 = .ok (.iconst 1, 1) := by decide +kernel
theorem dn_M_put_63 : decode cn_M_put 63 = .ok (.iload 6, 2) := by decide +kernel
theorem dn_M_put_65 : decode cn_M_put 65 = .ok (.iload 4, 2) := by decide +kernel
theorem dn_M_put_67 : decode cn_M_put 67 = .ok (.iload_n 1, 1) := by decide +kernel
theorem dn_M_put_68 : decode cn_M_put 68 = .ok (.iload 8, 2) := by decide +kernel
theorem dn_M_put_70 : decode cn_M_put 70 = .ok (.ixor, 1) := by decide +kernel
theorem dn_M_put_71 : decode cn_M_put 71 = .ok (.iload_n 2, 1) := by decide +kernel
theorem dn_M_put_72 : decode cn_M_put 72 = .ok (.iload 9, 2) := by decide +kernel
theorem dn_M_put_74 : decode cn_M_put 74 = .ok (.ixor, 1) := by decide +kernel
theorem dn_M_put_75 : decode cn_M_put 75 = .ok (.invokevirtual 115, 3) := by decide +kernel
theorem dn_M_put_78 : decode cn_M_put 78 = .ok (.aload_n 0, 1) := by decide +kernel
theorem dn_M_put_79 : decode cn_M_put 79 = .ok (.getfield 38, 3) := by decide +kernel
theorem dn_M_put_82 : decode cn_M_put 82 = .ok (.ifCond .eq 8, 3) := by decide +kernel
theorem dn_M_put_85 : decode cn_M_put 85 = .ok (.iload 6, 2) := by decide +kernel
theorem dn_M_put_87 : decode cn_M_put 87 = .ok (.goto 5, 3) := by decide +kernel
theorem dn_M_put_90 : decode cn_M_put 90 = .ok (.bipush (-9), 2) := by decide +kernel
theorem dn_M_put_92 : decode cn_M_put 92 = .ok (.ireturn, 1) := by decide +kernel
theorem dn_M_plain_0 : decode cn_M_plain 0 = .ok (.aload_n 0, 1) := by decide +kernel
theorem dn_M_plain_1 : decode cn_M_plain 1 = .ok (.iload_n 1, 1) := by decide +kernel
theorem dn_M_plain_2 : decode cn_M_plain 2 = .ok (.iload_n 2, 1) := by decide +kernel
theorem dn_M_plain_3 : decode cn_M_plain 3 = .ok (.iload_n 3, 1) := by decide +kernel
theorem dn_M_plain_4 : decode cn_M_plain 4 = .ok (.invokevirtual 111, 3) := by decide +kernel
theorem dn_M_plain_7 : decode cn_M_plain 7 = .ok (.istore 4, 2) := by decide +kernel
theorem dn_M_plain_9 : decode cn_M_plain 9 = .ok (.iload 4, 2) := by decide +kernel
theorem dn_M_plain_11 : decode cn_M_plain 11 = .ok (.ifCond .eq 6, 3) := by decide +kernel
theorem dn_M_plain_14 : decode cn_M_plain 14 = .ok (.iload 4, 2) := by decide +kernel
theorem dn_M_plain_16 : decode cn_M_plain 16 = .ok (.ireturn, 1) := by decide +kernel
theorem dn_M_plain_17 : decode cn_M_plain 17 = .ok (.aload_n 0, 1) := by decide +kernel
theorem dn_M_plain_18 : decode cn_M_plain 18 = .ok (.iload_n 1, 1) := by decide +kernel
theorem dn_M_plain_19 : decode cn_M_plain 19 = .ok (.iload_n 2, 1) := by decide +kernel
theorem dn_M_plain_20 : decode cn_M_plain 20 = .ok (.iload_n 3, 1) := by decide +kernel
theorem dn_M_plain_21 : decode cn_M_plain 21 = .ok (.iconst 0, 1) := by decide +kernel
theorem dn_M_plain_22 : decode cn_M_plain 22 = .ok (.iconst 0, 1) := by decide +kernel
theorem dn_M_plain_23 : decode cn_M_plain 23 = .ok (.invokevirtual 115, 3) := by decide +kernel
theorem dn_M_plain_26 : decode cn_M_plain 26 = .ok (.iload_n 1, 1) := by decide +kernel
theorem dn_M_plain_27 : decode cn_M_plain 27 = .ok (.bipush 6, 2) := by decide +kernel
theorem dn_M_plain_29 : decode cn_M_plain 29 = .ok (.if_icmp .ne 13, 3) := by decide +kernel
theorem dn_M_plain_32 : decode cn_M_plain 32 = .ok (.aload_n 0, 1) := by decide +kernel
theorem dn_M_plain_33 : decode cn_M_plain 33 = .ok (.sipush 279, 3) := by decide +kernel
theorem dn_M_plain_36 : decode cn_M_plain 36 = .ok (.iload_n 2, 1) := by decide +kernel
theorem dn_M_plain_37 : decode cn_M_plain 37 = .ok (.iadd, 1) := by decide +kernel
theorem dn_M_plain_38 : decode cn_M_plain 38 = .ok (.iconst 0, 1) := by decide +kernel
theorem dn_M_plain_39 : decode cn_M_plain 39 = .ok (.invokevirtual 107, 3) := by decide +kernel
theorem dn_M_plain_42 : decode cn_M_plain 42 = .ok (.aload_n 0, 1) := by decide +kernel
theorem dn_M_plain_43 : decode cn_M_plain 43 = .ok (.getfield 38, 3) := by decide +kernel
theorem dn_M_plain_46 : decode cn_M_plain 46 = .ok (.ifCond .eq 7, 3) := by decide +kernel
theorem dn_M_plain_49 : decode cn_M_plain 49 = .ok (.iconst 0, 1) := by decide +kernel
theorem dn_M_plain_50 : decode cn_M_plain 50 = .ok (.goto 5, 3) := by decide +kernel
theorem dn_M_plain_53 : decode cn_M_plain 53 = .ok (.bipush (-9), 2) := by decide +kernel
theorem dn_M_plain_55 : decode cn_M_plain 55 = .ok (.ireturn, 1) := by decide +kernel
theorem dn_M_extend_0 : decode cn_M_extend 0 = .ok (.aload_n 0, 1) := by decide +kernel
theorem dn_M_extend_1 : decode cn_M_extend 1 = .ok (.iconst 2, 1) := by decide +kernel
theorem dn_M_extend_2 : decode cn_M_extend 2 = .ok (.iload_n 1, 1) := by decide +kernel
theorem dn_M_extend_3 : decode cn_M_extend 3 = .ok (.iload_n 2, 1) := by decide +kernel
theorem dn_M_extend_4 : decode cn_M_extend 4 = .ok (.invokevirtual 119, 3) := by decide +kernel
theorem dn_M_extend_7 : decode cn_M_extend 7 = .ok (.ireturn, 1) := by decide +kernel
theorem dn_M_hold_0 : decode cn_M_hold 0 = .ok (.aload_n 0, 1) := by decide +kernel
theorem dn_M_hold_1 : decode cn_M_hold 1 = .ok (.iload_n 3, 1) := by decide +kernel
theorem dn_M_hold_2 : decode cn_M_hold 2 = .ok (.ifCond .eq 7, 3) := by decide +kernel
theorem dn_M_hold_5 : decode cn_M_hold 5 = .ok (.iconst 3, 1) := by decide +kernel
theorem dn_M_hold_6 : decode cn_M_hold 6 = .ok (.goto 4, 3) := by decide +kernel
theorem dn_M_hold_9 : decode cn_M_hold 9 = .ok (.iconst 4, 1) := by decide +kernel
theorem dn_M_hold_10 : decode cn_M_hold 10 = .ok (.iload_n 1, 1) := by decide +kernel
theorem dn_M_hold_11 : decode cn_M_hold 11 = .ok (.iload_n 2, 1) := by decide +kernel
theorem dn_M_hold_12 : decode cn_M_hold 12 = .ok (.invokevirtual 119, 3) := by decide +kernel
theorem dn_M_hold_15 : decode cn_M_hold 15 = .ok (.ireturn, 1) := by decide +kernel
theorem dn_M_delete_0 : decode cn_M_delete 0 = .ok (.aload_n 0, 1) := by decide +kernel
theorem dn_M_delete_1 : decode cn_M_delete 1 = .ok (.iconst 5, 1) := by decide +kernel
theorem dn_M_delete_2 : decode cn_M_delete 2 = .ok (.iload_n 1, 1) := by decide +kernel
theorem dn_M_delete_3 : decode cn_M_delete 3 = .ok (.iconst 0, 1) := by decide +kernel
theorem dn_M_delete_4 : decode cn_M_delete 4 = .ok (.invokevirtual 119, 3) := by decide +kernel
theorem dn_M_delete_7 : decode cn_M_delete 7 = .ok (.ireturn, 1) := by decide +kernel
theorem dn_M_shred_0 : decode cn_M_shred 0 = .ok (.aload_n 0, 1) := by decide +kernel
theorem dn_M_shred_1 : decode cn_M_shred 1 = .ok (.bipush 6, 2) := by decide +kernel
theorem dn_M_shred_3 : decode cn_M_shred 3 = .ok (.iload_n 1, 1) := by decide +kernel
theorem dn_M_shred_4 : decode cn_M_shred 4 = .ok (.iconst 0, 1) := by decide +kernel
theorem dn_M_shred_5 : decode cn_M_shred 5 = .ok (.invokevirtual 119, 3) := by decide +kernel
theorem dn_M_shred_8 : decode cn_M_shred 8 = .ok (.ireturn, 1) := by decide +kernel
theorem dn_M_tick_0 : decode cn_M_tick 0 = .ok (.iload_n 1, 1) := by decide +kernel
theorem dn_M_tick_1 : decode cn_M_tick 1 = .ok (.ifCond .lt 10, 3) := by decide +kernel
theorem dn_M_tick_4 : decode cn_M_tick 4 = .ok (.iload_n 1, 1) := by decide +kernel
theorem dn_M_tick_5 : decode cn_M_tick 5 = .ok (.sipush 1000, 3) := by decide +kernel
theorem dn_M_tick_8 : decode cn_M_tick 8 = .ok (.if_icmp .le 5, 3) := by decide +kernel
theorem dn_M_tick_11 : decode cn_M_tick 11 = .ok (.iconst (-1), 1) := by decide +kernel
theorem dn_M_tick_12 : decode cn_M_tick 12 = .ok (.ireturn, 1) := by decide +kernel
theorem dn_M_tick_13 : decode cn_M_tick 13 = .ok (.aload_n 0, 1) := by decide +kernel
theorem dn_M_tick_14 : decode cn_M_tick 14 = .ok (.aload_n 0, 1) := by decide +kernel
theorem dn_M_tick_15 : decode cn_M_tick 15 = .ok (.getfield 86, 3) := by decide +kernel
theorem dn_M_tick_18 : decode cn_M_tick 18 = .ok (.iload_n 1, 1) := by decide +kernel
theorem dn_M_tick_19 : decode cn_M_tick 19 = .ok (.iadd, 1) := by decide +kernel
theorem dn_M_tick_20 : decode cn_M_tick 20 = .ok (.putfield 86, 3) := by decide +kernel
theorem dn_M_tick_23 : decode cn_M_tick 23 = .ok (.aload_n 0, 1) := by decide +kernel
theorem dn_M_tick_24 : decode cn_M_tick 24 = .ok (.getfield 86, 3) := by decide +kernel
theorem dn_M_tick_27 : decode cn_M_tick 27 = .ok (.ireturn, 1) := by decide +kernel
theorem dn_M_cut_0 : decode cn_M_cut 0 = .ok (.iload_n 1, 1) := by decide +kernel
theorem dn_M_cut_1 : decode cn_M_cut 1 = .ok (.iconst (-1), 1) := by decide +kernel
theorem dn_M_cut_2 : decode cn_M_cut 2 = .ok (.if_icmp .lt 10, 3) := by decide +kernel
theorem dn_M_cut_5 : decode cn_M_cut 5 = .ok (.iload_n 1, 1) := by decide +kernel
theorem dn_M_cut_6 : decode cn_M_cut 6 = .ok (.sipush 400, 3) := by decide +kernel
theorem dn_M_cut_9 : decode cn_M_cut 9 = .ok (.if_icmp .le 5, 3) := by decide +kernel
theorem dn_M_cut_12 : decode cn_M_cut 12 = .ok (.iconst 0, 1) := by decide +kernel
theorem dn_M_cut_13 : decode cn_M_cut 13 = .ok (.ireturn, 1) := by decide +kernel
theorem dn_M_cut_14 : decode cn_M_cut 14 = .ok (.aload_n 0, 1) := by decide +kernel
theorem dn_M_cut_15 : decode cn_M_cut 15 = .ok (.iload_n 1, 1) := by decide +kernel
theorem dn_M_cut_16 : decode cn_M_cut 16 = .ok (.putfield 42, 3) := by decide +kernel
theorem dn_M_cut_19 : decode cn_M_cut 19 = .ok (.iconst 1, 1) := by decide +kernel
theorem dn_M_cut_20 : decode cn_M_cut 20 = .ok (.ireturn, 1) := by decide +kernel
theorem dn_M_feed_0 : decode cn_M_feed 0 = .ok (.aload_n 0, 1) := by decide +kernel
theorem dn_M_feed_1 : decode cn_M_feed 1 = .ok (.getfield 132, 3) := by decide +kernel
theorem dn_M_feed_4 : decode cn_M_feed 4 = .ok (.bipush 12, 2) := by decide +kernel
theorem dn_M_feed_6 : decode cn_M_feed 6 = .ok (.if_icmp .lt 5, 3) := by decide +kernel
theorem dn_M_feed_9 : decode cn_M_feed 9 = .ok (.iconst 0, 1) := by decide +kernel
theorem dn_M_feed_10 : decode cn_M_feed 10 = .ok (.ireturn, 1) := by decide +kernel
theorem dn_M_feed_11 : decode cn_M_feed 11 = .ok (.aload_n 0, 1) := by decide +kernel
theorem dn_M_feed_12 : decode cn_M_feed 12 = .ok (.getfield 13, 3) := by decide +kernel
theorem dn_M_feed_15 : decode cn_M_feed 15 = .ok (.aload_n 0, 1) := by decide +kernel
theorem dn_M_feed_16 : decode cn_M_feed 16 = .ok (.getfield 132, 3) := by decide +kernel
theorem dn_M_feed_19 : decode cn_M_feed 19 = .ok (.iload_n 1, 1) := by decide +kernel
theorem dn_M_feed_20 : decode cn_M_feed 20 = .ok (.iastore, 1) := by decide +kernel
theorem dn_M_feed_21 : decode cn_M_feed 21 = .ok (.aload_n 0, 1) := by decide +kernel
theorem dn_M_feed_22 : decode cn_M_feed 22 = .ok (.aload_n 0, 1) := by decide +kernel
theorem dn_M_feed_23 : decode cn_M_feed 23 = .ok (.getfield 132, 3) := by decide +kernel
theorem dn_M_feed_26 : decode cn_M_feed 26 = .ok (.iconst 1, 1) := by decide +kernel
theorem dn_M_feed_27 : decode cn_M_feed 27 = .ok (.iadd, 1) := by decide +kernel
theorem dn_M_feed_28 : decode cn_M_feed 28 = .ok (.putfield 132, 3) := by decide +kernel
theorem dn_M_feed_31 : decode cn_M_feed 31 = .ok (.iconst 1, 1) := by decide +kernel
theorem dn_M_feed_32 : decode cn_M_feed 32 = .ok (.ireturn, 1) := by decide +kernel
theorem dn_M_word_0 : decode cn_M_word 0 = .ok (.iload_n 1, 1) := by decide +kernel
theorem dn_M_word_1 : decode cn_M_word 1 = .ok (.ifCond .lt 10, 3) := by decide +kernel
theorem dn_M_word_4 : decode cn_M_word 4 = .ok (.iload_n 1, 1) := by decide +kernel
theorem dn_M_word_5 : decode cn_M_word 5 = .ok (.sipush 291, 3) := by decide +kernel
theorem dn_M_word_8 : decode cn_M_word 8 = .ok (.if_icmp .le 9, 3) := by decide +kernel
theorem dn_M_word_11 : decode cn_M_word 11 = .ok (.ldc2_w 77, 3) := by decide +kernel
theorem dn_M_word_14 : decode cn_M_word 14 = .ok (.goto 10, 3) := by decide +kernel
theorem dn_M_word_17 : decode cn_M_word 17 = .ok (.aload_n 0, 1) := by decide +kernel
theorem dn_M_word_18 : decode cn_M_word 18 = .ok (.getfield 7, 3) := by decide +kernel
theorem dn_M_word_21 : decode cn_M_word 21 = .ok (.iload_n 1, 1) := by decide +kernel
theorem dn_M_word_22 : decode cn_M_word 22 = .ok (.iaload, 1) := by decide +kernel
theorem dn_M_word_23 : decode cn_M_word 23 = .ok (.i2l, 1) := by decide +kernel
theorem dn_M_word_24 : decode cn_M_word 24 = .ok (.lreturn, 1) := by decide +kernel
theorem dn_M_alter_0 : decode cn_M_alter 0 = .ok (.aload_n 0, 1) := by decide +kernel
theorem dn_M_alter_1 : decode cn_M_alter 1 = .ok (.getfield 38, 3) := by decide +kernel
theorem dn_M_alter_4 : decode cn_M_alter 4 = .ok (.ifCond .ne 14, 3) := by decide +kernel
theorem dn_M_alter_7 : decode cn_M_alter 7 = .ok (.iload_n 1, 1) := by decide +kernel
theorem dn_M_alter_8 : decode cn_M_alter 8 = .ok (.ifCond .lt 10, 3) := by decide +kernel
theorem dn_M_alter_11 : decode cn_M_alter 11 = .ok (.iload_n 1, 1) := by decide +kernel
theorem dn_M_alter_12 : decode cn_M_alter 12 = .ok (.sipush 291, 3) := by decide +kernel
theorem dn_M_alter_15 : decode cn_M_alter 15 = .ok (.if_icmp .le 5, 3) := by decide +kernel
theorem dn_M_alter_18 : decode cn_M_alter 18 = .ok (.iconst 0, 1) := by decide +kernel
theorem dn_M_alter_19 : decode cn_M_alter 19 = .ok (.ireturn, 1) := by decide +kernel
theorem dn_M_alter_20 : decode cn_M_alter 20 = .ok (.aload_n 0, 1) := by decide +kernel
theorem dn_M_alter_21 : decode cn_M_alter 21 = .ok (.getfield 7, 3) := by decide +kernel
theorem dn_M_alter_24 : decode cn_M_alter 24 = .ok (.iload_n 1, 1) := by decide +kernel
theorem dn_M_alter_25 : decode cn_M_alter 25 = .ok (.iload_n 2, 1) := by decide +kernel
theorem dn_M_alter_26 : decode cn_M_alter 26 = .ok (.iastore, 1) := by decide +kernel
theorem dn_M_alter_27 : decode cn_M_alter 27 = .ok (.iconst 1, 1) := by decide +kernel
theorem dn_M_alter_28 : decode cn_M_alter 28 = .ok (.ireturn, 1) := by decide +kernel
theorem dn_M_records_0 : decode cn_M_records 0 = .ok (.aload_n 0, 1) := by decide +kernel
theorem dn_M_records_1 : decode cn_M_records 1 = .ok (.invokevirtual 104, 3) := by decide +kernel
theorem dn_M_records_4 : decode cn_M_records 4 = .ok (.aload_n 0, 1) := by decide +kernel
theorem dn_M_records_5 : decode cn_M_records 5 = .ok (.getfield 38, 3) := by decide +kernel
theorem dn_M_records_8 : decode cn_M_records 8 = .ok (.ifCond .eq 10, 3) := by decide +kernel
theorem dn_M_records_11 : decode cn_M_records 11 = .ok (.aload_n 0, 1) := by decide +kernel
theorem dn_M_records_12 : decode cn_M_records 12 = .ok (.getfield 93, 3) := by decide +kernel
theorem dn_M_records_15 : decode cn_M_records 15 = .ok (.goto 4, 3) := by decide +kernel
theorem dn_M_records_18 : decode cn_M_records 18 = .ok (.iconst (-1), 1) := by decide +kernel
theorem dn_M_records_19 : decode cn_M_records 19 = .ok (.ireturn, 1) := by decide +kernel

set_option maxRecDepth 100000 in
set_option maxHeartbeats 1000000 in
theorem c_M_write (l : Launch) (dC : Nat → ClassId) (dI : Nat → Nat → Nat) (cI cZ : ClassId) (bd : Nat → Nat) (clk : Nat) (pw lf : Int32) (f fd : Nat → Int32) (fc sn ob : Nat) (S D G : Nat → Int32) (st : Nat) (Y Z X : Nat → Int32) (ef ec fu : Nat) (g : Nat → Int32) (hpw : pw = 0 ∨ pw = 1) (a : Nat) (ha : a < 292) (v : Int32) : gc_V l yn_M_write (gw yn_M_write cn_M_write 3 none) (rm_ 0 0) (dC, dI) vwCl (gT cI cZ) [.ref (bd 0), .int (nI a), .int v] [(bd 0, .inr (5, [.ref (bd 1), .int (nI clk), .int pw, .int lf, .ref (bd 2), .int (nI fc), .int (nI sn), .int (nI ob), .ref (bd 3), .ref (bd 4), .ref (bd 5), .int (nI st), .ref (bd 6), .ref (bd 7), .ref (bd 8), .int (nI ef), .int (nI ec), .int (nI fu), .ref (bd 9)])), (bd 1, .inl (cI, 292, .inl f)), (bd 2, .inl (cI, 12, .inl fd)), (bd 3, .inl (cI, 13, .inl S)), (bd 4, .inl (cI, 13, .inl D)), (bd 5, .inl (cI, 13, .inl G)), (bd 6, .inl (cI, 8, .inl Y)), (bd 7, .inl (cI, 8, .inl Z)), (bd 8, .inl (cZ, 8, .inl X)), (bd 9, .inl (cI, 40, .inl g))] (fun (u : wr_T) => u = wr_1 (f, pw, lf) a v) (fun u => [(bd 0, .inr (5, [.ref (bd 1), .int (nI clk), .int u.2.1, .int u.2.2, .ref (bd 2), .int (nI fc), .int (nI sn), .int (nI ob), .ref (bd 3), .ref (bd 4), .ref (bd 5), .int (nI st), .ref (bd 6), .ref (bd 7), .ref (bd 8), .int (nI ef), .int (nI ec), .int (nI fu), .ref (bd 9)])), (bd 1, .inl (cI, 292, .inl u.1)), (bd 2, .inl (cI, 12, .inl fd)), (bd 3, .inl (cI, 13, .inl S)), (bd 4, .inl (cI, 13, .inl D)), (bd 5, .inl (cI, 13, .inl G)), (bd 6, .inl (cI, 8, .inl Y)), (bd 7, .inl (cI, 8, .inl Z)), (bd 8, .inl (cZ, 8, .inl X)), (bd 9, .inl (cI, 40, .inl g))]) := by
  refine gc_V_of (cc := cn_M_write) (maxL := 3) (by decide) rfl (Nat.le_of_ble_eq_true rfl) ?_
  intro pp ee ss mm ar be me cd A Q ls H0 H locs hx hb hml hown hts hK hP hD hS hA hl hret
  have hw : ∀ w ∈ gw_T, w.before ar ss = true := fun w h => hts w (List.mem_cons_of_mem _ h)
  have hl : lv_has ls 3 [(0, .ref (bd 0)), (1, .int (nI a)), (2, .int v)] := hl
  rcases hpw with rfl | rfl
  · skip
    refine lv_aload_n hx hb dn_M_write_0 rfl (lv_at hl 0 rfl) ?_
    refine va_get (D := (dC, dI)) (ci := 5) (v := .int 0) (C := rn_M) (T := tn_M) (N := 19) hx hb hw ml_M hown hK hP 0 rfl rfl 2 (by decide) (hw _ mw_475) (fun _ h9 => h9) rfl dn_M_write_1 ?_
    refine lv_if_eq (tgt := 24) hx hb dn_M_write_4 (by decide) (fun _ => ?_) (fun h => absurd h (by decide))
    refine lv_aload_n hx hb dn_M_write_24 rfl (lv_at hl 0 rfl) ?_
    refine va_get (D := (dC, dI)) (ci := 5) (v := .int 0) (C := rn_M) (T := tn_M) (N := 19) hx hb hw ml_M hown hK hP 0 rfl rfl 2 (by decide) (hw _ mw_475) (fun _ h9 => h9) rfl dn_M_write_25 ?_
    refine lv_if_eq (tgt := 62) hx hb dn_M_write_28 (by decide) (fun _ => ?_) (fun h => absurd h (by decide))
    exact hret (f, 0, lf) _ _ _ _ (wr_1_off (x := (f, 0, lf)) a v (show (0 : Int32) ≠ 1 by decide)).symm hP hD hS dn_M_write_62
  · skip
    refine lv_aload_n hx hb dn_M_write_0 rfl (lv_at hl 0 rfl) ?_
    refine va_get (D := (dC, dI)) (ci := 5) (v := .int 1) (C := rn_M) (T := tn_M) (N := 19) hx hb hw ml_M hown hK hP 0 rfl rfl 2 (by decide) (hw _ mw_475) (fun _ h9 => h9) rfl dn_M_write_1 ?_
    refine lv_if_eq (tgt := 24) hx hb dn_M_write_4 (by decide) (fun h => absurd h (by decide)) (fun _ => ?_)
    refine lv_aload_n hx hb dn_M_write_7 rfl (lv_at hl 0 rfl) ?_
    refine va_get (D := (dC, dI)) (ci := 5) (v := .int lf) (C := rn_M) (T := tn_M) (N := 19) hx hb hw ml_M hown hK hP 0 rfl rfl 3 (by decide) (hw _ mw_476) (fun _ h9 => h9) rfl dn_M_write_8 ?_
    refine lv_if_ne (tgt := 24) hx hb dn_M_write_11 (by decide) (fun h11 => ?_) (fun h11 => ?_)
    · skip
      refine lv_aload_n hx hb dn_M_write_24 rfl (lv_at hl 0 rfl) ?_
      refine va_get (D := (dC, dI)) (ci := 5) (v := .int 1) (C := rn_M) (T := tn_M) (N := 19) hx hb hw ml_M hown hK hP 0 rfl rfl 2 (by decide) (hw _ mw_475) (fun _ h9 => h9) rfl dn_M_write_25 ?_
      refine lv_if_eq (tgt := 62) hx hb dn_M_write_28 (by decide) (fun h => absurd h (by decide)) (fun _ => ?_)
      refine lv_aload_n hx hb dn_M_write_31 rfl (lv_at hl 0 rfl) ?_
      refine va_get (D := (dC, dI)) (ci := 5) (v := .ref (bd 1)) (C := rn_M) (T := tn_M) (N := 19) hx hb hw ml_M hown hK hP 0 rfl rfl 0 (by decide) (hw _ mw_473) (fun _ h9 => h9) rfl dn_M_write_32 ?_
      refine lv_iload_n hx hb dn_M_write_35 rfl (lv_at hl 1 rfl) ?_
      refine lv_iload_n hx hb dn_M_write_36 rfl (lv_at hl 2 rfl) ?_
      refine gr_iast hx hb hK hP hD hS 1 0 rfl rfl a rfl (by omega) (by decide) dn_M_write_37 (fun H locs hP hD hS => ?_)
      have hP : va_P (dC, dI) vwCl [(bd 0, .inr (5, [.ref (bd 1), .int (nI clk), .int 1, .int lf, .ref (bd 2), .int (nI fc), .int (nI sn), .int (nI ob), .ref (bd 3), .ref (bd 4), .ref (bd 5), .int (nI st), .ref (bd 6), .ref (bd 7), .ref (bd 8), .int (nI ef), .int (nI ec), .int (nI fu), .ref (bd 9)])), (bd 1, .inl (cI, 292, .inl (upd f a v))), (bd 2, .inl (cI, 12, .inl fd)), (bd 3, .inl (cI, 13, .inl S)), (bd 4, .inl (cI, 13, .inl D)), (bd 5, .inl (cI, 13, .inl G)), (bd 6, .inl (cI, 8, .inl Y)), (bd 7, .inl (cI, 8, .inl Z)), (bd 8, .inl (cZ, 8, .inl X)), (bd 9, .inl (cI, 40, .inl g))] H := hP
      have hD : va_D A [(bd 0, .inr (5, [.ref (bd 1), .int (nI clk), .int 1, .int lf, .ref (bd 2), .int (nI fc), .int (nI sn), .int (nI ob), .ref (bd 3), .ref (bd 4), .ref (bd 5), .int (nI st), .ref (bd 6), .ref (bd 7), .ref (bd 8), .int (nI ef), .int (nI ec), .int (nI fu), .ref (bd 9)])), (bd 1, .inl (cI, 292, .inl (upd f a v))), (bd 2, .inl (cI, 12, .inl fd)), (bd 3, .inl (cI, 13, .inl S)), (bd 4, .inl (cI, 13, .inl D)), (bd 5, .inl (cI, 13, .inl G)), (bd 6, .inl (cI, 8, .inl Y)), (bd 7, .inl (cI, 8, .inl Z)), (bd 8, .inl (cZ, 8, .inl X)), (bd 9, .inl (cI, 40, .inl g))] := hD
      refine lv_aload_n hx hb dn_M_write_38 rfl (lv_at hl 0 rfl) ?_
      refine lv_aload_n hx hb dn_M_write_39 rfl (lv_at hl 0 rfl) ?_
      refine va_get (D := (dC, dI)) (ci := 5) (v := .int lf) (C := rn_M) (T := tn_M) (N := 19) hx hb hw ml_M hown hK hP 0 rfl rfl 3 (by decide) (hw _ mw_476) (fun _ h9 => h9) rfl dn_M_write_40 ?_
      refine lv_if_le (tgt := 55) hx hb dn_M_write_43 (by decide) (fun h43 => ?_) (fun h43 => ?_)
      · skip
        refine lv_aload_n hx hb dn_M_write_55 rfl (lv_at hl 0 rfl) ?_
        refine va_get (D := (dC, dI)) (ci := 5) (v := .int lf) (C := rn_M) (T := tn_M) (N := 19) hx hb hw ml_M hown hK hP 0 rfl rfl 3 (by decide) (hw _ mw_476) (fun _ h9 => h9) rfl dn_M_write_56 ?_
        refine va_put (D := (dC, dI)) (ci := 5) (v := .int lf) (ty := .int) (C := rn_M) (T := tn_M) (N := 19) hx hb hw ml_M tt_M to_M nd_M hown hK hP hD hS 0 rfl rfl 3 (by decide) (hw _ mw_476) (fun _ h9 => h9) rfl (by decide +kernel) rfl rfl (Nat.le_of_ble_eq_true rfl) dn_M_write_59 (fun H locs hP hD hS => ?_)
        have hP : va_P (dC, dI) vwCl [(bd 0, .inr (5, [.ref (bd 1), .int (nI clk), .int 1, .int lf, .ref (bd 2), .int (nI fc), .int (nI sn), .int (nI ob), .ref (bd 3), .ref (bd 4), .ref (bd 5), .int (nI st), .ref (bd 6), .ref (bd 7), .ref (bd 8), .int (nI ef), .int (nI ec), .int (nI fu), .ref (bd 9)])), (bd 1, .inl (cI, 292, .inl (upd f a v))), (bd 2, .inl (cI, 12, .inl fd)), (bd 3, .inl (cI, 13, .inl S)), (bd 4, .inl (cI, 13, .inl D)), (bd 5, .inl (cI, 13, .inl G)), (bd 6, .inl (cI, 8, .inl Y)), (bd 7, .inl (cI, 8, .inl Z)), (bd 8, .inl (cZ, 8, .inl X)), (bd 9, .inl (cI, 40, .inl g))] H := hP
        have hD : va_D A [(bd 0, .inr (5, [.ref (bd 1), .int (nI clk), .int 1, .int lf, .ref (bd 2), .int (nI fc), .int (nI sn), .int (nI ob), .ref (bd 3), .ref (bd 4), .ref (bd 5), .int (nI st), .ref (bd 6), .ref (bd 7), .ref (bd 8), .int (nI ef), .int (nI ec), .int (nI fu), .ref (bd 9)])), (bd 1, .inl (cI, 292, .inl (upd f a v))), (bd 2, .inl (cI, 12, .inl fd)), (bd 3, .inl (cI, 13, .inl S)), (bd 4, .inl (cI, 13, .inl D)), (bd 5, .inl (cI, 13, .inl G)), (bd 6, .inl (cI, 8, .inl Y)), (bd 7, .inl (cI, 8, .inl Z)), (bd 8, .inl (cZ, 8, .inl X)), (bd 9, .inl (cI, 40, .inl g))] := hD
        exact hret (upd f a v, 1, lf) _ _ _ _ (by rw [wr_1, if_pos rfl, if_neg h11]; first | rw [if_neg (Int32.not_lt.mpr h43)] | rw [if_pos (Int32.not_le.mp h43)]) hP hD hS dn_M_write_62
      · skip
        refine lv_aload_n hx hb dn_M_write_46 rfl (lv_at hl 0 rfl) ?_
        refine va_get (D := (dC, dI)) (ci := 5) (v := .int lf) (C := rn_M) (T := tn_M) (N := 19) hx hb hw ml_M hown hK hP 0 rfl rfl 3 (by decide) (hw _ mw_476) (fun _ h9 => h9) rfl dn_M_write_47 ?_
        refine lv_iconst (v := 1) hx hb dn_M_write_50 (by decide) ?_
        refine lv_isub hx hb dn_M_write_51 ?_
        refine lv_goto (tgt := 59) hx hb dn_M_write_52 (by decide) ?_
        refine va_put (D := (dC, dI)) (ci := 5) (v := .int (lf - 1)) (ty := .int) (C := rn_M) (T := tn_M) (N := 19) hx hb hw ml_M tt_M to_M nd_M hown hK hP hD hS 0 rfl rfl 3 (by decide) (hw _ mw_476) (fun _ h9 => h9) rfl (by decide +kernel) rfl rfl (Nat.le_of_ble_eq_true rfl) dn_M_write_59 (fun H locs hP hD hS => ?_)
        have hP : va_P (dC, dI) vwCl [(bd 0, .inr (5, [.ref (bd 1), .int (nI clk), .int 1, .int (lf - 1), .ref (bd 2), .int (nI fc), .int (nI sn), .int (nI ob), .ref (bd 3), .ref (bd 4), .ref (bd 5), .int (nI st), .ref (bd 6), .ref (bd 7), .ref (bd 8), .int (nI ef), .int (nI ec), .int (nI fu), .ref (bd 9)])), (bd 1, .inl (cI, 292, .inl (upd f a v))), (bd 2, .inl (cI, 12, .inl fd)), (bd 3, .inl (cI, 13, .inl S)), (bd 4, .inl (cI, 13, .inl D)), (bd 5, .inl (cI, 13, .inl G)), (bd 6, .inl (cI, 8, .inl Y)), (bd 7, .inl (cI, 8, .inl Z)), (bd 8, .inl (cZ, 8, .inl X)), (bd 9, .inl (cI, 40, .inl g))] H := hP
        have hD : va_D A [(bd 0, .inr (5, [.ref (bd 1), .int (nI clk), .int 1, .int (lf - 1), .ref (bd 2), .int (nI fc), .int (nI sn), .int (nI ob), .ref (bd 3), .ref (bd 4), .ref (bd 5), .int (nI st), .ref (bd 6), .ref (bd 7), .ref (bd 8), .int (nI ef), .int (nI ec), .int (nI fu), .ref (bd 9)])), (bd 1, .inl (cI, 292, .inl (upd f a v))), (bd 2, .inl (cI, 12, .inl fd)), (bd 3, .inl (cI, 13, .inl S)), (bd 4, .inl (cI, 13, .inl D)), (bd 5, .inl (cI, 13, .inl G)), (bd 6, .inl (cI, 8, .inl Y)), (bd 7, .inl (cI, 8, .inl Z)), (bd 8, .inl (cZ, 8, .inl X)), (bd 9, .inl (cI, 40, .inl g))] := hD
        exact hret (upd f a v, 1, (lf - 1)) _ _ _ _ (by rw [wr_1, if_pos rfl, if_neg h11]; first | rw [if_neg (Int32.not_lt.mpr h43)] | rw [if_pos (Int32.not_le.mp h43)]) hP hD hS dn_M_write_62
    · skip
      refine lv_aload_n hx hb dn_M_write_14 rfl (lv_at hl 0 rfl) ?_
      refine lv_iconst (v := 0) hx hb dn_M_write_15 (by decide) ?_
      refine va_put (D := (dC, dI)) (ci := 5) (v := .int 0) (ty := .boolean) (C := rn_M) (T := tn_M) (N := 19) hx hb hw ml_M tt_M to_M nd_M hown hK hP hD hS 0 rfl rfl 2 (by decide) (hw _ mw_475) (fun _ h9 => h9) rfl (by decide +kernel) rfl rfl (Nat.le_of_ble_eq_true rfl) dn_M_write_16 (fun H locs hP hD hS => ?_)
      have hP : va_P (dC, dI) vwCl [(bd 0, .inr (5, [.ref (bd 1), .int (nI clk), .int 0, .int lf, .ref (bd 2), .int (nI fc), .int (nI sn), .int (nI ob), .ref (bd 3), .ref (bd 4), .ref (bd 5), .int (nI st), .ref (bd 6), .ref (bd 7), .ref (bd 8), .int (nI ef), .int (nI ec), .int (nI fu), .ref (bd 9)])), (bd 1, .inl (cI, 292, .inl f)), (bd 2, .inl (cI, 12, .inl fd)), (bd 3, .inl (cI, 13, .inl S)), (bd 4, .inl (cI, 13, .inl D)), (bd 5, .inl (cI, 13, .inl G)), (bd 6, .inl (cI, 8, .inl Y)), (bd 7, .inl (cI, 8, .inl Z)), (bd 8, .inl (cZ, 8, .inl X)), (bd 9, .inl (cI, 40, .inl g))] H := hP
      have hD : va_D A [(bd 0, .inr (5, [.ref (bd 1), .int (nI clk), .int 0, .int lf, .ref (bd 2), .int (nI fc), .int (nI sn), .int (nI ob), .ref (bd 3), .ref (bd 4), .ref (bd 5), .int (nI st), .ref (bd 6), .ref (bd 7), .ref (bd 8), .int (nI ef), .int (nI ec), .int (nI fu), .ref (bd 9)])), (bd 1, .inl (cI, 292, .inl f)), (bd 2, .inl (cI, 12, .inl fd)), (bd 3, .inl (cI, 13, .inl S)), (bd 4, .inl (cI, 13, .inl D)), (bd 5, .inl (cI, 13, .inl G)), (bd 6, .inl (cI, 8, .inl Y)), (bd 7, .inl (cI, 8, .inl Z)), (bd 8, .inl (cZ, 8, .inl X)), (bd 9, .inl (cI, 40, .inl g))] := hD
      refine lv_aload_n hx hb dn_M_write_19 rfl (lv_at hl 0 rfl) ?_
      refine lv_iconst (v := (-1)) hx hb dn_M_write_20 (by decide) ?_
      refine va_put (D := (dC, dI)) (ci := 5) (v := .int (-1)) (ty := .int) (C := rn_M) (T := tn_M) (N := 19) hx hb hw ml_M tt_M to_M nd_M hown hK hP hD hS 0 rfl rfl 3 (by decide) (hw _ mw_476) (fun _ h9 => h9) rfl (by decide +kernel) rfl rfl (Nat.le_of_ble_eq_true rfl) dn_M_write_21 (fun H locs hP hD hS => ?_)
      have hP : va_P (dC, dI) vwCl [(bd 0, .inr (5, [.ref (bd 1), .int (nI clk), .int 0, .int (-1), .ref (bd 2), .int (nI fc), .int (nI sn), .int (nI ob), .ref (bd 3), .ref (bd 4), .ref (bd 5), .int (nI st), .ref (bd 6), .ref (bd 7), .ref (bd 8), .int (nI ef), .int (nI ec), .int (nI fu), .ref (bd 9)])), (bd 1, .inl (cI, 292, .inl f)), (bd 2, .inl (cI, 12, .inl fd)), (bd 3, .inl (cI, 13, .inl S)), (bd 4, .inl (cI, 13, .inl D)), (bd 5, .inl (cI, 13, .inl G)), (bd 6, .inl (cI, 8, .inl Y)), (bd 7, .inl (cI, 8, .inl Z)), (bd 8, .inl (cZ, 8, .inl X)), (bd 9, .inl (cI, 40, .inl g))] H := hP
      have hD : va_D A [(bd 0, .inr (5, [.ref (bd 1), .int (nI clk), .int 0, .int (-1), .ref (bd 2), .int (nI fc), .int (nI sn), .int (nI ob), .ref (bd 3), .ref (bd 4), .ref (bd 5), .int (nI st), .ref (bd 6), .ref (bd 7), .ref (bd 8), .int (nI ef), .int (nI ec), .int (nI fu), .ref (bd 9)])), (bd 1, .inl (cI, 292, .inl f)), (bd 2, .inl (cI, 12, .inl fd)), (bd 3, .inl (cI, 13, .inl S)), (bd 4, .inl (cI, 13, .inl D)), (bd 5, .inl (cI, 13, .inl G)), (bd 6, .inl (cI, 8, .inl Y)), (bd 7, .inl (cI, 8, .inl Z)), (bd 8, .inl (cZ, 8, .inl X)), (bd 9, .inl (cI, 40, .inl g))] := hD
      refine lv_aload_n hx hb dn_M_write_24 rfl (lv_at hl 0 rfl) ?_
      refine va_get (D := (dC, dI)) (ci := 5) (v := .int 0) (C := rn_M) (T := tn_M) (N := 19) hx hb hw ml_M hown hK hP 0 rfl rfl 2 (by decide) (hw _ mw_475) (fun _ h9 => h9) rfl dn_M_write_25 ?_
      refine lv_if_eq (tgt := 62) hx hb dn_M_write_28 (by decide) (fun _ => ?_) (fun h => absurd h (by decide))
      exact hret (f, 0, (-1)) _ _ _ _ (by rw [wr_1, if_pos rfl, if_pos h11]) hP hD hS dn_M_write_62

set_option maxRecDepth 100000 in
set_option maxHeartbeats 1000000 in
theorem c_M_enroll (l : Launch) (dC : Nat → ClassId) (dI : Nat → Nat → Nat) (cI cZ : ClassId) (bd : Nat → Nat) (clk : Nat) (pw lf : Int32) (f fd : Nat → Int32) (fc sn ob : Nat) (S D G : Nat → Int32) (st : Nat) (Y Z X : Nat → Int32) (ef ec fu : Nat) (g : Nat → Int32) (hpw : pw = 0 ∨ pw = 1) (hsn : sn < 40) (kind id v c0 c1 : Int32) : gc_V l yn_M_enroll (gw yn_M_enroll cn_M_enroll 8 none) (rm_ 1 23) (dC, dI) vwCl (gT cI cZ) [.ref (bd 0), .int kind, .int id, .int v, .int c0, .int c1] [(bd 0, .inr (5, [.ref (bd 1), .int (nI clk), .int pw, .int lf, .ref (bd 2), .int (nI fc), .int (nI sn), .int (nI ob), .ref (bd 3), .ref (bd 4), .ref (bd 5), .int (nI st), .ref (bd 6), .ref (bd 7), .ref (bd 8), .int (nI ef), .int (nI ec), .int (nI fu), .ref (bd 9)])), (bd 1, .inl (cI, 292, .inl f)), (bd 2, .inl (cI, 12, .inl fd)), (bd 3, .inl (cI, 13, .inl S)), (bd 4, .inl (cI, 13, .inl D)), (bd 5, .inl (cI, 13, .inl G)), (bd 6, .inl (cI, 8, .inl Y)), (bd 7, .inl (cI, 8, .inl Z)), (bd 8, .inl (cZ, 8, .inl X)), (bd 9, .inl (cI, 40, .inl g))] (fun (u : wr_T) => u = wr_n (f, pw, lf) (7 * sn) (rc_w kind id v c0 c1 (nI clk)) 7) (fun u => [(bd 0, .inr (5, [.ref (bd 1), .int (nI clk), .int u.2.1, .int u.2.2, .ref (bd 2), .int (nI fc), .int (nI sn), .int (nI ob), .ref (bd 3), .ref (bd 4), .ref (bd 5), .int (nI st), .ref (bd 6), .ref (bd 7), .ref (bd 8), .int (nI ef), .int (nI ec), .int (nI fu), .ref (bd 9)])), (bd 1, .inl (cI, 292, .inl u.1)), (bd 2, .inl (cI, 12, .inl fd)), (bd 3, .inl (cI, 13, .inl S)), (bd 4, .inl (cI, 13, .inl D)), (bd 5, .inl (cI, 13, .inl G)), (bd 6, .inl (cI, 8, .inl Y)), (bd 7, .inl (cI, 8, .inl Z)), (bd 8, .inl (cZ, 8, .inl X)), (bd 9, .inl (cI, 40, .inl g))]) := by
  refine gc_V_of (cc := cn_M_enroll) (maxL := 8) (by decide) rfl (Nat.le_of_ble_eq_true rfl) ?_
  intro pp ee ss mm ar be me cd A Q ls H0 H locs hx hb hml hown hts hK hP hD hS hA hl hret
  have hw : ∀ w ∈ gw_T, w.before ar ss = true := fun w h => hts w (List.mem_cons_of_mem _ h)
  have hl : lv_has ls 8 [(0, .ref (bd 0)), (1, .int kind), (2, .int id), (3, .int v), (4, .int c0), (5, .int c1)] := hl
  refine lv_bipush (v := 7) hx hb dn_M_enroll_0 (by decide) ?_
  refine lv_aload_n hx hb dn_M_enroll_2 rfl (lv_at hl 0 rfl) ?_
  refine va_get (D := (dC, dI)) (ci := 5) (v := .int (nI sn)) (C := rn_M) (T := tn_M) (N := 19) hx hb hw ml_M hown hK hP 0 rfl rfl 6 (by decide) (hw _ mw_479) (fun _ h9 => h9) rfl dn_M_enroll_3 ?_
  refine gr_mulN hx hb 7 sn rfl rfl dn_M_enroll_6 ?_
  refine lv_istore (lv' := [(6, .int (nI (7 * sn))), (0, .ref (bd 0)), (1, .int kind), (2, .int id), (3, .int v), (4, .int c0), (5, .int c1)]) hx hb dn_M_enroll_7 hl (by decide) rfl (fun ls hl => ?_)
  refine lv_iconst (v := 1) hx hb dn_M_enroll_9 (by decide) ?_
  refine lv_iload_n hx hb dn_M_enroll_10 rfl (lv_at hl 2 rfl) ?_
  refine gc_s0 (v := (hf_mix 1 kind)) (As := [.int 1, .int kind]) (rest := []) ⟨hx, hb, hml, hown, hw⟩ (c_M_mix l dC dI cI cZ 1 kind) (gw_cS 2 hw mw_551 mw_552 mw_6 mw_553 hd_M_mix ⟨Nat.le_of_ble_eq_true rfl, Nat.le_of_ble_eq_true rfl⟩) hK hP hD hS hA rfl hl.1 rfl (Nat.le_of_ble_eq_true rfl) dn_M_enroll_11 ⟨Nat.zero_le _, Nat.zero_le _⟩ (fun H locs hP hD hS => ?_)
  refine lv_istore (lv' := [(7, .int (hf_mix 1 kind)), (6, .int (nI (7 * sn))), (0, .ref (bd 0)), (1, .int kind), (2, .int id), (3, .int v), (4, .int c0), (5, .int c1)]) hx hb dn_M_enroll_14 hl (by decide) rfl (fun ls hl => ?_)
  refine lv_iload hx hb dn_M_enroll_16 (lv_at hl 0 rfl) ?_
  refine lv_iload_n hx hb dn_M_enroll_18 rfl (lv_at hl 4 rfl) ?_
  refine gc_s0 (v := (hf_mix (hf_mix 1 kind) id)) (As := [.int (hf_mix 1 kind), .int id]) (rest := []) ⟨hx, hb, hml, hown, hw⟩ (c_M_mix l dC dI cI cZ (hf_mix 1 kind) id) (gw_cS 2 hw mw_551 mw_552 mw_6 mw_553 hd_M_mix ⟨Nat.le_of_ble_eq_true rfl, Nat.le_of_ble_eq_true rfl⟩) hK hP hD hS hA rfl hl.1 rfl (Nat.le_of_ble_eq_true rfl) dn_M_enroll_19 ⟨Nat.zero_le _, Nat.zero_le _⟩ (fun H locs hP hD hS => ?_)
  refine lv_istore (lv' := [(7, .int (hf_mix (hf_mix 1 kind) id)), (6, .int (nI (7 * sn))), (0, .ref (bd 0)), (1, .int kind), (2, .int id), (3, .int v), (4, .int c0), (5, .int c1)]) hx hb dn_M_enroll_22 hl (by decide) rfl (fun ls hl => ?_)
  refine lv_iload hx hb dn_M_enroll_24 (lv_at hl 0 rfl) ?_
  refine lv_iload_n hx hb dn_M_enroll_26 rfl (lv_at hl 5 rfl) ?_
  refine gc_s0 (v := (hf_mix (hf_mix (hf_mix 1 kind) id) v)) (As := [.int (hf_mix (hf_mix 1 kind) id), .int v]) (rest := []) ⟨hx, hb, hml, hown, hw⟩ (c_M_mix l dC dI cI cZ (hf_mix (hf_mix 1 kind) id) v) (gw_cS 2 hw mw_551 mw_552 mw_6 mw_553 hd_M_mix ⟨Nat.le_of_ble_eq_true rfl, Nat.le_of_ble_eq_true rfl⟩) hK hP hD hS hA rfl hl.1 rfl (Nat.le_of_ble_eq_true rfl) dn_M_enroll_27 ⟨Nat.zero_le _, Nat.zero_le _⟩ (fun H locs hP hD hS => ?_)
  refine lv_istore (lv' := [(7, .int (hf_mix (hf_mix (hf_mix 1 kind) id) v)), (6, .int (nI (7 * sn))), (0, .ref (bd 0)), (1, .int kind), (2, .int id), (3, .int v), (4, .int c0), (5, .int c1)]) hx hb dn_M_enroll_30 hl (by decide) rfl (fun ls hl => ?_)
  refine lv_iload hx hb dn_M_enroll_32 (lv_at hl 0 rfl) ?_
  refine lv_iload hx hb dn_M_enroll_34 (lv_at hl 6 rfl) ?_
  refine gc_s0 (v := (hf_mix (hf_mix (hf_mix (hf_mix 1 kind) id) v) c0)) (As := [.int (hf_mix (hf_mix (hf_mix 1 kind) id) v), .int c0]) (rest := []) ⟨hx, hb, hml, hown, hw⟩ (c_M_mix l dC dI cI cZ (hf_mix (hf_mix (hf_mix 1 kind) id) v) c0) (gw_cS 2 hw mw_551 mw_552 mw_6 mw_553 hd_M_mix ⟨Nat.le_of_ble_eq_true rfl, Nat.le_of_ble_eq_true rfl⟩) hK hP hD hS hA rfl hl.1 rfl (Nat.le_of_ble_eq_true rfl) dn_M_enroll_36 ⟨Nat.zero_le _, Nat.zero_le _⟩ (fun H locs hP hD hS => ?_)
  refine lv_istore (lv' := [(7, .int (hf_mix (hf_mix (hf_mix (hf_mix 1 kind) id) v) c0)), (6, .int (nI (7 * sn))), (0, .ref (bd 0)), (1, .int kind), (2, .int id), (3, .int v), (4, .int c0), (5, .int c1)]) hx hb dn_M_enroll_39 hl (by decide) rfl (fun ls hl => ?_)
  refine lv_iload hx hb dn_M_enroll_41 (lv_at hl 0 rfl) ?_
  refine lv_iload hx hb dn_M_enroll_43 (lv_at hl 7 rfl) ?_
  refine gc_s0 (v := (hf_mix (hf_mix (hf_mix (hf_mix (hf_mix 1 kind) id) v) c0) c1)) (As := [.int (hf_mix (hf_mix (hf_mix (hf_mix 1 kind) id) v) c0), .int c1]) (rest := []) ⟨hx, hb, hml, hown, hw⟩ (c_M_mix l dC dI cI cZ (hf_mix (hf_mix (hf_mix (hf_mix 1 kind) id) v) c0) c1) (gw_cS 2 hw mw_551 mw_552 mw_6 mw_553 hd_M_mix ⟨Nat.le_of_ble_eq_true rfl, Nat.le_of_ble_eq_true rfl⟩) hK hP hD hS hA rfl hl.1 rfl (Nat.le_of_ble_eq_true rfl) dn_M_enroll_45 ⟨Nat.zero_le _, Nat.zero_le _⟩ (fun H locs hP hD hS => ?_)
  refine lv_istore (lv' := [(7, .int (hf_mix (hf_mix (hf_mix (hf_mix (hf_mix 1 kind) id) v) c0) c1)), (6, .int (nI (7 * sn))), (0, .ref (bd 0)), (1, .int kind), (2, .int id), (3, .int v), (4, .int c0), (5, .int c1)]) hx hb dn_M_enroll_48 hl (by decide) rfl (fun ls hl => ?_)
  refine lv_iload hx hb dn_M_enroll_50 (lv_at hl 0 rfl) ?_
  refine lv_aload_n hx hb dn_M_enroll_52 rfl (lv_at hl 2 rfl) ?_
  refine va_get (D := (dC, dI)) (ci := 5) (v := .int (nI clk)) (C := rn_M) (T := tn_M) (N := 19) hx hb hw ml_M hown hK hP 0 rfl rfl 1 (by decide) (hw _ mw_474) (fun _ h9 => h9) rfl dn_M_enroll_53 ?_
  refine gc_s0 (v := (hf_mix (hf_mix (hf_mix (hf_mix (hf_mix (hf_mix 1 kind) id) v) c0) c1) (nI clk))) (As := [.int (hf_mix (hf_mix (hf_mix (hf_mix (hf_mix 1 kind) id) v) c0) c1), .int (nI clk)]) (rest := []) ⟨hx, hb, hml, hown, hw⟩ (c_M_mix l dC dI cI cZ (hf_mix (hf_mix (hf_mix (hf_mix (hf_mix 1 kind) id) v) c0) c1) (nI clk)) (gw_cS 2 hw mw_551 mw_552 mw_6 mw_553 hd_M_mix ⟨Nat.le_of_ble_eq_true rfl, Nat.le_of_ble_eq_true rfl⟩) hK hP hD hS hA rfl hl.1 rfl (Nat.le_of_ble_eq_true rfl) dn_M_enroll_56 ⟨Nat.zero_le _, Nat.zero_le _⟩ (fun H locs hP hD hS => ?_)
  refine lv_istore (lv' := [(7, .int (hf_mix (hf_mix (hf_mix (hf_mix (hf_mix (hf_mix 1 kind) id) v) c0) c1) (nI clk))), (6, .int (nI (7 * sn))), (0, .ref (bd 0)), (1, .int kind), (2, .int id), (3, .int v), (4, .int c0), (5, .int c1)]) hx hb dn_M_enroll_59 hl (by decide) rfl (fun ls hl => ?_)
  refine lv_aload_n hx hb dn_M_enroll_61 rfl (lv_at hl 2 rfl) ?_
  refine lv_iload hx hb dn_M_enroll_62 (lv_at hl 1 rfl) ?_
  refine lv_iload_n hx hb dn_M_enroll_64 rfl (lv_at hl 3 rfl) ?_
  refine gc_vv (pre := []) (wc := [(bd 0, .inr (5, [.ref (bd 1), .int (nI clk), .int pw, .int lf, .ref (bd 2), .int (nI fc), .int (nI sn), .int (nI ob), .ref (bd 3), .ref (bd 4), .ref (bd 5), .int (nI st), .ref (bd 6), .ref (bd 7), .ref (bd 8), .int (nI ef), .int (nI ec), .int (nI fu), .ref (bd 9)])), (bd 1, .inl (cI, 292, .inl f)), (bd 2, .inl (cI, 12, .inl fd)), (bd 3, .inl (cI, 13, .inl S)), (bd 4, .inl (cI, 13, .inl D)), (bd 5, .inl (cI, 13, .inl G)), (bd 6, .inl (cI, 8, .inl Y)), (bd 7, .inl (cI, 8, .inl Z)), (bd 8, .inl (cZ, 8, .inl X)), (bd 9, .inl (cI, 40, .inl g))]) (po := []) (As := [.int (nI (7 * sn)), .int kind]) (rest := []) ⟨hx, hb, hml, hown, hw⟩ (c_M_write l dC dI cI cZ bd clk pw lf f fd fc sn ob S D G st Y Z X ef ec fu g hpw (7 * sn) (by omega) kind) (gw_cV 2 hw mw_564 mw_566 mv_27 mw_6 mw_567 hd_M_write ⟨Nat.le_of_ble_eq_true rfl, Nat.le_of_ble_eq_true rfl⟩) (ci := 5) rfl rfl rfl hK hP hD hS hA rfl hl.1 rfl (Nat.le_of_ble_eq_true rfl) dn_M_enroll_65 ⟨Nat.zero_le _, Nat.zero_le _⟩ (fun u65 H locs hc65 hP hD hS => ?_)
  have hP : va_P (dC, dI) vwCl [(bd 0, .inr (5, [.ref (bd 1), .int (nI clk), .int u65.2.1, .int u65.2.2, .ref (bd 2), .int (nI fc), .int (nI sn), .int (nI ob), .ref (bd 3), .ref (bd 4), .ref (bd 5), .int (nI st), .ref (bd 6), .ref (bd 7), .ref (bd 8), .int (nI ef), .int (nI ec), .int (nI fu), .ref (bd 9)])), (bd 1, .inl (cI, 292, .inl u65.1)), (bd 2, .inl (cI, 12, .inl fd)), (bd 3, .inl (cI, 13, .inl S)), (bd 4, .inl (cI, 13, .inl D)), (bd 5, .inl (cI, 13, .inl G)), (bd 6, .inl (cI, 8, .inl Y)), (bd 7, .inl (cI, 8, .inl Z)), (bd 8, .inl (cZ, 8, .inl X)), (bd 9, .inl (cI, 40, .inl g))] H := hP
  have hD : va_D A [(bd 0, .inr (5, [.ref (bd 1), .int (nI clk), .int u65.2.1, .int u65.2.2, .ref (bd 2), .int (nI fc), .int (nI sn), .int (nI ob), .ref (bd 3), .ref (bd 4), .ref (bd 5), .int (nI st), .ref (bd 6), .ref (bd 7), .ref (bd 8), .int (nI ef), .int (nI ec), .int (nI fu), .ref (bd 9)])), (bd 1, .inl (cI, 292, .inl u65.1)), (bd 2, .inl (cI, 12, .inl fd)), (bd 3, .inl (cI, 13, .inl S)), (bd 4, .inl (cI, 13, .inl D)), (bd 5, .inl (cI, 13, .inl G)), (bd 6, .inl (cI, 8, .inl Y)), (bd 7, .inl (cI, 8, .inl Z)), (bd 8, .inl (cZ, 8, .inl X)), (bd 9, .inl (cI, 40, .inl g))] := hD
  have hq65 := wr_q hc65 hpw
  refine lv_aload_n hx hb dn_M_enroll_68 rfl (lv_at hl 2 rfl) ?_
  refine lv_iload hx hb dn_M_enroll_69 (lv_at hl 1 rfl) ?_
  refine lv_iconst (v := 1) hx hb dn_M_enroll_71 (by decide) ?_
  refine gr_addN hx hb (7 * sn) 1 rfl rfl dn_M_enroll_72 ?_
  refine lv_iload_n hx hb dn_M_enroll_73 rfl (lv_at hl 4 rfl) ?_
  refine gc_vv (pre := []) (wc := [(bd 0, .inr (5, [.ref (bd 1), .int (nI clk), .int u65.2.1, .int u65.2.2, .ref (bd 2), .int (nI fc), .int (nI sn), .int (nI ob), .ref (bd 3), .ref (bd 4), .ref (bd 5), .int (nI st), .ref (bd 6), .ref (bd 7), .ref (bd 8), .int (nI ef), .int (nI ec), .int (nI fu), .ref (bd 9)])), (bd 1, .inl (cI, 292, .inl u65.1)), (bd 2, .inl (cI, 12, .inl fd)), (bd 3, .inl (cI, 13, .inl S)), (bd 4, .inl (cI, 13, .inl D)), (bd 5, .inl (cI, 13, .inl G)), (bd 6, .inl (cI, 8, .inl Y)), (bd 7, .inl (cI, 8, .inl Z)), (bd 8, .inl (cZ, 8, .inl X)), (bd 9, .inl (cI, 40, .inl g))]) (po := []) (As := [.int (nI ((7 * sn) + 1)), .int id]) (rest := []) ⟨hx, hb, hml, hown, hw⟩ (c_M_write l dC dI cI cZ bd clk u65.2.1 u65.2.2 u65.1 fd fc sn ob S D G st Y Z X ef ec fu g hq65 ((7 * sn) + 1) (by omega) id) (gw_cV 2 hw mw_564 mw_566 mv_27 mw_6 mw_567 hd_M_write ⟨Nat.le_of_ble_eq_true rfl, Nat.le_of_ble_eq_true rfl⟩) (ci := 5) rfl rfl rfl hK hP hD hS hA rfl hl.1 rfl (Nat.le_of_ble_eq_true rfl) dn_M_enroll_74 ⟨Nat.zero_le _, Nat.zero_le _⟩ (fun u74 H locs hc74 hP hD hS => ?_)
  have hP : va_P (dC, dI) vwCl [(bd 0, .inr (5, [.ref (bd 1), .int (nI clk), .int u74.2.1, .int u74.2.2, .ref (bd 2), .int (nI fc), .int (nI sn), .int (nI ob), .ref (bd 3), .ref (bd 4), .ref (bd 5), .int (nI st), .ref (bd 6), .ref (bd 7), .ref (bd 8), .int (nI ef), .int (nI ec), .int (nI fu), .ref (bd 9)])), (bd 1, .inl (cI, 292, .inl u74.1)), (bd 2, .inl (cI, 12, .inl fd)), (bd 3, .inl (cI, 13, .inl S)), (bd 4, .inl (cI, 13, .inl D)), (bd 5, .inl (cI, 13, .inl G)), (bd 6, .inl (cI, 8, .inl Y)), (bd 7, .inl (cI, 8, .inl Z)), (bd 8, .inl (cZ, 8, .inl X)), (bd 9, .inl (cI, 40, .inl g))] H := hP
  have hD : va_D A [(bd 0, .inr (5, [.ref (bd 1), .int (nI clk), .int u74.2.1, .int u74.2.2, .ref (bd 2), .int (nI fc), .int (nI sn), .int (nI ob), .ref (bd 3), .ref (bd 4), .ref (bd 5), .int (nI st), .ref (bd 6), .ref (bd 7), .ref (bd 8), .int (nI ef), .int (nI ec), .int (nI fu), .ref (bd 9)])), (bd 1, .inl (cI, 292, .inl u74.1)), (bd 2, .inl (cI, 12, .inl fd)), (bd 3, .inl (cI, 13, .inl S)), (bd 4, .inl (cI, 13, .inl D)), (bd 5, .inl (cI, 13, .inl G)), (bd 6, .inl (cI, 8, .inl Y)), (bd 7, .inl (cI, 8, .inl Z)), (bd 8, .inl (cZ, 8, .inl X)), (bd 9, .inl (cI, 40, .inl g))] := hD
  have hq74 := wr_q hc74 hq65
  refine lv_aload_n hx hb dn_M_enroll_77 rfl (lv_at hl 2 rfl) ?_
  refine lv_iload hx hb dn_M_enroll_78 (lv_at hl 1 rfl) ?_
  refine lv_iconst (v := 2) hx hb dn_M_enroll_80 (by decide) ?_
  refine gr_addN hx hb (7 * sn) 2 rfl rfl dn_M_enroll_81 ?_
  refine lv_iload_n hx hb dn_M_enroll_82 rfl (lv_at hl 5 rfl) ?_
  refine gc_vv (pre := []) (wc := [(bd 0, .inr (5, [.ref (bd 1), .int (nI clk), .int u74.2.1, .int u74.2.2, .ref (bd 2), .int (nI fc), .int (nI sn), .int (nI ob), .ref (bd 3), .ref (bd 4), .ref (bd 5), .int (nI st), .ref (bd 6), .ref (bd 7), .ref (bd 8), .int (nI ef), .int (nI ec), .int (nI fu), .ref (bd 9)])), (bd 1, .inl (cI, 292, .inl u74.1)), (bd 2, .inl (cI, 12, .inl fd)), (bd 3, .inl (cI, 13, .inl S)), (bd 4, .inl (cI, 13, .inl D)), (bd 5, .inl (cI, 13, .inl G)), (bd 6, .inl (cI, 8, .inl Y)), (bd 7, .inl (cI, 8, .inl Z)), (bd 8, .inl (cZ, 8, .inl X)), (bd 9, .inl (cI, 40, .inl g))]) (po := []) (As := [.int (nI ((7 * sn) + 2)), .int v]) (rest := []) ⟨hx, hb, hml, hown, hw⟩ (c_M_write l dC dI cI cZ bd clk u74.2.1 u74.2.2 u74.1 fd fc sn ob S D G st Y Z X ef ec fu g hq74 ((7 * sn) + 2) (by omega) v) (gw_cV 2 hw mw_564 mw_566 mv_27 mw_6 mw_567 hd_M_write ⟨Nat.le_of_ble_eq_true rfl, Nat.le_of_ble_eq_true rfl⟩) (ci := 5) rfl rfl rfl hK hP hD hS hA rfl hl.1 rfl (Nat.le_of_ble_eq_true rfl) dn_M_enroll_83 ⟨Nat.zero_le _, Nat.zero_le _⟩ (fun u83 H locs hc83 hP hD hS => ?_)
  have hP : va_P (dC, dI) vwCl [(bd 0, .inr (5, [.ref (bd 1), .int (nI clk), .int u83.2.1, .int u83.2.2, .ref (bd 2), .int (nI fc), .int (nI sn), .int (nI ob), .ref (bd 3), .ref (bd 4), .ref (bd 5), .int (nI st), .ref (bd 6), .ref (bd 7), .ref (bd 8), .int (nI ef), .int (nI ec), .int (nI fu), .ref (bd 9)])), (bd 1, .inl (cI, 292, .inl u83.1)), (bd 2, .inl (cI, 12, .inl fd)), (bd 3, .inl (cI, 13, .inl S)), (bd 4, .inl (cI, 13, .inl D)), (bd 5, .inl (cI, 13, .inl G)), (bd 6, .inl (cI, 8, .inl Y)), (bd 7, .inl (cI, 8, .inl Z)), (bd 8, .inl (cZ, 8, .inl X)), (bd 9, .inl (cI, 40, .inl g))] H := hP
  have hD : va_D A [(bd 0, .inr (5, [.ref (bd 1), .int (nI clk), .int u83.2.1, .int u83.2.2, .ref (bd 2), .int (nI fc), .int (nI sn), .int (nI ob), .ref (bd 3), .ref (bd 4), .ref (bd 5), .int (nI st), .ref (bd 6), .ref (bd 7), .ref (bd 8), .int (nI ef), .int (nI ec), .int (nI fu), .ref (bd 9)])), (bd 1, .inl (cI, 292, .inl u83.1)), (bd 2, .inl (cI, 12, .inl fd)), (bd 3, .inl (cI, 13, .inl S)), (bd 4, .inl (cI, 13, .inl D)), (bd 5, .inl (cI, 13, .inl G)), (bd 6, .inl (cI, 8, .inl Y)), (bd 7, .inl (cI, 8, .inl Z)), (bd 8, .inl (cZ, 8, .inl X)), (bd 9, .inl (cI, 40, .inl g))] := hD
  have hq83 := wr_q hc83 hq74
  refine lv_aload_n hx hb dn_M_enroll_86 rfl (lv_at hl 2 rfl) ?_
  refine lv_iload hx hb dn_M_enroll_87 (lv_at hl 1 rfl) ?_
  refine lv_iconst (v := 3) hx hb dn_M_enroll_89 (by decide) ?_
  refine gr_addN hx hb (7 * sn) 3 rfl rfl dn_M_enroll_90 ?_
  refine lv_iload hx hb dn_M_enroll_91 (lv_at hl 6 rfl) ?_
  refine gc_vv (pre := []) (wc := [(bd 0, .inr (5, [.ref (bd 1), .int (nI clk), .int u83.2.1, .int u83.2.2, .ref (bd 2), .int (nI fc), .int (nI sn), .int (nI ob), .ref (bd 3), .ref (bd 4), .ref (bd 5), .int (nI st), .ref (bd 6), .ref (bd 7), .ref (bd 8), .int (nI ef), .int (nI ec), .int (nI fu), .ref (bd 9)])), (bd 1, .inl (cI, 292, .inl u83.1)), (bd 2, .inl (cI, 12, .inl fd)), (bd 3, .inl (cI, 13, .inl S)), (bd 4, .inl (cI, 13, .inl D)), (bd 5, .inl (cI, 13, .inl G)), (bd 6, .inl (cI, 8, .inl Y)), (bd 7, .inl (cI, 8, .inl Z)), (bd 8, .inl (cZ, 8, .inl X)), (bd 9, .inl (cI, 40, .inl g))]) (po := []) (As := [.int (nI ((7 * sn) + 3)), .int c0]) (rest := []) ⟨hx, hb, hml, hown, hw⟩ (c_M_write l dC dI cI cZ bd clk u83.2.1 u83.2.2 u83.1 fd fc sn ob S D G st Y Z X ef ec fu g hq83 ((7 * sn) + 3) (by omega) c0) (gw_cV 2 hw mw_564 mw_566 mv_27 mw_6 mw_567 hd_M_write ⟨Nat.le_of_ble_eq_true rfl, Nat.le_of_ble_eq_true rfl⟩) (ci := 5) rfl rfl rfl hK hP hD hS hA rfl hl.1 rfl (Nat.le_of_ble_eq_true rfl) dn_M_enroll_93 ⟨Nat.zero_le _, Nat.zero_le _⟩ (fun u93 H locs hc93 hP hD hS => ?_)
  have hP : va_P (dC, dI) vwCl [(bd 0, .inr (5, [.ref (bd 1), .int (nI clk), .int u93.2.1, .int u93.2.2, .ref (bd 2), .int (nI fc), .int (nI sn), .int (nI ob), .ref (bd 3), .ref (bd 4), .ref (bd 5), .int (nI st), .ref (bd 6), .ref (bd 7), .ref (bd 8), .int (nI ef), .int (nI ec), .int (nI fu), .ref (bd 9)])), (bd 1, .inl (cI, 292, .inl u93.1)), (bd 2, .inl (cI, 12, .inl fd)), (bd 3, .inl (cI, 13, .inl S)), (bd 4, .inl (cI, 13, .inl D)), (bd 5, .inl (cI, 13, .inl G)), (bd 6, .inl (cI, 8, .inl Y)), (bd 7, .inl (cI, 8, .inl Z)), (bd 8, .inl (cZ, 8, .inl X)), (bd 9, .inl (cI, 40, .inl g))] H := hP
  have hD : va_D A [(bd 0, .inr (5, [.ref (bd 1), .int (nI clk), .int u93.2.1, .int u93.2.2, .ref (bd 2), .int (nI fc), .int (nI sn), .int (nI ob), .ref (bd 3), .ref (bd 4), .ref (bd 5), .int (nI st), .ref (bd 6), .ref (bd 7), .ref (bd 8), .int (nI ef), .int (nI ec), .int (nI fu), .ref (bd 9)])), (bd 1, .inl (cI, 292, .inl u93.1)), (bd 2, .inl (cI, 12, .inl fd)), (bd 3, .inl (cI, 13, .inl S)), (bd 4, .inl (cI, 13, .inl D)), (bd 5, .inl (cI, 13, .inl G)), (bd 6, .inl (cI, 8, .inl Y)), (bd 7, .inl (cI, 8, .inl Z)), (bd 8, .inl (cZ, 8, .inl X)), (bd 9, .inl (cI, 40, .inl g))] := hD
  have hq93 := wr_q hc93 hq83
  refine lv_aload_n hx hb dn_M_enroll_96 rfl (lv_at hl 2 rfl) ?_
  refine lv_iload hx hb dn_M_enroll_97 (lv_at hl 1 rfl) ?_
  refine lv_iconst (v := 4) hx hb dn_M_enroll_99 (by decide) ?_
  refine gr_addN hx hb (7 * sn) 4 rfl rfl dn_M_enroll_100 ?_
  refine lv_iload hx hb dn_M_enroll_101 (lv_at hl 7 rfl) ?_
  refine gc_vv (pre := []) (wc := [(bd 0, .inr (5, [.ref (bd 1), .int (nI clk), .int u93.2.1, .int u93.2.2, .ref (bd 2), .int (nI fc), .int (nI sn), .int (nI ob), .ref (bd 3), .ref (bd 4), .ref (bd 5), .int (nI st), .ref (bd 6), .ref (bd 7), .ref (bd 8), .int (nI ef), .int (nI ec), .int (nI fu), .ref (bd 9)])), (bd 1, .inl (cI, 292, .inl u93.1)), (bd 2, .inl (cI, 12, .inl fd)), (bd 3, .inl (cI, 13, .inl S)), (bd 4, .inl (cI, 13, .inl D)), (bd 5, .inl (cI, 13, .inl G)), (bd 6, .inl (cI, 8, .inl Y)), (bd 7, .inl (cI, 8, .inl Z)), (bd 8, .inl (cZ, 8, .inl X)), (bd 9, .inl (cI, 40, .inl g))]) (po := []) (As := [.int (nI ((7 * sn) + 4)), .int c1]) (rest := []) ⟨hx, hb, hml, hown, hw⟩ (c_M_write l dC dI cI cZ bd clk u93.2.1 u93.2.2 u93.1 fd fc sn ob S D G st Y Z X ef ec fu g hq93 ((7 * sn) + 4) (by omega) c1) (gw_cV 2 hw mw_564 mw_566 mv_27 mw_6 mw_567 hd_M_write ⟨Nat.le_of_ble_eq_true rfl, Nat.le_of_ble_eq_true rfl⟩) (ci := 5) rfl rfl rfl hK hP hD hS hA rfl hl.1 rfl (Nat.le_of_ble_eq_true rfl) dn_M_enroll_103 ⟨Nat.zero_le _, Nat.zero_le _⟩ (fun u103 H locs hc103 hP hD hS => ?_)
  have hP : va_P (dC, dI) vwCl [(bd 0, .inr (5, [.ref (bd 1), .int (nI clk), .int u103.2.1, .int u103.2.2, .ref (bd 2), .int (nI fc), .int (nI sn), .int (nI ob), .ref (bd 3), .ref (bd 4), .ref (bd 5), .int (nI st), .ref (bd 6), .ref (bd 7), .ref (bd 8), .int (nI ef), .int (nI ec), .int (nI fu), .ref (bd 9)])), (bd 1, .inl (cI, 292, .inl u103.1)), (bd 2, .inl (cI, 12, .inl fd)), (bd 3, .inl (cI, 13, .inl S)), (bd 4, .inl (cI, 13, .inl D)), (bd 5, .inl (cI, 13, .inl G)), (bd 6, .inl (cI, 8, .inl Y)), (bd 7, .inl (cI, 8, .inl Z)), (bd 8, .inl (cZ, 8, .inl X)), (bd 9, .inl (cI, 40, .inl g))] H := hP
  have hD : va_D A [(bd 0, .inr (5, [.ref (bd 1), .int (nI clk), .int u103.2.1, .int u103.2.2, .ref (bd 2), .int (nI fc), .int (nI sn), .int (nI ob), .ref (bd 3), .ref (bd 4), .ref (bd 5), .int (nI st), .ref (bd 6), .ref (bd 7), .ref (bd 8), .int (nI ef), .int (nI ec), .int (nI fu), .ref (bd 9)])), (bd 1, .inl (cI, 292, .inl u103.1)), (bd 2, .inl (cI, 12, .inl fd)), (bd 3, .inl (cI, 13, .inl S)), (bd 4, .inl (cI, 13, .inl D)), (bd 5, .inl (cI, 13, .inl G)), (bd 6, .inl (cI, 8, .inl Y)), (bd 7, .inl (cI, 8, .inl Z)), (bd 8, .inl (cZ, 8, .inl X)), (bd 9, .inl (cI, 40, .inl g))] := hD
  have hq103 := wr_q hc103 hq93
  refine lv_aload_n hx hb dn_M_enroll_106 rfl (lv_at hl 2 rfl) ?_
  refine lv_iload hx hb dn_M_enroll_107 (lv_at hl 1 rfl) ?_
  refine lv_iconst (v := 5) hx hb dn_M_enroll_109 (by decide) ?_
  refine gr_addN hx hb (7 * sn) 5 rfl rfl dn_M_enroll_110 ?_
  refine lv_aload_n hx hb dn_M_enroll_111 rfl (lv_at hl 2 rfl) ?_
  refine va_get (D := (dC, dI)) (ci := 5) (v := .int (nI clk)) (C := rn_M) (T := tn_M) (N := 19) hx hb hw ml_M hown hK hP 0 rfl rfl 1 (by decide) (hw _ mw_474) (fun _ h9 => h9) rfl dn_M_enroll_112 ?_
  refine gc_vv (pre := []) (wc := [(bd 0, .inr (5, [.ref (bd 1), .int (nI clk), .int u103.2.1, .int u103.2.2, .ref (bd 2), .int (nI fc), .int (nI sn), .int (nI ob), .ref (bd 3), .ref (bd 4), .ref (bd 5), .int (nI st), .ref (bd 6), .ref (bd 7), .ref (bd 8), .int (nI ef), .int (nI ec), .int (nI fu), .ref (bd 9)])), (bd 1, .inl (cI, 292, .inl u103.1)), (bd 2, .inl (cI, 12, .inl fd)), (bd 3, .inl (cI, 13, .inl S)), (bd 4, .inl (cI, 13, .inl D)), (bd 5, .inl (cI, 13, .inl G)), (bd 6, .inl (cI, 8, .inl Y)), (bd 7, .inl (cI, 8, .inl Z)), (bd 8, .inl (cZ, 8, .inl X)), (bd 9, .inl (cI, 40, .inl g))]) (po := []) (As := [.int (nI ((7 * sn) + 5)), .int (nI clk)]) (rest := []) ⟨hx, hb, hml, hown, hw⟩ (c_M_write l dC dI cI cZ bd clk u103.2.1 u103.2.2 u103.1 fd fc sn ob S D G st Y Z X ef ec fu g hq103 ((7 * sn) + 5) (by omega) (nI clk)) (gw_cV 2 hw mw_564 mw_566 mv_27 mw_6 mw_567 hd_M_write ⟨Nat.le_of_ble_eq_true rfl, Nat.le_of_ble_eq_true rfl⟩) (ci := 5) rfl rfl rfl hK hP hD hS hA rfl hl.1 rfl (Nat.le_of_ble_eq_true rfl) dn_M_enroll_115 ⟨Nat.zero_le _, Nat.zero_le _⟩ (fun u115 H locs hc115 hP hD hS => ?_)
  have hP : va_P (dC, dI) vwCl [(bd 0, .inr (5, [.ref (bd 1), .int (nI clk), .int u115.2.1, .int u115.2.2, .ref (bd 2), .int (nI fc), .int (nI sn), .int (nI ob), .ref (bd 3), .ref (bd 4), .ref (bd 5), .int (nI st), .ref (bd 6), .ref (bd 7), .ref (bd 8), .int (nI ef), .int (nI ec), .int (nI fu), .ref (bd 9)])), (bd 1, .inl (cI, 292, .inl u115.1)), (bd 2, .inl (cI, 12, .inl fd)), (bd 3, .inl (cI, 13, .inl S)), (bd 4, .inl (cI, 13, .inl D)), (bd 5, .inl (cI, 13, .inl G)), (bd 6, .inl (cI, 8, .inl Y)), (bd 7, .inl (cI, 8, .inl Z)), (bd 8, .inl (cZ, 8, .inl X)), (bd 9, .inl (cI, 40, .inl g))] H := hP
  have hD : va_D A [(bd 0, .inr (5, [.ref (bd 1), .int (nI clk), .int u115.2.1, .int u115.2.2, .ref (bd 2), .int (nI fc), .int (nI sn), .int (nI ob), .ref (bd 3), .ref (bd 4), .ref (bd 5), .int (nI st), .ref (bd 6), .ref (bd 7), .ref (bd 8), .int (nI ef), .int (nI ec), .int (nI fu), .ref (bd 9)])), (bd 1, .inl (cI, 292, .inl u115.1)), (bd 2, .inl (cI, 12, .inl fd)), (bd 3, .inl (cI, 13, .inl S)), (bd 4, .inl (cI, 13, .inl D)), (bd 5, .inl (cI, 13, .inl G)), (bd 6, .inl (cI, 8, .inl Y)), (bd 7, .inl (cI, 8, .inl Z)), (bd 8, .inl (cZ, 8, .inl X)), (bd 9, .inl (cI, 40, .inl g))] := hD
  have hq115 := wr_q hc115 hq103
  refine lv_aload_n hx hb dn_M_enroll_118 rfl (lv_at hl 2 rfl) ?_
  refine lv_iload hx hb dn_M_enroll_119 (lv_at hl 1 rfl) ?_
  refine lv_bipush (v := 6) hx hb dn_M_enroll_121 (by decide) ?_
  refine gr_addN hx hb (7 * sn) 6 rfl rfl dn_M_enroll_123 ?_
  refine lv_iload hx hb dn_M_enroll_124 (lv_at hl 0 rfl) ?_
  refine lv_iconst (v := 1) hx hb dn_M_enroll_126 (by decide) ?_
  refine lv_ior hx hb dn_M_enroll_127 ?_
  refine gc_vv (pre := []) (wc := [(bd 0, .inr (5, [.ref (bd 1), .int (nI clk), .int u115.2.1, .int u115.2.2, .ref (bd 2), .int (nI fc), .int (nI sn), .int (nI ob), .ref (bd 3), .ref (bd 4), .ref (bd 5), .int (nI st), .ref (bd 6), .ref (bd 7), .ref (bd 8), .int (nI ef), .int (nI ec), .int (nI fu), .ref (bd 9)])), (bd 1, .inl (cI, 292, .inl u115.1)), (bd 2, .inl (cI, 12, .inl fd)), (bd 3, .inl (cI, 13, .inl S)), (bd 4, .inl (cI, 13, .inl D)), (bd 5, .inl (cI, 13, .inl G)), (bd 6, .inl (cI, 8, .inl Y)), (bd 7, .inl (cI, 8, .inl Z)), (bd 8, .inl (cZ, 8, .inl X)), (bd 9, .inl (cI, 40, .inl g))]) (po := []) (As := [.int (nI ((7 * sn) + 6)), .int ((hf_mix (hf_mix (hf_mix (hf_mix (hf_mix (hf_mix 1 kind) id) v) c0) c1) (nI clk)) ||| 1)]) (rest := []) ⟨hx, hb, hml, hown, hw⟩ (c_M_write l dC dI cI cZ bd clk u115.2.1 u115.2.2 u115.1 fd fc sn ob S D G st Y Z X ef ec fu g hq115 ((7 * sn) + 6) (by omega) ((hf_mix (hf_mix (hf_mix (hf_mix (hf_mix (hf_mix 1 kind) id) v) c0) c1) (nI clk)) ||| 1)) (gw_cV 2 hw mw_564 mw_566 mv_27 mw_6 mw_567 hd_M_write ⟨Nat.le_of_ble_eq_true rfl, Nat.le_of_ble_eq_true rfl⟩) (ci := 5) rfl rfl rfl hK hP hD hS hA rfl hl.1 rfl (Nat.le_of_ble_eq_true rfl) dn_M_enroll_128 ⟨Nat.zero_le _, Nat.zero_le _⟩ (fun u128 H locs hc128 hP hD hS => ?_)
  have hP : va_P (dC, dI) vwCl [(bd 0, .inr (5, [.ref (bd 1), .int (nI clk), .int u128.2.1, .int u128.2.2, .ref (bd 2), .int (nI fc), .int (nI sn), .int (nI ob), .ref (bd 3), .ref (bd 4), .ref (bd 5), .int (nI st), .ref (bd 6), .ref (bd 7), .ref (bd 8), .int (nI ef), .int (nI ec), .int (nI fu), .ref (bd 9)])), (bd 1, .inl (cI, 292, .inl u128.1)), (bd 2, .inl (cI, 12, .inl fd)), (bd 3, .inl (cI, 13, .inl S)), (bd 4, .inl (cI, 13, .inl D)), (bd 5, .inl (cI, 13, .inl G)), (bd 6, .inl (cI, 8, .inl Y)), (bd 7, .inl (cI, 8, .inl Z)), (bd 8, .inl (cZ, 8, .inl X)), (bd 9, .inl (cI, 40, .inl g))] H := hP
  have hD : va_D A [(bd 0, .inr (5, [.ref (bd 1), .int (nI clk), .int u128.2.1, .int u128.2.2, .ref (bd 2), .int (nI fc), .int (nI sn), .int (nI ob), .ref (bd 3), .ref (bd 4), .ref (bd 5), .int (nI st), .ref (bd 6), .ref (bd 7), .ref (bd 8), .int (nI ef), .int (nI ec), .int (nI fu), .ref (bd 9)])), (bd 1, .inl (cI, 292, .inl u128.1)), (bd 2, .inl (cI, 12, .inl fd)), (bd 3, .inl (cI, 13, .inl S)), (bd 4, .inl (cI, 13, .inl D)), (bd 5, .inl (cI, 13, .inl G)), (bd 6, .inl (cI, 8, .inl Y)), (bd 7, .inl (cI, 8, .inl Z)), (bd 8, .inl (cZ, 8, .inl X)), (bd 9, .inl (cI, 40, .inl g))] := hD
  have hq128 := wr_q hc128 hq115
  exact hret u128 _ _ _ _ (en_7 hc65 hc74 hc83 hc93 hc103 hc115 hc128) hP hD hS dn_M_enroll_131

set_option maxRecDepth 100000 in
set_option maxHeartbeats 1000000 in
theorem c_M_refusal (l : Launch) (dC : Nat → ClassId) (dI : Nat → Nat → Nat) (cI cZ : ClassId) (bd : Nat → Nat) (clk : Nat) (pw lf : Int32) (f fd : Nat → Int32) (fc sn ob : Nat) (S D G : Nat → Int32) (st : Nat) (Y Z X : Nat → Int32) (ef ec fu : Nat) (g : Nat → Int32) (hpw : pw = 0 ∨ pw = 1) (kind id v : Int32) (k1 : 1 ≤ kind) (k6 : kind ≤ 6) : gc_I l yn_M_refusal (gw yn_M_refusal cn_M_refusal 5 (some .int)) (rm_ 4 95) (dC, dI) vwCl (gT cI cZ) [.ref (bd 0), .int kind, .int id, .int v] [(bd 0, .inr (5, [.ref (bd 1), .int (nI clk), .int pw, .int lf, .ref (bd 2), .int (nI fc), .int (nI sn), .int (nI ob), .ref (bd 3), .ref (bd 4), .ref (bd 5), .int (nI st), .ref (bd 6), .ref (bd 7), .ref (bd 8), .int (nI ef), .int (nI ec), .int (nI fu), .ref (bd 9)])), (bd 1, .inl (cI, 292, .inl f)), (bd 2, .inl (cI, 12, .inl fd)), (bd 3, .inl (cI, 13, .inl S)), (bd 4, .inl (cI, 13, .inl D)), (bd 5, .inl (cI, 13, .inl G)), (bd 6, .inl (cI, 8, .inl Y)), (bd 7, .inl (cI, 8, .inl Z)), (bd 8, .inl (cZ, 8, .inl X)), (bd 9, .inl (cI, 40, .inl g))] (fun r (u : ct_T × Nat) => r = an_no f clk pw kind id v ∧ (pw = 1 → ct_n f (nI clk) u.2 ∧ ct_eq u.1 (ct_st f u.2))) (fun u => [(bd 0, .inr (5, [.ref (bd 1), .int (nI clk), .int pw, .int lf, .ref (bd 2), .int (nI fc), .int (nI u.2), .int (nI u.1.1), .ref (bd 3), .ref (bd 4), .ref (bd 5), .int (nI st), .ref (bd 6), .ref (bd 7), .ref (bd 8), .int (nI ef), .int (nI ec), .int (nI fu), .ref (bd 9)])), (bd 1, .inl (cI, 292, .inl f)), (bd 2, .inl (cI, 12, .inl fd)), (bd 3, .inl (cI, 13, .inl u.1.2.1)), (bd 4, .inl (cI, 13, .inl u.1.2.2.1)), (bd 5, .inl (cI, 13, .inl u.1.2.2.2.1)), (bd 6, .inl (cI, 8, .inl Y)), (bd 7, .inl (cI, 8, .inl Z)), (bd 8, .inl (cZ, 8, .inl X)), (bd 9, .inl (cI, 40, .inl g))]) := by
  refine gc_I_of (cc := cn_M_refusal) (maxL := 5) (ty := .int) (by decide) rfl (Nat.le_of_ble_eq_true rfl) ?_
  intro pp ee ss mm ar be me cd A Q ls H0 H locs hx hb hml hown hts hK hP hD hS hA hl hret
  have hw : ∀ w ∈ gw_T, w.before ar ss = true := fun w h => hts w (List.mem_cons_of_mem _ h)
  have hl : lv_has ls 5 [(0, .ref (bd 0)), (1, .int kind), (2, .int id), (3, .int v)] := hl
  rcases hpw with rfl | rfl
  · skip
    refine lv_aload_n hx hb dn_M_refusal_0 rfl (lv_at hl 0 rfl) ?_
    refine va_get (D := (dC, dI)) (ci := 5) (v := .int 0) (C := rn_M) (T := tn_M) (N := 19) hx hb hw ml_M hown hK hP 0 rfl rfl 2 (by decide) (hw _ mw_475) (fun _ h9 => h9) rfl dn_M_refusal_1 ?_
    refine lv_if_ne (tgt := 10) hx hb dn_M_refusal_4 (by decide) (fun h => absurd h (by decide)) (fun _ => ?_)
    refine lv_bipush (v := (-10)) hx hb dn_M_refusal_7 (by decide) ?_
    exact hret (-10) ((ob, S, D, G, S), sn) _ _ _ _ ⟨(an_no_off kind id v).symm, fun q => absurd q (by decide)⟩ rfl hP hD hS dn_M_refusal_9
  · skip
    refine lv_aload_n hx hb dn_M_refusal_0 rfl (lv_at hl 0 rfl) ?_
    refine va_get (D := (dC, dI)) (ci := 5) (v := .int 1) (C := rn_M) (T := tn_M) (N := 19) hx hb hw ml_M hown hK hP 0 rfl rfl 2 (by decide) (hw _ mw_475) (fun _ h9 => h9) rfl dn_M_refusal_1 ?_
    refine lv_if_ne (tgt := 10) hx hb dn_M_refusal_4 (by decide) (fun _ => ?_) (fun h => absurd h (by decide))
    refine lv_aload_n hx hb dn_M_refusal_10 rfl (lv_at hl 0 rfl) ?_
    refine gc_vv (pre := []) (wc := [(bd 0, .inr (5, [.ref (bd 1), .int (nI clk), .int 1, .int lf, .ref (bd 2), .int (nI fc), .int (nI sn), .int (nI ob), .ref (bd 3), .ref (bd 4), .ref (bd 5), .int (nI st), .ref (bd 6), .ref (bd 7), .ref (bd 8), .int (nI ef), .int (nI ec), .int (nI fu), .ref (bd 9)])), (bd 1, .inl (cI, 292, .inl f)), (bd 2, .inl (cI, 12, .inl fd)), (bd 3, .inl (cI, 13, .inl S)), (bd 4, .inl (cI, 13, .inl D)), (bd 5, .inl (cI, 13, .inl G)), (bd 6, .inl (cI, 8, .inl Y)), (bd 7, .inl (cI, 8, .inl Z)), (bd 8, .inl (cZ, 8, .inl X)), (bd 9, .inl (cI, 40, .inl g))]) (po := []) (As := []) (rest := []) ⟨hx, hb, hml, hown, hw⟩ (c_M_goThrough l dC dI cI cZ bd clk 1 lf f fd fc sn ob S D G st Y Z X ef ec fu g) (gw_cV 0 hw mw_539 mw_541 mv_22 mw_6 mw_542 hd_M_goThrough ⟨Nat.le_of_ble_eq_true rfl, Nat.le_of_ble_eq_true rfl⟩) (ci := 5) rfl rfl rfl hK hP hD hS hA rfl hl.1 rfl (Nat.le_of_ble_eq_true rfl) dn_M_refusal_11 ⟨Nat.zero_le _, Nat.zero_le _⟩ (fun u11 H locs hc11 hP hD hS => ?_)
    have hP : va_P (dC, dI) vwCl [(bd 0, .inr (5, [.ref (bd 1), .int (nI clk), .int 1, .int lf, .ref (bd 2), .int (nI fc), .int (nI u11.2), .int (nI u11.1.1), .ref (bd 3), .ref (bd 4), .ref (bd 5), .int (nI st), .ref (bd 6), .ref (bd 7), .ref (bd 8), .int (nI ef), .int (nI ec), .int (nI fu), .ref (bd 9)])), (bd 1, .inl (cI, 292, .inl f)), (bd 2, .inl (cI, 12, .inl fd)), (bd 3, .inl (cI, 13, .inl u11.1.2.1)), (bd 4, .inl (cI, 13, .inl u11.1.2.2.1)), (bd 5, .inl (cI, 13, .inl u11.1.2.2.2.1)), (bd 6, .inl (cI, 8, .inl Y)), (bd 7, .inl (cI, 8, .inl Z)), (bd 8, .inl (cZ, 8, .inl X)), (bd 9, .inl (cI, 40, .inl g))] H := hP
    have hD : va_D A [(bd 0, .inr (5, [.ref (bd 1), .int (nI clk), .int 1, .int lf, .ref (bd 2), .int (nI fc), .int (nI u11.2), .int (nI u11.1.1), .ref (bd 3), .ref (bd 4), .ref (bd 5), .int (nI st), .ref (bd 6), .ref (bd 7), .ref (bd 8), .int (nI ef), .int (nI ec), .int (nI fu), .ref (bd 9)])), (bd 1, .inl (cI, 292, .inl f)), (bd 2, .inl (cI, 12, .inl fd)), (bd 3, .inl (cI, 13, .inl u11.1.2.1)), (bd 4, .inl (cI, 13, .inl u11.1.2.2.1)), (bd 5, .inl (cI, 13, .inl u11.1.2.2.2.1)), (bd 6, .inl (cI, 8, .inl Y)), (bd 7, .inl (cI, 8, .inl Z)), (bd 8, .inl (cZ, 8, .inl X)), (bd 9, .inl (cI, 40, .inl g))] := hD
    have hsn := hc11.1.1
    refine lv_aload_n hx hb dn_M_refusal_14 rfl (lv_at hl 0 rfl) ?_
    refine lv_iload_n hx hb dn_M_refusal_15 rfl (lv_at hl 1 rfl) ?_
    refine lv_iload_n hx hb dn_M_refusal_16 rfl (lv_at hl 2 rfl) ?_
    refine lv_iload_n hx hb dn_M_refusal_17 rfl (lv_at hl 3 rfl) ?_
    refine lv_aload_n hx hb dn_M_refusal_18 rfl (lv_at hl 0 rfl) ?_
    refine va_get (D := (dC, dI)) (ci := 5) (v := .int (nI clk)) (C := rn_M) (T := tn_M) (N := 19) hx hb hw ml_M hown hK hP 0 rfl rfl 1 (by decide) (hw _ mw_474) (fun _ h9 => h9) rfl dn_M_refusal_19 ?_
    refine gc_vi (pre := []) (wc := [(bd 0, .inr (5, [.ref (bd 1), .int (nI clk), .int 1, .int lf, .ref (bd 2), .int (nI fc), .int (nI u11.2), .int (nI u11.1.1), .ref (bd 3), .ref (bd 4), .ref (bd 5), .int (nI st), .ref (bd 6), .ref (bd 7), .ref (bd 8), .int (nI ef), .int (nI ec), .int (nI fu), .ref (bd 9)])), (bd 1, .inl (cI, 292, .inl f)), (bd 2, .inl (cI, 12, .inl fd)), (bd 3, .inl (cI, 13, .inl u11.1.2.1)), (bd 4, .inl (cI, 13, .inl u11.1.2.2.1)), (bd 5, .inl (cI, 13, .inl u11.1.2.2.2.1)), (bd 6, .inl (cI, 8, .inl Y)), (bd 7, .inl (cI, 8, .inl Z)), (bd 8, .inl (cZ, 8, .inl X)), (bd 9, .inl (cI, 40, .inl g))]) (po := []) (As := [.int kind, .int id, .int v, .int (nI clk)]) (rest := []) ⟨hx, hb, hml, hown, hw⟩ (c_M_rule l dC dI cI cZ bd clk 1 lf f fd fc u11.2 u11.1.1 u11.1.2.1 u11.1.2.2.1 u11.1.2.2.2.1 st Y Z X ef ec fu g (ce_12 hc11.2 hc11.1.2.1) kind id v (nI clk) k1 k6) (gw_cV 4 hw mw_555 mw_557 mv_25 mw_6 mw_558 hd_M_rule ⟨Nat.le_of_ble_eq_true rfl, Nat.le_of_ble_eq_true rfl⟩) (ci := 5) rfl rfl rfl hK hP hD hS hA rfl hl.1 rfl (Nat.le_of_ble_eq_true rfl) dn_M_refusal_22 ⟨Nat.zero_le _, Nat.zero_le _⟩ (fun r22 u22 H locs hc22 hP hD hS => ?_)
    subst hc22
    have hP : va_P (dC, dI) vwCl [(bd 0, .inr (5, [.ref (bd 1), .int (nI clk), .int 1, .int lf, .ref (bd 2), .int (nI fc), .int (nI u11.2), .int (nI u11.1.1), .ref (bd 3), .ref (bd 4), .ref (bd 5), .int (nI st), .ref (bd 6), .ref (bd 7), .ref (bd 8), .int (nI ef), .int (nI ec), .int (nI fu), .ref (bd 9)])), (bd 1, .inl (cI, 292, .inl f)), (bd 2, .inl (cI, 12, .inl fd)), (bd 3, .inl (cI, 13, .inl u11.1.2.1)), (bd 4, .inl (cI, 13, .inl u11.1.2.2.1)), (bd 5, .inl (cI, 13, .inl u11.1.2.2.2.1)), (bd 6, .inl (cI, 8, .inl Y)), (bd 7, .inl (cI, 8, .inl Z)), (bd 8, .inl (cZ, 8, .inl X)), (bd 9, .inl (cI, 40, .inl g))] H := hP
    have hD : va_D A [(bd 0, .inr (5, [.ref (bd 1), .int (nI clk), .int 1, .int lf, .ref (bd 2), .int (nI fc), .int (nI u11.2), .int (nI u11.1.1), .ref (bd 3), .ref (bd 4), .ref (bd 5), .int (nI st), .ref (bd 6), .ref (bd 7), .ref (bd 8), .int (nI ef), .int (nI ec), .int (nI fu), .ref (bd 9)])), (bd 1, .inl (cI, 292, .inl f)), (bd 2, .inl (cI, 12, .inl fd)), (bd 3, .inl (cI, 13, .inl u11.1.2.1)), (bd 4, .inl (cI, 13, .inl u11.1.2.2.1)), (bd 5, .inl (cI, 13, .inl u11.1.2.2.2.1)), (bd 6, .inl (cI, 8, .inl Y)), (bd 7, .inl (cI, 8, .inl Z)), (bd 8, .inl (cZ, 8, .inl X)), (bd 9, .inl (cI, 40, .inl g))] := hD
    refine lv_istore (lv' := [(4, .int (ct_ru u11.1.1 u11.1.2.1 u11.1.2.2.1 u11.1.2.2.2.1 kind id v (nI clk))), (0, .ref (bd 0)), (1, .int kind), (2, .int id), (3, .int v)]) hx hb dn_M_refusal_25 hl (by decide) rfl (fun ls hl => ?_)
    refine lv_iload hx hb dn_M_refusal_27 (lv_at hl 0 rfl) ?_
    refine lv_if_eq (tgt := 37) hx hb dn_M_refusal_29 (by decide) (fun h29 => ?_) (fun h29 => ?_)
    · skip
      refine lv_aload_n hx hb dn_M_refusal_37 rfl (lv_at hl 1 rfl) ?_
      refine va_get (D := (dC, dI)) (ci := 5) (v := .int (nI u11.2)) (C := rn_M) (T := tn_M) (N := 19) hx hb hw ml_M hown hK hP 0 rfl rfl 6 (by decide) (hw _ mw_479) (fun _ h9 => h9) rfl dn_M_refusal_38 ?_
      refine lv_bipush (v := 40) hx hb dn_M_refusal_41 (by decide) ?_
      refine gr_clt (tgt := 51) hx hb u11.2 40 rfl rfl (by omega) (by decide) dn_M_refusal_43 (by decide) (fun h43 => ?_) (fun h43 => ?_)
      · skip
        refine lv_iconst (v := 0) hx hb dn_M_refusal_51 (by decide) ?_
        exact hret 0 u11 _ _ _ _ ⟨(mn_ok hc11.1 hc11.2 k1 k6 h29 h43), fun _ => hc11⟩ rfl hP hD hS dn_M_refusal_52
      · skip
        refine lv_bipush (v := (-8)) hx hb dn_M_refusal_46 (by decide) ?_
        refine lv_goto (tgt := 52) hx hb dn_M_refusal_48 (by decide) ?_
        exact hret (-8) u11 _ _ _ _ ⟨(mn_full hc11.1 hc11.2 k1 k6 h29 h43), fun _ => hc11⟩ rfl hP hD hS dn_M_refusal_52
    · skip
      refine lv_iload hx hb dn_M_refusal_32 (lv_at hl 0 rfl) ?_
      refine lv_goto (tgt := 52) hx hb dn_M_refusal_34 (by decide) ?_
      exact hret (ct_ru u11.1.1 u11.1.2.1 u11.1.2.2.1 u11.1.2.2.2.1 kind id v (nI clk)) u11 _ _ _ _ ⟨(mn_no hc11.1 hc11.2 k1 k6 h29), fun _ => hc11⟩ rfl hP hD hS dn_M_refusal_52

set_option maxRecDepth 100000 in
set_option maxHeartbeats 1000000 in
theorem c_M_plain (l : Launch) (dC : Nat → ClassId) (dI : Nat → Nat → Nat) (cI cZ : ClassId) (bd : Nat → Nat) (clk : Nat) (pw lf : Int32) (f fd : Nat → Int32) (fc sn ob : Nat) (S D G : Nat → Int32) (st : Nat) (Y Z X : Nat → Int32) (ef ec fu : Nat) (g : Nat → Int32) (hpw : pw = 0 ∨ pw = 1) (kind id v : Int32) (k1 : 1 ≤ kind) (k6 : kind ≤ 6) (hk1 : kind ≠ 1) : gc_I l yn_M_plain (gw yn_M_plain cn_M_plain 5 (some .int)) (rm_ 5 119) (dC, dI) vwCl (gT cI cZ) [.ref (bd 0), .int kind, .int id, .int v] [(bd 0, .inr (5, [.ref (bd 1), .int (nI clk), .int pw, .int lf, .ref (bd 2), .int (nI fc), .int (nI sn), .int (nI ob), .ref (bd 3), .ref (bd 4), .ref (bd 5), .int (nI st), .ref (bd 6), .ref (bd 7), .ref (bd 8), .int (nI ef), .int (nI ec), .int (nI fu), .ref (bd 9)])), (bd 1, .inl (cI, 292, .inl f)), (bd 2, .inl (cI, 12, .inl fd)), (bd 3, .inl (cI, 13, .inl S)), (bd 4, .inl (cI, 13, .inl D)), (bd 5, .inl (cI, 13, .inl G)), (bd 6, .inl (cI, 8, .inl Y)), (bd 7, .inl (cI, 8, .inl Z)), (bd 8, .inl (cZ, 8, .inl X)), (bd 9, .inl (cI, 40, .inl g))] (fun r (u : wr_T × ct_T × Nat) => r = an_pl f clk pw lf kind id v ∧ u.1 = nx_pl f clk pw lf kind id v) (fun u => [(bd 0, .inr (5, [.ref (bd 1), .int (nI clk), .int u.1.2.1, .int u.1.2.2, .ref (bd 2), .int (nI fc), .int (nI u.2.2), .int (nI u.2.1.1), .ref (bd 3), .ref (bd 4), .ref (bd 5), .int (nI st), .ref (bd 6), .ref (bd 7), .ref (bd 8), .int (nI ef), .int (nI ec), .int (nI fu), .ref (bd 9)])), (bd 1, .inl (cI, 292, .inl u.1.1)), (bd 2, .inl (cI, 12, .inl fd)), (bd 3, .inl (cI, 13, .inl u.2.1.2.1)), (bd 4, .inl (cI, 13, .inl u.2.1.2.2.1)), (bd 5, .inl (cI, 13, .inl u.2.1.2.2.2.1)), (bd 6, .inl (cI, 8, .inl Y)), (bd 7, .inl (cI, 8, .inl Z)), (bd 8, .inl (cZ, 8, .inl X)), (bd 9, .inl (cI, 40, .inl g))]) := by
  refine gc_I_of (cc := cn_M_plain) (maxL := 5) (ty := .int) (by decide) rfl (Nat.le_of_ble_eq_true rfl) ?_
  intro pp ee ss mm ar be me cd A Q ls H0 H locs hx hb hml hown hts hK hP hD hS hA hl hret
  have hw : ∀ w ∈ gw_T, w.before ar ss = true := fun w h => hts w (List.mem_cons_of_mem _ h)
  have hl : lv_has ls 5 [(0, .ref (bd 0)), (1, .int kind), (2, .int id), (3, .int v)] := hl
  refine lv_aload_n hx hb dn_M_plain_0 rfl (lv_at hl 0 rfl) ?_
  refine lv_iload_n hx hb dn_M_plain_1 rfl (lv_at hl 1 rfl) ?_
  refine lv_iload_n hx hb dn_M_plain_2 rfl (lv_at hl 2 rfl) ?_
  refine lv_iload_n hx hb dn_M_plain_3 rfl (lv_at hl 3 rfl) ?_
  refine gc_vi (pre := []) (wc := [(bd 0, .inr (5, [.ref (bd 1), .int (nI clk), .int pw, .int lf, .ref (bd 2), .int (nI fc), .int (nI sn), .int (nI ob), .ref (bd 3), .ref (bd 4), .ref (bd 5), .int (nI st), .ref (bd 6), .ref (bd 7), .ref (bd 8), .int (nI ef), .int (nI ec), .int (nI fu), .ref (bd 9)])), (bd 1, .inl (cI, 292, .inl f)), (bd 2, .inl (cI, 12, .inl fd)), (bd 3, .inl (cI, 13, .inl S)), (bd 4, .inl (cI, 13, .inl D)), (bd 5, .inl (cI, 13, .inl G)), (bd 6, .inl (cI, 8, .inl Y)), (bd 7, .inl (cI, 8, .inl Z)), (bd 8, .inl (cZ, 8, .inl X)), (bd 9, .inl (cI, 40, .inl g))]) (po := []) (As := [.int kind, .int id, .int v]) (rest := []) ⟨hx, hb, hml, hown, hw⟩ (c_M_refusal l dC dI cI cZ bd clk pw lf f fd fc sn ob S D G st Y Z X ef ec fu g hpw kind id v k1 k6) (gw_cV 3 hw mw_535 mw_537 mv_21 mw_6 mw_538 hd_M_refusal ⟨Nat.le_of_ble_eq_true rfl, Nat.le_of_ble_eq_true rfl⟩) (ci := 5) rfl rfl rfl hK hP hD hS hA rfl hl.1 rfl (Nat.le_of_ble_eq_true rfl) dn_M_plain_4 ⟨Nat.zero_le _, Nat.zero_le _⟩ (fun r4 u4 H locs hc4 hP hD hS => ?_)
  obtain ⟨rfl, hn4⟩ := hc4
  have hP : va_P (dC, dI) vwCl [(bd 0, .inr (5, [.ref (bd 1), .int (nI clk), .int pw, .int lf, .ref (bd 2), .int (nI fc), .int (nI u4.2), .int (nI u4.1.1), .ref (bd 3), .ref (bd 4), .ref (bd 5), .int (nI st), .ref (bd 6), .ref (bd 7), .ref (bd 8), .int (nI ef), .int (nI ec), .int (nI fu), .ref (bd 9)])), (bd 1, .inl (cI, 292, .inl f)), (bd 2, .inl (cI, 12, .inl fd)), (bd 3, .inl (cI, 13, .inl u4.1.2.1)), (bd 4, .inl (cI, 13, .inl u4.1.2.2.1)), (bd 5, .inl (cI, 13, .inl u4.1.2.2.2.1)), (bd 6, .inl (cI, 8, .inl Y)), (bd 7, .inl (cI, 8, .inl Z)), (bd 8, .inl (cZ, 8, .inl X)), (bd 9, .inl (cI, 40, .inl g))] H := hP
  have hD : va_D A [(bd 0, .inr (5, [.ref (bd 1), .int (nI clk), .int pw, .int lf, .ref (bd 2), .int (nI fc), .int (nI u4.2), .int (nI u4.1.1), .ref (bd 3), .ref (bd 4), .ref (bd 5), .int (nI st), .ref (bd 6), .ref (bd 7), .ref (bd 8), .int (nI ef), .int (nI ec), .int (nI fu), .ref (bd 9)])), (bd 1, .inl (cI, 292, .inl f)), (bd 2, .inl (cI, 12, .inl fd)), (bd 3, .inl (cI, 13, .inl u4.1.2.1)), (bd 4, .inl (cI, 13, .inl u4.1.2.2.1)), (bd 5, .inl (cI, 13, .inl u4.1.2.2.2.1)), (bd 6, .inl (cI, 8, .inl Y)), (bd 7, .inl (cI, 8, .inl Z)), (bd 8, .inl (cZ, 8, .inl X)), (bd 9, .inl (cI, 40, .inl g))] := hD
  refine lv_istore (lv' := [(4, .int (an_no f clk pw kind id v)), (0, .ref (bd 0)), (1, .int kind), (2, .int id), (3, .int v)]) hx hb dn_M_plain_7 hl (by decide) rfl (fun ls hl => ?_)
  refine lv_iload hx hb dn_M_plain_9 (lv_at hl 0 rfl) ?_
  refine lv_if_eq (tgt := 17) hx hb dn_M_plain_11 (by decide) (fun h11 => ?_) (fun h11 => ?_)
  · skip
    obtain ⟨hp1, hvd⟩ := mn_0 hpw h11
    subst hp1
    obtain ⟨hn_, heq⟩ := hn4 rfl
    obtain ⟨v1, v2, v3, v4⟩ := ct_vd0 hvd
    have h12 := (ct_iv_n _ (ct_N_n f (nI clk)).2.1).1
    obtain ⟨i, i1, i2, rfl⟩ := ct_ru_there (by omega) hk1 v4
    have hsn : u4.2 < 40 := by rw [← ct_N_is hn_]; exact v1
    refine lv_aload_n hx hb dn_M_plain_17 rfl (lv_at hl 1 rfl) ?_
    refine lv_iload_n hx hb dn_M_plain_18 rfl (lv_at hl 2 rfl) ?_
    refine lv_iload_n hx hb dn_M_plain_19 rfl (lv_at hl 3 rfl) ?_
    refine lv_iload_n hx hb dn_M_plain_20 rfl (lv_at hl 4 rfl) ?_
    refine lv_iconst (v := 0) hx hb dn_M_plain_21 (by decide) ?_
    refine lv_iconst (v := 0) hx hb dn_M_plain_22 (by decide) ?_
    refine gc_vv (pre := []) (wc := [(bd 0, .inr (5, [.ref (bd 1), .int (nI clk), .int 1, .int lf, .ref (bd 2), .int (nI fc), .int (nI u4.2), .int (nI u4.1.1), .ref (bd 3), .ref (bd 4), .ref (bd 5), .int (nI st), .ref (bd 6), .ref (bd 7), .ref (bd 8), .int (nI ef), .int (nI ec), .int (nI fu), .ref (bd 9)])), (bd 1, .inl (cI, 292, .inl f)), (bd 2, .inl (cI, 12, .inl fd)), (bd 3, .inl (cI, 13, .inl u4.1.2.1)), (bd 4, .inl (cI, 13, .inl u4.1.2.2.1)), (bd 5, .inl (cI, 13, .inl u4.1.2.2.2.1)), (bd 6, .inl (cI, 8, .inl Y)), (bd 7, .inl (cI, 8, .inl Z)), (bd 8, .inl (cZ, 8, .inl X)), (bd 9, .inl (cI, 40, .inl g))]) (po := []) (As := [.int kind, .int (nI i), .int v, .int 0, .int 0]) (rest := []) ⟨hx, hb, hml, hown, hw⟩ (c_M_enroll l dC dI cI cZ bd clk 1 lf f fd fc u4.2 u4.1.1 u4.1.2.1 u4.1.2.2.1 u4.1.2.2.2.1 st Y Z X ef ec fu g hpw (by omega) kind (nI i) v 0 0) (gw_cV 5 hw mw_568 mw_570 mv_28 mw_6 mw_571 hd_M_enroll ⟨Nat.le_of_ble_eq_true rfl, Nat.le_of_ble_eq_true rfl⟩) (ci := 5) rfl rfl rfl hK hP hD hS hA rfl hl.1 rfl (Nat.le_of_ble_eq_true rfl) dn_M_plain_23 ⟨Nat.zero_le _, Nat.zero_le _⟩ (fun u23 H locs hc23 hP hD hS => ?_)
    have hP : va_P (dC, dI) vwCl [(bd 0, .inr (5, [.ref (bd 1), .int (nI clk), .int u23.2.1, .int u23.2.2, .ref (bd 2), .int (nI fc), .int (nI u4.2), .int (nI u4.1.1), .ref (bd 3), .ref (bd 4), .ref (bd 5), .int (nI st), .ref (bd 6), .ref (bd 7), .ref (bd 8), .int (nI ef), .int (nI ec), .int (nI fu), .ref (bd 9)])), (bd 1, .inl (cI, 292, .inl u23.1)), (bd 2, .inl (cI, 12, .inl fd)), (bd 3, .inl (cI, 13, .inl u4.1.2.1)), (bd 4, .inl (cI, 13, .inl u4.1.2.2.1)), (bd 5, .inl (cI, 13, .inl u4.1.2.2.2.1)), (bd 6, .inl (cI, 8, .inl Y)), (bd 7, .inl (cI, 8, .inl Z)), (bd 8, .inl (cZ, 8, .inl X)), (bd 9, .inl (cI, 40, .inl g))] H := hP
    have hD : va_D A [(bd 0, .inr (5, [.ref (bd 1), .int (nI clk), .int u23.2.1, .int u23.2.2, .ref (bd 2), .int (nI fc), .int (nI u4.2), .int (nI u4.1.1), .ref (bd 3), .ref (bd 4), .ref (bd 5), .int (nI st), .ref (bd 6), .ref (bd 7), .ref (bd 8), .int (nI ef), .int (nI ec), .int (nI fu), .ref (bd 9)])), (bd 1, .inl (cI, 292, .inl u23.1)), (bd 2, .inl (cI, 12, .inl fd)), (bd 3, .inl (cI, 13, .inl u4.1.2.1)), (bd 4, .inl (cI, 13, .inl u4.1.2.2.1)), (bd 5, .inl (cI, 13, .inl u4.1.2.2.2.1)), (bd 6, .inl (cI, 8, .inl Y)), (bd 7, .inl (cI, 8, .inl Z)), (bd 8, .inl (cZ, 8, .inl X)), (bd 9, .inl (cI, 40, .inl g))] := hD
    have hq23 := wr_nq hc23 hpw
    refine lv_iload_n hx hb dn_M_plain_26 rfl (lv_at hl 2 rfl) ?_
    refine lv_bipush (v := 6) hx hb dn_M_plain_27 (by decide) ?_
    refine lv_icmp_ne (tgt := 42) hx hb dn_M_plain_29 (by decide) (fun h29 => ?_) (fun h29 => ?_)
    · skip
      refine lv_aload_n hx hb dn_M_plain_42 rfl (lv_at hl 1 rfl) ?_
      refine va_get (D := (dC, dI)) (ci := 5) (v := .int u23.2.1) (C := rn_M) (T := tn_M) (N := 19) hx hb hw ml_M hown hK hP 0 rfl rfl 2 (by decide) (hw _ mw_475) (fun _ h9 => h9) rfl dn_M_plain_43 ?_
      refine lv_if_eq (tgt := 53) hx hb dn_M_plain_46 (by decide) (fun h46 => ?_) (fun h46 => ?_)
      · skip
        refine lv_bipush (v := (-9)) hx hb dn_M_plain_53 (by decide) ?_
        have he_ := mp_end h11 (mp_w hn_ hc23 h29)
        exact hret (-9) (u23, u4.1, u4.2) _ _ _ _ ⟨he_.2.1 (pw_n1 h46), he_.2.2⟩ rfl hP hD hS dn_M_plain_55
      · skip
        refine lv_iconst (v := 0) hx hb dn_M_plain_49 (by decide) ?_
        refine lv_goto (tgt := 55) hx hb dn_M_plain_50 (by decide) ?_
        have he_ := mp_end h11 (mp_w hn_ hc23 h29)
        exact hret 0 (u23, u4.1, u4.2) _ _ _ _ ⟨he_.1 (pw_1 hq23 h46), he_.2.2⟩ rfl hP hD hS dn_M_plain_55
    · skip
      subst h29
      refine lv_aload_n hx hb dn_M_plain_32 rfl (lv_at hl 1 rfl) ?_
      refine lv_sipush (v := 279) hx hb dn_M_plain_33 (by decide) ?_
      refine lv_iload_n hx hb dn_M_plain_36 rfl (lv_at hl 3 rfl) ?_
      refine gr_addN hx hb 279 i rfl rfl dn_M_plain_37 ?_
      refine lv_iconst (v := 0) hx hb dn_M_plain_38 (by decide) ?_
      refine gc_vv (pre := []) (wc := [(bd 0, .inr (5, [.ref (bd 1), .int (nI clk), .int u23.2.1, .int u23.2.2, .ref (bd 2), .int (nI fc), .int (nI u4.2), .int (nI u4.1.1), .ref (bd 3), .ref (bd 4), .ref (bd 5), .int (nI st), .ref (bd 6), .ref (bd 7), .ref (bd 8), .int (nI ef), .int (nI ec), .int (nI fu), .ref (bd 9)])), (bd 1, .inl (cI, 292, .inl u23.1)), (bd 2, .inl (cI, 12, .inl fd)), (bd 3, .inl (cI, 13, .inl u4.1.2.1)), (bd 4, .inl (cI, 13, .inl u4.1.2.2.1)), (bd 5, .inl (cI, 13, .inl u4.1.2.2.2.1)), (bd 6, .inl (cI, 8, .inl Y)), (bd 7, .inl (cI, 8, .inl Z)), (bd 8, .inl (cZ, 8, .inl X)), (bd 9, .inl (cI, 40, .inl g))]) (po := []) (As := [.int (nI (279 + i)), .int 0]) (rest := []) ⟨hx, hb, hml, hown, hw⟩ (c_M_write l dC dI cI cZ bd clk u23.2.1 u23.2.2 u23.1 fd fc u4.2 u4.1.1 u4.1.2.1 u4.1.2.2.1 u4.1.2.2.2.1 st Y Z X ef ec fu g hq23 (279 + i) (by omega) 0) (gw_cV 2 hw mw_564 mw_566 mv_27 mw_6 mw_567 hd_M_write ⟨Nat.le_of_ble_eq_true rfl, Nat.le_of_ble_eq_true rfl⟩) (ci := 5) rfl rfl rfl hK hP hD hS hA rfl hl.1 rfl (Nat.le_of_ble_eq_true rfl) dn_M_plain_39 ⟨Nat.zero_le _, Nat.zero_le _⟩ (fun u39 H locs hc39 hP hD hS => ?_)
      have hP : va_P (dC, dI) vwCl [(bd 0, .inr (5, [.ref (bd 1), .int (nI clk), .int u39.2.1, .int u39.2.2, .ref (bd 2), .int (nI fc), .int (nI u4.2), .int (nI u4.1.1), .ref (bd 3), .ref (bd 4), .ref (bd 5), .int (nI st), .ref (bd 6), .ref (bd 7), .ref (bd 8), .int (nI ef), .int (nI ec), .int (nI fu), .ref (bd 9)])), (bd 1, .inl (cI, 292, .inl u39.1)), (bd 2, .inl (cI, 12, .inl fd)), (bd 3, .inl (cI, 13, .inl u4.1.2.1)), (bd 4, .inl (cI, 13, .inl u4.1.2.2.1)), (bd 5, .inl (cI, 13, .inl u4.1.2.2.2.1)), (bd 6, .inl (cI, 8, .inl Y)), (bd 7, .inl (cI, 8, .inl Z)), (bd 8, .inl (cZ, 8, .inl X)), (bd 9, .inl (cI, 40, .inl g))] H := hP
      have hD : va_D A [(bd 0, .inr (5, [.ref (bd 1), .int (nI clk), .int u39.2.1, .int u39.2.2, .ref (bd 2), .int (nI fc), .int (nI u4.2), .int (nI u4.1.1), .ref (bd 3), .ref (bd 4), .ref (bd 5), .int (nI st), .ref (bd 6), .ref (bd 7), .ref (bd 8), .int (nI ef), .int (nI ec), .int (nI fu), .ref (bd 9)])), (bd 1, .inl (cI, 292, .inl u39.1)), (bd 2, .inl (cI, 12, .inl fd)), (bd 3, .inl (cI, 13, .inl u4.1.2.1)), (bd 4, .inl (cI, 13, .inl u4.1.2.2.1)), (bd 5, .inl (cI, 13, .inl u4.1.2.2.2.1)), (bd 6, .inl (cI, 8, .inl Y)), (bd 7, .inl (cI, 8, .inl Z)), (bd 8, .inl (cZ, 8, .inl X)), (bd 9, .inl (cI, 40, .inl g))] := hD
      have hq39 := wr_q hc39 hq23
      refine lv_aload_n hx hb dn_M_plain_42 rfl (lv_at hl 1 rfl) ?_
      refine va_get (D := (dC, dI)) (ci := 5) (v := .int u39.2.1) (C := rn_M) (T := tn_M) (N := 19) hx hb hw ml_M hown hK hP 0 rfl rfl 2 (by decide) (hw _ mw_475) (fun _ h9 => h9) rfl dn_M_plain_43 ?_
      refine lv_if_eq (tgt := 53) hx hb dn_M_plain_46 (by decide) (fun h46 => ?_) (fun h46 => ?_)
      · skip
        refine lv_bipush (v := (-9)) hx hb dn_M_plain_53 (by decide) ?_
        have he_ := mp_end h11 (mp_w6 (by omega) hn_ hc23 hc39)
        exact hret (-9) (u39, u4.1, u4.2) _ _ _ _ ⟨he_.2.1 (pw_n1 h46), he_.2.2⟩ rfl hP hD hS dn_M_plain_55
      · skip
        refine lv_iconst (v := 0) hx hb dn_M_plain_49 (by decide) ?_
        refine lv_goto (tgt := 55) hx hb dn_M_plain_50 (by decide) ?_
        have he_ := mp_end h11 (mp_w6 (by omega) hn_ hc23 hc39)
        exact hret 0 (u39, u4.1, u4.2) _ _ _ _ ⟨he_.1 (pw_1 hq39 h46), he_.2.2⟩ rfl hP hD hS dn_M_plain_55
  · skip
    refine lv_iload hx hb dn_M_plain_14 (lv_at hl 0 rfl) ?_
    exact hret (an_no f clk pw kind id v) ((f, pw, lf), u4.1, u4.2) _ _ _ _ (mp_no h11) rfl hP hD hS dn_M_plain_16

set_option maxRecDepth 100000 in
set_option maxHeartbeats 1000000 in
theorem c_M_extend (l : Launch) (dC : Nat → ClassId) (dI : Nat → Nat → Nat) (cI cZ : ClassId) (bd : Nat → Nat) (clk : Nat) (pw lf : Int32) (f fd : Nat → Int32) (fc sn ob : Nat) (S D G : Nat → Int32) (st : Nat) (Y Z X : Nat → Int32) (ef ec fu : Nat) (g : Nat → Int32) (hpw : pw = 0 ∨ pw = 1) (id v : Int32) : gc_I l yn_M_extend (gw yn_M_extend cn_M_extend 3 (some .int)) (rm_ 6 143) (dC, dI) vwCl (gT cI cZ) [.ref (bd 0), .int id, .int v] [(bd 0, .inr (5, [.ref (bd 1), .int (nI clk), .int pw, .int lf, .ref (bd 2), .int (nI fc), .int (nI sn), .int (nI ob), .ref (bd 3), .ref (bd 4), .ref (bd 5), .int (nI st), .ref (bd 6), .ref (bd 7), .ref (bd 8), .int (nI ef), .int (nI ec), .int (nI fu), .ref (bd 9)])), (bd 1, .inl (cI, 292, .inl f)), (bd 2, .inl (cI, 12, .inl fd)), (bd 3, .inl (cI, 13, .inl S)), (bd 4, .inl (cI, 13, .inl D)), (bd 5, .inl (cI, 13, .inl G)), (bd 6, .inl (cI, 8, .inl Y)), (bd 7, .inl (cI, 8, .inl Z)), (bd 8, .inl (cZ, 8, .inl X)), (bd 9, .inl (cI, 40, .inl g))] (fun r (u : wr_T × ct_T × Nat) => r = an_pl f clk pw lf 2 id v ∧ u.1 = nx_pl f clk pw lf 2 id v) (fun u => [(bd 0, .inr (5, [.ref (bd 1), .int (nI clk), .int u.1.2.1, .int u.1.2.2, .ref (bd 2), .int (nI fc), .int (nI u.2.2), .int (nI u.2.1.1), .ref (bd 3), .ref (bd 4), .ref (bd 5), .int (nI st), .ref (bd 6), .ref (bd 7), .ref (bd 8), .int (nI ef), .int (nI ec), .int (nI fu), .ref (bd 9)])), (bd 1, .inl (cI, 292, .inl u.1.1)), (bd 2, .inl (cI, 12, .inl fd)), (bd 3, .inl (cI, 13, .inl u.2.1.2.1)), (bd 4, .inl (cI, 13, .inl u.2.1.2.2.1)), (bd 5, .inl (cI, 13, .inl u.2.1.2.2.2.1)), (bd 6, .inl (cI, 8, .inl Y)), (bd 7, .inl (cI, 8, .inl Z)), (bd 8, .inl (cZ, 8, .inl X)), (bd 9, .inl (cI, 40, .inl g))]) := by
  refine gc_I_of (cc := cn_M_extend) (maxL := 3) (ty := .int) (by decide) rfl (Nat.le_of_ble_eq_true rfl) ?_
  intro pp ee ss mm ar be me cd A Q ls H0 H locs hx hb hml hown hts hK hP hD hS hA hl hret
  have hw : ∀ w ∈ gw_T, w.before ar ss = true := fun w h => hts w (List.mem_cons_of_mem _ h)
  have hl : lv_has ls 3 [(0, .ref (bd 0)), (1, .int id), (2, .int v)] := hl
  refine lv_aload_n hx hb dn_M_extend_0 rfl (lv_at hl 0 rfl) ?_
  refine lv_iconst (v := 2) hx hb dn_M_extend_1 (by decide) ?_
  refine lv_iload_n hx hb dn_M_extend_2 rfl (lv_at hl 1 rfl) ?_
  refine lv_iload_n hx hb dn_M_extend_3 rfl (lv_at hl 2 rfl) ?_
  refine gc_vi (pre := []) (wc := [(bd 0, .inr (5, [.ref (bd 1), .int (nI clk), .int pw, .int lf, .ref (bd 2), .int (nI fc), .int (nI sn), .int (nI ob), .ref (bd 3), .ref (bd 4), .ref (bd 5), .int (nI st), .ref (bd 6), .ref (bd 7), .ref (bd 8), .int (nI ef), .int (nI ec), .int (nI fu), .ref (bd 9)])), (bd 1, .inl (cI, 292, .inl f)), (bd 2, .inl (cI, 12, .inl fd)), (bd 3, .inl (cI, 13, .inl S)), (bd 4, .inl (cI, 13, .inl D)), (bd 5, .inl (cI, 13, .inl G)), (bd 6, .inl (cI, 8, .inl Y)), (bd 7, .inl (cI, 8, .inl Z)), (bd 8, .inl (cZ, 8, .inl X)), (bd 9, .inl (cI, 40, .inl g))]) (po := []) (As := [.int 2, .int id, .int v]) (rest := []) ⟨hx, hb, hml, hown, hw⟩ (c_M_plain l dC dI cI cZ bd clk pw lf f fd fc sn ob S D G st Y Z X ef ec fu g hpw 2 id v (by decide) (by decide) (by decide)) (gw_cV 3 hw mw_576 mw_578 mv_29 mw_6 mw_579 hd_M_plain ⟨Nat.le_of_ble_eq_true rfl, Nat.le_of_ble_eq_true rfl⟩) (ci := 5) rfl rfl rfl hK hP hD hS hA rfl hl.1 rfl (Nat.le_of_ble_eq_true rfl) dn_M_extend_4 ⟨Nat.zero_le _, Nat.zero_le _⟩ (fun r4 u4 H locs hc4 hP hD hS => ?_)
  obtain ⟨rfl, hn4⟩ := hc4
  have hP : va_P (dC, dI) vwCl [(bd 0, .inr (5, [.ref (bd 1), .int (nI clk), .int u4.1.2.1, .int u4.1.2.2, .ref (bd 2), .int (nI fc), .int (nI u4.2.2), .int (nI u4.2.1.1), .ref (bd 3), .ref (bd 4), .ref (bd 5), .int (nI st), .ref (bd 6), .ref (bd 7), .ref (bd 8), .int (nI ef), .int (nI ec), .int (nI fu), .ref (bd 9)])), (bd 1, .inl (cI, 292, .inl u4.1.1)), (bd 2, .inl (cI, 12, .inl fd)), (bd 3, .inl (cI, 13, .inl u4.2.1.2.1)), (bd 4, .inl (cI, 13, .inl u4.2.1.2.2.1)), (bd 5, .inl (cI, 13, .inl u4.2.1.2.2.2.1)), (bd 6, .inl (cI, 8, .inl Y)), (bd 7, .inl (cI, 8, .inl Z)), (bd 8, .inl (cZ, 8, .inl X)), (bd 9, .inl (cI, 40, .inl g))] H := hP
  have hD : va_D A [(bd 0, .inr (5, [.ref (bd 1), .int (nI clk), .int u4.1.2.1, .int u4.1.2.2, .ref (bd 2), .int (nI fc), .int (nI u4.2.2), .int (nI u4.2.1.1), .ref (bd 3), .ref (bd 4), .ref (bd 5), .int (nI st), .ref (bd 6), .ref (bd 7), .ref (bd 8), .int (nI ef), .int (nI ec), .int (nI fu), .ref (bd 9)])), (bd 1, .inl (cI, 292, .inl u4.1.1)), (bd 2, .inl (cI, 12, .inl fd)), (bd 3, .inl (cI, 13, .inl u4.2.1.2.1)), (bd 4, .inl (cI, 13, .inl u4.2.1.2.2.1)), (bd 5, .inl (cI, 13, .inl u4.2.1.2.2.2.1)), (bd 6, .inl (cI, 8, .inl Y)), (bd 7, .inl (cI, 8, .inl Z)), (bd 8, .inl (cZ, 8, .inl X)), (bd 9, .inl (cI, 40, .inl g))] := hD
  exact hret (an_pl f clk pw lf 2 id v) u4 _ _ _ _ ⟨rfl, hn4⟩ rfl hP hD hS dn_M_extend_7

set_option maxRecDepth 100000 in
set_option maxHeartbeats 1000000 in
theorem c_M_delete (l : Launch) (dC : Nat → ClassId) (dI : Nat → Nat → Nat) (cI cZ : ClassId) (bd : Nat → Nat) (clk : Nat) (pw lf : Int32) (f fd : Nat → Int32) (fc sn ob : Nat) (S D G : Nat → Int32) (st : Nat) (Y Z X : Nat → Int32) (ef ec fu : Nat) (g : Nat → Int32) (hpw : pw = 0 ∨ pw = 1) (id : Int32) : gc_I l yn_M_delete (gw yn_M_delete cn_M_delete 2 (some .int)) (rm_ 6 143) (dC, dI) vwCl (gT cI cZ) [.ref (bd 0), .int id] [(bd 0, .inr (5, [.ref (bd 1), .int (nI clk), .int pw, .int lf, .ref (bd 2), .int (nI fc), .int (nI sn), .int (nI ob), .ref (bd 3), .ref (bd 4), .ref (bd 5), .int (nI st), .ref (bd 6), .ref (bd 7), .ref (bd 8), .int (nI ef), .int (nI ec), .int (nI fu), .ref (bd 9)])), (bd 1, .inl (cI, 292, .inl f)), (bd 2, .inl (cI, 12, .inl fd)), (bd 3, .inl (cI, 13, .inl S)), (bd 4, .inl (cI, 13, .inl D)), (bd 5, .inl (cI, 13, .inl G)), (bd 6, .inl (cI, 8, .inl Y)), (bd 7, .inl (cI, 8, .inl Z)), (bd 8, .inl (cZ, 8, .inl X)), (bd 9, .inl (cI, 40, .inl g))] (fun r (u : wr_T × ct_T × Nat) => r = an_pl f clk pw lf 5 id 0 ∧ u.1 = nx_pl f clk pw lf 5 id 0) (fun u => [(bd 0, .inr (5, [.ref (bd 1), .int (nI clk), .int u.1.2.1, .int u.1.2.2, .ref (bd 2), .int (nI fc), .int (nI u.2.2), .int (nI u.2.1.1), .ref (bd 3), .ref (bd 4), .ref (bd 5), .int (nI st), .ref (bd 6), .ref (bd 7), .ref (bd 8), .int (nI ef), .int (nI ec), .int (nI fu), .ref (bd 9)])), (bd 1, .inl (cI, 292, .inl u.1.1)), (bd 2, .inl (cI, 12, .inl fd)), (bd 3, .inl (cI, 13, .inl u.2.1.2.1)), (bd 4, .inl (cI, 13, .inl u.2.1.2.2.1)), (bd 5, .inl (cI, 13, .inl u.2.1.2.2.2.1)), (bd 6, .inl (cI, 8, .inl Y)), (bd 7, .inl (cI, 8, .inl Z)), (bd 8, .inl (cZ, 8, .inl X)), (bd 9, .inl (cI, 40, .inl g))]) := by
  refine gc_I_of (cc := cn_M_delete) (maxL := 2) (ty := .int) (by decide) rfl (Nat.le_of_ble_eq_true rfl) ?_
  intro pp ee ss mm ar be me cd A Q ls H0 H locs hx hb hml hown hts hK hP hD hS hA hl hret
  have hw : ∀ w ∈ gw_T, w.before ar ss = true := fun w h => hts w (List.mem_cons_of_mem _ h)
  have hl : lv_has ls 2 [(0, .ref (bd 0)), (1, .int id)] := hl
  refine lv_aload_n hx hb dn_M_delete_0 rfl (lv_at hl 0 rfl) ?_
  refine lv_iconst (v := 5) hx hb dn_M_delete_1 (by decide) ?_
  refine lv_iload_n hx hb dn_M_delete_2 rfl (lv_at hl 1 rfl) ?_
  refine lv_iconst (v := 0) hx hb dn_M_delete_3 (by decide) ?_
  refine gc_vi (pre := []) (wc := [(bd 0, .inr (5, [.ref (bd 1), .int (nI clk), .int pw, .int lf, .ref (bd 2), .int (nI fc), .int (nI sn), .int (nI ob), .ref (bd 3), .ref (bd 4), .ref (bd 5), .int (nI st), .ref (bd 6), .ref (bd 7), .ref (bd 8), .int (nI ef), .int (nI ec), .int (nI fu), .ref (bd 9)])), (bd 1, .inl (cI, 292, .inl f)), (bd 2, .inl (cI, 12, .inl fd)), (bd 3, .inl (cI, 13, .inl S)), (bd 4, .inl (cI, 13, .inl D)), (bd 5, .inl (cI, 13, .inl G)), (bd 6, .inl (cI, 8, .inl Y)), (bd 7, .inl (cI, 8, .inl Z)), (bd 8, .inl (cZ, 8, .inl X)), (bd 9, .inl (cI, 40, .inl g))]) (po := []) (As := [.int 5, .int id, .int 0]) (rest := []) ⟨hx, hb, hml, hown, hw⟩ (c_M_plain l dC dI cI cZ bd clk pw lf f fd fc sn ob S D G st Y Z X ef ec fu g hpw 5 id 0 (by decide) (by decide) (by decide)) (gw_cV 3 hw mw_576 mw_578 mv_29 mw_6 mw_579 hd_M_plain ⟨Nat.le_of_ble_eq_true rfl, Nat.le_of_ble_eq_true rfl⟩) (ci := 5) rfl rfl rfl hK hP hD hS hA rfl hl.1 rfl (Nat.le_of_ble_eq_true rfl) dn_M_delete_4 ⟨Nat.zero_le _, Nat.zero_le _⟩ (fun r4 u4 H locs hc4 hP hD hS => ?_)
  obtain ⟨rfl, hn4⟩ := hc4
  have hP : va_P (dC, dI) vwCl [(bd 0, .inr (5, [.ref (bd 1), .int (nI clk), .int u4.1.2.1, .int u4.1.2.2, .ref (bd 2), .int (nI fc), .int (nI u4.2.2), .int (nI u4.2.1.1), .ref (bd 3), .ref (bd 4), .ref (bd 5), .int (nI st), .ref (bd 6), .ref (bd 7), .ref (bd 8), .int (nI ef), .int (nI ec), .int (nI fu), .ref (bd 9)])), (bd 1, .inl (cI, 292, .inl u4.1.1)), (bd 2, .inl (cI, 12, .inl fd)), (bd 3, .inl (cI, 13, .inl u4.2.1.2.1)), (bd 4, .inl (cI, 13, .inl u4.2.1.2.2.1)), (bd 5, .inl (cI, 13, .inl u4.2.1.2.2.2.1)), (bd 6, .inl (cI, 8, .inl Y)), (bd 7, .inl (cI, 8, .inl Z)), (bd 8, .inl (cZ, 8, .inl X)), (bd 9, .inl (cI, 40, .inl g))] H := hP
  have hD : va_D A [(bd 0, .inr (5, [.ref (bd 1), .int (nI clk), .int u4.1.2.1, .int u4.1.2.2, .ref (bd 2), .int (nI fc), .int (nI u4.2.2), .int (nI u4.2.1.1), .ref (bd 3), .ref (bd 4), .ref (bd 5), .int (nI st), .ref (bd 6), .ref (bd 7), .ref (bd 8), .int (nI ef), .int (nI ec), .int (nI fu), .ref (bd 9)])), (bd 1, .inl (cI, 292, .inl u4.1.1)), (bd 2, .inl (cI, 12, .inl fd)), (bd 3, .inl (cI, 13, .inl u4.2.1.2.1)), (bd 4, .inl (cI, 13, .inl u4.2.1.2.2.1)), (bd 5, .inl (cI, 13, .inl u4.2.1.2.2.2.1)), (bd 6, .inl (cI, 8, .inl Y)), (bd 7, .inl (cI, 8, .inl Z)), (bd 8, .inl (cZ, 8, .inl X)), (bd 9, .inl (cI, 40, .inl g))] := hD
  exact hret (an_pl f clk pw lf 5 id 0) u4 _ _ _ _ ⟨rfl, hn4⟩ rfl hP hD hS dn_M_delete_7

set_option maxRecDepth 100000 in
set_option maxHeartbeats 1000000 in
theorem c_M_shred (l : Launch) (dC : Nat → ClassId) (dI : Nat → Nat → Nat) (cI cZ : ClassId) (bd : Nat → Nat) (clk : Nat) (pw lf : Int32) (f fd : Nat → Int32) (fc sn ob : Nat) (S D G : Nat → Int32) (st : Nat) (Y Z X : Nat → Int32) (ef ec fu : Nat) (g : Nat → Int32) (hpw : pw = 0 ∨ pw = 1) (id : Int32) : gc_I l yn_M_shred (gw yn_M_shred cn_M_shred 2 (some .int)) (rm_ 6 143) (dC, dI) vwCl (gT cI cZ) [.ref (bd 0), .int id] [(bd 0, .inr (5, [.ref (bd 1), .int (nI clk), .int pw, .int lf, .ref (bd 2), .int (nI fc), .int (nI sn), .int (nI ob), .ref (bd 3), .ref (bd 4), .ref (bd 5), .int (nI st), .ref (bd 6), .ref (bd 7), .ref (bd 8), .int (nI ef), .int (nI ec), .int (nI fu), .ref (bd 9)])), (bd 1, .inl (cI, 292, .inl f)), (bd 2, .inl (cI, 12, .inl fd)), (bd 3, .inl (cI, 13, .inl S)), (bd 4, .inl (cI, 13, .inl D)), (bd 5, .inl (cI, 13, .inl G)), (bd 6, .inl (cI, 8, .inl Y)), (bd 7, .inl (cI, 8, .inl Z)), (bd 8, .inl (cZ, 8, .inl X)), (bd 9, .inl (cI, 40, .inl g))] (fun r (u : wr_T × ct_T × Nat) => r = an_pl f clk pw lf 6 id 0 ∧ u.1 = nx_pl f clk pw lf 6 id 0) (fun u => [(bd 0, .inr (5, [.ref (bd 1), .int (nI clk), .int u.1.2.1, .int u.1.2.2, .ref (bd 2), .int (nI fc), .int (nI u.2.2), .int (nI u.2.1.1), .ref (bd 3), .ref (bd 4), .ref (bd 5), .int (nI st), .ref (bd 6), .ref (bd 7), .ref (bd 8), .int (nI ef), .int (nI ec), .int (nI fu), .ref (bd 9)])), (bd 1, .inl (cI, 292, .inl u.1.1)), (bd 2, .inl (cI, 12, .inl fd)), (bd 3, .inl (cI, 13, .inl u.2.1.2.1)), (bd 4, .inl (cI, 13, .inl u.2.1.2.2.1)), (bd 5, .inl (cI, 13, .inl u.2.1.2.2.2.1)), (bd 6, .inl (cI, 8, .inl Y)), (bd 7, .inl (cI, 8, .inl Z)), (bd 8, .inl (cZ, 8, .inl X)), (bd 9, .inl (cI, 40, .inl g))]) := by
  refine gc_I_of (cc := cn_M_shred) (maxL := 2) (ty := .int) (by decide) rfl (Nat.le_of_ble_eq_true rfl) ?_
  intro pp ee ss mm ar be me cd A Q ls H0 H locs hx hb hml hown hts hK hP hD hS hA hl hret
  have hw : ∀ w ∈ gw_T, w.before ar ss = true := fun w h => hts w (List.mem_cons_of_mem _ h)
  have hl : lv_has ls 2 [(0, .ref (bd 0)), (1, .int id)] := hl
  refine lv_aload_n hx hb dn_M_shred_0 rfl (lv_at hl 0 rfl) ?_
  refine lv_bipush (v := 6) hx hb dn_M_shred_1 (by decide) ?_
  refine lv_iload_n hx hb dn_M_shred_3 rfl (lv_at hl 1 rfl) ?_
  refine lv_iconst (v := 0) hx hb dn_M_shred_4 (by decide) ?_
  refine gc_vi (pre := []) (wc := [(bd 0, .inr (5, [.ref (bd 1), .int (nI clk), .int pw, .int lf, .ref (bd 2), .int (nI fc), .int (nI sn), .int (nI ob), .ref (bd 3), .ref (bd 4), .ref (bd 5), .int (nI st), .ref (bd 6), .ref (bd 7), .ref (bd 8), .int (nI ef), .int (nI ec), .int (nI fu), .ref (bd 9)])), (bd 1, .inl (cI, 292, .inl f)), (bd 2, .inl (cI, 12, .inl fd)), (bd 3, .inl (cI, 13, .inl S)), (bd 4, .inl (cI, 13, .inl D)), (bd 5, .inl (cI, 13, .inl G)), (bd 6, .inl (cI, 8, .inl Y)), (bd 7, .inl (cI, 8, .inl Z)), (bd 8, .inl (cZ, 8, .inl X)), (bd 9, .inl (cI, 40, .inl g))]) (po := []) (As := [.int 6, .int id, .int 0]) (rest := []) ⟨hx, hb, hml, hown, hw⟩ (c_M_plain l dC dI cI cZ bd clk pw lf f fd fc sn ob S D G st Y Z X ef ec fu g hpw 6 id 0 (by decide) (by decide) (by decide)) (gw_cV 3 hw mw_576 mw_578 mv_29 mw_6 mw_579 hd_M_plain ⟨Nat.le_of_ble_eq_true rfl, Nat.le_of_ble_eq_true rfl⟩) (ci := 5) rfl rfl rfl hK hP hD hS hA rfl hl.1 rfl (Nat.le_of_ble_eq_true rfl) dn_M_shred_5 ⟨Nat.zero_le _, Nat.zero_le _⟩ (fun r5 u5 H locs hc5 hP hD hS => ?_)
  obtain ⟨rfl, hn5⟩ := hc5
  have hP : va_P (dC, dI) vwCl [(bd 0, .inr (5, [.ref (bd 1), .int (nI clk), .int u5.1.2.1, .int u5.1.2.2, .ref (bd 2), .int (nI fc), .int (nI u5.2.2), .int (nI u5.2.1.1), .ref (bd 3), .ref (bd 4), .ref (bd 5), .int (nI st), .ref (bd 6), .ref (bd 7), .ref (bd 8), .int (nI ef), .int (nI ec), .int (nI fu), .ref (bd 9)])), (bd 1, .inl (cI, 292, .inl u5.1.1)), (bd 2, .inl (cI, 12, .inl fd)), (bd 3, .inl (cI, 13, .inl u5.2.1.2.1)), (bd 4, .inl (cI, 13, .inl u5.2.1.2.2.1)), (bd 5, .inl (cI, 13, .inl u5.2.1.2.2.2.1)), (bd 6, .inl (cI, 8, .inl Y)), (bd 7, .inl (cI, 8, .inl Z)), (bd 8, .inl (cZ, 8, .inl X)), (bd 9, .inl (cI, 40, .inl g))] H := hP
  have hD : va_D A [(bd 0, .inr (5, [.ref (bd 1), .int (nI clk), .int u5.1.2.1, .int u5.1.2.2, .ref (bd 2), .int (nI fc), .int (nI u5.2.2), .int (nI u5.2.1.1), .ref (bd 3), .ref (bd 4), .ref (bd 5), .int (nI st), .ref (bd 6), .ref (bd 7), .ref (bd 8), .int (nI ef), .int (nI ec), .int (nI fu), .ref (bd 9)])), (bd 1, .inl (cI, 292, .inl u5.1.1)), (bd 2, .inl (cI, 12, .inl fd)), (bd 3, .inl (cI, 13, .inl u5.2.1.2.1)), (bd 4, .inl (cI, 13, .inl u5.2.1.2.2.1)), (bd 5, .inl (cI, 13, .inl u5.2.1.2.2.2.1)), (bd 6, .inl (cI, 8, .inl Y)), (bd 7, .inl (cI, 8, .inl Z)), (bd 8, .inl (cZ, 8, .inl X)), (bd 9, .inl (cI, 40, .inl g))] := hD
  exact hret (an_pl f clk pw lf 6 id 0) u5 _ _ _ _ ⟨rfl, hn5⟩ rfl hP hD hS dn_M_shred_8

set_option maxRecDepth 100000 in
set_option maxHeartbeats 1000000 in
theorem c_M_hold1 (l : Launch) (dC : Nat → ClassId) (dI : Nat → Nat → Nat) (cI cZ : ClassId) (bd : Nat → Nat) (clk : Nat) (pw lf : Int32) (f fd : Nat → Int32) (fc sn ob : Nat) (S D G : Nat → Int32) (st : Nat) (Y Z X : Nat → Int32) (ef ec fu : Nat) (g : Nat → Int32) (hpw : pw = 0 ∨ pw = 1) (id v : Int32) : gc_I l yn_M_hold (gw yn_M_hold cn_M_hold 4 (some .int)) (rm_ 6 143) (dC, dI) vwCl (gT cI cZ) [.ref (bd 0), .int id, .int v, .int 1] [(bd 0, .inr (5, [.ref (bd 1), .int (nI clk), .int pw, .int lf, .ref (bd 2), .int (nI fc), .int (nI sn), .int (nI ob), .ref (bd 3), .ref (bd 4), .ref (bd 5), .int (nI st), .ref (bd 6), .ref (bd 7), .ref (bd 8), .int (nI ef), .int (nI ec), .int (nI fu), .ref (bd 9)])), (bd 1, .inl (cI, 292, .inl f)), (bd 2, .inl (cI, 12, .inl fd)), (bd 3, .inl (cI, 13, .inl S)), (bd 4, .inl (cI, 13, .inl D)), (bd 5, .inl (cI, 13, .inl G)), (bd 6, .inl (cI, 8, .inl Y)), (bd 7, .inl (cI, 8, .inl Z)), (bd 8, .inl (cZ, 8, .inl X)), (bd 9, .inl (cI, 40, .inl g))] (fun r (u : wr_T × ct_T × Nat) => r = an_pl f clk pw lf 3 id v ∧ u.1 = nx_pl f clk pw lf 3 id v) (fun u => [(bd 0, .inr (5, [.ref (bd 1), .int (nI clk), .int u.1.2.1, .int u.1.2.2, .ref (bd 2), .int (nI fc), .int (nI u.2.2), .int (nI u.2.1.1), .ref (bd 3), .ref (bd 4), .ref (bd 5), .int (nI st), .ref (bd 6), .ref (bd 7), .ref (bd 8), .int (nI ef), .int (nI ec), .int (nI fu), .ref (bd 9)])), (bd 1, .inl (cI, 292, .inl u.1.1)), (bd 2, .inl (cI, 12, .inl fd)), (bd 3, .inl (cI, 13, .inl u.2.1.2.1)), (bd 4, .inl (cI, 13, .inl u.2.1.2.2.1)), (bd 5, .inl (cI, 13, .inl u.2.1.2.2.2.1)), (bd 6, .inl (cI, 8, .inl Y)), (bd 7, .inl (cI, 8, .inl Z)), (bd 8, .inl (cZ, 8, .inl X)), (bd 9, .inl (cI, 40, .inl g))]) := by
  refine gc_I_of (cc := cn_M_hold) (maxL := 4) (ty := .int) (by decide) rfl (Nat.le_of_ble_eq_true rfl) ?_
  intro pp ee ss mm ar be me cd A Q ls H0 H locs hx hb hml hown hts hK hP hD hS hA hl hret
  have hw : ∀ w ∈ gw_T, w.before ar ss = true := fun w h => hts w (List.mem_cons_of_mem _ h)
  have hl : lv_has ls 4 [(0, .ref (bd 0)), (1, .int id), (2, .int v), (3, .int 1)] := hl
  refine lv_aload_n hx hb dn_M_hold_0 rfl (lv_at hl 0 rfl) ?_
  refine lv_iload_n hx hb dn_M_hold_1 rfl (lv_at hl 3 rfl) ?_
  refine lv_if_eq (tgt := 9) hx hb dn_M_hold_2 (by decide) (fun h => absurd h (by decide)) (fun _ => ?_)
  refine lv_iconst (v := 3) hx hb dn_M_hold_5 (by decide) ?_
  refine lv_goto (tgt := 10) hx hb dn_M_hold_6 (by decide) ?_
  refine lv_iload_n hx hb dn_M_hold_10 rfl (lv_at hl 1 rfl) ?_
  refine lv_iload_n hx hb dn_M_hold_11 rfl (lv_at hl 2 rfl) ?_
  refine gc_vi (pre := []) (wc := [(bd 0, .inr (5, [.ref (bd 1), .int (nI clk), .int pw, .int lf, .ref (bd 2), .int (nI fc), .int (nI sn), .int (nI ob), .ref (bd 3), .ref (bd 4), .ref (bd 5), .int (nI st), .ref (bd 6), .ref (bd 7), .ref (bd 8), .int (nI ef), .int (nI ec), .int (nI fu), .ref (bd 9)])), (bd 1, .inl (cI, 292, .inl f)), (bd 2, .inl (cI, 12, .inl fd)), (bd 3, .inl (cI, 13, .inl S)), (bd 4, .inl (cI, 13, .inl D)), (bd 5, .inl (cI, 13, .inl G)), (bd 6, .inl (cI, 8, .inl Y)), (bd 7, .inl (cI, 8, .inl Z)), (bd 8, .inl (cZ, 8, .inl X)), (bd 9, .inl (cI, 40, .inl g))]) (po := []) (As := [.int 3, .int id, .int v]) (rest := []) ⟨hx, hb, hml, hown, hw⟩ (c_M_plain l dC dI cI cZ bd clk pw lf f fd fc sn ob S D G st Y Z X ef ec fu g hpw 3 id v (by decide) (by decide) (by decide)) (gw_cV 3 hw mw_576 mw_578 mv_29 mw_6 mw_579 hd_M_plain ⟨Nat.le_of_ble_eq_true rfl, Nat.le_of_ble_eq_true rfl⟩) (ci := 5) rfl rfl rfl hK hP hD hS hA rfl hl.1 rfl (Nat.le_of_ble_eq_true rfl) dn_M_hold_12 ⟨Nat.zero_le _, Nat.zero_le _⟩ (fun r12 u12 H locs hc12 hP hD hS => ?_)
  obtain ⟨rfl, hn12⟩ := hc12
  have hP : va_P (dC, dI) vwCl [(bd 0, .inr (5, [.ref (bd 1), .int (nI clk), .int u12.1.2.1, .int u12.1.2.2, .ref (bd 2), .int (nI fc), .int (nI u12.2.2), .int (nI u12.2.1.1), .ref (bd 3), .ref (bd 4), .ref (bd 5), .int (nI st), .ref (bd 6), .ref (bd 7), .ref (bd 8), .int (nI ef), .int (nI ec), .int (nI fu), .ref (bd 9)])), (bd 1, .inl (cI, 292, .inl u12.1.1)), (bd 2, .inl (cI, 12, .inl fd)), (bd 3, .inl (cI, 13, .inl u12.2.1.2.1)), (bd 4, .inl (cI, 13, .inl u12.2.1.2.2.1)), (bd 5, .inl (cI, 13, .inl u12.2.1.2.2.2.1)), (bd 6, .inl (cI, 8, .inl Y)), (bd 7, .inl (cI, 8, .inl Z)), (bd 8, .inl (cZ, 8, .inl X)), (bd 9, .inl (cI, 40, .inl g))] H := hP
  have hD : va_D A [(bd 0, .inr (5, [.ref (bd 1), .int (nI clk), .int u12.1.2.1, .int u12.1.2.2, .ref (bd 2), .int (nI fc), .int (nI u12.2.2), .int (nI u12.2.1.1), .ref (bd 3), .ref (bd 4), .ref (bd 5), .int (nI st), .ref (bd 6), .ref (bd 7), .ref (bd 8), .int (nI ef), .int (nI ec), .int (nI fu), .ref (bd 9)])), (bd 1, .inl (cI, 292, .inl u12.1.1)), (bd 2, .inl (cI, 12, .inl fd)), (bd 3, .inl (cI, 13, .inl u12.2.1.2.1)), (bd 4, .inl (cI, 13, .inl u12.2.1.2.2.1)), (bd 5, .inl (cI, 13, .inl u12.2.1.2.2.2.1)), (bd 6, .inl (cI, 8, .inl Y)), (bd 7, .inl (cI, 8, .inl Z)), (bd 8, .inl (cZ, 8, .inl X)), (bd 9, .inl (cI, 40, .inl g))] := hD
  exact hret (an_pl f clk pw lf 3 id v) u12 _ _ _ _ ⟨rfl, hn12⟩ rfl hP hD hS dn_M_hold_15

set_option maxRecDepth 100000 in
set_option maxHeartbeats 1000000 in
theorem c_M_hold0 (l : Launch) (dC : Nat → ClassId) (dI : Nat → Nat → Nat) (cI cZ : ClassId) (bd : Nat → Nat) (clk : Nat) (pw lf : Int32) (f fd : Nat → Int32) (fc sn ob : Nat) (S D G : Nat → Int32) (st : Nat) (Y Z X : Nat → Int32) (ef ec fu : Nat) (g : Nat → Int32) (hpw : pw = 0 ∨ pw = 1) (id v : Int32) : gc_I l yn_M_hold (gw yn_M_hold cn_M_hold 4 (some .int)) (rm_ 6 143) (dC, dI) vwCl (gT cI cZ) [.ref (bd 0), .int id, .int v, .int 0] [(bd 0, .inr (5, [.ref (bd 1), .int (nI clk), .int pw, .int lf, .ref (bd 2), .int (nI fc), .int (nI sn), .int (nI ob), .ref (bd 3), .ref (bd 4), .ref (bd 5), .int (nI st), .ref (bd 6), .ref (bd 7), .ref (bd 8), .int (nI ef), .int (nI ec), .int (nI fu), .ref (bd 9)])), (bd 1, .inl (cI, 292, .inl f)), (bd 2, .inl (cI, 12, .inl fd)), (bd 3, .inl (cI, 13, .inl S)), (bd 4, .inl (cI, 13, .inl D)), (bd 5, .inl (cI, 13, .inl G)), (bd 6, .inl (cI, 8, .inl Y)), (bd 7, .inl (cI, 8, .inl Z)), (bd 8, .inl (cZ, 8, .inl X)), (bd 9, .inl (cI, 40, .inl g))] (fun r (u : wr_T × ct_T × Nat) => r = an_pl f clk pw lf 4 id v ∧ u.1 = nx_pl f clk pw lf 4 id v) (fun u => [(bd 0, .inr (5, [.ref (bd 1), .int (nI clk), .int u.1.2.1, .int u.1.2.2, .ref (bd 2), .int (nI fc), .int (nI u.2.2), .int (nI u.2.1.1), .ref (bd 3), .ref (bd 4), .ref (bd 5), .int (nI st), .ref (bd 6), .ref (bd 7), .ref (bd 8), .int (nI ef), .int (nI ec), .int (nI fu), .ref (bd 9)])), (bd 1, .inl (cI, 292, .inl u.1.1)), (bd 2, .inl (cI, 12, .inl fd)), (bd 3, .inl (cI, 13, .inl u.2.1.2.1)), (bd 4, .inl (cI, 13, .inl u.2.1.2.2.1)), (bd 5, .inl (cI, 13, .inl u.2.1.2.2.2.1)), (bd 6, .inl (cI, 8, .inl Y)), (bd 7, .inl (cI, 8, .inl Z)), (bd 8, .inl (cZ, 8, .inl X)), (bd 9, .inl (cI, 40, .inl g))]) := by
  refine gc_I_of (cc := cn_M_hold) (maxL := 4) (ty := .int) (by decide) rfl (Nat.le_of_ble_eq_true rfl) ?_
  intro pp ee ss mm ar be me cd A Q ls H0 H locs hx hb hml hown hts hK hP hD hS hA hl hret
  have hw : ∀ w ∈ gw_T, w.before ar ss = true := fun w h => hts w (List.mem_cons_of_mem _ h)
  have hl : lv_has ls 4 [(0, .ref (bd 0)), (1, .int id), (2, .int v), (3, .int 0)] := hl
  refine lv_aload_n hx hb dn_M_hold_0 rfl (lv_at hl 0 rfl) ?_
  refine lv_iload_n hx hb dn_M_hold_1 rfl (lv_at hl 3 rfl) ?_
  refine lv_if_eq (tgt := 9) hx hb dn_M_hold_2 (by decide) (fun _ => ?_) (fun h => absurd h (by decide))
  refine lv_iconst (v := 4) hx hb dn_M_hold_9 (by decide) ?_
  refine lv_iload_n hx hb dn_M_hold_10 rfl (lv_at hl 1 rfl) ?_
  refine lv_iload_n hx hb dn_M_hold_11 rfl (lv_at hl 2 rfl) ?_
  refine gc_vi (pre := []) (wc := [(bd 0, .inr (5, [.ref (bd 1), .int (nI clk), .int pw, .int lf, .ref (bd 2), .int (nI fc), .int (nI sn), .int (nI ob), .ref (bd 3), .ref (bd 4), .ref (bd 5), .int (nI st), .ref (bd 6), .ref (bd 7), .ref (bd 8), .int (nI ef), .int (nI ec), .int (nI fu), .ref (bd 9)])), (bd 1, .inl (cI, 292, .inl f)), (bd 2, .inl (cI, 12, .inl fd)), (bd 3, .inl (cI, 13, .inl S)), (bd 4, .inl (cI, 13, .inl D)), (bd 5, .inl (cI, 13, .inl G)), (bd 6, .inl (cI, 8, .inl Y)), (bd 7, .inl (cI, 8, .inl Z)), (bd 8, .inl (cZ, 8, .inl X)), (bd 9, .inl (cI, 40, .inl g))]) (po := []) (As := [.int 4, .int id, .int v]) (rest := []) ⟨hx, hb, hml, hown, hw⟩ (c_M_plain l dC dI cI cZ bd clk pw lf f fd fc sn ob S D G st Y Z X ef ec fu g hpw 4 id v (by decide) (by decide) (by decide)) (gw_cV 3 hw mw_576 mw_578 mv_29 mw_6 mw_579 hd_M_plain ⟨Nat.le_of_ble_eq_true rfl, Nat.le_of_ble_eq_true rfl⟩) (ci := 5) rfl rfl rfl hK hP hD hS hA rfl hl.1 rfl (Nat.le_of_ble_eq_true rfl) dn_M_hold_12 ⟨Nat.zero_le _, Nat.zero_le _⟩ (fun r12 u12 H locs hc12 hP hD hS => ?_)
  obtain ⟨rfl, hn12⟩ := hc12
  have hP : va_P (dC, dI) vwCl [(bd 0, .inr (5, [.ref (bd 1), .int (nI clk), .int u12.1.2.1, .int u12.1.2.2, .ref (bd 2), .int (nI fc), .int (nI u12.2.2), .int (nI u12.2.1.1), .ref (bd 3), .ref (bd 4), .ref (bd 5), .int (nI st), .ref (bd 6), .ref (bd 7), .ref (bd 8), .int (nI ef), .int (nI ec), .int (nI fu), .ref (bd 9)])), (bd 1, .inl (cI, 292, .inl u12.1.1)), (bd 2, .inl (cI, 12, .inl fd)), (bd 3, .inl (cI, 13, .inl u12.2.1.2.1)), (bd 4, .inl (cI, 13, .inl u12.2.1.2.2.1)), (bd 5, .inl (cI, 13, .inl u12.2.1.2.2.2.1)), (bd 6, .inl (cI, 8, .inl Y)), (bd 7, .inl (cI, 8, .inl Z)), (bd 8, .inl (cZ, 8, .inl X)), (bd 9, .inl (cI, 40, .inl g))] H := hP
  have hD : va_D A [(bd 0, .inr (5, [.ref (bd 1), .int (nI clk), .int u12.1.2.1, .int u12.1.2.2, .ref (bd 2), .int (nI fc), .int (nI u12.2.2), .int (nI u12.2.1.1), .ref (bd 3), .ref (bd 4), .ref (bd 5), .int (nI st), .ref (bd 6), .ref (bd 7), .ref (bd 8), .int (nI ef), .int (nI ec), .int (nI fu), .ref (bd 9)])), (bd 1, .inl (cI, 292, .inl u12.1.1)), (bd 2, .inl (cI, 12, .inl fd)), (bd 3, .inl (cI, 13, .inl u12.2.1.2.1)), (bd 4, .inl (cI, 13, .inl u12.2.1.2.2.1)), (bd 5, .inl (cI, 13, .inl u12.2.1.2.2.2.1)), (bd 6, .inl (cI, 8, .inl Y)), (bd 7, .inl (cI, 8, .inl Z)), (bd 8, .inl (cZ, 8, .inl X)), (bd 9, .inl (cI, 40, .inl g))] := hD
  exact hret (an_pl f clk pw lf 4 id v) u12 _ _ _ _ ⟨rfl, hn12⟩ rfl hP hD hS dn_M_hold_15

set_option maxRecDepth 100000 in
set_option maxHeartbeats 1000000 in
theorem c_M_put (l : Launch) (dC : Nat → ClassId) (dI : Nat → Nat → Nat) (cI cZ : ClassId) (bd : Nat → Nat) (clk : Nat) (pw lf : Int32) (f fd : Nat → Int32) (fc sn ob : Nat) (S D G : Nat → Int32) (st : Nat) (Y Z X : Nat → Int32) (ef ec fu : Nat) (g : Nat → Int32) (hpw : pw = 0 ∨ pw = 1) (x1 x2 key date : Int32) : gc_I l yn_M_put (gw yn_M_put cn_M_put 10 (some .int)) (rm_ 5 119) (dC, dI) vwCl (gT cI cZ) [.ref (bd 0), .int x1, .int x2, .int key, .int date] [(bd 0, .inr (5, [.ref (bd 1), .int (nI clk), .int pw, .int lf, .ref (bd 2), .int (nI fc), .int (nI sn), .int (nI ob), .ref (bd 3), .ref (bd 4), .ref (bd 5), .int (nI st), .ref (bd 6), .ref (bd 7), .ref (bd 8), .int (nI ef), .int (nI ec), .int (nI fu), .ref (bd 9)])), (bd 1, .inl (cI, 292, .inl f)), (bd 2, .inl (cI, 12, .inl fd)), (bd 3, .inl (cI, 13, .inl S)), (bd 4, .inl (cI, 13, .inl D)), (bd 5, .inl (cI, 13, .inl G)), (bd 6, .inl (cI, 8, .inl Y)), (bd 7, .inl (cI, 8, .inl Z)), (bd 8, .inl (cZ, 8, .inl X)), (bd 9, .inl (cI, 40, .inl g))] (fun r (u : wr_T × ct_T × Nat) => r = an_pu f clk pw lf x1 x2 key date ∧ u.1 = nx_pu f clk pw lf x1 x2 key date) (fun u => [(bd 0, .inr (5, [.ref (bd 1), .int (nI clk), .int u.1.2.1, .int u.1.2.2, .ref (bd 2), .int (nI fc), .int (nI u.2.2), .int (nI u.2.1.1), .ref (bd 3), .ref (bd 4), .ref (bd 5), .int (nI st), .ref (bd 6), .ref (bd 7), .ref (bd 8), .int (nI ef), .int (nI ec), .int (nI fu), .ref (bd 9)])), (bd 1, .inl (cI, 292, .inl u.1.1)), (bd 2, .inl (cI, 12, .inl fd)), (bd 3, .inl (cI, 13, .inl u.2.1.2.1)), (bd 4, .inl (cI, 13, .inl u.2.1.2.2.1)), (bd 5, .inl (cI, 13, .inl u.2.1.2.2.2.1)), (bd 6, .inl (cI, 8, .inl Y)), (bd 7, .inl (cI, 8, .inl Z)), (bd 8, .inl (cZ, 8, .inl X)), (bd 9, .inl (cI, 40, .inl g))]) := by
  refine gc_I_of (cc := cn_M_put) (maxL := 10) (ty := .int) (by decide) rfl (Nat.le_of_ble_eq_true rfl) ?_
  intro pp ee ss mm ar be me cd A Q ls H0 H locs hx hb hml hown hts hK hP hD hS hA hl hret
  have hw : ∀ w ∈ gw_T, w.before ar ss = true := fun w h => hts w (List.mem_cons_of_mem _ h)
  have hl : lv_has ls 10 [(0, .ref (bd 0)), (1, .int x1), (2, .int x2), (3, .int key), (4, .int date)] := hl
  refine lv_aload_n hx hb dn_M_put_0 rfl (lv_at hl 0 rfl) ?_
  refine lv_iconst (v := 1) hx hb dn_M_put_1 (by decide) ?_
  refine lv_iconst (v := 0) hx hb dn_M_put_2 (by decide) ?_
  refine lv_iload hx hb dn_M_put_3 (lv_at hl 4 rfl) ?_
  refine gc_vi (pre := []) (wc := [(bd 0, .inr (5, [.ref (bd 1), .int (nI clk), .int pw, .int lf, .ref (bd 2), .int (nI fc), .int (nI sn), .int (nI ob), .ref (bd 3), .ref (bd 4), .ref (bd 5), .int (nI st), .ref (bd 6), .ref (bd 7), .ref (bd 8), .int (nI ef), .int (nI ec), .int (nI fu), .ref (bd 9)])), (bd 1, .inl (cI, 292, .inl f)), (bd 2, .inl (cI, 12, .inl fd)), (bd 3, .inl (cI, 13, .inl S)), (bd 4, .inl (cI, 13, .inl D)), (bd 5, .inl (cI, 13, .inl G)), (bd 6, .inl (cI, 8, .inl Y)), (bd 7, .inl (cI, 8, .inl Z)), (bd 8, .inl (cZ, 8, .inl X)), (bd 9, .inl (cI, 40, .inl g))]) (po := []) (As := [.int 1, .int 0, .int date]) (rest := []) ⟨hx, hb, hml, hown, hw⟩ (c_M_refusal l dC dI cI cZ bd clk pw lf f fd fc sn ob S D G st Y Z X ef ec fu g hpw 1 0 date (by decide) (by decide)) (gw_cV 3 hw mw_535 mw_537 mv_21 mw_6 mw_538 hd_M_refusal ⟨Nat.le_of_ble_eq_true rfl, Nat.le_of_ble_eq_true rfl⟩) (ci := 5) rfl rfl rfl hK hP hD hS hA rfl hl.1 rfl (Nat.le_of_ble_eq_true rfl) dn_M_put_5 ⟨Nat.zero_le _, Nat.zero_le _⟩ (fun r5 u5 H locs hc5 hP hD hS => ?_)
  obtain ⟨rfl, hn5⟩ := hc5
  have hP : va_P (dC, dI) vwCl [(bd 0, .inr (5, [.ref (bd 1), .int (nI clk), .int pw, .int lf, .ref (bd 2), .int (nI fc), .int (nI u5.2), .int (nI u5.1.1), .ref (bd 3), .ref (bd 4), .ref (bd 5), .int (nI st), .ref (bd 6), .ref (bd 7), .ref (bd 8), .int (nI ef), .int (nI ec), .int (nI fu), .ref (bd 9)])), (bd 1, .inl (cI, 292, .inl f)), (bd 2, .inl (cI, 12, .inl fd)), (bd 3, .inl (cI, 13, .inl u5.1.2.1)), (bd 4, .inl (cI, 13, .inl u5.1.2.2.1)), (bd 5, .inl (cI, 13, .inl u5.1.2.2.2.1)), (bd 6, .inl (cI, 8, .inl Y)), (bd 7, .inl (cI, 8, .inl Z)), (bd 8, .inl (cZ, 8, .inl X)), (bd 9, .inl (cI, 40, .inl g))] H := hP
  have hD : va_D A [(bd 0, .inr (5, [.ref (bd 1), .int (nI clk), .int pw, .int lf, .ref (bd 2), .int (nI fc), .int (nI u5.2), .int (nI u5.1.1), .ref (bd 3), .ref (bd 4), .ref (bd 5), .int (nI st), .ref (bd 6), .ref (bd 7), .ref (bd 8), .int (nI ef), .int (nI ec), .int (nI fu), .ref (bd 9)])), (bd 1, .inl (cI, 292, .inl f)), (bd 2, .inl (cI, 12, .inl fd)), (bd 3, .inl (cI, 13, .inl u5.1.2.1)), (bd 4, .inl (cI, 13, .inl u5.1.2.2.1)), (bd 5, .inl (cI, 13, .inl u5.1.2.2.2.1)), (bd 6, .inl (cI, 8, .inl Y)), (bd 7, .inl (cI, 8, .inl Z)), (bd 8, .inl (cZ, 8, .inl X)), (bd 9, .inl (cI, 40, .inl g))] := hD
  refine lv_istore (lv' := [(5, .int (an_no f clk pw 1 0 date)), (0, .ref (bd 0)), (1, .int x1), (2, .int x2), (3, .int key), (4, .int date)]) hx hb dn_M_put_8 hl (by decide) rfl (fun ls hl => ?_)
  refine lv_iload hx hb dn_M_put_10 (lv_at hl 0 rfl) ?_
  refine lv_if_eq (tgt := 18) hx hb dn_M_put_12 (by decide) (fun h12 => ?_) (fun h12 => ?_)
  · skip
    obtain ⟨hp1, hvd⟩ := mn_0 hpw h12
    subst hp1
    obtain ⟨hn_, heq⟩ := hn5 rfl
    obtain ⟨v1, v2, v3, v4⟩ := ct_vd0 hvd
    have hsn : u5.2 < 40 := by rw [← ct_N_is hn_]; exact v1
    have hob : u5.1.1 < 12 := by rw [heq.1, ← ct_N_is hn_]; exact (ct_ru_put v4).1
    refine lv_aload_n hx hb dn_M_put_18 rfl (lv_at hl 1 rfl) ?_
    refine va_get (D := (dC, dI)) (ci := 5) (v := .int (nI u5.1.1)) (C := rn_M) (T := tn_M) (N := 19) hx hb hw ml_M hown hK hP 0 rfl rfl 7 (by decide) (hw _ mw_480) (fun _ h9 => h9) rfl dn_M_put_19 ?_
    refine lv_iconst (v := 1) hx hb dn_M_put_22 (by decide) ?_
    refine gr_addN hx hb u5.1.1 1 rfl rfl dn_M_put_23 ?_
    refine lv_istore (lv' := [(6, .int (nI (u5.1.1 + 1))), (5, .int (an_no f clk 1 1 0 date)), (0, .ref (bd 0)), (1, .int x1), (2, .int x2), (3, .int key), (4, .int date)]) hx hb dn_M_put_24 hl (by decide) rfl (fun ls hl => ?_)
    refine lv_aload_n hx hb dn_M_put_26 rfl (lv_at hl 2 rfl) ?_
    refine lv_sipush (v := 279) hx hb dn_M_put_27 (by decide) ?_
    refine lv_iload hx hb dn_M_put_30 (lv_at hl 0 rfl) ?_
    refine gr_addN hx hb 279 (u5.1.1 + 1) rfl rfl dn_M_put_32 ?_
    refine lv_iload_n hx hb dn_M_put_33 rfl (lv_at hl 5 rfl) ?_
    refine gc_vv (pre := []) (wc := [(bd 0, .inr (5, [.ref (bd 1), .int (nI clk), .int 1, .int lf, .ref (bd 2), .int (nI fc), .int (nI u5.2), .int (nI u5.1.1), .ref (bd 3), .ref (bd 4), .ref (bd 5), .int (nI st), .ref (bd 6), .ref (bd 7), .ref (bd 8), .int (nI ef), .int (nI ec), .int (nI fu), .ref (bd 9)])), (bd 1, .inl (cI, 292, .inl f)), (bd 2, .inl (cI, 12, .inl fd)), (bd 3, .inl (cI, 13, .inl u5.1.2.1)), (bd 4, .inl (cI, 13, .inl u5.1.2.2.1)), (bd 5, .inl (cI, 13, .inl u5.1.2.2.2.1)), (bd 6, .inl (cI, 8, .inl Y)), (bd 7, .inl (cI, 8, .inl Z)), (bd 8, .inl (cZ, 8, .inl X)), (bd 9, .inl (cI, 40, .inl g))]) (po := []) (As := [.int (nI (279 + (u5.1.1 + 1))), .int key]) (rest := []) ⟨hx, hb, hml, hown, hw⟩ (c_M_write l dC dI cI cZ bd clk 1 lf f fd fc u5.2 u5.1.1 u5.1.2.1 u5.1.2.2.1 u5.1.2.2.2.1 st Y Z X ef ec fu g hpw (279 + (u5.1.1 + 1)) (by omega) key) (gw_cV 2 hw mw_564 mw_566 mv_27 mw_6 mw_567 hd_M_write ⟨Nat.le_of_ble_eq_true rfl, Nat.le_of_ble_eq_true rfl⟩) (ci := 5) rfl rfl rfl hK hP hD hS hA rfl hl.1 rfl (Nat.le_of_ble_eq_true rfl) dn_M_put_34 ⟨Nat.zero_le _, Nat.zero_le _⟩ (fun u34 H locs hc34 hP hD hS => ?_)
    have hP : va_P (dC, dI) vwCl [(bd 0, .inr (5, [.ref (bd 1), .int (nI clk), .int u34.2.1, .int u34.2.2, .ref (bd 2), .int (nI fc), .int (nI u5.2), .int (nI u5.1.1), .ref (bd 3), .ref (bd 4), .ref (bd 5), .int (nI st), .ref (bd 6), .ref (bd 7), .ref (bd 8), .int (nI ef), .int (nI ec), .int (nI fu), .ref (bd 9)])), (bd 1, .inl (cI, 292, .inl u34.1)), (bd 2, .inl (cI, 12, .inl fd)), (bd 3, .inl (cI, 13, .inl u5.1.2.1)), (bd 4, .inl (cI, 13, .inl u5.1.2.2.1)), (bd 5, .inl (cI, 13, .inl u5.1.2.2.2.1)), (bd 6, .inl (cI, 8, .inl Y)), (bd 7, .inl (cI, 8, .inl Z)), (bd 8, .inl (cZ, 8, .inl X)), (bd 9, .inl (cI, 40, .inl g))] H := hP
    have hD : va_D A [(bd 0, .inr (5, [.ref (bd 1), .int (nI clk), .int u34.2.1, .int u34.2.2, .ref (bd 2), .int (nI fc), .int (nI u5.2), .int (nI u5.1.1), .ref (bd 3), .ref (bd 4), .ref (bd 5), .int (nI st), .ref (bd 6), .ref (bd 7), .ref (bd 8), .int (nI ef), .int (nI ec), .int (nI fu), .ref (bd 9)])), (bd 1, .inl (cI, 292, .inl u34.1)), (bd 2, .inl (cI, 12, .inl fd)), (bd 3, .inl (cI, 13, .inl u5.1.2.1)), (bd 4, .inl (cI, 13, .inl u5.1.2.2.1)), (bd 5, .inl (cI, 13, .inl u5.1.2.2.2.1)), (bd 6, .inl (cI, 8, .inl Y)), (bd 7, .inl (cI, 8, .inl Z)), (bd 8, .inl (cZ, 8, .inl X)), (bd 9, .inl (cI, 40, .inl g))] := hD
    have hq34 := wr_q hc34 hpw
    refine lv_iload_n hx hb dn_M_put_37 rfl (lv_at hl 5 rfl) ?_
    refine lv_iload hx hb dn_M_put_38 (lv_at hl 0 rfl) ?_
    refine gc_s0 (v := (hf_mix key (nI (u5.1.1 + 1)))) (As := [.int key, .int (nI (u5.1.1 + 1))]) (rest := []) ⟨hx, hb, hml, hown, hw⟩ (c_M_mix l dC dI cI cZ key (nI (u5.1.1 + 1))) (gw_cS 2 hw mw_551 mw_552 mw_6 mw_553 hd_M_mix ⟨Nat.le_of_ble_eq_true rfl, Nat.le_of_ble_eq_true rfl⟩) hK hP hD hS hA rfl hl.1 rfl (Nat.le_of_ble_eq_true rfl) dn_M_put_40 ⟨Nat.zero_le _, Nat.zero_le _⟩ (fun H locs hP hD hS => ?_)
    refine lv_istore (lv' := [(7, .int (hf_mix key (nI (u5.1.1 + 1)))), (6, .int (nI (u5.1.1 + 1))), (5, .int (an_no f clk 1 1 0 date)), (0, .ref (bd 0)), (1, .int x1), (2, .int x2), (3, .int key), (4, .int date)]) hx hb dn_M_put_43 hl (by decide) rfl (fun ls hl => ?_)
    refine lv_iload hx hb dn_M_put_45 (lv_at hl 0 rfl) ?_
    refine lv_iconst (v := 0) hx hb dn_M_put_47 (by decide) ?_
    refine gc_s0 (v := (hf_mix (hf_mix key (nI (u5.1.1 + 1))) 0)) (As := [.int (hf_mix key (nI (u5.1.1 + 1))), .int 0]) (rest := []) ⟨hx, hb, hml, hown, hw⟩ (c_M_mix l dC dI cI cZ (hf_mix key (nI (u5.1.1 + 1))) 0) (gw_cS 2 hw mw_551 mw_552 mw_6 mw_553 hd_M_mix ⟨Nat.le_of_ble_eq_true rfl, Nat.le_of_ble_eq_true rfl⟩) hK hP hD hS hA rfl hl.1 rfl (Nat.le_of_ble_eq_true rfl) dn_M_put_48 ⟨Nat.zero_le _, Nat.zero_le _⟩ (fun H locs hP hD hS => ?_)
    refine lv_istore (lv' := [(8, .int (hf_mix (hf_mix key (nI (u5.1.1 + 1))) 0)), (7, .int (hf_mix key (nI (u5.1.1 + 1)))), (6, .int (nI (u5.1.1 + 1))), (5, .int (an_no f clk 1 1 0 date)), (0, .ref (bd 0)), (1, .int x1), (2, .int x2), (3, .int key), (4, .int date)]) hx hb dn_M_put_51 hl (by decide) rfl (fun ls hl => ?_)
    refine lv_iload hx hb dn_M_put_53 (lv_at hl 1 rfl) ?_
    refine lv_iconst (v := 1) hx hb dn_M_put_55 (by decide) ?_
    refine gc_s0 (v := (hf_mix (hf_mix key (nI (u5.1.1 + 1))) 1)) (As := [.int (hf_mix key (nI (u5.1.1 + 1))), .int 1]) (rest := []) ⟨hx, hb, hml, hown, hw⟩ (c_M_mix l dC dI cI cZ (hf_mix key (nI (u5.1.1 + 1))) 1) (gw_cS 2 hw mw_551 mw_552 mw_6 mw_553 hd_M_mix ⟨Nat.le_of_ble_eq_true rfl, Nat.le_of_ble_eq_true rfl⟩) hK hP hD hS hA rfl hl.1 rfl (Nat.le_of_ble_eq_true rfl) dn_M_put_56 ⟨Nat.zero_le _, Nat.zero_le _⟩ (fun H locs hP hD hS => ?_)
    refine lv_istore (lv' := [(9, .int (hf_mix (hf_mix key (nI (u5.1.1 + 1))) 1)), (8, .int (hf_mix (hf_mix key (nI (u5.1.1 + 1))) 0)), (7, .int (hf_mix key (nI (u5.1.1 + 1)))), (6, .int (nI (u5.1.1 + 1))), (5, .int (an_no f clk 1 1 0 date)), (0, .ref (bd 0)), (1, .int x1), (2, .int x2), (3, .int key), (4, .int date)]) hx hb dn_M_put_59 hl (by decide) rfl (fun ls hl => ?_)
    refine lv_aload_n hx hb dn_M_put_61 rfl (lv_at hl 5 rfl) ?_
    refine lv_iconst (v := 1) hx hb dn_M_put_62 (by decide) ?_
    refine lv_iload hx hb dn_M_put_63 (lv_at hl 3 rfl) ?_
    refine lv_iload hx hb dn_M_put_65 (lv_at hl 9 rfl) ?_
    refine lv_iload_n hx hb dn_M_put_67 rfl (lv_at hl 6 rfl) ?_
    refine lv_iload hx hb dn_M_put_68 (lv_at hl 1 rfl) ?_
    refine lv_ixor hx hb dn_M_put_70 ?_
    refine lv_iload_n hx hb dn_M_put_71 rfl (lv_at hl 7 rfl) ?_
    refine lv_iload hx hb dn_M_put_72 (lv_at hl 0 rfl) ?_
    refine lv_ixor hx hb dn_M_put_74 ?_
    refine gc_vv (pre := []) (wc := [(bd 0, .inr (5, [.ref (bd 1), .int (nI clk), .int u34.2.1, .int u34.2.2, .ref (bd 2), .int (nI fc), .int (nI u5.2), .int (nI u5.1.1), .ref (bd 3), .ref (bd 4), .ref (bd 5), .int (nI st), .ref (bd 6), .ref (bd 7), .ref (bd 8), .int (nI ef), .int (nI ec), .int (nI fu), .ref (bd 9)])), (bd 1, .inl (cI, 292, .inl u34.1)), (bd 2, .inl (cI, 12, .inl fd)), (bd 3, .inl (cI, 13, .inl u5.1.2.1)), (bd 4, .inl (cI, 13, .inl u5.1.2.2.1)), (bd 5, .inl (cI, 13, .inl u5.1.2.2.2.1)), (bd 6, .inl (cI, 8, .inl Y)), (bd 7, .inl (cI, 8, .inl Z)), (bd 8, .inl (cZ, 8, .inl X)), (bd 9, .inl (cI, 40, .inl g))]) (po := []) (As := [.int 1, .int (nI (u5.1.1 + 1)), .int date, .int (x1 ^^^ (hf_mix (hf_mix key (nI (u5.1.1 + 1))) 0)), .int (x2 ^^^ (hf_mix (hf_mix key (nI (u5.1.1 + 1))) 1))]) (rest := []) ⟨hx, hb, hml, hown, hw⟩ (c_M_enroll l dC dI cI cZ bd clk u34.2.1 u34.2.2 u34.1 fd fc u5.2 u5.1.1 u5.1.2.1 u5.1.2.2.1 u5.1.2.2.2.1 st Y Z X ef ec fu g hq34 (by omega) 1 (nI (u5.1.1 + 1)) date (x1 ^^^ (hf_mix (hf_mix key (nI (u5.1.1 + 1))) 0)) (x2 ^^^ (hf_mix (hf_mix key (nI (u5.1.1 + 1))) 1))) (gw_cV 5 hw mw_568 mw_570 mv_28 mw_6 mw_571 hd_M_enroll ⟨Nat.le_of_ble_eq_true rfl, Nat.le_of_ble_eq_true rfl⟩) (ci := 5) rfl rfl rfl hK hP hD hS hA rfl hl.1 rfl (Nat.le_of_ble_eq_true rfl) dn_M_put_75 ⟨Nat.zero_le _, Nat.zero_le _⟩ (fun u75 H locs hc75 hP hD hS => ?_)
    have hP : va_P (dC, dI) vwCl [(bd 0, .inr (5, [.ref (bd 1), .int (nI clk), .int u75.2.1, .int u75.2.2, .ref (bd 2), .int (nI fc), .int (nI u5.2), .int (nI u5.1.1), .ref (bd 3), .ref (bd 4), .ref (bd 5), .int (nI st), .ref (bd 6), .ref (bd 7), .ref (bd 8), .int (nI ef), .int (nI ec), .int (nI fu), .ref (bd 9)])), (bd 1, .inl (cI, 292, .inl u75.1)), (bd 2, .inl (cI, 12, .inl fd)), (bd 3, .inl (cI, 13, .inl u5.1.2.1)), (bd 4, .inl (cI, 13, .inl u5.1.2.2.1)), (bd 5, .inl (cI, 13, .inl u5.1.2.2.2.1)), (bd 6, .inl (cI, 8, .inl Y)), (bd 7, .inl (cI, 8, .inl Z)), (bd 8, .inl (cZ, 8, .inl X)), (bd 9, .inl (cI, 40, .inl g))] H := hP
    have hD : va_D A [(bd 0, .inr (5, [.ref (bd 1), .int (nI clk), .int u75.2.1, .int u75.2.2, .ref (bd 2), .int (nI fc), .int (nI u5.2), .int (nI u5.1.1), .ref (bd 3), .ref (bd 4), .ref (bd 5), .int (nI st), .ref (bd 6), .ref (bd 7), .ref (bd 8), .int (nI ef), .int (nI ec), .int (nI fu), .ref (bd 9)])), (bd 1, .inl (cI, 292, .inl u75.1)), (bd 2, .inl (cI, 12, .inl fd)), (bd 3, .inl (cI, 13, .inl u5.1.2.1)), (bd 4, .inl (cI, 13, .inl u5.1.2.2.1)), (bd 5, .inl (cI, 13, .inl u5.1.2.2.2.1)), (bd 6, .inl (cI, 8, .inl Y)), (bd 7, .inl (cI, 8, .inl Z)), (bd 8, .inl (cZ, 8, .inl X)), (bd 9, .inl (cI, 40, .inl g))] := hD
    have hq75 := wr_nq hc75 hq34
    refine lv_aload_n hx hb dn_M_put_78 rfl (lv_at hl 5 rfl) ?_
    refine va_get (D := (dC, dI)) (ci := 5) (v := .int u75.2.1) (C := rn_M) (T := tn_M) (N := 19) hx hb hw ml_M hown hK hP 0 rfl rfl 2 (by decide) (hw _ mw_475) (fun _ h9 => h9) rfl dn_M_put_79 ?_
    refine lv_if_eq (tgt := 90) hx hb dn_M_put_82 (by decide) (fun h82 => ?_) (fun h82 => ?_)
    · skip
      refine lv_bipush (v := (-9)) hx hb dn_M_put_90 (by decide) ?_
      have he_ := mu_end hn_ heq h12 (mu_w hn_ heq hc34 hc75)
      exact hret (-9) (u75, u5.1, u5.2) _ _ _ _ ⟨he_.2.1 (pw_n1 h82), he_.2.2⟩ rfl hP hD hS dn_M_put_92
    · skip
      refine lv_iload hx hb dn_M_put_85 (lv_at hl 3 rfl) ?_
      refine lv_goto (tgt := 92) hx hb dn_M_put_87 (by decide) ?_
      have he_ := mu_end hn_ heq h12 (mu_w hn_ heq hc34 hc75)
      exact hret (nI (u5.1.1 + 1)) (u75, u5.1, u5.2) _ _ _ _ ⟨he_.1 (pw_1 hq75 h82), he_.2.2⟩ rfl hP hD hS dn_M_put_92
  · skip
    refine lv_iload hx hb dn_M_put_15 (lv_at hl 0 rfl) ?_
    exact hret (an_no f clk pw 1 0 date) ((f, pw, lf), u5.1, u5.2) _ _ _ _ (mu_no h12) rfl hP hD hS dn_M_put_17
