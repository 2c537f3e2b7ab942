theorem dn_X_tick_0 : decode cn_X_tick 0 = .ok (.iload_n 1, 1) := by decide +kernel
theorem dn_X_tick_1 : decode cn_X_tick 1 = .ok (.ifCond .lt 10, 3) := by decide +kernel
theorem dn_X_tick_4 : decode cn_X_tick 4 = .ok (.iload_n 1, 1) := by decide +kernel
theorem dn_X_tick_5 : decode cn_X_tick 5 = .ok (.sipush 1000, 3) := by decide +kernel
theorem dn_X_tick_8 : decode cn_X_tick 8 = .ok (.if_icmp .le 5, 3) := by decide +kernel
theorem dn_X_tick_11 : decode cn_X_tick 11 = .ok (.iconst (-1), 1) := by decide +kernel
theorem dn_X_tick_12 : decode cn_X_tick 12 = .ok (.ireturn, 1) := by decide +kernel
theorem dn_X_tick_13 : decode cn_X_tick 13 = .ok (.aload_n 0, 1) := by decide +kernel
theorem dn_X_tick_14 : decode cn_X_tick 14 = .ok (.dup, 1) := by decide +kernel
theorem dn_X_tick_15 : decode cn_X_tick 15 = .ok (.getfield 44, 3) := by decide +kernel
theorem dn_X_tick_18 : decode cn_X_tick 18 = .ok (.iload_n 1, 1) := by decide +kernel
theorem dn_X_tick_19 : decode cn_X_tick 19 = .ok (.iadd, 1) := by decide +kernel
theorem dn_X_tick_20 : decode cn_X_tick 20 = .ok (.putfield 44, 3) := by decide +kernel
theorem dn_X_tick_23 : decode cn_X_tick 23 = .ok (.aload_n 0, 1) := by decide +kernel
theorem dn_X_tick_24 : decode cn_X_tick 24 = .ok (.getfield 44, 3) := by decide +kernel
theorem dn_X_tick_27 : decode cn_X_tick 27 = .ok (.ireturn, 1) := by decide +kernel
theorem dn_X_get_0 : decode cn_X_get 0 = .ok (.aload_n 0, 1) := by decide +kernel
theorem dn_X_get_1 : decode cn_X_get 1 = .ok (.getfield 48, 3) := by decide +kernel
theorem dn_X_get_4 : decode cn_X_get 4 = .ok (.ifCond .eq 23, 3) := by decide +kernel
theorem dn_X_get_7 : decode cn_X_get 7 = .ok (.aload_n 0, 1) := by decide +kernel
theorem dn_X_get_8 : decode cn_X_get 8 = .ok (.getfield 19, 3) := by decide +kernel
theorem dn_X_get_11 : decode cn_X_get 11 = .ok (.iload_n 1, 1) := by decide +kernel
theorem dn_X_get_12 : decode cn_X_get 12 = .ok (.invokevirtual 91, 3) := by decide +kernel
theorem dn_X_get_15 : decode cn_X_get 15 = .ok (.ifCond .eq 12, 3) := by decide +kernel
theorem dn_X_get_18 : decode cn_X_get 18 = .ok (.iload_n 2, 1) := by decide +kernel
theorem dn_X_get_19 : decode cn_X_get 19 = .ok (.ifCond .lt 8, 3) := by decide +kernel
theorem dn_X_get_22 : decode cn_X_get 22 = .ok (.iload_n 2, 1) := by decide +kernel
theorem dn_X_get_23 : decode cn_X_get 23 = .ok (.iconst 1, 1) := by decide +kernel
theorem dn_X_get_24 : decode cn_X_get 24 = .ok (.if_icmp .le 7, 3) := by decide +kernel
theorem dn_X_get_27 : decode cn_X_get 27 = .ok (.ldc2_w 95, 3) := by decide +kernel
theorem dn_X_get_30 : decode cn_X_get 30 = .ok (.lreturn, 1) := by decide +kernel
theorem dn_X_get_31 : decode cn_X_get 31 = .ok (.aload_n 0, 1) := by decide +kernel
theorem dn_X_get_32 : decode cn_X_get 32 = .ok (.getfield 10, 3) := by decide +kernel
theorem dn_X_get_35 : decode cn_X_get 35 = .ok (.aload_n 0, 1) := by decide +kernel
theorem dn_X_get_36 : decode cn_X_get 36 = .ok (.getfield 19, 3) := by decide +kernel
theorem dn_X_get_39 : decode cn_X_get 39 = .ok (.iload_n 1, 1) := by decide +kernel
theorem dn_X_get_40 : decode cn_X_get 40 = .ok (.invokevirtual 97, 3) := by decide +kernel
theorem dn_X_get_43 : decode cn_X_get 43 = .ok (.iconst 3, 1) := by decide +kernel
theorem dn_X_get_44 : decode cn_X_get 44 = .ok (.iload_n 2, 1) := by decide +kernel
theorem dn_X_get_45 : decode cn_X_get 45 = .ok (.iadd, 1) := by decide +kernel
theorem dn_X_get_46 : decode cn_X_get 46 = .ok (.invokevirtual 100, 3) := by decide +kernel
theorem dn_X_get_49 : decode cn_X_get 49 = .ok (.istore_n 3, 1) := by decide +kernel
theorem dn_X_get_50 : decode cn_X_get 50 = .ok (.aload_n 0, 1) := by decide +kernel
theorem dn_X_get_51 : decode cn_X_get 51 = .ok (.getfield 10, 3) := by decide +kernel
theorem dn_X_get_54 : decode cn_X_get 54 = .ok (.iload_n 1, 1) := by decide +kernel
theorem dn_X_get_55 : decode cn_X_get 55 = .ok (.invokestatic 72, 3) := by decide +kernel
theorem dn_X_get_58 : decode cn_X_get 58 = .ok (.invokevirtual 104, 3) := by decide +kernel
theorem dn_X_get_61 : decode cn_X_get 61 = .ok (.istore 4, 2) := by decide +kernel
theorem dn_X_get_63 : decode cn_X_get 63 = .ok (.iload_n 3, 1) := by decide +kernel
theorem dn_X_get_64 : decode cn_X_get 64 = .ok (.iload 4, 2) := by decide +kernel
theorem dn_X_get_66 : decode cn_X_get 66 = .ok (.iload_n 1, 1) := by decide +kernel
theorem dn_X_get_67 : decode cn_X_get 67 = .ok (.iload_n 2, 1) := by decide +kernel
theorem dn_X_get_68 : decode cn_X_get 68 = .ok (.invokestatic 63, 3) := by decide +kernel
theorem dn_X_get_71 : decode cn_X_get 71 = .ok (.ixor, 1) := by decide +kernel
theorem dn_X_get_72 : decode cn_X_get 72 = .ok (.i2l, 1) := by decide +kernel
theorem dn_X_get_73 : decode cn_X_get 73 = .ok (.lreturn, 1) := by decide +kernel
theorem dn_X_look_0 : decode cn_X_look 0 = .ok (.aload_n 0, 1) := by decide +kernel
theorem dn_X_look_1 : decode cn_X_look 1 = .ok (.getfield 48, 3) := by decide +kernel
theorem dn_X_look_4 : decode cn_X_look 4 = .ok (.ifCond .eq 14, 3) := by decide +kernel
theorem dn_X_look_7 : decode cn_X_look 7 = .ok (.aload_n 0, 1) := by decide +kernel
theorem dn_X_look_8 : decode cn_X_look 8 = .ok (.getfield 19, 3) := by decide +kernel
theorem dn_X_look_11 : decode cn_X_look 11 = .ok (.iload_n 1, 1) := by decide +kernel
theorem dn_X_look_12 : decode cn_X_look 12 = .ok (.invokevirtual 107, 3) := by decide +kernel
theorem dn_X_look_15 : decode cn_X_look 15 = .ok (.ifCond .ne 5, 3) := by decide +kernel
theorem dn_X_look_18 : decode cn_X_look 18 = .ok (.iconst (-1), 1) := by decide +kernel
theorem dn_X_look_19 : decode cn_X_look 19 = .ok (.ireturn, 1) := by decide +kernel
theorem dn_X_look_20 : decode cn_X_look 20 = .ok (.iload_n 2, 1) := by decide +kernel
theorem dn_X_look_21 : decode cn_X_look 21 = .ok (.tableswitch 54 0 2 #[27, 36, 45], 27) := by decide +kernel
theorem dn_X_look_48 : decode cn_X_look 48 = .ok (.aload_n 0, 1) := by decide +kernel
theorem dn_X_look_49 : decode cn_X_look 49 = .ok (.getfield 19, 3) := by decide +kernel
theorem dn_X_look_52 : decode cn_X_look 52 = .ok (.iload_n 1, 1) := by decide +kernel
theorem dn_X_look_53 : decode cn_X_look 53 = .ok (.invokevirtual 110, 3) := by decide +kernel
theorem dn_X_look_56 : decode cn_X_look 56 = .ok (.ireturn, 1) := by decide +kernel
theorem dn_X_look_57 : decode cn_X_look 57 = .ok (.aload_n 0, 1) := by decide +kernel
theorem dn_X_look_58 : decode cn_X_look 58 = .ok (.getfield 19, 3) := by decide +kernel
theorem dn_X_look_61 : decode cn_X_look 61 = .ok (.iload_n 1, 1) := by decide +kernel
theorem dn_X_look_62 : decode cn_X_look 62 = .ok (.invokevirtual 113, 3) := by decide +kernel
theorem dn_X_look_65 : decode cn_X_look 65 = .ok (.ireturn, 1) := by decide +kernel
theorem dn_X_look_66 : decode cn_X_look 66 = .ok (.aload_n 0, 1) := by decide +kernel
theorem dn_X_look_67 : decode cn_X_look 67 = .ok (.getfield 19, 3) := by decide +kernel
theorem dn_X_look_70 : decode cn_X_look 70 = .ok (.iload_n 1, 1) := by decide +kernel
theorem dn_X_look_71 : decode cn_X_look 71 = .ok (.invokevirtual 116, 3) := by decide +kernel
theorem dn_X_look_74 : decode cn_X_look 74 = .ok (.ireturn, 1) := by decide +kernel
theorem dn_X_look_75 : decode cn_X_look 75 = .ok (.iconst (-1), 1) := by decide +kernel
theorem dn_X_look_76 : decode cn_X_look 76 = .ok (.ireturn, 1) := by decide +kernel
theorem dn_X_records_0 : decode cn_X_records 0 = .ok (.aload_n 0, 1) := by decide +kernel
theorem dn_X_records_1 : decode cn_X_records 1 = .ok (.getfield 48, 3) := by decide +kernel
theorem dn_X_records_4 : decode cn_X_records 4 = .ok (.ifCond .eq 13, 3) := by decide +kernel
theorem dn_X_records_7 : decode cn_X_records 7 = .ok (.aload_n 0, 1) := by decide +kernel
theorem dn_X_records_8 : decode cn_X_records 8 = .ok (.getfield 19, 3) := by decide +kernel
theorem dn_X_records_11 : decode cn_X_records 11 = .ok (.invokevirtual 119, 3) := by decide +kernel
theorem dn_X_records_14 : decode cn_X_records 14 = .ok (.goto 4, 3) := by decide +kernel
theorem dn_X_records_17 : decode cn_X_records 17 = .ok (.iconst (-1), 1) := by decide +kernel
theorem dn_X_records_18 : decode cn_X_records 18 = .ok (.ireturn, 1) := by decide +kernel
theorem dn_X_root_0 : decode cn_X_root 0 = .ok (.aload_n 0, 1) := by decide +kernel
theorem dn_X_root_1 : decode cn_X_root 1 = .ok (.getfield 48, 3) := by decide +kernel
theorem dn_X_root_4 : decode cn_X_root 4 = .ok (.ifCond .eq 18, 3) := by decide +kernel
theorem dn_X_root_7 : decode cn_X_root 7 = .ok (.iload_n 1, 1) := by decide +kernel
theorem dn_X_root_8 : decode cn_X_root 8 = .ok (.ifCond .lt 14, 3) := by decide +kernel
theorem dn_X_root_11 : decode cn_X_root 11 = .ok (.iload_n 1, 1) := by decide +kernel
theorem dn_X_root_12 : decode cn_X_root 12 = .ok (.aload_n 0, 1) := by decide +kernel
theorem dn_X_root_13 : decode cn_X_root 13 = .ok (.getfield 19, 3) := by decide +kernel
theorem dn_X_root_16 : decode cn_X_root 16 = .ok (.invokevirtual 119, 3) := by decide +kernel
theorem dn_X_root_19 : decode cn_X_root 19 = .ok (.if_icmp .le 7, 3) := by decide +kernel
theorem dn_X_root_22 : decode cn_X_root 22 = .ok (.ldc2_w 95, 3) := by decide +kernel
theorem dn_X_root_25 : decode cn_X_root 25 = .ok (.lreturn, 1) := by decide +kernel
theorem dn_X_root_26 : decode cn_X_root 26 = .ok (.aload_n 0, 1) := by decide +kernel
theorem dn_X_root_27 : decode cn_X_root 27 = .ok (.getfield 10, 3) := by decide +kernel
theorem dn_X_root_30 : decode cn_X_root 30 = .ok (.iload_n 1, 1) := by decide +kernel
theorem dn_X_root_31 : decode cn_X_root 31 = .ok (.invokevirtual 122, 3) := by decide +kernel
theorem dn_X_root_34 : decode cn_X_root 34 = .ok (.i2l, 1) := by decide +kernel
theorem dn_X_root_35 : decode cn_X_root 35 = .ok (.lreturn, 1) := by decide +kernel
theorem dn_X_digestOnTheWay_0 : decode cn_X_digestOnTheWay 0 = .ok (.iload_n 1, 1) := by decide +kernel
theorem dn_X_digestOnTheWay_1 : decode cn_X_digestOnTheWay 1 = .ok (.ifCond .lt 14, 3) := by decide +kernel
theorem dn_X_digestOnTheWay_4 : decode cn_X_digestOnTheWay 4 = .ok (.iload_n 1, 1) := by decide +kernel
theorem dn_X_digestOnTheWay_5 : decode cn_X_digestOnTheWay 5 = .ok (.aload_n 0, 1) := by decide +kernel
theorem dn_X_digestOnTheWay_6 : decode cn_X_digestOnTheWay 6 = .ok (.getfield 29, 3) := by decide +kernel
theorem dn_X_digestOnTheWay_9 : decode cn_X_digestOnTheWay 9 = .ok (.invokevirtual 181, 3) := by decide +kernel
theorem dn_X_digestOnTheWay_12 : decode cn_X_digestOnTheWay 12 = .ok (.if_icmp .lt 7, 3) := by decide +kernel
theorem dn_X_digestOnTheWay_15 : decode cn_X_digestOnTheWay 15 = .ok (.ldc2_w 95, 3) := by decide +kernel
theorem dn_X_digestOnTheWay_18 : decode cn_X_digestOnTheWay 18 = .ok (.lreturn, 1) := by decide +kernel
theorem dn_X_digestOnTheWay_19 : decode cn_X_digestOnTheWay 19 = .ok (.aload_n 0, 1) := by decide +kernel
theorem dn_X_digestOnTheWay_20 : decode cn_X_digestOnTheWay 20 = .ok (.getfield 10, 3) := by decide +kernel
theorem dn_X_digestOnTheWay_23 : decode cn_X_digestOnTheWay 23 = .ok (.aload_n 0, 1) := by decide +kernel
theorem dn_X_digestOnTheWay_24 : decode cn_X_digestOnTheWay 24 = .ok (.getfield 29, 3) := by decide +kernel
theorem dn_X_digestOnTheWay_27 : decode cn_X_digestOnTheWay 27 = .ok (.iload_n 1, 1) := by decide +kernel
theorem dn_X_digestOnTheWay_28 : decode cn_X_digestOnTheWay 28 = .ok (.invokevirtual 184, 3) := by decide +kernel
theorem dn_X_digestOnTheWay_31 : decode cn_X_digestOnTheWay 31 = .ok (.aload_n 0, 1) := by decide +kernel
theorem dn_X_digestOnTheWay_32 : decode cn_X_digestOnTheWay 32 = .ok (.getfield 29, 3) := by decide +kernel
theorem dn_X_digestOnTheWay_35 : decode cn_X_digestOnTheWay 35 = .ok (.iload_n 1, 1) := by decide +kernel
theorem dn_X_digestOnTheWay_36 : decode cn_X_digestOnTheWay 36 = .ok (.invokevirtual 187, 3) := by decide +kernel
theorem dn_X_digestOnTheWay_39 : decode cn_X_digestOnTheWay 39 = .ok (.invokevirtual 190, 3) := by decide +kernel
theorem dn_X_digestOnTheWay_42 : decode cn_X_digestOnTheWay 42 = .ok (.i2l, 1) := by decide +kernel
theorem dn_X_digestOnTheWay_43 : decode cn_X_digestOnTheWay 43 = .ok (.lreturn, 1) := by decide +kernel
theorem dn_X_path_0 : decode cn_X_path 0 = .ok (.aload_n 0, 1) := by decide +kernel
theorem dn_X_path_1 : decode cn_X_path 1 = .ok (.getfield 48, 3) := by decide +kernel
theorem dn_X_path_4 : decode cn_X_path 4 = .ok (.ifCond .eq 23, 3) := by decide +kernel
theorem dn_X_path_7 : decode cn_X_path 7 = .ok (.iload_n 1, 1) := by decide +kernel
theorem dn_X_path_8 : decode cn_X_path 8 = .ok (.ifCond .lt 19, 3) := by decide +kernel
theorem dn_X_path_11 : decode cn_X_path 11 = .ok (.iload_n 1, 1) := by decide +kernel
theorem dn_X_path_12 : decode cn_X_path 12 = .ok (.iload_n 2, 1) := by decide +kernel
theorem dn_X_path_13 : decode cn_X_path 13 = .ok (.if_icmp .ge 14, 3) := by decide +kernel
theorem dn_X_path_16 : decode cn_X_path 16 = .ok (.iload_n 2, 1) := by decide +kernel
theorem dn_X_path_17 : decode cn_X_path 17 = .ok (.aload_n 0, 1) := by decide +kernel
theorem dn_X_path_18 : decode cn_X_path 18 = .ok (.getfield 19, 3) := by decide +kernel
theorem dn_X_path_21 : decode cn_X_path 21 = .ok (.invokevirtual 119, 3) := by decide +kernel
theorem dn_X_path_24 : decode cn_X_path 24 = .ok (.if_icmp .le 7, 3) := by decide +kernel
theorem dn_X_path_27 : decode cn_X_path 27 = .ok (.ldc2_w 95, 3) := by decide +kernel
theorem dn_X_path_30 : decode cn_X_path 30 = .ok (.lreturn, 1) := by decide +kernel
theorem dn_X_path_31 : decode cn_X_path 31 = .ok (.aload_n 0, 1) := by decide +kernel
theorem dn_X_path_32 : decode cn_X_path 32 = .ok (.getfield 29, 3) := by decide +kernel
theorem dn_X_path_35 : decode cn_X_path 35 = .ok (.iload_n 1, 1) := by decide +kernel
theorem dn_X_path_36 : decode cn_X_path 36 = .ok (.iload_n 2, 1) := by decide +kernel
theorem dn_X_path_37 : decode cn_X_path 37 = .ok (.invokevirtual 125, 3) := by decide +kernel
theorem dn_X_path_40 : decode cn_X_path 40 = .ok (.aload_n 0, 1) := by decide +kernel
theorem dn_X_path_41 : decode cn_X_path 41 = .ok (.iload_n 3, 1) := by decide +kernel
theorem dn_X_path_42 : decode cn_X_path 42 = .ok (.invokevirtual 129, 3) := by decide +kernel
theorem dn_X_path_45 : decode cn_X_path 45 = .ok (.lreturn, 1) := by decide +kernel
theorem dn_X_bridge_0 : decode cn_X_bridge 0 = .ok (.aload_n 0, 1) := by decide +kernel
theorem dn_X_bridge_1 : decode cn_X_bridge 1 = .ok (.getfield 48, 3) := by decide +kernel
theorem dn_X_bridge_4 : decode cn_X_bridge 4 = .ok (.ifCond .eq 24, 3) := by decide +kernel
theorem dn_X_bridge_7 : decode cn_X_bridge 7 = .ok (.iload_n 1, 1) := by decide +kernel
theorem dn_X_bridge_8 : decode cn_X_bridge 8 = .ok (.iconst 1, 1) := by decide +kernel
theorem dn_X_bridge_9 : decode cn_X_bridge 9 = .ok (.if_icmp .lt 19, 3) := by decide +kernel
theorem dn_X_bridge_12 : decode cn_X_bridge 12 = .ok (.iload_n 1, 1) := by decide +kernel
theorem dn_X_bridge_13 : decode cn_X_bridge 13 = .ok (.iload_n 2, 1) := by decide +kernel
theorem dn_X_bridge_14 : decode cn_X_bridge 14 = .ok (.if_icmp .gt 14, 3) := by decide +kernel
theorem dn_X_bridge_17 : decode cn_X_bridge 17 = .ok (.iload_n 2, 1) := by decide +kernel
theorem dn_X_bridge_18 : decode cn_X_bridge 18 = .ok (.aload_n 0, 1) := by decide +kernel
theorem dn_X_bridge_19 : decode cn_X_bridge 19 = .ok (.getfield 19, 3) := by decide +kernel
theorem dn_X_bridge_22 : decode cn_X_bridge 22 = .ok (.invokevirtual 119, 3) := by decide +kernel
theorem dn_X_bridge_25 : decode cn_X_bridge 25 = .ok (.if_icmp .le 7, 3) := by decide +kernel
theorem dn_X_bridge_28 : decode cn_X_bridge 28 = .ok (.ldc2_w 95, 3) := by decide +kernel
theorem dn_X_bridge_31 : decode cn_X_bridge 31 = .ok (.lreturn, 1) := by decide +kernel
theorem dn_X_bridge_32 : decode cn_X_bridge 32 = .ok (.aload_n 0, 1) := by decide +kernel
theorem dn_X_bridge_33 : decode cn_X_bridge 33 = .ok (.getfield 29, 3) := by decide +kernel
theorem dn_X_bridge_36 : decode cn_X_bridge 36 = .ok (.iload_n 1, 1) := by decide +kernel
theorem dn_X_bridge_37 : decode cn_X_bridge 37 = .ok (.iload_n 2, 1) := by decide +kernel
theorem dn_X_bridge_38 : decode cn_X_bridge 38 = .ok (.invokevirtual 133, 3) := by decide +kernel
theorem dn_X_bridge_41 : decode cn_X_bridge 41 = .ok (.aload_n 0, 1) := by decide +kernel
theorem dn_X_bridge_42 : decode cn_X_bridge 42 = .ok (.iload_n 3, 1) := by decide +kernel
theorem dn_X_bridge_43 : decode cn_X_bridge 43 = .ok (.invokevirtual 129, 3) := by decide +kernel
theorem dn_X_bridge_46 : decode cn_X_bridge 46 = .ok (.lreturn, 1) := by decide +kernel
theorem dn_X_feed_0 : decode cn_X_feed 0 = .ok (.aload_n 0, 1) := by decide +kernel
theorem dn_X_feed_1 : decode cn_X_feed 1 = .ok (.getfield 36, 3) := by decide +kernel
theorem dn_X_feed_4 : decode cn_X_feed 4 = .ok (.iload_n 1, 1) := by decide +kernel
theorem dn_X_feed_5 : decode cn_X_feed 5 = .ok (.invokevirtual 136, 3) := by decide +kernel
theorem dn_X_feed_8 : decode cn_X_feed 8 = .ok (.ireturn, 1) := by decide +kernel
theorem dn_X_included_0 : decode cn_X_included 0 = .ok (.iconst 0, 1) := by decide +kernel
theorem dn_X_included_1 : decode cn_X_included 1 = .ok (.istore 4, 2) := by decide +kernel
theorem dn_X_included_3 : decode cn_X_included 3 = .ok (.iconst 0, 1) := by decide +kernel
theorem dn_X_included_4 : decode cn_X_included 4 = .ok (.iload_n 1, 1) := by decide +kernel
theorem dn_X_included_5 : decode cn_X_included 5 = .ok (.if_icmp .gt 37, 3) := by decide +kernel
theorem dn_X_included_8 : decode cn_X_included 8 = .ok (.iload_n 1, 1) := by decide +kernel
theorem dn_X_included_9 : decode cn_X_included 9 = .ok (.iload_n 2, 1) := by decide +kernel
theorem dn_X_included_10 : decode cn_X_included 10 = .ok (.if_icmp .ge 32, 3) := by decide +kernel
theorem dn_X_included_13 : decode cn_X_included 13 = .ok (.iload_n 2, 1) := by decide +kernel
theorem dn_X_included_14 : decode cn_X_included 14 = .ok (.bipush 40, 2) := by decide +kernel
theorem dn_X_included_16 : decode cn_X_included 16 = .ok (.if_icmp .gt 26, 3) := by decide +kernel
theorem dn_X_included_19 : decode cn_X_included 19 = .ok (.aload_n 0, 1) := by decide +kernel
theorem dn_X_included_20 : decode cn_X_included 20 = .ok (.getfield 29, 3) := by decide +kernel
theorem dn_X_included_23 : decode cn_X_included 23 = .ok (.iload_n 1, 1) := by decide +kernel
theorem dn_X_included_24 : decode cn_X_included 24 = .ok (.iload_n 2, 1) := by decide +kernel
theorem dn_X_included_25 : decode cn_X_included 25 = .ok (.invokevirtual 125, 3) := by decide +kernel
theorem dn_X_included_28 : decode cn_X_included 28 = .ok (.aload_n 0, 1) := by decide +kernel
theorem dn_X_included_29 : decode cn_X_included 29 = .ok (.getfield 36, 3) := by decide +kernel
theorem dn_X_included_32 : decode cn_X_included 32 = .ok (.aload_n 0, 1) := by decide +kernel
theorem dn_X_included_33 : decode cn_X_included 33 = .ok (.getfield 29, 3) := by decide +kernel
theorem dn_X_included_36 : decode cn_X_included 36 = .ok (.iload_n 3, 1) := by decide +kernel
theorem dn_X_included_37 : decode cn_X_included 37 = .ok (.invokevirtual 139, 3) := by decide +kernel
theorem dn_X_included_40 : decode cn_X_included 40 = .ok (.istore 4, 2) := by decide +kernel
theorem dn_X_included_42 : decode cn_X_included 42 = .ok (.aload_n 0, 1) := by decide +kernel
theorem dn_X_included_43 : decode cn_X_included 43 = .ok (.getfield 36, 3) := by decide +kernel
theorem dn_X_included_46 : decode cn_X_included 46 = .ok (.invokevirtual 143, 3) := by decide +kernel
theorem dn_X_included_49 : decode cn_X_included 49 = .ok (.iload 4, 2) := by decide +kernel
theorem dn_X_included_51 : decode cn_X_included 51 = .ok (.ireturn, 1) := by decide +kernel
theorem dn_X_extended_0 : decode cn_X_extended 0 = .ok (.iconst 0, 1) := by decide +kernel
theorem dn_X_extended_1 : decode cn_X_extended 1 = .ok (.istore 5, 2) := by decide +kernel
theorem dn_X_extended_3 : decode cn_X_extended 3 = .ok (.iconst 1, 1) := by decide +kernel
theorem dn_X_extended_4 : decode cn_X_extended 4 = .ok (.iload_n 1, 1) := by decide +kernel
theorem dn_X_extended_5 : decode cn_X_extended 5 = .ok (.if_icmp .gt 39, 3) := by decide +kernel
theorem dn_X_extended_8 : decode cn_X_extended 8 = .ok (.iload_n 1, 1) := by decide +kernel
theorem dn_X_extended_9 : decode cn_X_extended 9 = .ok (.iload_n 2, 1) := by decide +kernel
theorem dn_X_extended_10 : decode cn_X_extended 10 = .ok (.if_icmp .gt 34, 3) := by decide +kernel
theorem dn_X_extended_13 : decode cn_X_extended 13 = .ok (.iload_n 2, 1) := by decide +kernel
theorem dn_X_extended_14 : decode cn_X_extended 14 = .ok (.bipush 40, 2) := by decide +kernel
theorem dn_X_extended_16 : decode cn_X_extended 16 = .ok (.if_icmp .gt 28, 3) := by decide +kernel
theorem dn_X_extended_19 : decode cn_X_extended 19 = .ok (.aload_n 0, 1) := by decide +kernel
theorem dn_X_extended_20 : decode cn_X_extended 20 = .ok (.getfield 29, 3) := by decide +kernel
theorem dn_X_extended_23 : decode cn_X_extended 23 = .ok (.iload_n 1, 1) := by decide +kernel
theorem dn_X_extended_24 : decode cn_X_extended 24 = .ok (.iload_n 2, 1) := by decide +kernel
theorem dn_X_extended_25 : decode cn_X_extended 25 = .ok (.invokevirtual 133, 3) := by decide +kernel
theorem dn_X_extended_28 : decode cn_X_extended 28 = .ok (.aload_n 0, 1) := by decide +kernel
theorem dn_X_extended_29 : decode cn_X_extended 29 = .ok (.getfield 36, 3) := by decide +kernel
theorem dn_X_extended_32 : decode cn_X_extended 32 = .ok (.aload_n 0, 1) := by decide +kernel
theorem dn_X_extended_33 : decode cn_X_extended 33 = .ok (.getfield 29, 3) := by decide +kernel
theorem dn_X_extended_36 : decode cn_X_extended 36 = .ok (.iload_n 3, 1) := by decide +kernel
theorem dn_X_extended_37 : decode cn_X_extended 37 = .ok (.iload 4, 2) := by decide +kernel
theorem dn_X_extended_39 : decode cn_X_extended 39 = .ok (.invokevirtual 146, 3) := by decide +kernel
theorem dn_X_extended_42 : decode cn_X_extended 42 = .ok (.istore 5, 2) := by decide +kernel
theorem dn_X_extended_44 : decode cn_X_extended 44 = .ok (.aload_n 0, 1) := by decide +kernel
theorem dn_X_extended_45 : decode cn_X_extended 45 = .ok (.getfield 36, 3) := by decide +kernel
theorem dn_X_extended_48 : decode cn_X_extended 48 = .ok (.invokevirtual 143, 3) := by decide +kernel
theorem dn_X_extended_51 : decode cn_X_extended 51 = .ok (.iload 5, 2) := by decide +kernel
theorem dn_X_extended_53 : decode cn_X_extended 53 = .ok (.ireturn, 1) := by decide +kernel
theorem dn_X_word_0 : decode cn_X_word 0 = .ok (.iload_n 1, 1) := by decide +kernel
theorem dn_X_word_1 : decode cn_X_word 1 = .ok (.invokestatic 150, 3) := by decide +kernel
theorem dn_X_word_4 : decode cn_X_word 4 = .ok (.ifCond .eq 15, 3) := by decide +kernel
theorem dn_X_word_7 : decode cn_X_word 7 = .ok (.aload_n 0, 1) := by decide +kernel
theorem dn_X_word_8 : decode cn_X_word 8 = .ok (.getfield 10, 3) := by decide +kernel
theorem dn_X_word_11 : decode cn_X_word 11 = .ok (.iload_n 1, 1) := by decide +kernel
theorem dn_X_word_12 : decode cn_X_word 12 = .ok (.invokevirtual 104, 3) := by decide +kernel
theorem dn_X_word_15 : decode cn_X_word 15 = .ok (.i2l, 1) := by decide +kernel
theorem dn_X_word_16 : decode cn_X_word 16 = .ok (.goto 6, 3) := by decide +kernel
theorem dn_X_word_19 : decode cn_X_word 19 = .ok (.ldc2_w 95, 3) := by decide +kernel
theorem dn_X_word_22 : decode cn_X_word 22 = .ok (.lreturn, 1) := by decide +kernel
theorem dn_X_alter_0 : decode cn_X_alter 0 = .ok (.aload_n 0, 1) := by decide +kernel
theorem dn_X_alter_1 : decode cn_X_alter 1 = .ok (.getfield 48, 3) := by decide +kernel
theorem dn_X_alter_4 : decode cn_X_alter 4 = .ok (.ifCond .ne 10, 3) := by decide +kernel
theorem dn_X_alter_7 : decode cn_X_alter 7 = .ok (.iload_n 1, 1) := by decide +kernel
theorem dn_X_alter_8 : decode cn_X_alter 8 = .ok (.invokestatic 150, 3) := by decide +kernel
theorem dn_X_alter_11 : decode cn_X_alter 11 = .ok (.ifCond .ne 5, 3) := by decide +kernel
theorem dn_X_alter_14 : decode cn_X_alter 14 = .ok (.iconst 0, 1) := by decide +kernel
theorem dn_X_alter_15 : decode cn_X_alter 15 = .ok (.ireturn, 1) := by decide +kernel
theorem dn_X_alter_16 : decode cn_X_alter 16 = .ok (.aload_n 0, 1) := by decide +kernel
theorem dn_X_alter_17 : decode cn_X_alter 17 = .ok (.getfield 10, 3) := by decide +kernel
theorem dn_X_alter_20 : decode cn_X_alter 20 = .ok (.iload_n 1, 1) := by decide +kernel
theorem dn_X_alter_21 : decode cn_X_alter 21 = .ok (.iload_n 2, 1) := by decide +kernel
theorem dn_X_alter_22 : decode cn_X_alter 22 = .ok (.invokevirtual 153, 3) := by decide +kernel
theorem dn_X_alter_25 : decode cn_X_alter 25 = .ok (.iconst 1, 1) := by decide +kernel
theorem dn_X_alter_26 : decode cn_X_alter 26 = .ok (.ireturn, 1) := by decide +kernel
theorem dn_X_wipeWhatIsNotSound_0 : decode cn_X_wipeWhatIsNotSound 0 = .ok (.aload_n 0, 1) := by decide +kernel
theorem dn_X_wipeWhatIsNotSound_1 : decode cn_X_wipeWhatIsNotSound 1 = .ok (.getfield 10, 3) := by decide +kernel
theorem dn_X_wipeWhatIsNotSound_4 : decode cn_X_wipeWhatIsNotSound 4 = .ok (.aload_n 0, 1) := by decide +kernel
theorem dn_X_wipeWhatIsNotSound_5 : decode cn_X_wipeWhatIsNotSound 5 = .ok (.getfield 19, 3) := by decide +kernel
theorem dn_X_wipeWhatIsNotSound_8 : decode cn_X_wipeWhatIsNotSound 8 = .ok (.invokevirtual 119, 3) := by decide +kernel
theorem dn_X_wipeWhatIsNotSound_11 : decode cn_X_wipeWhatIsNotSound 11 = .ok (.invokevirtual 174, 3) := by decide +kernel
theorem dn_X_wipeWhatIsNotSound_14 : decode cn_X_wipeWhatIsNotSound 14 = .ok (.iconst 1, 1) := by decide +kernel
theorem dn_X_wipeWhatIsNotSound_15 : decode cn_X_wipeWhatIsNotSound 15 = .ok (.istore_n 1, 1) := by decide +kernel
theorem dn_X_wipeWhatIsNotSound_16 : decode cn_X_wipeWhatIsNotSound 16 = .ok (.iload_n 1, 1) := by decide +kernel
theorem dn_X_wipeWhatIsNotSound_17 : decode cn_X_wipeWhatIsNotSound 17 = .ok (.bipush 12, 2) := by decide +kernel
theorem dn_X_wipeWhatIsNotSound_19 : decode cn_X_wipeWhatIsNotSound 19 = .ok (.if_icmp .gt 32, 3) := by decide +kernel
theorem dn_X_wipeWhatIsNotSound_22 : decode cn_X_wipeWhatIsNotSound 22 = .ok (.aload_n 0, 1) := by decide +kernel
theorem dn_X_wipeWhatIsNotSound_23 : decode cn_X_wipeWhatIsNotSound 23 = .ok (.getfield 19, 3) := by decide +kernel
theorem dn_X_wipeWhatIsNotSound_26 : decode cn_X_wipeWhatIsNotSound 26 = .ok (.iload_n 1, 1) := by decide +kernel
theorem dn_X_wipeWhatIsNotSound_27 : decode cn_X_wipeWhatIsNotSound 27 = .ok (.invokevirtual 178, 3) := by decide +kernel
theorem dn_X_wipeWhatIsNotSound_30 : decode cn_X_wipeWhatIsNotSound 30 = .ok (.ifCond .ne 15, 3) := by decide +kernel
theorem dn_X_wipeWhatIsNotSound_33 : decode cn_X_wipeWhatIsNotSound 33 = .ok (.aload_n 0, 1) := by decide +kernel
theorem dn_X_wipeWhatIsNotSound_34 : decode cn_X_wipeWhatIsNotSound 34 = .ok (.getfield 10, 3) := by decide +kernel
theorem dn_X_wipeWhatIsNotSound_37 : decode cn_X_wipeWhatIsNotSound 37 = .ok (.iload_n 1, 1) := by decide +kernel
theorem dn_X_wipeWhatIsNotSound_38 : decode cn_X_wipeWhatIsNotSound 38 = .ok (.invokestatic 72, 3) := by decide +kernel
theorem dn_X_wipeWhatIsNotSound_41 : decode cn_X_wipeWhatIsNotSound 41 = .ok (.iconst 0, 1) := by decide +kernel
theorem dn_X_wipeWhatIsNotSound_42 : decode cn_X_wipeWhatIsNotSound 42 = .ok (.invokevirtual 153, 3) := by decide +kernel
theorem dn_X_wipeWhatIsNotSound_45 : decode cn_X_wipeWhatIsNotSound 45 = .ok (.iinc 1 1, 3) := by decide +kernel
theorem dn_X_wipeWhatIsNotSound_48 : decode cn_X_wipeWhatIsNotSound 48 = .ok (.goto (-32), 3) := by decide +kernel
theorem dn_X_wipeWhatIsNotSound_51 : decode cn_X_wipeWhatIsNotSound 51 = .ok (.return_, 1) := by decide +kernel
theorem dn_X_power_0 : decode cn_X_power 0 = .ok (.iload_n 1, 1) := by decide +kernel
theorem dn_X_power_1 : decode cn_X_power 1 = .ok (.aload_n 0, 1) := by decide +kernel
theorem dn_X_power_2 : decode cn_X_power 2 = .ok (.getfield 48, 3) := by decide +kernel
theorem dn_X_power_5 : decode cn_X_power 5 = .ok (.if_icmp .ne 5, 3) := by decide +kernel
theorem dn_X_power_8 : decode cn_X_power 8 = .ok (.iconst (-1), 1) := by decide +kernel
theorem dn_X_power_9 : decode cn_X_power 9 = .ok (.ireturn, 1) := by decide +kernel
theorem dn_X_power_10 : decode cn_X_power 10 = .ok (.aload_n 0, 1) := by decide +kernel
theorem dn_X_power_11 : decode cn_X_power 11 = .ok (.iload_n 1, 1) := by decide +kernel
theorem dn_X_power_12 : decode cn_X_power 12 = .ok (.putfield 48, 3) := by decide +kernel
theorem dn_X_power_15 : decode cn_X_power 15 = .ok (.iload_n 1, 1) := by decide +kernel
theorem dn_X_power_16 : decode cn_X_power 16 = .ok (.ifCond .eq 22, 3) := by decide +kernel
theorem dn_X_power_19 : decode cn_X_power 19 = .ok (.aload_n 0, 1) := by decide +kernel
theorem dn_X_power_20 : decode cn_X_power 20 = .ok (.getfield 19, 3) := by decide +kernel
theorem dn_X_power_23 : decode cn_X_power 23 = .ok (.aload_n 0, 1) := by decide +kernel
theorem dn_X_power_24 : decode cn_X_power 24 = .ok (.getfield 10, 3) := by decide +kernel
theorem dn_X_power_27 : decode cn_X_power 27 = .ok (.aload_n 0, 1) := by decide +kernel
theorem dn_X_power_28 : decode cn_X_power 28 = .ok (.getfield 44, 3) := by decide +kernel
theorem dn_X_power_31 : decode cn_X_power 31 = .ok (.invokevirtual 156, 3) := by decide +kernel
theorem dn_X_power_34 : decode cn_X_power 34 = .ok (.aload_n 0, 1) := by decide +kernel
theorem dn_X_power_35 : decode cn_X_power 35 = .ok (.invokevirtual 160, 3) := by decide +kernel
theorem dn_X_power_38 : decode cn_X_power 38 = .ok (.aload_n 0, 1) := by decide +kernel
theorem dn_X_power_39 : decode cn_X_power 39 = .ok (.getfield 19, 3) := by decide +kernel
theorem dn_X_power_42 : decode cn_X_power 42 = .ok (.invokevirtual 119, 3) := by decide +kernel
theorem dn_X_power_45 : decode cn_X_power 45 = .ok (.ireturn, 1) := by decide +kernel
theorem dn_X_cut_0 : decode cn_X_cut 0 = .ok (.iload_n 1, 1) := by decide +kernel
theorem dn_X_cut_1 : decode cn_X_cut 1 = .ok (.iconst (-1), 1) := by decide +kernel
theorem dn_X_cut_2 : decode cn_X_cut 2 = .ok (.if_icmp .lt 10, 3) := by decide +kernel
theorem dn_X_cut_5 : decode cn_X_cut 5 = .ok (.iload_n 1, 1) := by decide +kernel
theorem dn_X_cut_6 : decode cn_X_cut 6 = .ok (.sipush 400, 3) := by decide +kernel
theorem dn_X_cut_9 : decode cn_X_cut 9 = .ok (.if_icmp .le 5, 3) := by decide +kernel
theorem dn_X_cut_12 : decode cn_X_cut 12 = .ok (.iconst 0, 1) := by decide +kernel
theorem dn_X_cut_13 : decode cn_X_cut 13 = .ok (.ireturn, 1) := by decide +kernel
theorem dn_X_cut_14 : decode cn_X_cut 14 = .ok (.aload_n 0, 1) := by decide +kernel
theorem dn_X_cut_15 : decode cn_X_cut 15 = .ok (.iload_n 1, 1) := by decide +kernel
theorem dn_X_cut_16 : decode cn_X_cut 16 = .ok (.putfield 52, 3) := by decide +kernel
theorem dn_X_cut_19 : decode cn_X_cut 19 = .ok (.iconst 1, 1) := by decide +kernel
theorem dn_X_cut_20 : decode cn_X_cut 20 = .ok (.ireturn, 1) := by decide +kernel
theorem dn_X_audit_0 : decode cn_X_audit 0 = .ok (.aload_n 0, 1) := by decide +kernel
theorem dn_X_audit_1 : decode cn_X_audit 1 = .ok (.getfield 23, 3) := by decide +kernel
theorem dn_X_audit_4 : decode cn_X_audit 4 = .ok (.aload_n 0, 1) := by decide +kernel
theorem dn_X_audit_5 : decode cn_X_audit 5 = .ok (.getfield 10, 3) := by decide +kernel
theorem dn_X_audit_8 : decode cn_X_audit 8 = .ok (.aload_n 0, 1) := by decide +kernel
theorem dn_X_audit_9 : decode cn_X_audit 9 = .ok (.getfield 44, 3) := by decide +kernel
theorem dn_X_audit_12 : decode cn_X_audit 12 = .ok (.invokevirtual 156, 3) := by decide +kernel
theorem dn_X_audit_15 : decode cn_X_audit 15 = .ok (.aload_n 0, 1) := by decide +kernel
theorem dn_X_audit_16 : decode cn_X_audit 16 = .ok (.getfield 23, 3) := by decide +kernel
theorem dn_X_audit_19 : decode cn_X_audit 19 = .ok (.invokevirtual 119, 3) := by decide +kernel
theorem dn_X_audit_22 : decode cn_X_audit 22 = .ok (.istore_n 3, 1) := by decide +kernel
theorem dn_X_audit_23 : decode cn_X_audit 23 = .ok (.iconst 0, 1) := by decide +kernel
theorem dn_X_audit_24 : decode cn_X_audit 24 = .ok (.iload_n 1, 1) := by decide +kernel
theorem dn_X_audit_25 : decode cn_X_audit 25 = .ok (.if_icmp .gt 24, 3) := by decide +kernel
theorem dn_X_audit_28 : decode cn_X_audit 28 = .ok (.iload_n 1, 1) := by decide +kernel
theorem dn_X_audit_29 : decode cn_X_audit 29 = .ok (.iload_n 3, 1) := by decide +kernel
theorem dn_X_audit_30 : decode cn_X_audit 30 = .ok (.if_icmp .gt 19, 3) := by decide +kernel
theorem dn_X_audit_33 : decode cn_X_audit 33 = .ok (.aload_n 0, 1) := by decide +kernel
theorem dn_X_audit_34 : decode cn_X_audit 34 = .ok (.getfield 10, 3) := by decide +kernel
theorem dn_X_audit_37 : decode cn_X_audit 37 = .ok (.iload_n 1, 1) := by decide +kernel
theorem dn_X_audit_38 : decode cn_X_audit 38 = .ok (.invokevirtual 122, 3) := by decide +kernel
theorem dn_X_audit_41 : decode cn_X_audit 41 = .ok (.iload_n 2, 1) := by decide +kernel
theorem dn_X_audit_42 : decode cn_X_audit 42 = .ok (.if_icmp .ne 7, 3) := by decide +kernel
theorem dn_X_audit_45 : decode cn_X_audit 45 = .ok (.iconst 1, 1) := by decide +kernel
theorem dn_X_audit_46 : decode cn_X_audit 46 = .ok (.goto 4, 3) := by decide +kernel
theorem dn_X_audit_49 : decode cn_X_audit 49 = .ok (.iconst 0, 1) := by decide +kernel
theorem dn_X_audit_50 : decode cn_X_audit 50 = .ok (.istore 4, 2) := by decide +kernel
theorem dn_X_audit_52 : decode cn_X_audit 52 = .ok (.iload 4, 2) := by decide +kernel
theorem dn_X_audit_54 : decode cn_X_audit 54 = .ok (.ifCond .eq 7, 3) := by decide +kernel
theorem dn_X_audit_57 : decode cn_X_audit 57 = .ok (.iload_n 3, 1) := by decide +kernel
theorem dn_X_audit_58 : decode cn_X_audit 58 = .ok (.goto 6, 3) := by decide +kernel
theorem dn_X_audit_61 : decode cn_X_audit 61 = .ok (.iconst (-1), 1) := by decide +kernel
theorem dn_X_audit_62 : decode cn_X_audit 62 = .ok (.iload_n 3, 1) := by decide +kernel
theorem dn_X_audit_63 : decode cn_X_audit 63 = .ok (.isub, 1) := by decide +kernel
theorem dn_X_audit_64 : decode cn_X_audit 64 = .ok (.ireturn, 1) := by decide +kernel

set_option maxRecDepth 100000 in
set_option maxHeartbeats 4000000 in
theorem c_X_tick (l : Launch) (dC : Nat → ClassId) (dI : Nat → Nat → Nat) (cI cZ : ClassId) (ad : Nat → Nat) (clk : Nat) (lf : Int32) (dr : Nat → Int32) (K : ct_T) (en : Nat) (f g : Nat → Int32) (U : ct_T) (ea : Nat) (fd : Nat → Int32) (fc : Nat) (X Y Z : Nat → Int32) (st ff fn b : Nat) (pw : Int32) (n : Int32) : gc_I l yn_X_tick (gw yn_X_tick cn_X_tick 2 (some .int)) (rm_ 0 0) (dC, dI) vwCl (gT cI cZ) [.ref (ad 0), .int n] [(ad 0, .inr (4, [.ref (ad 7), .ref (ad 2), .ref (ad 10), .ref (ad 17), .ref (ad 15), .ref (ad 1), .int (nI clk), .int pw, .int lf])), (ad 1, .inl (cI, 7, .inl dr)), (ad 2, .inr (0, [.ref (ad 3), .ref (ad 4), .ref (ad 5), .ref (ad 6), .int (nI K.1), .int (nI en)])), (ad 3, .inl (cI, 13, .inl K.2.1)), (ad 4, .inl (cI, 13, .inl K.2.2.1)), (ad 5, .inl (cI, 13, .inl K.2.2.2.1)), (ad 6, .inl (cI, 13, .inl K.2.2.2.2)), (ad 7, .inr (3, [.ref (ad 8), .ref (ad 9)])), (ad 8, .inl (cI, 292, .inl f)), (ad 9, .inl (cI, 40, .inl g)), (ad 10, .inr (0, [.ref (ad 11), .ref (ad 12), .ref (ad 13), .ref (ad 14), .int (nI U.1), .int (nI ea)])), (ad 11, .inl (cI, 13, .inl U.2.1)), (ad 12, .inl (cI, 13, .inl U.2.2.1)), (ad 13, .inl (cI, 13, .inl U.2.2.2.1)), (ad 14, .inl (cI, 13, .inl U.2.2.2.2)), (ad 15, .inr (2, [.ref (ad 16), .int (nI fc)])), (ad 16, .inl (cI, 12, .inl fd)), (ad 17, .inr (1, [.ref (ad 18), .ref (ad 19), .ref (ad 20), .int (nI st), .int (nI ff), .int (nI fn), .int (nI b)])), (ad 18, .inl (cZ, 6, .inl X)), (ad 19, .inl (cI, 6, .inl Y)), (ad 20, .inl (cI, 6, .inl Z))] (fun r (_ : Unit) => r = an_tick clk n) (fun _ => [(ad 0, .inr (4, [.ref (ad 7), .ref (ad 2), .ref (ad 10), .ref (ad 17), .ref (ad 15), .ref (ad 1), .int (nI (nx_tick clk n)), .int pw, .int lf])), (ad 1, .inl (cI, 7, .inl dr)), (ad 2, .inr (0, [.ref (ad 3), .ref (ad 4), .ref (ad 5), .ref (ad 6), .int (nI K.1), .int (nI en)])), (ad 3, .inl (cI, 13, .inl K.2.1)), (ad 4, .inl (cI, 13, .inl K.2.2.1)), (ad 5, .inl (cI, 13, .inl K.2.2.2.1)), (ad 6, .inl (cI, 13, .inl K.2.2.2.2)), (ad 7, .inr (3, [.ref (ad 8), .ref (ad 9)])), (ad 8, .inl (cI, 292, .inl f)), (ad 9, .inl (cI, 40, .inl g)), (ad 10, .inr (0, [.ref (ad 11), .ref (ad 12), .ref (ad 13), .ref (ad 14), .int (nI U.1), .int (nI ea)])), (ad 11, .inl (cI, 13, .inl U.2.1)), (ad 12, .inl (cI, 13, .inl U.2.2.1)), (ad 13, .inl (cI, 13, .inl U.2.2.2.1)), (ad 14, .inl (cI, 13, .inl U.2.2.2.2)), (ad 15, .inr (2, [.ref (ad 16), .int (nI fc)])), (ad 16, .inl (cI, 12, .inl fd)), (ad 17, .inr (1, [.ref (ad 18), .ref (ad 19), .ref (ad 20), .int (nI st), .int (nI ff), .int (nI fn), .int (nI b)])), (ad 18, .inl (cZ, 6, .inl X)), (ad 19, .inl (cI, 6, .inl Y)), (ad 20, .inl (cI, 6, .inl Z))]) := by
  refine gc_I_of (cc := cn_X_tick) (maxL := 2) (ty := .int) (by decide) rfl (Nat.le_of_ble_eq_true rfl) ?_
  intro pp ee ss mm ar be me cd A Q ls H0 H locs hx hb hml hown hts hK hP hD hS hA hl hret
  have hw : ∀ w ∈ gw_T, w.before ar ss = true := fun w h => hts w (List.mem_cons_of_mem _ h)
  have hl : lv_has ls 2 [(0, .ref (ad 0)), (1, .int n)] := hl
  refine lv_iload_n hx hb dn_X_tick_0 rfl (lv_at hl 1 rfl) ?_
  refine lv_if_lt (tgt := 11) hx hb dn_X_tick_1 (by decide) (fun h1 => ?_) (fun h1 => ?_)
  · skip
    refine lv_iconst (v := (-1)) hx hb dn_X_tick_11 (by decide) ?_
    have hb_ : n < 0 ∨ 1000 < n := (by first | exact Or.inl h1 | exact Or.inr (Int32.not_le.mp h8))
    have hP : va_P (dC, dI) vwCl [(ad 0, .inr (4, [.ref (ad 7), .ref (ad 2), .ref (ad 10), .ref (ad 17), .ref (ad 15), .ref (ad 1), .int (nI (nx_tick clk n)), .int pw, .int lf])), (ad 1, .inl (cI, 7, .inl dr)), (ad 2, .inr (0, [.ref (ad 3), .ref (ad 4), .ref (ad 5), .ref (ad 6), .int (nI K.1), .int (nI en)])), (ad 3, .inl (cI, 13, .inl K.2.1)), (ad 4, .inl (cI, 13, .inl K.2.2.1)), (ad 5, .inl (cI, 13, .inl K.2.2.2.1)), (ad 6, .inl (cI, 13, .inl K.2.2.2.2)), (ad 7, .inr (3, [.ref (ad 8), .ref (ad 9)])), (ad 8, .inl (cI, 292, .inl f)), (ad 9, .inl (cI, 40, .inl g)), (ad 10, .inr (0, [.ref (ad 11), .ref (ad 12), .ref (ad 13), .ref (ad 14), .int (nI U.1), .int (nI ea)])), (ad 11, .inl (cI, 13, .inl U.2.1)), (ad 12, .inl (cI, 13, .inl U.2.2.1)), (ad 13, .inl (cI, 13, .inl U.2.2.2.1)), (ad 14, .inl (cI, 13, .inl U.2.2.2.2)), (ad 15, .inr (2, [.ref (ad 16), .int (nI fc)])), (ad 16, .inl (cI, 12, .inl fd)), (ad 17, .inr (1, [.ref (ad 18), .ref (ad 19), .ref (ad 20), .int (nI st), .int (nI ff), .int (nI fn), .int (nI b)])), (ad 18, .inl (cZ, 6, .inl X)), (ad 19, .inl (cI, 6, .inl Y)), (ad 20, .inl (cI, 6, .inl Z))] H := by rw [← (tk_no (clk := clk) hb_).2]; exact hP
    have hD : va_D A [(ad 0, .inr (4, [.ref (ad 7), .ref (ad 2), .ref (ad 10), .ref (ad 17), .ref (ad 15), .ref (ad 1), .int (nI (nx_tick clk n)), .int pw, .int lf])), (ad 1, .inl (cI, 7, .inl dr)), (ad 2, .inr (0, [.ref (ad 3), .ref (ad 4), .ref (ad 5), .ref (ad 6), .int (nI K.1), .int (nI en)])), (ad 3, .inl (cI, 13, .inl K.2.1)), (ad 4, .inl (cI, 13, .inl K.2.2.1)), (ad 5, .inl (cI, 13, .inl K.2.2.2.1)), (ad 6, .inl (cI, 13, .inl K.2.2.2.2)), (ad 7, .inr (3, [.ref (ad 8), .ref (ad 9)])), (ad 8, .inl (cI, 292, .inl f)), (ad 9, .inl (cI, 40, .inl g)), (ad 10, .inr (0, [.ref (ad 11), .ref (ad 12), .ref (ad 13), .ref (ad 14), .int (nI U.1), .int (nI ea)])), (ad 11, .inl (cI, 13, .inl U.2.1)), (ad 12, .inl (cI, 13, .inl U.2.2.1)), (ad 13, .inl (cI, 13, .inl U.2.2.2.1)), (ad 14, .inl (cI, 13, .inl U.2.2.2.2)), (ad 15, .inr (2, [.ref (ad 16), .int (nI fc)])), (ad 16, .inl (cI, 12, .inl fd)), (ad 17, .inr (1, [.ref (ad 18), .ref (ad 19), .ref (ad 20), .int (nI st), .int (nI ff), .int (nI fn), .int (nI b)])), (ad 18, .inl (cZ, 6, .inl X)), (ad 19, .inl (cI, 6, .inl Y)), (ad 20, .inl (cI, 6, .inl Z))] := by rw [← (tk_no (clk := clk) hb_).2]; exact hD
    exact hret (-1) () _ _ _ _ (tk_no (clk := clk) hb_).1 rfl hP hD hS dn_X_tick_12
  · skip
    refine lv_iload_n hx hb dn_X_tick_4 rfl (lv_at hl 1 rfl) ?_
    refine lv_sipush (v := 1000) hx hb dn_X_tick_5 (by decide) ?_
    refine lv_icmp_le (tgt := 13) hx hb dn_X_tick_8 (by decide) (fun h8 => ?_) (fun h8 => ?_)
    · skip
      obtain ⟨k, hk_, rfl⟩ := tk_k h1 h8
      refine lv_aload_n hx hb dn_X_tick_13 rfl (lv_at hl 0 rfl) ?_
      refine lv_dup hx hb dn_X_tick_14 rfl ?_
      refine va_get (D := (dC, dI)) (ci := 4) (v := .int (nI clk)) (C := rn_X) (T := tn_X) (N := 9) hx hb hw ml_X hown hK hP 0 rfl rfl 6 (by decide) (hw _ mw_104) (fun _ h9 => h9) rfl dn_X_tick_15 ?_
      refine lv_iload_n hx hb dn_X_tick_18 rfl (lv_at hl 1 rfl) ?_
      refine gr_addN hx hb clk k rfl rfl dn_X_tick_19 ?_
      refine va_put (D := (dC, dI)) (ci := 4) (v := .int (nI (clk + k))) (ty := .int) (C := rn_X) (T := tn_X) (N := 9) hx hb hw ml_X tt_X to_X nd_X hown hK hP hD hS 0 rfl rfl 6 (by decide) (hw _ mw_104) (fun _ h9 => h9) rfl (by decide +kernel) rfl rfl (Nat.le_of_ble_eq_true rfl) dn_X_tick_20 (fun H locs hP hD hS => ?_)
      have hP : va_P (dC, dI) vwCl [(ad 0, .inr (4, [.ref (ad 7), .ref (ad 2), .ref (ad 10), .ref (ad 17), .ref (ad 15), .ref (ad 1), .int (nI (clk + k)), .int pw, .int lf])), (ad 1, .inl (cI, 7, .inl dr)), (ad 2, .inr (0, [.ref (ad 3), .ref (ad 4), .ref (ad 5), .ref (ad 6), .int (nI K.1), .int (nI en)])), (ad 3, .inl (cI, 13, .inl K.2.1)), (ad 4, .inl (cI, 13, .inl K.2.2.1)), (ad 5, .inl (cI, 13, .inl K.2.2.2.1)), (ad 6, .inl (cI, 13, .inl K.2.2.2.2)), (ad 7, .inr (3, [.ref (ad 8), .ref (ad 9)])), (ad 8, .inl (cI, 292, .inl f)), (ad 9, .inl (cI, 40, .inl g)), (ad 10, .inr (0, [.ref (ad 11), .ref (ad 12), .ref (ad 13), .ref (ad 14), .int (nI U.1), .int (nI ea)])), (ad 11, .inl (cI, 13, .inl U.2.1)), (ad 12, .inl (cI, 13, .inl U.2.2.1)), (ad 13, .inl (cI, 13, .inl U.2.2.2.1)), (ad 14, .inl (cI, 13, .inl U.2.2.2.2)), (ad 15, .inr (2, [.ref (ad 16), .int (nI fc)])), (ad 16, .inl (cI, 12, .inl fd)), (ad 17, .inr (1, [.ref (ad 18), .ref (ad 19), .ref (ad 20), .int (nI st), .int (nI ff), .int (nI fn), .int (nI b)])), (ad 18, .inl (cZ, 6, .inl X)), (ad 19, .inl (cI, 6, .inl Y)), (ad 20, .inl (cI, 6, .inl Z))] H := hP
      have hD : va_D A [(ad 0, .inr (4, [.ref (ad 7), .ref (ad 2), .ref (ad 10), .ref (ad 17), .ref (ad 15), .ref (ad 1), .int (nI (clk + k)), .int pw, .int lf])), (ad 1, .inl (cI, 7, .inl dr)), (ad 2, .inr (0, [.ref (ad 3), .ref (ad 4), .ref (ad 5), .ref (ad 6), .int (nI K.1), .int (nI en)])), (ad 3, .inl (cI, 13, .inl K.2.1)), (ad 4, .inl (cI, 13, .inl K.2.2.1)), (ad 5, .inl (cI, 13, .inl K.2.2.2.1)), (ad 6, .inl (cI, 13, .inl K.2.2.2.2)), (ad 7, .inr (3, [.ref (ad 8), .ref (ad 9)])), (ad 8, .inl (cI, 292, .inl f)), (ad 9, .inl (cI, 40, .inl g)), (ad 10, .inr (0, [.ref (ad 11), .ref (ad 12), .ref (ad 13), .ref (ad 14), .int (nI U.1), .int (nI ea)])), (ad 11, .inl (cI, 13, .inl U.2.1)), (ad 12, .inl (cI, 13, .inl U.2.2.1)), (ad 13, .inl (cI, 13, .inl U.2.2.2.1)), (ad 14, .inl (cI, 13, .inl U.2.2.2.2)), (ad 15, .inr (2, [.ref (ad 16), .int (nI fc)])), (ad 16, .inl (cI, 12, .inl fd)), (ad 17, .inr (1, [.ref (ad 18), .ref (ad 19), .ref (ad 20), .int (nI st), .int (nI ff), .int (nI fn), .int (nI b)])), (ad 18, .inl (cZ, 6, .inl X)), (ad 19, .inl (cI, 6, .inl Y)), (ad 20, .inl (cI, 6, .inl Z))] := hD
      refine lv_aload_n hx hb dn_X_tick_23 rfl (lv_at hl 0 rfl) ?_
      refine va_get (D := (dC, dI)) (ci := 4) (v := .int (nI (clk + k))) (C := rn_X) (T := tn_X) (N := 9) hx hb hw ml_X hown hK hP 0 rfl rfl 6 (by decide) (hw _ mw_104) (fun _ h9 => h9) rfl dn_X_tick_24 ?_
      have hP : va_P (dC, dI) vwCl [(ad 0, .inr (4, [.ref (ad 7), .ref (ad 2), .ref (ad 10), .ref (ad 17), .ref (ad 15), .ref (ad 1), .int (nI (nx_tick clk (nI k))), .int pw, .int lf])), (ad 1, .inl (cI, 7, .inl dr)), (ad 2, .inr (0, [.ref (ad 3), .ref (ad 4), .ref (ad 5), .ref (ad 6), .int (nI K.1), .int (nI en)])), (ad 3, .inl (cI, 13, .inl K.2.1)), (ad 4, .inl (cI, 13, .inl K.2.2.1)), (ad 5, .inl (cI, 13, .inl K.2.2.2.1)), (ad 6, .inl (cI, 13, .inl K.2.2.2.2)), (ad 7, .inr (3, [.ref (ad 8), .ref (ad 9)])), (ad 8, .inl (cI, 292, .inl f)), (ad 9, .inl (cI, 40, .inl g)), (ad 10, .inr (0, [.ref (ad 11), .ref (ad 12), .ref (ad 13), .ref (ad 14), .int (nI U.1), .int (nI ea)])), (ad 11, .inl (cI, 13, .inl U.2.1)), (ad 12, .inl (cI, 13, .inl U.2.2.1)), (ad 13, .inl (cI, 13, .inl U.2.2.2.1)), (ad 14, .inl (cI, 13, .inl U.2.2.2.2)), (ad 15, .inr (2, [.ref (ad 16), .int (nI fc)])), (ad 16, .inl (cI, 12, .inl fd)), (ad 17, .inr (1, [.ref (ad 18), .ref (ad 19), .ref (ad 20), .int (nI st), .int (nI ff), .int (nI fn), .int (nI b)])), (ad 18, .inl (cZ, 6, .inl X)), (ad 19, .inl (cI, 6, .inl Y)), (ad 20, .inl (cI, 6, .inl Z))] H := by rw [← (tk_ok (clk := clk) hk_).2]; exact hP
      have hD : va_D A [(ad 0, .inr (4, [.ref (ad 7), .ref (ad 2), .ref (ad 10), .ref (ad 17), .ref (ad 15), .ref (ad 1), .int (nI (nx_tick clk (nI k))), .int pw, .int lf])), (ad 1, .inl (cI, 7, .inl dr)), (ad 2, .inr (0, [.ref (ad 3), .ref (ad 4), .ref (ad 5), .ref (ad 6), .int (nI K.1), .int (nI en)])), (ad 3, .inl (cI, 13, .inl K.2.1)), (ad 4, .inl (cI, 13, .inl K.2.2.1)), (ad 5, .inl (cI, 13, .inl K.2.2.2.1)), (ad 6, .inl (cI, 13, .inl K.2.2.2.2)), (ad 7, .inr (3, [.ref (ad 8), .ref (ad 9)])), (ad 8, .inl (cI, 292, .inl f)), (ad 9, .inl (cI, 40, .inl g)), (ad 10, .inr (0, [.ref (ad 11), .ref (ad 12), .ref (ad 13), .ref (ad 14), .int (nI U.1), .int (nI ea)])), (ad 11, .inl (cI, 13, .inl U.2.1)), (ad 12, .inl (cI, 13, .inl U.2.2.1)), (ad 13, .inl (cI, 13, .inl U.2.2.2.1)), (ad 14, .inl (cI, 13, .inl U.2.2.2.2)), (ad 15, .inr (2, [.ref (ad 16), .int (nI fc)])), (ad 16, .inl (cI, 12, .inl fd)), (ad 17, .inr (1, [.ref (ad 18), .ref (ad 19), .ref (ad 20), .int (nI st), .int (nI ff), .int (nI fn), .int (nI b)])), (ad 18, .inl (cZ, 6, .inl X)), (ad 19, .inl (cI, 6, .inl Y)), (ad 20, .inl (cI, 6, .inl Z))] := by rw [← (tk_ok (clk := clk) hk_).2]; exact hD
      exact hret (nI (clk + k)) () _ _ _ _ (tk_ok hk_).1 rfl hP hD hS dn_X_tick_27
    · skip
      refine lv_iconst (v := (-1)) hx hb dn_X_tick_11 (by decide) ?_
      have hb_ : n < 0 ∨ 1000 < n := (by first | exact Or.inl h1 | exact Or.inr (Int32.not_le.mp h8))
      have hP : va_P (dC, dI) vwCl [(ad 0, .inr (4, [.ref (ad 7), .ref (ad 2), .ref (ad 10), .ref (ad 17), .ref (ad 15), .ref (ad 1), .int (nI (nx_tick clk n)), .int pw, .int lf])), (ad 1, .inl (cI, 7, .inl dr)), (ad 2, .inr (0, [.ref (ad 3), .ref (ad 4), .ref (ad 5), .ref (ad 6), .int (nI K.1), .int (nI en)])), (ad 3, .inl (cI, 13, .inl K.2.1)), (ad 4, .inl (cI, 13, .inl K.2.2.1)), (ad 5, .inl (cI, 13, .inl K.2.2.2.1)), (ad 6, .inl (cI, 13, .inl K.2.2.2.2)), (ad 7, .inr (3, [.ref (ad 8), .ref (ad 9)])), (ad 8, .inl (cI, 292, .inl f)), (ad 9, .inl (cI, 40, .inl g)), (ad 10, .inr (0, [.ref (ad 11), .ref (ad 12), .ref (ad 13), .ref (ad 14), .int (nI U.1), .int (nI ea)])), (ad 11, .inl (cI, 13, .inl U.2.1)), (ad 12, .inl (cI, 13, .inl U.2.2.1)), (ad 13, .inl (cI, 13, .inl U.2.2.2.1)), (ad 14, .inl (cI, 13, .inl U.2.2.2.2)), (ad 15, .inr (2, [.ref (ad 16), .int (nI fc)])), (ad 16, .inl (cI, 12, .inl fd)), (ad 17, .inr (1, [.ref (ad 18), .ref (ad 19), .ref (ad 20), .int (nI st), .int (nI ff), .int (nI fn), .int (nI b)])), (ad 18, .inl (cZ, 6, .inl X)), (ad 19, .inl (cI, 6, .inl Y)), (ad 20, .inl (cI, 6, .inl Z))] H := by rw [← (tk_no (clk := clk) hb_).2]; exact hP
      have hD : va_D A [(ad 0, .inr (4, [.ref (ad 7), .ref (ad 2), .ref (ad 10), .ref (ad 17), .ref (ad 15), .ref (ad 1), .int (nI (nx_tick clk n)), .int pw, .int lf])), (ad 1, .inl (cI, 7, .inl dr)), (ad 2, .inr (0, [.ref (ad 3), .ref (ad 4), .ref (ad 5), .ref (ad 6), .int (nI K.1), .int (nI en)])), (ad 3, .inl (cI, 13, .inl K.2.1)), (ad 4, .inl (cI, 13, .inl K.2.2.1)), (ad 5, .inl (cI, 13, .inl K.2.2.2.1)), (ad 6, .inl (cI, 13, .inl K.2.2.2.2)), (ad 7, .inr (3, [.ref (ad 8), .ref (ad 9)])), (ad 8, .inl (cI, 292, .inl f)), (ad 9, .inl (cI, 40, .inl g)), (ad 10, .inr (0, [.ref (ad 11), .ref (ad 12), .ref (ad 13), .ref (ad 14), .int (nI U.1), .int (nI ea)])), (ad 11, .inl (cI, 13, .inl U.2.1)), (ad 12, .inl (cI, 13, .inl U.2.2.1)), (ad 13, .inl (cI, 13, .inl U.2.2.2.1)), (ad 14, .inl (cI, 13, .inl U.2.2.2.2)), (ad 15, .inr (2, [.ref (ad 16), .int (nI fc)])), (ad 16, .inl (cI, 12, .inl fd)), (ad 17, .inr (1, [.ref (ad 18), .ref (ad 19), .ref (ad 20), .int (nI st), .int (nI ff), .int (nI fn), .int (nI b)])), (ad 18, .inl (cZ, 6, .inl X)), (ad 19, .inl (cI, 6, .inl Y)), (ad 20, .inl (cI, 6, .inl Z))] := by rw [← (tk_no (clk := clk) hb_).2]; exact hD
      exact hret (-1) () _ _ _ _ (tk_no (clk := clk) hb_).1 rfl hP hD hS dn_X_tick_12

set_option maxRecDepth 100000 in
set_option maxHeartbeats 4000000 in
theorem c_X_get (l : Launch) (dC : Nat → ClassId) (dI : Nat → Nat → Nat) (cI cZ : ClassId) (ad : Nat → Nat) (clk : Nat) (lf : Int32) (dr : Nat → Int32) (K : ct_T) (en : Nat) (f g : Nat → Int32) (U : ct_T) (ea : Nat) (fd : Nat → Int32) (fc : Nat) (X Y Z : Nat → Int32) (st ff fn b : Nat) (pw : Int32) (hx_ : xr f clk pw K en) (id j : Int32) : gc_L l yn_X_get (gw yn_X_get cn_X_get 5 (some .long)) (rm_ 3 65) (dC, dI) vwCl (gT cI cZ) [.ref (ad 0), .int id, .int j] [(ad 0, .inr (4, [.ref (ad 7), .ref (ad 2), .ref (ad 10), .ref (ad 17), .ref (ad 15), .ref (ad 1), .int (nI clk), .int pw, .int lf])), (ad 1, .inl (cI, 7, .inl dr)), (ad 2, .inr (0, [.ref (ad 3), .ref (ad 4), .ref (ad 5), .ref (ad 6), .int (nI K.1), .int (nI en)])), (ad 3, .inl (cI, 13, .inl K.2.1)), (ad 4, .inl (cI, 13, .inl K.2.2.1)), (ad 5, .inl (cI, 13, .inl K.2.2.2.1)), (ad 6, .inl (cI, 13, .inl K.2.2.2.2)), (ad 7, .inr (3, [.ref (ad 8), .ref (ad 9)])), (ad 8, .inl (cI, 292, .inl f)), (ad 9, .inl (cI, 40, .inl g)), (ad 10, .inr (0, [.ref (ad 11), .ref (ad 12), .ref (ad 13), .ref (ad 14), .int (nI U.1), .int (nI ea)])), (ad 11, .inl (cI, 13, .inl U.2.1)), (ad 12, .inl (cI, 13, .inl U.2.2.1)), (ad 13, .inl (cI, 13, .inl U.2.2.2.1)), (ad 14, .inl (cI, 13, .inl U.2.2.2.2)), (ad 15, .inr (2, [.ref (ad 16), .int (nI fc)])), (ad 16, .inl (cI, 12, .inl fd)), (ad 17, .inr (1, [.ref (ad 18), .ref (ad 19), .ref (ad 20), .int (nI st), .int (nI ff), .int (nI fn), .int (nI b)])), (ad 18, .inl (cZ, 6, .inl X)), (ad 19, .inl (cI, 6, .inl Y)), (ad 20, .inl (cI, 6, .inl Z))] (fun r (_ : Unit) => r = an_get f clk pw id j) (fun _ => [(ad 0, .inr (4, [.ref (ad 7), .ref (ad 2), .ref (ad 10), .ref (ad 17), .ref (ad 15), .ref (ad 1), .int (nI clk), .int pw, .int lf])), (ad 1, .inl (cI, 7, .inl dr)), (ad 2, .inr (0, [.ref (ad 3), .ref (ad 4), .ref (ad 5), .ref (ad 6), .int (nI K.1), .int (nI en)])), (ad 3, .inl (cI, 13, .inl K.2.1)), (ad 4, .inl (cI, 13, .inl K.2.2.1)), (ad 5, .inl (cI, 13, .inl K.2.2.2.1)), (ad 6, .inl (cI, 13, .inl K.2.2.2.2)), (ad 7, .inr (3, [.ref (ad 8), .ref (ad 9)])), (ad 8, .inl (cI, 292, .inl f)), (ad 9, .inl (cI, 40, .inl g)), (ad 10, .inr (0, [.ref (ad 11), .ref (ad 12), .ref (ad 13), .ref (ad 14), .int (nI U.1), .int (nI ea)])), (ad 11, .inl (cI, 13, .inl U.2.1)), (ad 12, .inl (cI, 13, .inl U.2.2.1)), (ad 13, .inl (cI, 13, .inl U.2.2.2.1)), (ad 14, .inl (cI, 13, .inl U.2.2.2.2)), (ad 15, .inr (2, [.ref (ad 16), .int (nI fc)])), (ad 16, .inl (cI, 12, .inl fd)), (ad 17, .inr (1, [.ref (ad 18), .ref (ad 19), .ref (ad 20), .int (nI st), .int (nI ff), .int (nI fn), .int (nI b)])), (ad 18, .inl (cZ, 6, .inl X)), (ad 19, .inl (cI, 6, .inl Y)), (ad 20, .inl (cI, 6, .inl Z))]) := by
  refine gc_L_of (cc := cn_X_get) (maxL := 5) (by decide) rfl (Nat.le_of_ble_eq_true rfl) ?_
  intro pp ee ss mm ar be me cd A Q ls H0 H locs hx hb hml hown hts hK hP hD hS hA hl hret
  have hw : ∀ w ∈ gw_T, w.before ar ss = true := fun w h => hts w (List.mem_cons_of_mem _ h)
  have hl : lv_has ls 5 [(0, .ref (ad 0)), (1, .int id), (2, .int j)] := hl
  rcases hx_.1 with rfl | rfl
  · skip
    refine lv_aload_n hx hb dn_X_get_0 rfl (lv_at hl 0 rfl) ?_
    refine va_get (D := (dC, dI)) (ci := 4) (v := .int 0) (C := rn_X) (T := tn_X) (N := 9) hx hb hw ml_X hown hK hP 0 rfl rfl 7 (by decide) (hw _ mw_105) (fun _ h9 => h9) rfl dn_X_get_1 ?_
    refine lv_if_eq (tgt := 27) hx hb dn_X_get_4 (by decide) (fun _ => ?_) (fun h => absurd h (by decide))
    refine lv_ldc2 (v := 1099511627776) hx hb hown (hw _ mw_260) dn_X_get_27 ?_
    exact hret 1099511627776 () _ _ _ _ (ge_off rfl) hP hD hS dn_X_get_30
  · skip
    have ho := hx_.2.1
    refine lv_aload_n hx hb dn_X_get_0 rfl (lv_at hl 0 rfl) ?_
    refine va_get (D := (dC, dI)) (ci := 4) (v := .int 1) (C := rn_X) (T := tn_X) (N := 9) hx hb hw ml_X hown hK hP 0 rfl rfl 7 (by decide) (hw _ mw_105) (fun _ h9 => h9) rfl dn_X_get_1 ?_
    refine lv_if_eq (tgt := 27) hx hb dn_X_get_4 (by decide) (fun h => absurd h (by decide)) (fun _ => ?_)
    refine lv_aload_n hx hb dn_X_get_7 rfl (lv_at hl 0 rfl) ?_
    refine va_get (D := (dC, dI)) (ci := 4) (v := .ref (ad 2)) (C := rn_X) (T := tn_X) (N := 9) hx hb hw ml_X hown hK hP 0 rfl rfl 1 (by decide) (hw _ mw_99) (fun _ h9 => h9) rfl dn_X_get_8 ?_
    refine lv_iload_n hx hb dn_X_get_11 rfl (lv_at hl 1 rfl) ?_
    refine gc_vi (pre := [(ad 0, .inr (4, [.ref (ad 7), .ref (ad 2), .ref (ad 10), .ref (ad 17), .ref (ad 15), .ref (ad 1), .int (nI clk), .int 1, .int lf])), (ad 1, .inl (cI, 7, .inl dr))]) (wc := [(ad 2, .inr (0, [.ref (ad 3), .ref (ad 4), .ref (ad 5), .ref (ad 6), .int (nI K.1), .int (nI en)])), (ad 3, .inl (cI, 13, .inl K.2.1)), (ad 4, .inl (cI, 13, .inl K.2.2.1)), (ad 5, .inl (cI, 13, .inl K.2.2.2.1)), (ad 6, .inl (cI, 13, .inl K.2.2.2.2))]) (po := [(ad 7, .inr (3, [.ref (ad 8), .ref (ad 9)])), (ad 8, .inl (cI, 292, .inl f)), (ad 9, .inl (cI, 40, .inl g)), (ad 10, .inr (0, [.ref (ad 11), .ref (ad 12), .ref (ad 13), .ref (ad 14), .int (nI U.1), .int (nI ea)])), (ad 11, .inl (cI, 13, .inl U.2.1)), (ad 12, .inl (cI, 13, .inl U.2.2.1)), (ad 13, .inl (cI, 13, .inl U.2.2.2.1)), (ad 14, .inl (cI, 13, .inl U.2.2.2.2)), (ad 15, .inr (2, [.ref (ad 16), .int (nI fc)])), (ad 16, .inl (cI, 12, .inl fd)), (ad 17, .inr (1, [.ref (ad 18), .ref (ad 19), .ref (ad 20), .int (nI st), .int (nI ff), .int (nI fn), .int (nI b)])), (ad 18, .inl (cZ, 6, .inl X)), (ad 19, .inl (cI, 6, .inl Y)), (ad 20, .inl (cI, 6, .inl Z))]) (As := [.int id]) (rest := []) ⟨hx, hb, hml, hown, hw⟩ (c_C_isLive l dC dI cI cZ (ad 2) (ad 3) (ad 4) (ad 5) (ad 6) K en (by omega) id) (gw_cV 1 hw mw_256 mw_257 mw_258 mw_3 mw_259 hd_C_isLive ⟨Nat.le_of_ble_eq_true rfl, Nat.le_of_ble_eq_true rfl⟩) (ci := 0) rfl rfl rfl hK hP hD hS hA rfl hl.1 rfl (Nat.le_of_ble_eq_true rfl) dn_X_get_12 ⟨Nat.zero_le _, Nat.zero_le _⟩ (fun r12 u12 H locs hc12 hP hD hS => ?_)
    have hP : va_P (dC, dI) vwCl [(ad 0, .inr (4, [.ref (ad 7), .ref (ad 2), .ref (ad 10), .ref (ad 17), .ref (ad 15), .ref (ad 1), .int (nI clk), .int 1, .int lf])), (ad 1, .inl (cI, 7, .inl dr)), (ad 2, .inr (0, [.ref (ad 3), .ref (ad 4), .ref (ad 5), .ref (ad 6), .int (nI K.1), .int (nI en)])), (ad 3, .inl (cI, 13, .inl K.2.1)), (ad 4, .inl (cI, 13, .inl K.2.2.1)), (ad 5, .inl (cI, 13, .inl K.2.2.2.1)), (ad 6, .inl (cI, 13, .inl K.2.2.2.2)), (ad 7, .inr (3, [.ref (ad 8), .ref (ad 9)])), (ad 8, .inl (cI, 292, .inl f)), (ad 9, .inl (cI, 40, .inl g)), (ad 10, .inr (0, [.ref (ad 11), .ref (ad 12), .ref (ad 13), .ref (ad 14), .int (nI U.1), .int (nI ea)])), (ad 11, .inl (cI, 13, .inl U.2.1)), (ad 12, .inl (cI, 13, .inl U.2.2.1)), (ad 13, .inl (cI, 13, .inl U.2.2.2.1)), (ad 14, .inl (cI, 13, .inl U.2.2.2.2)), (ad 15, .inr (2, [.ref (ad 16), .int (nI fc)])), (ad 16, .inl (cI, 12, .inl fd)), (ad 17, .inr (1, [.ref (ad 18), .ref (ad 19), .ref (ad 20), .int (nI st), .int (nI ff), .int (nI fn), .int (nI b)])), (ad 18, .inl (cZ, 6, .inl X)), (ad 19, .inl (cI, 6, .inl Y)), (ad 20, .inl (cI, 6, .inl Z))] H := hP
    have hD : va_D A [(ad 0, .inr (4, [.ref (ad 7), .ref (ad 2), .ref (ad 10), .ref (ad 17), .ref (ad 15), .ref (ad 1), .int (nI clk), .int 1, .int lf])), (ad 1, .inl (cI, 7, .inl dr)), (ad 2, .inr (0, [.ref (ad 3), .ref (ad 4), .ref (ad 5), .ref (ad 6), .int (nI K.1), .int (nI en)])), (ad 3, .inl (cI, 13, .inl K.2.1)), (ad 4, .inl (cI, 13, .inl K.2.2.1)), (ad 5, .inl (cI, 13, .inl K.2.2.2.1)), (ad 6, .inl (cI, 13, .inl K.2.2.2.2)), (ad 7, .inr (3, [.ref (ad 8), .ref (ad 9)])), (ad 8, .inl (cI, 292, .inl f)), (ad 9, .inl (cI, 40, .inl g)), (ad 10, .inr (0, [.ref (ad 11), .ref (ad 12), .ref (ad 13), .ref (ad 14), .int (nI U.1), .int (nI ea)])), (ad 11, .inl (cI, 13, .inl U.2.1)), (ad 12, .inl (cI, 13, .inl U.2.2.1)), (ad 13, .inl (cI, 13, .inl U.2.2.2.1)), (ad 14, .inl (cI, 13, .inl U.2.2.2.2)), (ad 15, .inr (2, [.ref (ad 16), .int (nI fc)])), (ad 16, .inl (cI, 12, .inl fd)), (ad 17, .inr (1, [.ref (ad 18), .ref (ad 19), .ref (ad 20), .int (nI st), .int (nI ff), .int (nI fn), .int (nI b)])), (ad 18, .inl (cZ, 6, .inl X)), (ad 19, .inl (cI, 6, .inl Y)), (ad 20, .inl (cI, 6, .inl Z))] := hD
    rcases hc12 with ⟨rfl, hl12⟩ | ⟨rfl, hl12⟩
    · skip
      refine lv_if_eq (tgt := 27) hx hb dn_X_get_15 (by decide) (fun h => absurd h (by decide)) (fun _ => ?_)
      refine lv_iload_n hx hb dn_X_get_18 rfl (lv_at hl 2 rfl) ?_
      refine lv_if_lt (tgt := 27) hx hb dn_X_get_19 (by decide) (fun h19 => ?_) (fun h19 => ?_)
      · skip
        refine lv_ldc2 (v := 1099511627776) hx hb hown (hw _ mw_260) dn_X_get_27 ?_
        exact hret 1099511627776 () _ _ _ _ (ge_j (Or.inl h19)) hP hD hS dn_X_get_30
      · skip
        refine lv_iload_n hx hb dn_X_get_22 rfl (lv_at hl 2 rfl) ?_
        refine lv_iconst (v := 1) hx hb dn_X_get_23 (by decide) ?_
        refine lv_icmp_le (tgt := 31) hx hb dn_X_get_24 (by decide) (fun h24 => ?_) (fun h24 => ?_)
        · skip
          obtain ⟨i, p, i1, i2, rfl, hp_, hP_⟩ := xr_live hx_ hl12
          obtain ⟨jj, hj_, rfl⟩ := ge_jj h19 h24
          refine lv_aload_n hx hb dn_X_get_31 rfl (lv_at hl 0 rfl) ?_
          refine va_get (D := (dC, dI)) (ci := 4) (v := .ref (ad 7)) (C := rn_X) (T := tn_X) (N := 9) hx hb hw ml_X hown hK hP 0 rfl rfl 0 (by decide) (hw _ mw_98) (fun _ h9 => h9) rfl dn_X_get_32 ?_
          refine lv_aload_n hx hb dn_X_get_35 rfl (lv_at hl 0 rfl) ?_
          refine va_get (D := (dC, dI)) (ci := 4) (v := .ref (ad 2)) (C := rn_X) (T := tn_X) (N := 9) hx hb hw ml_X hown hK hP 0 rfl rfl 1 (by decide) (hw _ mw_99) (fun _ h9 => h9) rfl dn_X_get_36 ?_
          refine lv_iload_n hx hb dn_X_get_39 rfl (lv_at hl 1 rfl) ?_
          refine gc_vi (pre := [(ad 0, .inr (4, [.ref (ad 7), .ref (ad 2), .ref (ad 10), .ref (ad 17), .ref (ad 15), .ref (ad 1), .int (nI clk), .int 1, .int lf])), (ad 1, .inl (cI, 7, .inl dr))]) (wc := [(ad 2, .inr (0, [.ref (ad 3), .ref (ad 4), .ref (ad 5), .ref (ad 6), .int (nI K.1), .int (nI en)])), (ad 3, .inl (cI, 13, .inl K.2.1)), (ad 4, .inl (cI, 13, .inl K.2.2.1)), (ad 5, .inl (cI, 13, .inl K.2.2.2.1)), (ad 6, .inl (cI, 13, .inl K.2.2.2.2))]) (po := [(ad 7, .inr (3, [.ref (ad 8), .ref (ad 9)])), (ad 8, .inl (cI, 292, .inl f)), (ad 9, .inl (cI, 40, .inl g)), (ad 10, .inr (0, [.ref (ad 11), .ref (ad 12), .ref (ad 13), .ref (ad 14), .int (nI U.1), .int (nI ea)])), (ad 11, .inl (cI, 13, .inl U.2.1)), (ad 12, .inl (cI, 13, .inl U.2.2.1)), (ad 13, .inl (cI, 13, .inl U.2.2.2.1)), (ad 14, .inl (cI, 13, .inl U.2.2.2.2)), (ad 15, .inr (2, [.ref (ad 16), .int (nI fc)])), (ad 16, .inl (cI, 12, .inl fd)), (ad 17, .inr (1, [.ref (ad 18), .ref (ad 19), .ref (ad 20), .int (nI st), .int (nI ff), .int (nI fn), .int (nI b)])), (ad 18, .inl (cZ, 6, .inl X)), (ad 19, .inl (cI, 6, .inl Y)), (ad 20, .inl (cI, 6, .inl Z))]) (As := [.int (nI i)]) (rest := [.ref (ad 7)]) ⟨hx, hb, hml, hown, hw⟩ (c_C_putRecordOfN l dC dI cI cZ (ad 2) (ad 3) (ad 4) (ad 5) (ad 6) K en (by omega) i (by omega) (by omega)) (gw_cV 1 hw mw_261 mw_262 mw_263 mw_3 mw_264 hd_C_putRecordOf ⟨Nat.le_of_ble_eq_true rfl, Nat.le_of_ble_eq_true rfl⟩) (ci := 0) rfl rfl rfl hK hP hD hS hA rfl hl.1 rfl (Nat.le_of_ble_eq_true rfl) dn_X_get_40 ⟨Nat.zero_le _, Nat.zero_le _⟩ (fun r40 u40 H locs hc40 hP hD hS => ?_)
          subst hc40
          have hP : va_P (dC, dI) vwCl [(ad 0, .inr (4, [.ref (ad 7), .ref (ad 2), .ref (ad 10), .ref (ad 17), .ref (ad 15), .ref (ad 1), .int (nI clk), .int 1, .int lf])), (ad 1, .inl (cI, 7, .inl dr)), (ad 2, .inr (0, [.ref (ad 3), .ref (ad 4), .ref (ad 5), .ref (ad 6), .int (nI K.1), .int (nI en)])), (ad 3, .inl (cI, 13, .inl K.2.1)), (ad 4, .inl (cI, 13, .inl K.2.2.1)), (ad 5, .inl (cI, 13, .inl K.2.2.2.1)), (ad 6, .inl (cI, 13, .inl K.2.2.2.2)), (ad 7, .inr (3, [.ref (ad 8), .ref (ad 9)])), (ad 8, .inl (cI, 292, .inl f)), (ad 9, .inl (cI, 40, .inl g)), (ad 10, .inr (0, [.ref (ad 11), .ref (ad 12), .ref (ad 13), .ref (ad 14), .int (nI U.1), .int (nI ea)])), (ad 11, .inl (cI, 13, .inl U.2.1)), (ad 12, .inl (cI, 13, .inl U.2.2.1)), (ad 13, .inl (cI, 13, .inl U.2.2.2.1)), (ad 14, .inl (cI, 13, .inl U.2.2.2.2)), (ad 15, .inr (2, [.ref (ad 16), .int (nI fc)])), (ad 16, .inl (cI, 12, .inl fd)), (ad 17, .inr (1, [.ref (ad 18), .ref (ad 19), .ref (ad 20), .int (nI st), .int (nI ff), .int (nI fn), .int (nI b)])), (ad 18, .inl (cZ, 6, .inl X)), (ad 19, .inl (cI, 6, .inl Y)), (ad 20, .inl (cI, 6, .inl Z))] H := hP
          have hD : va_D A [(ad 0, .inr (4, [.ref (ad 7), .ref (ad 2), .ref (ad 10), .ref (ad 17), .ref (ad 15), .ref (ad 1), .int (nI clk), .int 1, .int lf])), (ad 1, .inl (cI, 7, .inl dr)), (ad 2, .inr (0, [.ref (ad 3), .ref (ad 4), .ref (ad 5), .ref (ad 6), .int (nI K.1), .int (nI en)])), (ad 3, .inl (cI, 13, .inl K.2.1)), (ad 4, .inl (cI, 13, .inl K.2.2.1)), (ad 5, .inl (cI, 13, .inl K.2.2.2.1)), (ad 6, .inl (cI, 13, .inl K.2.2.2.2)), (ad 7, .inr (3, [.ref (ad 8), .ref (ad 9)])), (ad 8, .inl (cI, 292, .inl f)), (ad 9, .inl (cI, 40, .inl g)), (ad 10, .inr (0, [.ref (ad 11), .ref (ad 12), .ref (ad 13), .ref (ad 14), .int (nI U.1), .int (nI ea)])), (ad 11, .inl (cI, 13, .inl U.2.1)), (ad 12, .inl (cI, 13, .inl U.2.2.1)), (ad 13, .inl (cI, 13, .inl U.2.2.2.1)), (ad 14, .inl (cI, 13, .inl U.2.2.2.2)), (ad 15, .inr (2, [.ref (ad 16), .int (nI fc)])), (ad 16, .inl (cI, 12, .inl fd)), (ad 17, .inr (1, [.ref (ad 18), .ref (ad 19), .ref (ad 20), .int (nI st), .int (nI ff), .int (nI fn), .int (nI b)])), (ad 18, .inl (cZ, 6, .inl X)), (ad 19, .inl (cI, 6, .inl Y)), (ad 20, .inl (cI, 6, .inl Z))] := hD
          refine gr_top (y := nI p) hP_ ?_
          refine lv_iconst (v := 3) hx hb dn_X_get_43 (by decide) ?_
          refine lv_iload_n hx hb dn_X_get_44 rfl (lv_at hl 2 rfl) ?_
          refine gr_addN hx hb 3 jj rfl rfl dn_X_get_45 ?_
          refine gc_vi (pre := [(ad 0, .inr (4, [.ref (ad 7), .ref (ad 2), .ref (ad 10), .ref (ad 17), .ref (ad 15), .ref (ad 1), .int (nI clk), .int 1, .int lf])), (ad 1, .inl (cI, 7, .inl dr)), (ad 2, .inr (0, [.ref (ad 3), .ref (ad 4), .ref (ad 5), .ref (ad 6), .int (nI K.1), .int (nI en)])), (ad 3, .inl (cI, 13, .inl K.2.1)), (ad 4, .inl (cI, 13, .inl K.2.2.1)), (ad 5, .inl (cI, 13, .inl K.2.2.2.1)), (ad 6, .inl (cI, 13, .inl K.2.2.2.2))]) (wc := [(ad 7, .inr (3, [.ref (ad 8), .ref (ad 9)])), (ad 8, .inl (cI, 292, .inl f)), (ad 9, .inl (cI, 40, .inl g))]) (po := [(ad 10, .inr (0, [.ref (ad 11), .ref (ad 12), .ref (ad 13), .ref (ad 14), .int (nI U.1), .int (nI ea)])), (ad 11, .inl (cI, 13, .inl U.2.1)), (ad 12, .inl (cI, 13, .inl U.2.2.1)), (ad 13, .inl (cI, 13, .inl U.2.2.2.1)), (ad 14, .inl (cI, 13, .inl U.2.2.2.2)), (ad 15, .inr (2, [.ref (ad 16), .int (nI fc)])), (ad 16, .inl (cI, 12, .inl fd)), (ad 17, .inr (1, [.ref (ad 18), .ref (ad 19), .ref (ad 20), .int (nI st), .int (nI ff), .int (nI fn), .int (nI b)])), (ad 18, .inl (cZ, 6, .inl X)), (ad 19, .inl (cI, 6, .inl Y)), (ad 20, .inl (cI, 6, .inl Z))]) (As := [.int (nI p), .int (nI (3 + jj))]) (rest := []) ⟨hx, hb, hml, hown, hw⟩ (c_G_field l dC dI cI cZ (ad 7) (ad 8) (ad 9) f g p (3 + jj) (by omega)) (gw_cV 2 hw mw_265 mw_266 mw_267 mw_2 mw_268 hd_G_field ⟨Nat.le_of_ble_eq_true rfl, Nat.le_of_ble_eq_true rfl⟩) (ci := 3) rfl rfl rfl hK hP hD hS hA rfl hl.1 rfl (Nat.le_of_ble_eq_true rfl) dn_X_get_46 ⟨Nat.zero_le _, Nat.zero_le _⟩ (fun r46 u46 H locs hc46 hP hD hS => ?_)
          subst hc46
          have hP : va_P (dC, dI) vwCl [(ad 0, .inr (4, [.ref (ad 7), .ref (ad 2), .ref (ad 10), .ref (ad 17), .ref (ad 15), .ref (ad 1), .int (nI clk), .int 1, .int lf])), (ad 1, .inl (cI, 7, .inl dr)), (ad 2, .inr (0, [.ref (ad 3), .ref (ad 4), .ref (ad 5), .ref (ad 6), .int (nI K.1), .int (nI en)])), (ad 3, .inl (cI, 13, .inl K.2.1)), (ad 4, .inl (cI, 13, .inl K.2.2.1)), (ad 5, .inl (cI, 13, .inl K.2.2.2.1)), (ad 6, .inl (cI, 13, .inl K.2.2.2.2)), (ad 7, .inr (3, [.ref (ad 8), .ref (ad 9)])), (ad 8, .inl (cI, 292, .inl f)), (ad 9, .inl (cI, 40, .inl g)), (ad 10, .inr (0, [.ref (ad 11), .ref (ad 12), .ref (ad 13), .ref (ad 14), .int (nI U.1), .int (nI ea)])), (ad 11, .inl (cI, 13, .inl U.2.1)), (ad 12, .inl (cI, 13, .inl U.2.2.1)), (ad 13, .inl (cI, 13, .inl U.2.2.2.1)), (ad 14, .inl (cI, 13, .inl U.2.2.2.2)), (ad 15, .inr (2, [.ref (ad 16), .int (nI fc)])), (ad 16, .inl (cI, 12, .inl fd)), (ad 17, .inr (1, [.ref (ad 18), .ref (ad 19), .ref (ad 20), .int (nI st), .int (nI ff), .int (nI fn), .int (nI b)])), (ad 18, .inl (cZ, 6, .inl X)), (ad 19, .inl (cI, 6, .inl Y)), (ad 20, .inl (cI, 6, .inl Z))] H := hP
          have hD : va_D A [(ad 0, .inr (4, [.ref (ad 7), .ref (ad 2), .ref (ad 10), .ref (ad 17), .ref (ad 15), .ref (ad 1), .int (nI clk), .int 1, .int lf])), (ad 1, .inl (cI, 7, .inl dr)), (ad 2, .inr (0, [.ref (ad 3), .ref (ad 4), .ref (ad 5), .ref (ad 6), .int (nI K.1), .int (nI en)])), (ad 3, .inl (cI, 13, .inl K.2.1)), (ad 4, .inl (cI, 13, .inl K.2.2.1)), (ad 5, .inl (cI, 13, .inl K.2.2.2.1)), (ad 6, .inl (cI, 13, .inl K.2.2.2.2)), (ad 7, .inr (3, [.ref (ad 8), .ref (ad 9)])), (ad 8, .inl (cI, 292, .inl f)), (ad 9, .inl (cI, 40, .inl g)), (ad 10, .inr (0, [.ref (ad 11), .ref (ad 12), .ref (ad 13), .ref (ad 14), .int (nI U.1), .int (nI ea)])), (ad 11, .inl (cI, 13, .inl U.2.1)), (ad 12, .inl (cI, 13, .inl U.2.2.1)), (ad 13, .inl (cI, 13, .inl U.2.2.2.1)), (ad 14, .inl (cI, 13, .inl U.2.2.2.2)), (ad 15, .inr (2, [.ref (ad 16), .int (nI fc)])), (ad 16, .inl (cI, 12, .inl fd)), (ad 17, .inr (1, [.ref (ad 18), .ref (ad 19), .ref (ad 20), .int (nI st), .int (nI ff), .int (nI fn), .int (nI b)])), (ad 18, .inl (cZ, 6, .inl X)), (ad 19, .inl (cI, 6, .inl Y)), (ad 20, .inl (cI, 6, .inl Z))] := hD
          refine lv_istore_n (lv' := [(3, .int (f (7 * p + (3 + jj)))), (0, .ref (ad 0)), (1, .int (nI i)), (2, .int (nI jj))]) hx hb dn_X_get_49 rfl hl (by decide) rfl (fun ls hl => ?_)
          refine lv_aload_n hx hb dn_X_get_50 rfl (lv_at hl 1 rfl) ?_
          refine va_get (D := (dC, dI)) (ci := 4) (v := .ref (ad 7)) (C := rn_X) (T := tn_X) (N := 9) hx hb hw ml_X hown hK hP 0 rfl rfl 0 (by decide) (hw _ mw_98) (fun _ h9 => h9) rfl dn_X_get_51 ?_
          refine lv_iload_n hx hb dn_X_get_54 rfl (lv_at hl 2 rfl) ?_
          refine gc_s0 (v := (nI (279 + i))) (As := [.int (nI i)]) (rest := [.ref (ad 7)]) ⟨hx, hb, hml, hown, hw⟩ (c_G_keyPlace l dC dI cI cZ i) (gw_cS 1 hw mw_191 mw_192 mw_2 mw_193 hd_G_keyPlace ⟨Nat.le_of_ble_eq_true rfl, Nat.le_of_ble_eq_true rfl⟩) hK hP hD hS hA rfl hl.1 rfl (Nat.le_of_ble_eq_true rfl) dn_X_get_55 ⟨Nat.zero_le _, Nat.zero_le _⟩ (fun H locs hP hD hS => ?_)
          refine gc_vi (pre := [(ad 0, .inr (4, [.ref (ad 7), .ref (ad 2), .ref (ad 10), .ref (ad 17), .ref (ad 15), .ref (ad 1), .int (nI clk), .int 1, .int lf])), (ad 1, .inl (cI, 7, .inl dr)), (ad 2, .inr (0, [.ref (ad 3), .ref (ad 4), .ref (ad 5), .ref (ad 6), .int (nI K.1), .int (nI en)])), (ad 3, .inl (cI, 13, .inl K.2.1)), (ad 4, .inl (cI, 13, .inl K.2.2.1)), (ad 5, .inl (cI, 13, .inl K.2.2.2.1)), (ad 6, .inl (cI, 13, .inl K.2.2.2.2))]) (wc := [(ad 7, .inr (3, [.ref (ad 8), .ref (ad 9)])), (ad 8, .inl (cI, 292, .inl f)), (ad 9, .inl (cI, 40, .inl g))]) (po := [(ad 10, .inr (0, [.ref (ad 11), .ref (ad 12), .ref (ad 13), .ref (ad 14), .int (nI U.1), .int (nI ea)])), (ad 11, .inl (cI, 13, .inl U.2.1)), (ad 12, .inl (cI, 13, .inl U.2.2.1)), (ad 13, .inl (cI, 13, .inl U.2.2.2.1)), (ad 14, .inl (cI, 13, .inl U.2.2.2.2)), (ad 15, .inr (2, [.ref (ad 16), .int (nI fc)])), (ad 16, .inl (cI, 12, .inl fd)), (ad 17, .inr (1, [.ref (ad 18), .ref (ad 19), .ref (ad 20), .int (nI st), .int (nI ff), .int (nI fn), .int (nI b)])), (ad 18, .inl (cZ, 6, .inl X)), (ad 19, .inl (cI, 6, .inl Y)), (ad 20, .inl (cI, 6, .inl Z))]) (As := [.int (nI (279 + i))]) (rest := []) ⟨hx, hb, hml, hown, hw⟩ (c_G_read l dC dI cI cZ (ad 7) (ad 8) (ad 9) f g (279 + i) (by omega)) (gw_cV 1 hw mw_274 mw_271 mw_272 mw_2 mw_273 hd_G_read ⟨Nat.le_of_ble_eq_true rfl, Nat.le_of_ble_eq_true rfl⟩) (ci := 3) rfl rfl rfl hK hP hD hS hA rfl hl.1 rfl (Nat.le_of_ble_eq_true rfl) dn_X_get_58 ⟨Nat.zero_le _, Nat.zero_le _⟩ (fun r58 u58 H locs hc58 hP hD hS => ?_)
          subst hc58
          have hP : va_P (dC, dI) vwCl [(ad 0, .inr (4, [.ref (ad 7), .ref (ad 2), .ref (ad 10), .ref (ad 17), .ref (ad 15), .ref (ad 1), .int (nI clk), .int 1, .int lf])), (ad 1, .inl (cI, 7, .inl dr)), (ad 2, .inr (0, [.ref (ad 3), .ref (ad 4), .ref (ad 5), .ref (ad 6), .int (nI K.1), .int (nI en)])), (ad 3, .inl (cI, 13, .inl K.2.1)), (ad 4, .inl (cI, 13, .inl K.2.2.1)), (ad 5, .inl (cI, 13, .inl K.2.2.2.1)), (ad 6, .inl (cI, 13, .inl K.2.2.2.2)), (ad 7, .inr (3, [.ref (ad 8), .ref (ad 9)])), (ad 8, .inl (cI, 292, .inl f)), (ad 9, .inl (cI, 40, .inl g)), (ad 10, .inr (0, [.ref (ad 11), .ref (ad 12), .ref (ad 13), .ref (ad 14), .int (nI U.1), .int (nI ea)])), (ad 11, .inl (cI, 13, .inl U.2.1)), (ad 12, .inl (cI, 13, .inl U.2.2.1)), (ad 13, .inl (cI, 13, .inl U.2.2.2.1)), (ad 14, .inl (cI, 13, .inl U.2.2.2.2)), (ad 15, .inr (2, [.ref (ad 16), .int (nI fc)])), (ad 16, .inl (cI, 12, .inl fd)), (ad 17, .inr (1, [.ref (ad 18), .ref (ad 19), .ref (ad 20), .int (nI st), .int (nI ff), .int (nI fn), .int (nI b)])), (ad 18, .inl (cZ, 6, .inl X)), (ad 19, .inl (cI, 6, .inl Y)), (ad 20, .inl (cI, 6, .inl Z))] H := hP
          have hD : va_D A [(ad 0, .inr (4, [.ref (ad 7), .ref (ad 2), .ref (ad 10), .ref (ad 17), .ref (ad 15), .ref (ad 1), .int (nI clk), .int 1, .int lf])), (ad 1, .inl (cI, 7, .inl dr)), (ad 2, .inr (0, [.ref (ad 3), .ref (ad 4), .ref (ad 5), .ref (ad 6), .int (nI K.1), .int (nI en)])), (ad 3, .inl (cI, 13, .inl K.2.1)), (ad 4, .inl (cI, 13, .inl K.2.2.1)), (ad 5, .inl (cI, 13, .inl K.2.2.2.1)), (ad 6, .inl (cI, 13, .inl K.2.2.2.2)), (ad 7, .inr (3, [.ref (ad 8), .ref (ad 9)])), (ad 8, .inl (cI, 292, .inl f)), (ad 9, .inl (cI, 40, .inl g)), (ad 10, .inr (0, [.ref (ad 11), .ref (ad 12), .ref (ad 13), .ref (ad 14), .int (nI U.1), .int (nI ea)])), (ad 11, .inl (cI, 13, .inl U.2.1)), (ad 12, .inl (cI, 13, .inl U.2.2.1)), (ad 13, .inl (cI, 13, .inl U.2.2.2.1)), (ad 14, .inl (cI, 13, .inl U.2.2.2.2)), (ad 15, .inr (2, [.ref (ad 16), .int (nI fc)])), (ad 16, .inl (cI, 12, .inl fd)), (ad 17, .inr (1, [.ref (ad 18), .ref (ad 19), .ref (ad 20), .int (nI st), .int (nI ff), .int (nI fn), .int (nI b)])), (ad 18, .inl (cZ, 6, .inl X)), (ad 19, .inl (cI, 6, .inl Y)), (ad 20, .inl (cI, 6, .inl Z))] := hD
          refine lv_istore (lv' := [(4, .int (f (279 + i))), (3, .int (f (7 * p + (3 + jj)))), (0, .ref (ad 0)), (1, .int (nI i)), (2, .int (nI jj))]) hx hb dn_X_get_61 hl (by decide) rfl (fun ls hl => ?_)
          refine lv_iload_n hx hb dn_X_get_63 rfl (lv_at hl 1 rfl) ?_
          refine lv_iload hx hb dn_X_get_64 (lv_at hl 0 rfl) ?_
          refine lv_iload_n hx hb dn_X_get_66 rfl (lv_at hl 3 rfl) ?_
          refine lv_iload_n hx hb dn_X_get_67 rfl (lv_at hl 4 rfl) ?_
          refine gc_s0 (v := (hf_pad (f (279 + i)) (nI i) (nI jj))) (As := [.int (f (279 + i)), .int (nI i), .int (nI jj)]) (rest := [.int (f (7 * p + (3 + jj)))]) ⟨hx, hb, hml, hown, hw⟩ (c_H_pad l dC dI cI cZ (f (279 + i)) (nI i) (nI jj)) (gw_cS 3 hw mw_174 mw_175 mw_7 mw_176 hd_H_pad ⟨Nat.le_of_ble_eq_true rfl, Nat.le_of_ble_eq_true rfl⟩) hK hP hD hS hA rfl hl.1 rfl (Nat.le_of_ble_eq_true rfl) dn_X_get_68 ⟨Nat.zero_le _, Nat.zero_le _⟩ (fun H locs hP hD hS => ?_)
          refine lv_ixor hx hb dn_X_get_71 ?_
          refine lv_i2l hx hb dn_X_get_72 rfl ?_
          exact hret (((f (7 * p + (3 + jj))) ^^^ (hf_pad (f (279 + i)) (nI i) (nI jj))).toInt64) () _ _ _ _ (ge_ok hx_ hl12 i1 i2 hp_ hP_ hj_) hP hD hS dn_X_get_73
        · skip
          refine lv_ldc2 (v := 1099511627776) hx hb hown (hw _ mw_260) dn_X_get_27 ?_
          exact hret 1099511627776 () _ _ _ _ (ge_j (Or.inr (Int32.not_le.mp h24))) hP hD hS dn_X_get_30
    · skip
      refine lv_if_eq (tgt := 27) hx hb dn_X_get_15 (by decide) (fun _ => ?_) (fun h => absurd h (by decide))
      refine lv_ldc2 (v := 1099511627776) hx hb hown (hw _ mw_260) dn_X_get_27 ?_
      exact hret 1099511627776 () _ _ _ _ (ge_dead hx_ hl12) hP hD hS dn_X_get_30

set_option maxRecDepth 100000 in
set_option maxHeartbeats 4000000 in
theorem c_X_look (l : Launch) (dC : Nat → ClassId) (dI : Nat → Nat → Nat) (cI cZ : ClassId) (ad : Nat → Nat) (clk : Nat) (lf : Int32) (dr : Nat → Int32) (K : ct_T) (en : Nat) (f g : Nat → Int32) (U : ct_T) (ea : Nat) (fd : Nat → Int32) (fc : Nat) (X Y Z : Nat → Int32) (st ff fn b : Nat) (pw : Int32) (hx_ : xr f clk pw K en) (id w : Int32) : gc_I l yn_X_look (gw yn_X_look cn_X_look 3 (some .int)) (rm_ 2 42) (dC, dI) vwCl (gT cI cZ) [.ref (ad 0), .int id, .int w] [(ad 0, .inr (4, [.ref (ad 7), .ref (ad 2), .ref (ad 10), .ref (ad 17), .ref (ad 15), .ref (ad 1), .int (nI clk), .int pw, .int lf])), (ad 1, .inl (cI, 7, .inl dr)), (ad 2, .inr (0, [.ref (ad 3), .ref (ad 4), .ref (ad 5), .ref (ad 6), .int (nI K.1), .int (nI en)])), (ad 3, .inl (cI, 13, .inl K.2.1)), (ad 4, .inl (cI, 13, .inl K.2.2.1)), (ad 5, .inl (cI, 13, .inl K.2.2.2.1)), (ad 6, .inl (cI, 13, .inl K.2.2.2.2)), (ad 7, .inr (3, [.ref (ad 8), .ref (ad 9)])), (ad 8, .inl (cI, 292, .inl f)), (ad 9, .inl (cI, 40, .inl g)), (ad 10, .inr (0, [.ref (ad 11), .ref (ad 12), .ref (ad 13), .ref (ad 14), .int (nI U.1), .int (nI ea)])), (ad 11, .inl (cI, 13, .inl U.2.1)), (ad 12, .inl (cI, 13, .inl U.2.2.1)), (ad 13, .inl (cI, 13, .inl U.2.2.2.1)), (ad 14, .inl (cI, 13, .inl U.2.2.2.2)), (ad 15, .inr (2, [.ref (ad 16), .int (nI fc)])), (ad 16, .inl (cI, 12, .inl fd)), (ad 17, .inr (1, [.ref (ad 18), .ref (ad 19), .ref (ad 20), .int (nI st), .int (nI ff), .int (nI fn), .int (nI b)])), (ad 18, .inl (cZ, 6, .inl X)), (ad 19, .inl (cI, 6, .inl Y)), (ad 20, .inl (cI, 6, .inl Z))] (fun r (_ : Unit) => r = an_look f clk pw id w) (fun _ => [(ad 0, .inr (4, [.ref (ad 7), .ref (ad 2), .ref (ad 10), .ref (ad 17), .ref (ad 15), .ref (ad 1), .int (nI clk), .int pw, .int lf])), (ad 1, .inl (cI, 7, .inl dr)), (ad 2, .inr (0, [.ref (ad 3), .ref (ad 4), .ref (ad 5), .ref (ad 6), .int (nI K.1), .int (nI en)])), (ad 3, .inl (cI, 13, .inl K.2.1)), (ad 4, .inl (cI, 13, .inl K.2.2.1)), (ad 5, .inl (cI, 13, .inl K.2.2.2.1)), (ad 6, .inl (cI, 13, .inl K.2.2.2.2)), (ad 7, .inr (3, [.ref (ad 8), .ref (ad 9)])), (ad 8, .inl (cI, 292, .inl f)), (ad 9, .inl (cI, 40, .inl g)), (ad 10, .inr (0, [.ref (ad 11), .ref (ad 12), .ref (ad 13), .ref (ad 14), .int (nI U.1), .int (nI ea)])), (ad 11, .inl (cI, 13, .inl U.2.1)), (ad 12, .inl (cI, 13, .inl U.2.2.1)), (ad 13, .inl (cI, 13, .inl U.2.2.2.1)), (ad 14, .inl (cI, 13, .inl U.2.2.2.2)), (ad 15, .inr (2, [.ref (ad 16), .int (nI fc)])), (ad 16, .inl (cI, 12, .inl fd)), (ad 17, .inr (1, [.ref (ad 18), .ref (ad 19), .ref (ad 20), .int (nI st), .int (nI ff), .int (nI fn), .int (nI b)])), (ad 18, .inl (cZ, 6, .inl X)), (ad 19, .inl (cI, 6, .inl Y)), (ad 20, .inl (cI, 6, .inl Z))]) := by
  refine gc_I_of (cc := cn_X_look) (maxL := 3) (ty := .int) (by decide) rfl (Nat.le_of_ble_eq_true rfl) ?_
  intro pp ee ss mm ar be me cd A Q ls H0 H locs hx hb hml hown hts hK hP hD hS hA hl hret
  have hw : ∀ w ∈ gw_T, w.before ar ss = true := fun w h => hts w (List.mem_cons_of_mem _ h)
  have hl : lv_has ls 3 [(0, .ref (ad 0)), (1, .int id), (2, .int w)] := hl
  rcases hx_.1 with rfl | rfl
  · skip
    refine lv_aload_n hx hb dn_X_look_0 rfl (lv_at hl 0 rfl) ?_
    refine va_get (D := (dC, dI)) (ci := 4) (v := .int 0) (C := rn_X) (T := tn_X) (N := 9) hx hb hw ml_X hown hK hP 0 rfl rfl 7 (by decide) (hw _ mw_105) (fun _ h9 => h9) rfl dn_X_look_1 ?_
    refine lv_if_eq (tgt := 18) hx hb dn_X_look_4 (by decide) (fun _ => ?_) (fun h => absurd h (by decide))
    refine lv_iconst (v := (-1)) hx hb dn_X_look_18 (by decide) ?_
    exact hret (-1) () _ _ _ _ (lo_off rfl) rfl hP hD hS dn_X_look_19
  · skip
    have ho := hx_.2.1
    refine lv_aload_n hx hb dn_X_look_0 rfl (lv_at hl 0 rfl) ?_
    refine va_get (D := (dC, dI)) (ci := 4) (v := .int 1) (C := rn_X) (T := tn_X) (N := 9) hx hb hw ml_X hown hK hP 0 rfl rfl 7 (by decide) (hw _ mw_105) (fun _ h9 => h9) rfl dn_X_look_1 ?_
    refine lv_if_eq (tgt := 18) hx hb dn_X_look_4 (by decide) (fun h => absurd h (by decide)) (fun _ => ?_)
    refine lv_aload_n hx hb dn_X_look_7 rfl (lv_at hl 0 rfl) ?_
    refine va_get (D := (dC, dI)) (ci := 4) (v := .ref (ad 2)) (C := rn_X) (T := tn_X) (N := 9) hx hb hw ml_X hown hK hP 0 rfl rfl 1 (by decide) (hw _ mw_99) (fun _ h9 => h9) rfl dn_X_look_8 ?_
    refine lv_iload_n hx hb dn_X_look_11 rfl (lv_at hl 1 rfl) ?_
    refine gc_vi (pre := [(ad 0, .inr (4, [.ref (ad 7), .ref (ad 2), .ref (ad 10), .ref (ad 17), .ref (ad 15), .ref (ad 1), .int (nI clk), .int 1, .int lf])), (ad 1, .inl (cI, 7, .inl dr))]) (wc := [(ad 2, .inr (0, [.ref (ad 3), .ref (ad 4), .ref (ad 5), .ref (ad 6), .int (nI K.1), .int (nI en)])), (ad 3, .inl (cI, 13, .inl K.2.1)), (ad 4, .inl (cI, 13, .inl K.2.2.1)), (ad 5, .inl (cI, 13, .inl K.2.2.2.1)), (ad 6, .inl (cI, 13, .inl K.2.2.2.2))]) (po := [(ad 7, .inr (3, [.ref (ad 8), .ref (ad 9)])), (ad 8, .inl (cI, 292, .inl f)), (ad 9, .inl (cI, 40, .inl g)), (ad 10, .inr (0, [.ref (ad 11), .ref (ad 12), .ref (ad 13), .ref (ad 14), .int (nI U.1), .int (nI ea)])), (ad 11, .inl (cI, 13, .inl U.2.1)), (ad 12, .inl (cI, 13, .inl U.2.2.1)), (ad 13, .inl (cI, 13, .inl U.2.2.2.1)), (ad 14, .inl (cI, 13, .inl U.2.2.2.2)), (ad 15, .inr (2, [.ref (ad 16), .int (nI fc)])), (ad 16, .inl (cI, 12, .inl fd)), (ad 17, .inr (1, [.ref (ad 18), .ref (ad 19), .ref (ad 20), .int (nI st), .int (nI ff), .int (nI fn), .int (nI b)])), (ad 18, .inl (cZ, 6, .inl X)), (ad 19, .inl (cI, 6, .inl Y)), (ad 20, .inl (cI, 6, .inl Z))]) (As := [.int id]) (rest := []) ⟨hx, hb, hml, hown, hw⟩ (c_C_isThere l dC dI cI cZ (ad 2) (ad 3) (ad 4) (ad 5) (ad 6) K en (by omega) id) (gw_cV 1 hw mw_279 mw_159 mw_160 mw_3 mw_161 hd_C_isThere ⟨Nat.le_of_ble_eq_true rfl, Nat.le_of_ble_eq_true rfl⟩) (ci := 0) rfl rfl rfl hK hP hD hS hA rfl hl.1 rfl (Nat.le_of_ble_eq_true rfl) dn_X_look_12 ⟨Nat.zero_le _, Nat.zero_le _⟩ (fun r12 u12 H locs hc12 hP hD hS => ?_)
    have hP : va_P (dC, dI) vwCl [(ad 0, .inr (4, [.ref (ad 7), .ref (ad 2), .ref (ad 10), .ref (ad 17), .ref (ad 15), .ref (ad 1), .int (nI clk), .int 1, .int lf])), (ad 1, .inl (cI, 7, .inl dr)), (ad 2, .inr (0, [.ref (ad 3), .ref (ad 4), .ref (ad 5), .ref (ad 6), .int (nI K.1), .int (nI en)])), (ad 3, .inl (cI, 13, .inl K.2.1)), (ad 4, .inl (cI, 13, .inl K.2.2.1)), (ad 5, .inl (cI, 13, .inl K.2.2.2.1)), (ad 6, .inl (cI, 13, .inl K.2.2.2.2)), (ad 7, .inr (3, [.ref (ad 8), .ref (ad 9)])), (ad 8, .inl (cI, 292, .inl f)), (ad 9, .inl (cI, 40, .inl g)), (ad 10, .inr (0, [.ref (ad 11), .ref (ad 12), .ref (ad 13), .ref (ad 14), .int (nI U.1), .int (nI ea)])), (ad 11, .inl (cI, 13, .inl U.2.1)), (ad 12, .inl (cI, 13, .inl U.2.2.1)), (ad 13, .inl (cI, 13, .inl U.2.2.2.1)), (ad 14, .inl (cI, 13, .inl U.2.2.2.2)), (ad 15, .inr (2, [.ref (ad 16), .int (nI fc)])), (ad 16, .inl (cI, 12, .inl fd)), (ad 17, .inr (1, [.ref (ad 18), .ref (ad 19), .ref (ad 20), .int (nI st), .int (nI ff), .int (nI fn), .int (nI b)])), (ad 18, .inl (cZ, 6, .inl X)), (ad 19, .inl (cI, 6, .inl Y)), (ad 20, .inl (cI, 6, .inl Z))] H := hP
    have hD : va_D A [(ad 0, .inr (4, [.ref (ad 7), .ref (ad 2), .ref (ad 10), .ref (ad 17), .ref (ad 15), .ref (ad 1), .int (nI clk), .int 1, .int lf])), (ad 1, .inl (cI, 7, .inl dr)), (ad 2, .inr (0, [.ref (ad 3), .ref (ad 4), .ref (ad 5), .ref (ad 6), .int (nI K.1), .int (nI en)])), (ad 3, .inl (cI, 13, .inl K.2.1)), (ad 4, .inl (cI, 13, .inl K.2.2.1)), (ad 5, .inl (cI, 13, .inl K.2.2.2.1)), (ad 6, .inl (cI, 13, .inl K.2.2.2.2)), (ad 7, .inr (3, [.ref (ad 8), .ref (ad 9)])), (ad 8, .inl (cI, 292, .inl f)), (ad 9, .inl (cI, 40, .inl g)), (ad 10, .inr (0, [.ref (ad 11), .ref (ad 12), .ref (ad 13), .ref (ad 14), .int (nI U.1), .int (nI ea)])), (ad 11, .inl (cI, 13, .inl U.2.1)), (ad 12, .inl (cI, 13, .inl U.2.2.1)), (ad 13, .inl (cI, 13, .inl U.2.2.2.1)), (ad 14, .inl (cI, 13, .inl U.2.2.2.2)), (ad 15, .inr (2, [.ref (ad 16), .int (nI fc)])), (ad 16, .inl (cI, 12, .inl fd)), (ad 17, .inr (1, [.ref (ad 18), .ref (ad 19), .ref (ad 20), .int (nI st), .int (nI ff), .int (nI fn), .int (nI b)])), (ad 18, .inl (cZ, 6, .inl X)), (ad 19, .inl (cI, 6, .inl Y)), (ad 20, .inl (cI, 6, .inl Z))] := hD
    rcases hc12 with ⟨rfl, j12, j12a, j12b, rfl⟩ | ⟨rfl, hno12⟩
    · skip
      refine lv_if_ne (tgt := 20) hx hb dn_X_look_15 (by decide) (fun _ => ?_) (fun h => absurd h (by decide))
      refine lv_iload_n hx hb dn_X_look_20 rfl (lv_at hl 2 rfl) ?_
      rcases sw_0_2 w with rfl | rfl | rfl | h21
      · skip
        refine lv_tableIn (off := 27) (tgt := 48) hx hb dn_X_look_21 (by decide) (by decide) rfl (by decide) ?_
        refine lv_aload_n hx hb dn_X_look_48 rfl (lv_at hl 0 rfl) ?_
        refine va_get (D := (dC, dI)) (ci := 4) (v := .ref (ad 2)) (C := rn_X) (T := tn_X) (N := 9) hx hb hw ml_X hown hK hP 0 rfl rfl 1 (by decide) (hw _ mw_99) (fun _ h9 => h9) rfl dn_X_look_49 ?_
        refine lv_iload_n hx hb dn_X_look_52 rfl (lv_at hl 1 rfl) ?_
        refine gc_vi (pre := [(ad 0, .inr (4, [.ref (ad 7), .ref (ad 2), .ref (ad 10), .ref (ad 17), .ref (ad 15), .ref (ad 1), .int (nI clk), .int 1, .int lf])), (ad 1, .inl (cI, 7, .inl dr))]) (wc := [(ad 2, .inr (0, [.ref (ad 3), .ref (ad 4), .ref (ad 5), .ref (ad 6), .int (nI K.1), .int (nI en)])), (ad 3, .inl (cI, 13, .inl K.2.1)), (ad 4, .inl (cI, 13, .inl K.2.2.1)), (ad 5, .inl (cI, 13, .inl K.2.2.2.1)), (ad 6, .inl (cI, 13, .inl K.2.2.2.2))]) (po := [(ad 7, .inr (3, [.ref (ad 8), .ref (ad 9)])), (ad 8, .inl (cI, 292, .inl f)), (ad 9, .inl (cI, 40, .inl g)), (ad 10, .inr (0, [.ref (ad 11), .ref (ad 12), .ref (ad 13), .ref (ad 14), .int (nI U.1), .int (nI ea)])), (ad 11, .inl (cI, 13, .inl U.2.1)), (ad 12, .inl (cI, 13, .inl U.2.2.1)), (ad 13, .inl (cI, 13, .inl U.2.2.2.1)), (ad 14, .inl (cI, 13, .inl U.2.2.2.2)), (ad 15, .inr (2, [.ref (ad 16), .int (nI fc)])), (ad 16, .inl (cI, 12, .inl fd)), (ad 17, .inr (1, [.ref (ad 18), .ref (ad 19), .ref (ad 20), .int (nI st), .int (nI ff), .int (nI fn), .int (nI b)])), (ad 18, .inl (cZ, 6, .inl X)), (ad 19, .inl (cI, 6, .inl Y)), (ad 20, .inl (cI, 6, .inl Z))]) (As := [.int (nI j12)]) (rest := []) ⟨hx, hb, hml, hown, hw⟩ (c_C_stateOfN l dC dI cI cZ (ad 2) (ad 3) (ad 4) (ad 5) (ad 6) K en (by omega) j12 (by omega) (by omega)) (gw_cV 1 hw mw_280 mw_167 mw_168 mw_3 mw_169 hd_C_stateOf ⟨Nat.le_of_ble_eq_true rfl, Nat.le_of_ble_eq_true rfl⟩) (ci := 0) rfl rfl rfl hK hP hD hS hA rfl hl.1 rfl (Nat.le_of_ble_eq_true rfl) dn_X_look_53 ⟨Nat.zero_le _, Nat.zero_le _⟩ (fun r53 u53 H locs hc53 hP hD hS => ?_)
        subst hc53
        have hP : va_P (dC, dI) vwCl [(ad 0, .inr (4, [.ref (ad 7), .ref (ad 2), .ref (ad 10), .ref (ad 17), .ref (ad 15), .ref (ad 1), .int (nI clk), .int 1, .int lf])), (ad 1, .inl (cI, 7, .inl dr)), (ad 2, .inr (0, [.ref (ad 3), .ref (ad 4), .ref (ad 5), .ref (ad 6), .int (nI K.1), .int (nI en)])), (ad 3, .inl (cI, 13, .inl K.2.1)), (ad 4, .inl (cI, 13, .inl K.2.2.1)), (ad 5, .inl (cI, 13, .inl K.2.2.2.1)), (ad 6, .inl (cI, 13, .inl K.2.2.2.2)), (ad 7, .inr (3, [.ref (ad 8), .ref (ad 9)])), (ad 8, .inl (cI, 292, .inl f)), (ad 9, .inl (cI, 40, .inl g)), (ad 10, .inr (0, [.ref (ad 11), .ref (ad 12), .ref (ad 13), .ref (ad 14), .int (nI U.1), .int (nI ea)])), (ad 11, .inl (cI, 13, .inl U.2.1)), (ad 12, .inl (cI, 13, .inl U.2.2.1)), (ad 13, .inl (cI, 13, .inl U.2.2.2.1)), (ad 14, .inl (cI, 13, .inl U.2.2.2.2)), (ad 15, .inr (2, [.ref (ad 16), .int (nI fc)])), (ad 16, .inl (cI, 12, .inl fd)), (ad 17, .inr (1, [.ref (ad 18), .ref (ad 19), .ref (ad 20), .int (nI st), .int (nI ff), .int (nI fn), .int (nI b)])), (ad 18, .inl (cZ, 6, .inl X)), (ad 19, .inl (cI, 6, .inl Y)), (ad 20, .inl (cI, 6, .inl Z))] H := hP
        have hD : va_D A [(ad 0, .inr (4, [.ref (ad 7), .ref (ad 2), .ref (ad 10), .ref (ad 17), .ref (ad 15), .ref (ad 1), .int (nI clk), .int 1, .int lf])), (ad 1, .inl (cI, 7, .inl dr)), (ad 2, .inr (0, [.ref (ad 3), .ref (ad 4), .ref (ad 5), .ref (ad 6), .int (nI K.1), .int (nI en)])), (ad 3, .inl (cI, 13, .inl K.2.1)), (ad 4, .inl (cI, 13, .inl K.2.2.1)), (ad 5, .inl (cI, 13, .inl K.2.2.2.1)), (ad 6, .inl (cI, 13, .inl K.2.2.2.2)), (ad 7, .inr (3, [.ref (ad 8), .ref (ad 9)])), (ad 8, .inl (cI, 292, .inl f)), (ad 9, .inl (cI, 40, .inl g)), (ad 10, .inr (0, [.ref (ad 11), .ref (ad 12), .ref (ad 13), .ref (ad 14), .int (nI U.1), .int (nI ea)])), (ad 11, .inl (cI, 13, .inl U.2.1)), (ad 12, .inl (cI, 13, .inl U.2.2.1)), (ad 13, .inl (cI, 13, .inl U.2.2.2.1)), (ad 14, .inl (cI, 13, .inl U.2.2.2.2)), (ad 15, .inr (2, [.ref (ad 16), .int (nI fc)])), (ad 16, .inl (cI, 12, .inl fd)), (ad 17, .inr (1, [.ref (ad 18), .ref (ad 19), .ref (ad 20), .int (nI st), .int (nI ff), .int (nI fn), .int (nI b)])), (ad 18, .inl (cZ, 6, .inl X)), (ad 19, .inl (cI, 6, .inl Y)), (ad 20, .inl (cI, 6, .inl Z))] := hD
        exact hret (K.2.1 j12) () _ _ _ _ (by rw [lo_in hx_ j12a j12b, if_pos rfl]) rfl hP hD hS dn_X_look_56
      · skip
        refine lv_tableIn (off := 36) (tgt := 57) hx hb dn_X_look_21 (by decide) (by decide) rfl (by decide) ?_
        refine lv_aload_n hx hb dn_X_look_57 rfl (lv_at hl 0 rfl) ?_
        refine va_get (D := (dC, dI)) (ci := 4) (v := .ref (ad 2)) (C := rn_X) (T := tn_X) (N := 9) hx hb hw ml_X hown hK hP 0 rfl rfl 1 (by decide) (hw _ mw_99) (fun _ h9 => h9) rfl dn_X_look_58 ?_
        refine lv_iload_n hx hb dn_X_look_61 rfl (lv_at hl 1 rfl) ?_
        refine gc_vi (pre := [(ad 0, .inr (4, [.ref (ad 7), .ref (ad 2), .ref (ad 10), .ref (ad 17), .ref (ad 15), .ref (ad 1), .int (nI clk), .int 1, .int lf])), (ad 1, .inl (cI, 7, .inl dr))]) (wc := [(ad 2, .inr (0, [.ref (ad 3), .ref (ad 4), .ref (ad 5), .ref (ad 6), .int (nI K.1), .int (nI en)])), (ad 3, .inl (cI, 13, .inl K.2.1)), (ad 4, .inl (cI, 13, .inl K.2.2.1)), (ad 5, .inl (cI, 13, .inl K.2.2.2.1)), (ad 6, .inl (cI, 13, .inl K.2.2.2.2))]) (po := [(ad 7, .inr (3, [.ref (ad 8), .ref (ad 9)])), (ad 8, .inl (cI, 292, .inl f)), (ad 9, .inl (cI, 40, .inl g)), (ad 10, .inr (0, [.ref (ad 11), .ref (ad 12), .ref (ad 13), .ref (ad 14), .int (nI U.1), .int (nI ea)])), (ad 11, .inl (cI, 13, .inl U.2.1)), (ad 12, .inl (cI, 13, .inl U.2.2.1)), (ad 13, .inl (cI, 13, .inl U.2.2.2.1)), (ad 14, .inl (cI, 13, .inl U.2.2.2.2)), (ad 15, .inr (2, [.ref (ad 16), .int (nI fc)])), (ad 16, .inl (cI, 12, .inl fd)), (ad 17, .inr (1, [.ref (ad 18), .ref (ad 19), .ref (ad 20), .int (nI st), .int (nI ff), .int (nI fn), .int (nI b)])), (ad 18, .inl (cZ, 6, .inl X)), (ad 19, .inl (cI, 6, .inl Y)), (ad 20, .inl (cI, 6, .inl Z))]) (As := [.int (nI j12)]) (rest := []) ⟨hx, hb, hml, hown, hw⟩ (c_C_dateOfN l dC dI cI cZ (ad 2) (ad 3) (ad 4) (ad 5) (ad 6) K en (by omega) j12 (by omega) (by omega)) (gw_cV 1 hw mw_281 mw_282 mw_283 mw_3 mw_284 hd_C_dateOf ⟨Nat.le_of_ble_eq_true rfl, Nat.le_of_ble_eq_true rfl⟩) (ci := 0) rfl rfl rfl hK hP hD hS hA rfl hl.1 rfl (Nat.le_of_ble_eq_true rfl) dn_X_look_62 ⟨Nat.zero_le _, Nat.zero_le _⟩ (fun r62 u62 H locs hc62 hP hD hS => ?_)
        subst hc62
        have hP : va_P (dC, dI) vwCl [(ad 0, .inr (4, [.ref (ad 7), .ref (ad 2), .ref (ad 10), .ref (ad 17), .ref (ad 15), .ref (ad 1), .int (nI clk), .int 1, .int lf])), (ad 1, .inl (cI, 7, .inl dr)), (ad 2, .inr (0, [.ref (ad 3), .ref (ad 4), .ref (ad 5), .ref (ad 6), .int (nI K.1), .int (nI en)])), (ad 3, .inl (cI, 13, .inl K.2.1)), (ad 4, .inl (cI, 13, .inl K.2.2.1)), (ad 5, .inl (cI, 13, .inl K.2.2.2.1)), (ad 6, .inl (cI, 13, .inl K.2.2.2.2)), (ad 7, .inr (3, [.ref (ad 8), .ref (ad 9)])), (ad 8, .inl (cI, 292, .inl f)), (ad 9, .inl (cI, 40, .inl g)), (ad 10, .inr (0, [.ref (ad 11), .ref (ad 12), .ref (ad 13), .ref (ad 14), .int (nI U.1), .int (nI ea)])), (ad 11, .inl (cI, 13, .inl U.2.1)), (ad 12, .inl (cI, 13, .inl U.2.2.1)), (ad 13, .inl (cI, 13, .inl U.2.2.2.1)), (ad 14, .inl (cI, 13, .inl U.2.2.2.2)), (ad 15, .inr (2, [.ref (ad 16), .int (nI fc)])), (ad 16, .inl (cI, 12, .inl fd)), (ad 17, .inr (1, [.ref (ad 18), .ref (ad 19), .ref (ad 20), .int (nI st), .int (nI ff), .int (nI fn), .int (nI b)])), (ad 18, .inl (cZ, 6, .inl X)), (ad 19, .inl (cI, 6, .inl Y)), (ad 20, .inl (cI, 6, .inl Z))] H := hP
        have hD : va_D A [(ad 0, .inr (4, [.ref (ad 7), .ref (ad 2), .ref (ad 10), .ref (ad 17), .ref (ad 15), .ref (ad 1), .int (nI clk), .int 1, .int lf])), (ad 1, .inl (cI, 7, .inl dr)), (ad 2, .inr (0, [.ref (ad 3), .ref (ad 4), .ref (ad 5), .ref (ad 6), .int (nI K.1), .int (nI en)])), (ad 3, .inl (cI, 13, .inl K.2.1)), (ad 4, .inl (cI, 13, .inl K.2.2.1)), (ad 5, .inl (cI, 13, .inl K.2.2.2.1)), (ad 6, .inl (cI, 13, .inl K.2.2.2.2)), (ad 7, .inr (3, [.ref (ad 8), .ref (ad 9)])), (ad 8, .inl (cI, 292, .inl f)), (ad 9, .inl (cI, 40, .inl g)), (ad 10, .inr (0, [.ref (ad 11), .ref (ad 12), .ref (ad 13), .ref (ad 14), .int (nI U.1), .int (nI ea)])), (ad 11, .inl (cI, 13, .inl U.2.1)), (ad 12, .inl (cI, 13, .inl U.2.2.1)), (ad 13, .inl (cI, 13, .inl U.2.2.2.1)), (ad 14, .inl (cI, 13, .inl U.2.2.2.2)), (ad 15, .inr (2, [.ref (ad 16), .int (nI fc)])), (ad 16, .inl (cI, 12, .inl fd)), (ad 17, .inr (1, [.ref (ad 18), .ref (ad 19), .ref (ad 20), .int (nI st), .int (nI ff), .int (nI fn), .int (nI b)])), (ad 18, .inl (cZ, 6, .inl X)), (ad 19, .inl (cI, 6, .inl Y)), (ad 20, .inl (cI, 6, .inl Z))] := hD
        exact hret (K.2.2.1 j12) () _ _ _ _ (by rw [lo_in hx_ j12a j12b, if_neg (by decide), if_pos rfl]) rfl hP hD hS dn_X_look_65
      · skip
        refine lv_tableIn (off := 45) (tgt := 66) hx hb dn_X_look_21 (by decide) (by decide) rfl (by decide) ?_
        refine lv_aload_n hx hb dn_X_look_66 rfl (lv_at hl 0 rfl) ?_
        refine va_get (D := (dC, dI)) (ci := 4) (v := .ref (ad 2)) (C := rn_X) (T := tn_X) (N := 9) hx hb hw ml_X hown hK hP 0 rfl rfl 1 (by decide) (hw _ mw_99) (fun _ h9 => h9) rfl dn_X_look_67 ?_
        refine lv_iload_n hx hb dn_X_look_70 rfl (lv_at hl 1 rfl) ?_
        refine gc_vi (pre := [(ad 0, .inr (4, [.ref (ad 7), .ref (ad 2), .ref (ad 10), .ref (ad 17), .ref (ad 15), .ref (ad 1), .int (nI clk), .int 1, .int lf])), (ad 1, .inl (cI, 7, .inl dr))]) (wc := [(ad 2, .inr (0, [.ref (ad 3), .ref (ad 4), .ref (ad 5), .ref (ad 6), .int (nI K.1), .int (nI en)])), (ad 3, .inl (cI, 13, .inl K.2.1)), (ad 4, .inl (cI, 13, .inl K.2.2.1)), (ad 5, .inl (cI, 13, .inl K.2.2.2.1)), (ad 6, .inl (cI, 13, .inl K.2.2.2.2))]) (po := [(ad 7, .inr (3, [.ref (ad 8), .ref (ad 9)])), (ad 8, .inl (cI, 292, .inl f)), (ad 9, .inl (cI, 40, .inl g)), (ad 10, .inr (0, [.ref (ad 11), .ref (ad 12), .ref (ad 13), .ref (ad 14), .int (nI U.1), .int (nI ea)])), (ad 11, .inl (cI, 13, .inl U.2.1)), (ad 12, .inl (cI, 13, .inl U.2.2.1)), (ad 13, .inl (cI, 13, .inl U.2.2.2.1)), (ad 14, .inl (cI, 13, .inl U.2.2.2.2)), (ad 15, .inr (2, [.ref (ad 16), .int (nI fc)])), (ad 16, .inl (cI, 12, .inl fd)), (ad 17, .inr (1, [.ref (ad 18), .ref (ad 19), .ref (ad 20), .int (nI st), .int (nI ff), .int (nI fn), .int (nI b)])), (ad 18, .inl (cZ, 6, .inl X)), (ad 19, .inl (cI, 6, .inl Y)), (ad 20, .inl (cI, 6, .inl Z))]) (As := [.int (nI j12)]) (rest := []) ⟨hx, hb, hml, hown, hw⟩ (c_C_holdsOfN l dC dI cI cZ (ad 2) (ad 3) (ad 4) (ad 5) (ad 6) K en (by omega) j12 (by omega) (by omega)) (gw_cV 1 hw mw_285 mw_286 mw_287 mw_3 mw_288 hd_C_holdsOf ⟨Nat.le_of_ble_eq_true rfl, Nat.le_of_ble_eq_true rfl⟩) (ci := 0) rfl rfl rfl hK hP hD hS hA rfl hl.1 rfl (Nat.le_of_ble_eq_true rfl) dn_X_look_71 ⟨Nat.zero_le _, Nat.zero_le _⟩ (fun r71 u71 H locs hc71 hP hD hS => ?_)
        subst hc71
        have hP : va_P (dC, dI) vwCl [(ad 0, .inr (4, [.ref (ad 7), .ref (ad 2), .ref (ad 10), .ref (ad 17), .ref (ad 15), .ref (ad 1), .int (nI clk), .int 1, .int lf])), (ad 1, .inl (cI, 7, .inl dr)), (ad 2, .inr (0, [.ref (ad 3), .ref (ad 4), .ref (ad 5), .ref (ad 6), .int (nI K.1), .int (nI en)])), (ad 3, .inl (cI, 13, .inl K.2.1)), (ad 4, .inl (cI, 13, .inl K.2.2.1)), (ad 5, .inl (cI, 13, .inl K.2.2.2.1)), (ad 6, .inl (cI, 13, .inl K.2.2.2.2)), (ad 7, .inr (3, [.ref (ad 8), .ref (ad 9)])), (ad 8, .inl (cI, 292, .inl f)), (ad 9, .inl (cI, 40, .inl g)), (ad 10, .inr (0, [.ref (ad 11), .ref (ad 12), .ref (ad 13), .ref (ad 14), .int (nI U.1), .int (nI ea)])), (ad 11, .inl (cI, 13, .inl U.2.1)), (ad 12, .inl (cI, 13, .inl U.2.2.1)), (ad 13, .inl (cI, 13, .inl U.2.2.2.1)), (ad 14, .inl (cI, 13, .inl U.2.2.2.2)), (ad 15, .inr (2, [.ref (ad 16), .int (nI fc)])), (ad 16, .inl (cI, 12, .inl fd)), (ad 17, .inr (1, [.ref (ad 18), .ref (ad 19), .ref (ad 20), .int (nI st), .int (nI ff), .int (nI fn), .int (nI b)])), (ad 18, .inl (cZ, 6, .inl X)), (ad 19, .inl (cI, 6, .inl Y)), (ad 20, .inl (cI, 6, .inl Z))] H := hP
        have hD : va_D A [(ad 0, .inr (4, [.ref (ad 7), .ref (ad 2), .ref (ad 10), .ref (ad 17), .ref (ad 15), .ref (ad 1), .int (nI clk), .int 1, .int lf])), (ad 1, .inl (cI, 7, .inl dr)), (ad 2, .inr (0, [.ref (ad 3), .ref (ad 4), .ref (ad 5), .ref (ad 6), .int (nI K.1), .int (nI en)])), (ad 3, .inl (cI, 13, .inl K.2.1)), (ad 4, .inl (cI, 13, .inl K.2.2.1)), (ad 5, .inl (cI, 13, .inl K.2.2.2.1)), (ad 6, .inl (cI, 13, .inl K.2.2.2.2)), (ad 7, .inr (3, [.ref (ad 8), .ref (ad 9)])), (ad 8, .inl (cI, 292, .inl f)), (ad 9, .inl (cI, 40, .inl g)), (ad 10, .inr (0, [.ref (ad 11), .ref (ad 12), .ref (ad 13), .ref (ad 14), .int (nI U.1), .int (nI ea)])), (ad 11, .inl (cI, 13, .inl U.2.1)), (ad 12, .inl (cI, 13, .inl U.2.2.1)), (ad 13, .inl (cI, 13, .inl U.2.2.2.1)), (ad 14, .inl (cI, 13, .inl U.2.2.2.2)), (ad 15, .inr (2, [.ref (ad 16), .int (nI fc)])), (ad 16, .inl (cI, 12, .inl fd)), (ad 17, .inr (1, [.ref (ad 18), .ref (ad 19), .ref (ad 20), .int (nI st), .int (nI ff), .int (nI fn), .int (nI b)])), (ad 18, .inl (cZ, 6, .inl X)), (ad 19, .inl (cI, 6, .inl Y)), (ad 20, .inl (cI, 6, .inl Z))] := hD
        exact hret (K.2.2.2.1 j12) () _ _ _ _ (by rw [lo_in hx_ j12a j12b, if_neg (by decide), if_neg (by decide), if_pos rfl]) rfl hP hD hS dn_X_look_74
      · skip
        refine lv_tableOut (tgt := 75) hx hb dn_X_look_21 h21 (by decide) ?_
        refine lv_iconst (v := (-1)) hx hb dn_X_look_75 (by decide) ?_
        exact hret (-1) () _ _ _ _ (by rw [lo_in hx_ j12a j12b, if_neg (sw_n0 h21).1, if_neg (sw_n0 h21).2.1, if_neg (sw_n0 h21).2.2]) rfl hP hD hS dn_X_look_76
    · skip
      refine lv_if_ne (tgt := 20) hx hb dn_X_look_15 (by decide) (fun h => absurd h (by decide)) (fun _ => ?_)
      refine lv_iconst (v := (-1)) hx hb dn_X_look_18 (by decide) ?_
      exact hret (-1) () _ _ _ _ (lo_abs hx_ hno12) rfl hP hD hS dn_X_look_19

set_option maxRecDepth 100000 in
set_option maxHeartbeats 4000000 in
theorem c_X_records (l : Launch) (dC : Nat → ClassId) (dI : Nat → Nat → Nat) (cI cZ : ClassId) (ad : Nat → Nat) (clk : Nat) (lf : Int32) (dr : Nat → Int32) (K : ct_T) (en : Nat) (f g : Nat → Int32) (U : ct_T) (ea : Nat) (fd : Nat → Int32) (fc : Nat) (X Y Z : Nat → Int32) (st ff fn b : Nat) (pw : Int32) (hx_ : xr f clk pw K en) : gc_I l yn_X_records (gw yn_X_records cn_X_records 1 (some .int)) (rm_ 1 20) (dC, dI) vwCl (gT cI cZ) [.ref (ad 0)] [(ad 0, .inr (4, [.ref (ad 7), .ref (ad 2), .ref (ad 10), .ref (ad 17), .ref (ad 15), .ref (ad 1), .int (nI clk), .int pw, .int lf])), (ad 1, .inl (cI, 7, .inl dr)), (ad 2, .inr (0, [.ref (ad 3), .ref (ad 4), .ref (ad 5), .ref (ad 6), .int (nI K.1), .int (nI en)])), (ad 3, .inl (cI, 13, .inl K.2.1)), (ad 4, .inl (cI, 13, .inl K.2.2.1)), (ad 5, .inl (cI, 13, .inl K.2.2.2.1)), (ad 6, .inl (cI, 13, .inl K.2.2.2.2)), (ad 7, .inr (3, [.ref (ad 8), .ref (ad 9)])), (ad 8, .inl (cI, 292, .inl f)), (ad 9, .inl (cI, 40, .inl g)), (ad 10, .inr (0, [.ref (ad 11), .ref (ad 12), .ref (ad 13), .ref (ad 14), .int (nI U.1), .int (nI ea)])), (ad 11, .inl (cI, 13, .inl U.2.1)), (ad 12, .inl (cI, 13, .inl U.2.2.1)), (ad 13, .inl (cI, 13, .inl U.2.2.2.1)), (ad 14, .inl (cI, 13, .inl U.2.2.2.2)), (ad 15, .inr (2, [.ref (ad 16), .int (nI fc)])), (ad 16, .inl (cI, 12, .inl fd)), (ad 17, .inr (1, [.ref (ad 18), .ref (ad 19), .ref (ad 20), .int (nI st), .int (nI ff), .int (nI fn), .int (nI b)])), (ad 18, .inl (cZ, 6, .inl X)), (ad 19, .inl (cI, 6, .inl Y)), (ad 20, .inl (cI, 6, .inl Z))] (fun r (_ : Unit) => r = an_rec f clk pw) (fun _ => [(ad 0, .inr (4, [.ref (ad 7), .ref (ad 2), .ref (ad 10), .ref (ad 17), .ref (ad 15), .ref (ad 1), .int (nI clk), .int pw, .int lf])), (ad 1, .inl (cI, 7, .inl dr)), (ad 2, .inr (0, [.ref (ad 3), .ref (ad 4), .ref (ad 5), .ref (ad 6), .int (nI K.1), .int (nI en)])), (ad 3, .inl (cI, 13, .inl K.2.1)), (ad 4, .inl (cI, 13, .inl K.2.2.1)), (ad 5, .inl (cI, 13, .inl K.2.2.2.1)), (ad 6, .inl (cI, 13, .inl K.2.2.2.2)), (ad 7, .inr (3, [.ref (ad 8), .ref (ad 9)])), (ad 8, .inl (cI, 292, .inl f)), (ad 9, .inl (cI, 40, .inl g)), (ad 10, .inr (0, [.ref (ad 11), .ref (ad 12), .ref (ad 13), .ref (ad 14), .int (nI U.1), .int (nI ea)])), (ad 11, .inl (cI, 13, .inl U.2.1)), (ad 12, .inl (cI, 13, .inl U.2.2.1)), (ad 13, .inl (cI, 13, .inl U.2.2.2.1)), (ad 14, .inl (cI, 13, .inl U.2.2.2.2)), (ad 15, .inr (2, [.ref (ad 16), .int (nI fc)])), (ad 16, .inl (cI, 12, .inl fd)), (ad 17, .inr (1, [.ref (ad 18), .ref (ad 19), .ref (ad 20), .int (nI st), .int (nI ff), .int (nI fn), .int (nI b)])), (ad 18, .inl (cZ, 6, .inl X)), (ad 19, .inl (cI, 6, .inl Y)), (ad 20, .inl (cI, 6, .inl Z))]) := by
  refine gc_I_of (cc := cn_X_records) (maxL := 1) (ty := .int) (by decide) rfl (Nat.le_of_ble_eq_true rfl) ?_
  intro pp ee ss mm ar be me cd A Q ls H0 H locs hx hb hml hown hts hK hP hD hS hA hl hret
  have hw : ∀ w ∈ gw_T, w.before ar ss = true := fun w h => hts w (List.mem_cons_of_mem _ h)
  have hl : lv_has ls 1 [(0, .ref (ad 0))] := hl
  rcases hx_.1 with rfl | rfl
  · skip
    refine lv_aload_n hx hb dn_X_records_0 rfl (lv_at hl 0 rfl) ?_
    refine va_get (D := (dC, dI)) (ci := 4) (v := .int 0) (C := rn_X) (T := tn_X) (N := 9) hx hb hw ml_X hown hK hP 0 rfl rfl 7 (by decide) (hw _ mw_105) (fun _ h9 => h9) rfl dn_X_records_1 ?_
    refine lv_if_eq (tgt := 17) hx hb dn_X_records_4 (by decide) (fun _ => ?_) (fun h => absurd h (by decide))
    refine lv_iconst (v := (-1)) hx hb dn_X_records_17 (by decide) ?_
    exact hret (-1) () _ _ _ _ (re_off rfl) rfl hP hD hS dn_X_records_18
  · skip
    have ho := hx_.2.1
    refine lv_aload_n hx hb dn_X_records_0 rfl (lv_at hl 0 rfl) ?_
    refine va_get (D := (dC, dI)) (ci := 4) (v := .int 1) (C := rn_X) (T := tn_X) (N := 9) hx hb hw ml_X hown hK hP 0 rfl rfl 7 (by decide) (hw _ mw_105) (fun _ h9 => h9) rfl dn_X_records_1 ?_
    refine lv_if_eq (tgt := 17) hx hb dn_X_records_4 (by decide) (fun h => absurd h (by decide)) (fun _ => ?_)
    refine lv_aload_n hx hb dn_X_records_7 rfl (lv_at hl 0 rfl) ?_
    refine va_get (D := (dC, dI)) (ci := 4) (v := .ref (ad 2)) (C := rn_X) (T := tn_X) (N := 9) hx hb hw ml_X hown hK hP 0 rfl rfl 1 (by decide) (hw _ mw_99) (fun _ h9 => h9) rfl dn_X_records_8 ?_
    refine gc_vi (pre := [(ad 0, .inr (4, [.ref (ad 7), .ref (ad 2), .ref (ad 10), .ref (ad 17), .ref (ad 15), .ref (ad 1), .int (nI clk), .int 1, .int lf])), (ad 1, .inl (cI, 7, .inl dr))]) (wc := [(ad 2, .inr (0, [.ref (ad 3), .ref (ad 4), .ref (ad 5), .ref (ad 6), .int (nI K.1), .int (nI en)])), (ad 3, .inl (cI, 13, .inl K.2.1)), (ad 4, .inl (cI, 13, .inl K.2.2.1)), (ad 5, .inl (cI, 13, .inl K.2.2.2.1)), (ad 6, .inl (cI, 13, .inl K.2.2.2.2))]) (po := [(ad 7, .inr (3, [.ref (ad 8), .ref (ad 9)])), (ad 8, .inl (cI, 292, .inl f)), (ad 9, .inl (cI, 40, .inl g)), (ad 10, .inr (0, [.ref (ad 11), .ref (ad 12), .ref (ad 13), .ref (ad 14), .int (nI U.1), .int (nI ea)])), (ad 11, .inl (cI, 13, .inl U.2.1)), (ad 12, .inl (cI, 13, .inl U.2.2.1)), (ad 13, .inl (cI, 13, .inl U.2.2.2.1)), (ad 14, .inl (cI, 13, .inl U.2.2.2.2)), (ad 15, .inr (2, [.ref (ad 16), .int (nI fc)])), (ad 16, .inl (cI, 12, .inl fd)), (ad 17, .inr (1, [.ref (ad 18), .ref (ad 19), .ref (ad 20), .int (nI st), .int (nI ff), .int (nI fn), .int (nI b)])), (ad 18, .inl (cZ, 6, .inl X)), (ad 19, .inl (cI, 6, .inl Y)), (ad 20, .inl (cI, 6, .inl Z))]) (As := []) (rest := []) ⟨hx, hb, hml, hown, hw⟩ (c_C_recordCount l dC dI cI cZ (ad 2) (ad 3) (ad 4) (ad 5) (ad 6) K en (by omega) ) (gw_cV 0 hw mw_209 mw_210 mw_211 mw_3 mw_212 hd_C_recordCount ⟨Nat.le_of_ble_eq_true rfl, Nat.le_of_ble_eq_true rfl⟩) (ci := 0) rfl rfl rfl hK hP hD hS hA rfl hl.1 rfl (Nat.le_of_ble_eq_true rfl) dn_X_records_11 ⟨Nat.zero_le _, Nat.zero_le _⟩ (fun r11 u11 H locs hc11 hP hD hS => ?_)
    subst hc11
    have hP : va_P (dC, dI) vwCl [(ad 0, .inr (4, [.ref (ad 7), .ref (ad 2), .ref (ad 10), .ref (ad 17), .ref (ad 15), .ref (ad 1), .int (nI clk), .int 1, .int lf])), (ad 1, .inl (cI, 7, .inl dr)), (ad 2, .inr (0, [.ref (ad 3), .ref (ad 4), .ref (ad 5), .ref (ad 6), .int (nI K.1), .int (nI en)])), (ad 3, .inl (cI, 13, .inl K.2.1)), (ad 4, .inl (cI, 13, .inl K.2.2.1)), (ad 5, .inl (cI, 13, .inl K.2.2.2.1)), (ad 6, .inl (cI, 13, .inl K.2.2.2.2)), (ad 7, .inr (3, [.ref (ad 8), .ref (ad 9)])), (ad 8, .inl (cI, 292, .inl f)), (ad 9, .inl (cI, 40, .inl g)), (ad 10, .inr (0, [.ref (ad 11), .ref (ad 12), .ref (ad 13), .ref (ad 14), .int (nI U.1), .int (nI ea)])), (ad 11, .inl (cI, 13, .inl U.2.1)), (ad 12, .inl (cI, 13, .inl U.2.2.1)), (ad 13, .inl (cI, 13, .inl U.2.2.2.1)), (ad 14, .inl (cI, 13, .inl U.2.2.2.2)), (ad 15, .inr (2, [.ref (ad 16), .int (nI fc)])), (ad 16, .inl (cI, 12, .inl fd)), (ad 17, .inr (1, [.ref (ad 18), .ref (ad 19), .ref (ad 20), .int (nI st), .int (nI ff), .int (nI fn), .int (nI b)])), (ad 18, .inl (cZ, 6, .inl X)), (ad 19, .inl (cI, 6, .inl Y)), (ad 20, .inl (cI, 6, .inl Z))] H := hP
    have hD : va_D A [(ad 0, .inr (4, [.ref (ad 7), .ref (ad 2), .ref (ad 10), .ref (ad 17), .ref (ad 15), .ref (ad 1), .int (nI clk), .int 1, .int lf])), (ad 1, .inl (cI, 7, .inl dr)), (ad 2, .inr (0, [.ref (ad 3), .ref (ad 4), .ref (ad 5), .ref (ad 6), .int (nI K.1), .int (nI en)])), (ad 3, .inl (cI, 13, .inl K.2.1)), (ad 4, .inl (cI, 13, .inl K.2.2.1)), (ad 5, .inl (cI, 13, .inl K.2.2.2.1)), (ad 6, .inl (cI, 13, .inl K.2.2.2.2)), (ad 7, .inr (3, [.ref (ad 8), .ref (ad 9)])), (ad 8, .inl (cI, 292, .inl f)), (ad 9, .inl (cI, 40, .inl g)), (ad 10, .inr (0, [.ref (ad 11), .ref (ad 12), .ref (ad 13), .ref (ad 14), .int (nI U.1), .int (nI ea)])), (ad 11, .inl (cI, 13, .inl U.2.1)), (ad 12, .inl (cI, 13, .inl U.2.2.1)), (ad 13, .inl (cI, 13, .inl U.2.2.2.1)), (ad 14, .inl (cI, 13, .inl U.2.2.2.2)), (ad 15, .inr (2, [.ref (ad 16), .int (nI fc)])), (ad 16, .inl (cI, 12, .inl fd)), (ad 17, .inr (1, [.ref (ad 18), .ref (ad 19), .ref (ad 20), .int (nI st), .int (nI ff), .int (nI fn), .int (nI b)])), (ad 18, .inl (cZ, 6, .inl X)), (ad 19, .inl (cI, 6, .inl Y)), (ad 20, .inl (cI, 6, .inl Z))] := hD
    refine lv_goto (tgt := 18) hx hb dn_X_records_14 (by decide) ?_
    exact hret (nI en) () _ _ _ _ (re_on hx_) rfl hP hD hS dn_X_records_18

set_option maxRecDepth 100000 in
set_option maxHeartbeats 4000000 in
theorem c_X_root (l : Launch) (dC : Nat → ClassId) (dI : Nat → Nat → Nat) (cI cZ : ClassId) (ad : Nat → Nat) (clk : Nat) (lf : Int32) (dr : Nat → Int32) (K : ct_T) (en : Nat) (f g : Nat → Int32) (U : ct_T) (ea : Nat) (fd : Nat → Int32) (fc : Nat) (X Y Z : Nat → Int32) (st ff fn b : Nat) (pw : Int32) (hx_ : xr f clk pw K en) (n : Int32) : gc_L l yn_X_root (gw yn_X_root cn_X_root 2 (some .long)) (rm_ 6 131) (dC, dI) vwCl (gT cI cZ) [.ref (ad 0), .int n] [(ad 0, .inr (4, [.ref (ad 7), .ref (ad 2), .ref (ad 10), .ref (ad 17), .ref (ad 15), .ref (ad 1), .int (nI clk), .int pw, .int lf])), (ad 1, .inl (cI, 7, .inl dr)), (ad 2, .inr (0, [.ref (ad 3), .ref (ad 4), .ref (ad 5), .ref (ad 6), .int (nI K.1), .int (nI en)])), (ad 3, .inl (cI, 13, .inl K.2.1)), (ad 4, .inl (cI, 13, .inl K.2.2.1)), (ad 5, .inl (cI, 13, .inl K.2.2.2.1)), (ad 6, .inl (cI, 13, .inl K.2.2.2.2)), (ad 7, .inr (3, [.ref (ad 8), .ref (ad 9)])), (ad 8, .inl (cI, 292, .inl f)), (ad 9, .inl (cI, 40, .inl g)), (ad 10, .inr (0, [.ref (ad 11), .ref (ad 12), .ref (ad 13), .ref (ad 14), .int (nI U.1), .int (nI ea)])), (ad 11, .inl (cI, 13, .inl U.2.1)), (ad 12, .inl (cI, 13, .inl U.2.2.1)), (ad 13, .inl (cI, 13, .inl U.2.2.2.1)), (ad 14, .inl (cI, 13, .inl U.2.2.2.2)), (ad 15, .inr (2, [.ref (ad 16), .int (nI fc)])), (ad 16, .inl (cI, 12, .inl fd)), (ad 17, .inr (1, [.ref (ad 18), .ref (ad 19), .ref (ad 20), .int (nI st), .int (nI ff), .int (nI fn), .int (nI b)])), (ad 18, .inl (cZ, 6, .inl X)), (ad 19, .inl (cI, 6, .inl Y)), (ad 20, .inl (cI, 6, .inl Z))] (fun r (_ : Unit) => r = an_root f g clk pw n) (fun _ => [(ad 0, .inr (4, [.ref (ad 7), .ref (ad 2), .ref (ad 10), .ref (ad 17), .ref (ad 15), .ref (ad 1), .int (nI clk), .int pw, .int lf])), (ad 1, .inl (cI, 7, .inl dr)), (ad 2, .inr (0, [.ref (ad 3), .ref (ad 4), .ref (ad 5), .ref (ad 6), .int (nI K.1), .int (nI en)])), (ad 3, .inl (cI, 13, .inl K.2.1)), (ad 4, .inl (cI, 13, .inl K.2.2.1)), (ad 5, .inl (cI, 13, .inl K.2.2.2.1)), (ad 6, .inl (cI, 13, .inl K.2.2.2.2)), (ad 7, .inr (3, [.ref (ad 8), .ref (ad 9)])), (ad 8, .inl (cI, 292, .inl f)), (ad 9, .inl (cI, 40, .inl (nx_root f g clk pw n))), (ad 10, .inr (0, [.ref (ad 11), .ref (ad 12), .ref (ad 13), .ref (ad 14), .int (nI U.1), .int (nI ea)])), (ad 11, .inl (cI, 13, .inl U.2.1)), (ad 12, .inl (cI, 13, .inl U.2.2.1)), (ad 13, .inl (cI, 13, .inl U.2.2.2.1)), (ad 14, .inl (cI, 13, .inl U.2.2.2.2)), (ad 15, .inr (2, [.ref (ad 16), .int (nI fc)])), (ad 16, .inl (cI, 12, .inl fd)), (ad 17, .inr (1, [.ref (ad 18), .ref (ad 19), .ref (ad 20), .int (nI st), .int (nI ff), .int (nI fn), .int (nI b)])), (ad 18, .inl (cZ, 6, .inl X)), (ad 19, .inl (cI, 6, .inl Y)), (ad 20, .inl (cI, 6, .inl Z))]) := by
  refine gc_L_of (cc := cn_X_root) (maxL := 2) (by decide) rfl (Nat.le_of_ble_eq_true rfl) ?_
  intro pp ee ss mm ar be me cd A Q ls H0 H locs hx hb hml hown hts hK hP hD hS hA hl hret
  have hw : ∀ w ∈ gw_T, w.before ar ss = true := fun w h => hts w (List.mem_cons_of_mem _ h)
  have hl : lv_has ls 2 [(0, .ref (ad 0)), (1, .int n)] := hl
  rcases hx_.1 with rfl | rfl
  · skip
    refine lv_aload_n hx hb dn_X_root_0 rfl (lv_at hl 0 rfl) ?_
    refine va_get (D := (dC, dI)) (ci := 4) (v := .int 0) (C := rn_X) (T := tn_X) (N := 9) hx hb hw ml_X hown hK hP 0 rfl rfl 7 (by decide) (hw _ mw_105) (fun _ h9 => h9) rfl dn_X_root_1 ?_
    refine lv_if_eq (tgt := 22) hx hb dn_X_root_4 (by decide) (fun _ => ?_) (fun h => absurd h (by decide))
    refine lv_ldc2 (v := 1099511627776) hx hb hown (hw _ mw_260) dn_X_root_22 ?_
    have hP : va_P (dC, dI) vwCl [(ad 0, .inr (4, [.ref (ad 7), .ref (ad 2), .ref (ad 10), .ref (ad 17), .ref (ad 15), .ref (ad 1), .int (nI clk), .int 0, .int lf])), (ad 1, .inl (cI, 7, .inl dr)), (ad 2, .inr (0, [.ref (ad 3), .ref (ad 4), .ref (ad 5), .ref (ad 6), .int (nI K.1), .int (nI en)])), (ad 3, .inl (cI, 13, .inl K.2.1)), (ad 4, .inl (cI, 13, .inl K.2.2.1)), (ad 5, .inl (cI, 13, .inl K.2.2.2.1)), (ad 6, .inl (cI, 13, .inl K.2.2.2.2)), (ad 7, .inr (3, [.ref (ad 8), .ref (ad 9)])), (ad 8, .inl (cI, 292, .inl f)), (ad 9, .inl (cI, 40, .inl (nx_root f g clk 0 n))), (ad 10, .inr (0, [.ref (ad 11), .ref (ad 12), .ref (ad 13), .ref (ad 14), .int (nI U.1), .int (nI ea)])), (ad 11, .inl (cI, 13, .inl U.2.1)), (ad 12, .inl (cI, 13, .inl U.2.2.1)), (ad 13, .inl (cI, 13, .inl U.2.2.2.1)), (ad 14, .inl (cI, 13, .inl U.2.2.2.2)), (ad 15, .inr (2, [.ref (ad 16), .int (nI fc)])), (ad 16, .inl (cI, 12, .inl fd)), (ad 17, .inr (1, [.ref (ad 18), .ref (ad 19), .ref (ad 20), .int (nI st), .int (nI ff), .int (nI fn), .int (nI b)])), (ad 18, .inl (cZ, 6, .inl X)), (ad 19, .inl (cI, 6, .inl Y)), (ad 20, .inl (cI, 6, .inl Z))] H := by rw [← (ro_off (f := f) (g := g) (clk := clk) (w := n) (pw := 0) rfl).2]; exact hP
    have hD : va_D A [(ad 0, .inr (4, [.ref (ad 7), .ref (ad 2), .ref (ad 10), .ref (ad 17), .ref (ad 15), .ref (ad 1), .int (nI clk), .int 0, .int lf])), (ad 1, .inl (cI, 7, .inl dr)), (ad 2, .inr (0, [.ref (ad 3), .ref (ad 4), .ref (ad 5), .ref (ad 6), .int (nI K.1), .int (nI en)])), (ad 3, .inl (cI, 13, .inl K.2.1)), (ad 4, .inl (cI, 13, .inl K.2.2.1)), (ad 5, .inl (cI, 13, .inl K.2.2.2.1)), (ad 6, .inl (cI, 13, .inl K.2.2.2.2)), (ad 7, .inr (3, [.ref (ad 8), .ref (ad 9)])), (ad 8, .inl (cI, 292, .inl f)), (ad 9, .inl (cI, 40, .inl (nx_root f g clk 0 n))), (ad 10, .inr (0, [.ref (ad 11), .ref (ad 12), .ref (ad 13), .ref (ad 14), .int (nI U.1), .int (nI ea)])), (ad 11, .inl (cI, 13, .inl U.2.1)), (ad 12, .inl (cI, 13, .inl U.2.2.1)), (ad 13, .inl (cI, 13, .inl U.2.2.2.1)), (ad 14, .inl (cI, 13, .inl U.2.2.2.2)), (ad 15, .inr (2, [.ref (ad 16), .int (nI fc)])), (ad 16, .inl (cI, 12, .inl fd)), (ad 17, .inr (1, [.ref (ad 18), .ref (ad 19), .ref (ad 20), .int (nI st), .int (nI ff), .int (nI fn), .int (nI b)])), (ad 18, .inl (cZ, 6, .inl X)), (ad 19, .inl (cI, 6, .inl Y)), (ad 20, .inl (cI, 6, .inl Z))] := by rw [← (ro_off (f := f) (g := g) (clk := clk) (w := n) (pw := 0) rfl).2]; exact hD
    exact hret 1099511627776 () _ _ _ _ (ro_off (f := f) (g := g) (clk := clk) (w := n) rfl).1 hP hD hS dn_X_root_25
  · skip
    have ho := hx_.2.1
    have hen := hx_.2.2.1
    refine lv_aload_n hx hb dn_X_root_0 rfl (lv_at hl 0 rfl) ?_
    refine va_get (D := (dC, dI)) (ci := 4) (v := .int 1) (C := rn_X) (T := tn_X) (N := 9) hx hb hw ml_X hown hK hP 0 rfl rfl 7 (by decide) (hw _ mw_105) (fun _ h9 => h9) rfl dn_X_root_1 ?_
    refine lv_if_eq (tgt := 22) hx hb dn_X_root_4 (by decide) (fun h => absurd h (by decide)) (fun _ => ?_)
    refine lv_iload_n hx hb dn_X_root_7 rfl (lv_at hl 1 rfl) ?_
    refine lv_if_lt (tgt := 22) hx hb dn_X_root_8 (by decide) (fun h8 => ?_) (fun h8 => ?_)
    · skip
      refine lv_ldc2 (v := 1099511627776) hx hb hown (hw _ mw_260) dn_X_root_22 ?_
      have hb_ : n < 0 ∨ nI en < n := by first | exact Or.inl h8 | exact Or.inr (Int32.not_le.mp h19)
      have hP : va_P (dC, dI) vwCl [(ad 0, .inr (4, [.ref (ad 7), .ref (ad 2), .ref (ad 10), .ref (ad 17), .ref (ad 15), .ref (ad 1), .int (nI clk), .int 1, .int lf])), (ad 1, .inl (cI, 7, .inl dr)), (ad 2, .inr (0, [.ref (ad 3), .ref (ad 4), .ref (ad 5), .ref (ad 6), .int (nI K.1), .int (nI en)])), (ad 3, .inl (cI, 13, .inl K.2.1)), (ad 4, .inl (cI, 13, .inl K.2.2.1)), (ad 5, .inl (cI, 13, .inl K.2.2.2.1)), (ad 6, .inl (cI, 13, .inl K.2.2.2.2)), (ad 7, .inr (3, [.ref (ad 8), .ref (ad 9)])), (ad 8, .inl (cI, 292, .inl f)), (ad 9, .inl (cI, 40, .inl (nx_root f g clk 1 n))), (ad 10, .inr (0, [.ref (ad 11), .ref (ad 12), .ref (ad 13), .ref (ad 14), .int (nI U.1), .int (nI ea)])), (ad 11, .inl (cI, 13, .inl U.2.1)), (ad 12, .inl (cI, 13, .inl U.2.2.1)), (ad 13, .inl (cI, 13, .inl U.2.2.2.1)), (ad 14, .inl (cI, 13, .inl U.2.2.2.2)), (ad 15, .inr (2, [.ref (ad 16), .int (nI fc)])), (ad 16, .inl (cI, 12, .inl fd)), (ad 17, .inr (1, [.ref (ad 18), .ref (ad 19), .ref (ad 20), .int (nI st), .int (nI ff), .int (nI fn), .int (nI b)])), (ad 18, .inl (cZ, 6, .inl X)), (ad 19, .inl (cI, 6, .inl Y)), (ad 20, .inl (cI, 6, .inl Z))] H := by rw [← (ro_no (g := g) hx_ hb_).2]; exact hP
      have hD : va_D A [(ad 0, .inr (4, [.ref (ad 7), .ref (ad 2), .ref (ad 10), .ref (ad 17), .ref (ad 15), .ref (ad 1), .int (nI clk), .int 1, .int lf])), (ad 1, .inl (cI, 7, .inl dr)), (ad 2, .inr (0, [.ref (ad 3), .ref (ad 4), .ref (ad 5), .ref (ad 6), .int (nI K.1), .int (nI en)])), (ad 3, .inl (cI, 13, .inl K.2.1)), (ad 4, .inl (cI, 13, .inl K.2.2.1)), (ad 5, .inl (cI, 13, .inl K.2.2.2.1)), (ad 6, .inl (cI, 13, .inl K.2.2.2.2)), (ad 7, .inr (3, [.ref (ad 8), .ref (ad 9)])), (ad 8, .inl (cI, 292, .inl f)), (ad 9, .inl (cI, 40, .inl (nx_root f g clk 1 n))), (ad 10, .inr (0, [.ref (ad 11), .ref (ad 12), .ref (ad 13), .ref (ad 14), .int (nI U.1), .int (nI ea)])), (ad 11, .inl (cI, 13, .inl U.2.1)), (ad 12, .inl (cI, 13, .inl U.2.2.1)), (ad 13, .inl (cI, 13, .inl U.2.2.2.1)), (ad 14, .inl (cI, 13, .inl U.2.2.2.2)), (ad 15, .inr (2, [.ref (ad 16), .int (nI fc)])), (ad 16, .inl (cI, 12, .inl fd)), (ad 17, .inr (1, [.ref (ad 18), .ref (ad 19), .ref (ad 20), .int (nI st), .int (nI ff), .int (nI fn), .int (nI b)])), (ad 18, .inl (cZ, 6, .inl X)), (ad 19, .inl (cI, 6, .inl Y)), (ad 20, .inl (cI, 6, .inl Z))] := by rw [← (ro_no (g := g) hx_ hb_).2]; exact hD
      exact hret 1099511627776 () _ _ _ _ (ro_no (g := g) hx_ hb_).1 hP hD hS dn_X_root_25
    · skip
      refine lv_iload_n hx hb dn_X_root_11 rfl (lv_at hl 1 rfl) ?_
      refine lv_aload_n hx hb dn_X_root_12 rfl (lv_at hl 0 rfl) ?_
      refine va_get (D := (dC, dI)) (ci := 4) (v := .ref (ad 2)) (C := rn_X) (T := tn_X) (N := 9) hx hb hw ml_X hown hK hP 0 rfl rfl 1 (by decide) (hw _ mw_99) (fun _ h9 => h9) rfl dn_X_root_13 ?_
      refine gc_vi (pre := [(ad 0, .inr (4, [.ref (ad 7), .ref (ad 2), .ref (ad 10), .ref (ad 17), .ref (ad 15), .ref (ad 1), .int (nI clk), .int 1, .int lf])), (ad 1, .inl (cI, 7, .inl dr))]) (wc := [(ad 2, .inr (0, [.ref (ad 3), .ref (ad 4), .ref (ad 5), .ref (ad 6), .int (nI K.1), .int (nI en)])), (ad 3, .inl (cI, 13, .inl K.2.1)), (ad 4, .inl (cI, 13, .inl K.2.2.1)), (ad 5, .inl (cI, 13, .inl K.2.2.2.1)), (ad 6, .inl (cI, 13, .inl K.2.2.2.2))]) (po := [(ad 7, .inr (3, [.ref (ad 8), .ref (ad 9)])), (ad 8, .inl (cI, 292, .inl f)), (ad 9, .inl (cI, 40, .inl g)), (ad 10, .inr (0, [.ref (ad 11), .ref (ad 12), .ref (ad 13), .ref (ad 14), .int (nI U.1), .int (nI ea)])), (ad 11, .inl (cI, 13, .inl U.2.1)), (ad 12, .inl (cI, 13, .inl U.2.2.1)), (ad 13, .inl (cI, 13, .inl U.2.2.2.1)), (ad 14, .inl (cI, 13, .inl U.2.2.2.2)), (ad 15, .inr (2, [.ref (ad 16), .int (nI fc)])), (ad 16, .inl (cI, 12, .inl fd)), (ad 17, .inr (1, [.ref (ad 18), .ref (ad 19), .ref (ad 20), .int (nI st), .int (nI ff), .int (nI fn), .int (nI b)])), (ad 18, .inl (cZ, 6, .inl X)), (ad 19, .inl (cI, 6, .inl Y)), (ad 20, .inl (cI, 6, .inl Z))]) (As := []) (rest := [.int n]) ⟨hx, hb, hml, hown, hw⟩ (c_C_recordCount l dC dI cI cZ (ad 2) (ad 3) (ad 4) (ad 5) (ad 6) K en (by omega) ) (gw_cV 0 hw mw_209 mw_210 mw_211 mw_3 mw_212 hd_C_recordCount ⟨Nat.le_of_ble_eq_true rfl, Nat.le_of_ble_eq_true rfl⟩) (ci := 0) rfl rfl rfl hK hP hD hS hA rfl hl.1 rfl (Nat.le_of_ble_eq_true rfl) dn_X_root_16 ⟨Nat.zero_le _, Nat.zero_le _⟩ (fun r16 u16 H locs hc16 hP hD hS => ?_)
      subst hc16
      have hP : va_P (dC, dI) vwCl [(ad 0, .inr (4, [.ref (ad 7), .ref (ad 2), .ref (ad 10), .ref (ad 17), .ref (ad 15), .ref (ad 1), .int (nI clk), .int 1, .int lf])), (ad 1, .inl (cI, 7, .inl dr)), (ad 2, .inr (0, [.ref (ad 3), .ref (ad 4), .ref (ad 5), .ref (ad 6), .int (nI K.1), .int (nI en)])), (ad 3, .inl (cI, 13, .inl K.2.1)), (ad 4, .inl (cI, 13, .inl K.2.2.1)), (ad 5, .inl (cI, 13, .inl K.2.2.2.1)), (ad 6, .inl (cI, 13, .inl K.2.2.2.2)), (ad 7, .inr (3, [.ref (ad 8), .ref (ad 9)])), (ad 8, .inl (cI, 292, .inl f)), (ad 9, .inl (cI, 40, .inl g)), (ad 10, .inr (0, [.ref (ad 11), .ref (ad 12), .ref (ad 13), .ref (ad 14), .int (nI U.1), .int (nI ea)])), (ad 11, .inl (cI, 13, .inl U.2.1)), (ad 12, .inl (cI, 13, .inl U.2.2.1)), (ad 13, .inl (cI, 13, .inl U.2.2.2.1)), (ad 14, .inl (cI, 13, .inl U.2.2.2.2)), (ad 15, .inr (2, [.ref (ad 16), .int (nI fc)])), (ad 16, .inl (cI, 12, .inl fd)), (ad 17, .inr (1, [.ref (ad 18), .ref (ad 19), .ref (ad 20), .int (nI st), .int (nI ff), .int (nI fn), .int (nI b)])), (ad 18, .inl (cZ, 6, .inl X)), (ad 19, .inl (cI, 6, .inl Y)), (ad 20, .inl (cI, 6, .inl Z))] H := hP
      have hD : va_D A [(ad 0, .inr (4, [.ref (ad 7), .ref (ad 2), .ref (ad 10), .ref (ad 17), .ref (ad 15), .ref (ad 1), .int (nI clk), .int 1, .int lf])), (ad 1, .inl (cI, 7, .inl dr)), (ad 2, .inr (0, [.ref (ad 3), .ref (ad 4), .ref (ad 5), .ref (ad 6), .int (nI K.1), .int (nI en)])), (ad 3, .inl (cI, 13, .inl K.2.1)), (ad 4, .inl (cI, 13, .inl K.2.2.1)), (ad 5, .inl (cI, 13, .inl K.2.2.2.1)), (ad 6, .inl (cI, 13, .inl K.2.2.2.2)), (ad 7, .inr (3, [.ref (ad 8), .ref (ad 9)])), (ad 8, .inl (cI, 292, .inl f)), (ad 9, .inl (cI, 40, .inl g)), (ad 10, .inr (0, [.ref (ad 11), .ref (ad 12), .ref (ad 13), .ref (ad 14), .int (nI U.1), .int (nI ea)])), (ad 11, .inl (cI, 13, .inl U.2.1)), (ad 12, .inl (cI, 13, .inl U.2.2.1)), (ad 13, .inl (cI, 13, .inl U.2.2.2.1)), (ad 14, .inl (cI, 13, .inl U.2.2.2.2)), (ad 15, .inr (2, [.ref (ad 16), .int (nI fc)])), (ad 16, .inl (cI, 12, .inl fd)), (ad 17, .inr (1, [.ref (ad 18), .ref (ad 19), .ref (ad 20), .int (nI st), .int (nI ff), .int (nI fn), .int (nI b)])), (ad 18, .inl (cZ, 6, .inl X)), (ad 19, .inl (cI, 6, .inl Y)), (ad 20, .inl (cI, 6, .inl Z))] := hD
      refine lv_icmp_le (tgt := 26) hx hb dn_X_root_19 (by decide) (fun h19 => ?_) (fun h19 => ?_)
      · skip
        obtain ⟨m, hm_, rfl⟩ := nI_le2 (by omega) h8 h19
        refine lv_aload_n hx hb dn_X_root_26 rfl (lv_at hl 0 rfl) ?_
        refine va_get (D := (dC, dI)) (ci := 4) (v := .ref (ad 7)) (C := rn_X) (T := tn_X) (N := 9) hx hb hw ml_X hown hK hP 0 rfl rfl 0 (by decide) (hw _ mw_98) (fun _ h9 => h9) rfl dn_X_root_27 ?_
        refine lv_iload_n hx hb dn_X_root_30 rfl (lv_at hl 1 rfl) ?_
        refine gc_vi (pre := [(ad 0, .inr (4, [.ref (ad 7), .ref (ad 2), .ref (ad 10), .ref (ad 17), .ref (ad 15), .ref (ad 1), .int (nI clk), .int 1, .int lf])), (ad 1, .inl (cI, 7, .inl dr)), (ad 2, .inr (0, [.ref (ad 3), .ref (ad 4), .ref (ad 5), .ref (ad 6), .int (nI K.1), .int (nI en)])), (ad 3, .inl (cI, 13, .inl K.2.1)), (ad 4, .inl (cI, 13, .inl K.2.2.1)), (ad 5, .inl (cI, 13, .inl K.2.2.2.1)), (ad 6, .inl (cI, 13, .inl K.2.2.2.2))]) (wc := [(ad 7, .inr (3, [.ref (ad 8), .ref (ad 9)])), (ad 8, .inl (cI, 292, .inl f)), (ad 9, .inl (cI, 40, .inl g))]) (po := [(ad 10, .inr (0, [.ref (ad 11), .ref (ad 12), .ref (ad 13), .ref (ad 14), .int (nI U.1), .int (nI ea)])), (ad 11, .inl (cI, 13, .inl U.2.1)), (ad 12, .inl (cI, 13, .inl U.2.2.1)), (ad 13, .inl (cI, 13, .inl U.2.2.2.1)), (ad 14, .inl (cI, 13, .inl U.2.2.2.2)), (ad 15, .inr (2, [.ref (ad 16), .int (nI fc)])), (ad 16, .inl (cI, 12, .inl fd)), (ad 17, .inr (1, [.ref (ad 18), .ref (ad 19), .ref (ad 20), .int (nI st), .int (nI ff), .int (nI fn), .int (nI b)])), (ad 18, .inl (cZ, 6, .inl X)), (ad 19, .inl (cI, 6, .inl Y)), (ad 20, .inl (cI, 6, .inl Z))]) (As := [.int (nI m)]) (rest := []) ⟨hx, hb, hml, hown, hw⟩ (c_G_rootOf l dC dI cI cZ (ad 7) (ad 8) (ad 9) f g m (by omega)) (gw_cV 1 hw mw_297 mw_298 mw_299 mw_2 mw_300 hd_G_rootOf ⟨Nat.le_of_ble_eq_true rfl, Nat.le_of_ble_eq_true rfl⟩) (ci := 3) rfl rfl rfl hK hP hD hS hA rfl hl.1 rfl (Nat.le_of_ble_eq_true rfl) dn_X_root_31 ⟨Nat.zero_le _, Nat.zero_le _⟩ (fun r31 u31 H locs hc31 hP hD hS => ?_)
        subst hc31
        have hP : va_P (dC, dI) vwCl [(ad 0, .inr (4, [.ref (ad 7), .ref (ad 2), .ref (ad 10), .ref (ad 17), .ref (ad 15), .ref (ad 1), .int (nI clk), .int 1, .int lf])), (ad 1, .inl (cI, 7, .inl dr)), (ad 2, .inr (0, [.ref (ad 3), .ref (ad 4), .ref (ad 5), .ref (ad 6), .int (nI K.1), .int (nI en)])), (ad 3, .inl (cI, 13, .inl K.2.1)), (ad 4, .inl (cI, 13, .inl K.2.2.1)), (ad 5, .inl (cI, 13, .inl K.2.2.2.1)), (ad 6, .inl (cI, 13, .inl K.2.2.2.2)), (ad 7, .inr (3, [.ref (ad 8), .ref (ad 9)])), (ad 8, .inl (cI, 292, .inl f)), (ad 9, .inl (cI, 40, .inl (rt_g f g m))), (ad 10, .inr (0, [.ref (ad 11), .ref (ad 12), .ref (ad 13), .ref (ad 14), .int (nI U.1), .int (nI ea)])), (ad 11, .inl (cI, 13, .inl U.2.1)), (ad 12, .inl (cI, 13, .inl U.2.2.1)), (ad 13, .inl (cI, 13, .inl U.2.2.2.1)), (ad 14, .inl (cI, 13, .inl U.2.2.2.2)), (ad 15, .inr (2, [.ref (ad 16), .int (nI fc)])), (ad 16, .inl (cI, 12, .inl fd)), (ad 17, .inr (1, [.ref (ad 18), .ref (ad 19), .ref (ad 20), .int (nI st), .int (nI ff), .int (nI fn), .int (nI b)])), (ad 18, .inl (cZ, 6, .inl X)), (ad 19, .inl (cI, 6, .inl Y)), (ad 20, .inl (cI, 6, .inl Z))] H := hP
        have hD : va_D A [(ad 0, .inr (4, [.ref (ad 7), .ref (ad 2), .ref (ad 10), .ref (ad 17), .ref (ad 15), .ref (ad 1), .int (nI clk), .int 1, .int lf])), (ad 1, .inl (cI, 7, .inl dr)), (ad 2, .inr (0, [.ref (ad 3), .ref (ad 4), .ref (ad 5), .ref (ad 6), .int (nI K.1), .int (nI en)])), (ad 3, .inl (cI, 13, .inl K.2.1)), (ad 4, .inl (cI, 13, .inl K.2.2.1)), (ad 5, .inl (cI, 13, .inl K.2.2.2.1)), (ad 6, .inl (cI, 13, .inl K.2.2.2.2)), (ad 7, .inr (3, [.ref (ad 8), .ref (ad 9)])), (ad 8, .inl (cI, 292, .inl f)), (ad 9, .inl (cI, 40, .inl (rt_g f g m))), (ad 10, .inr (0, [.ref (ad 11), .ref (ad 12), .ref (ad 13), .ref (ad 14), .int (nI U.1), .int (nI ea)])), (ad 11, .inl (cI, 13, .inl U.2.1)), (ad 12, .inl (cI, 13, .inl U.2.2.1)), (ad 13, .inl (cI, 13, .inl U.2.2.2.1)), (ad 14, .inl (cI, 13, .inl U.2.2.2.2)), (ad 15, .inr (2, [.ref (ad 16), .int (nI fc)])), (ad 16, .inl (cI, 12, .inl fd)), (ad 17, .inr (1, [.ref (ad 18), .ref (ad 19), .ref (ad 20), .int (nI st), .int (nI ff), .int (nI fn), .int (nI b)])), (ad 18, .inl (cZ, 6, .inl X)), (ad 19, .inl (cI, 6, .inl Y)), (ad 20, .inl (cI, 6, .inl Z))] := hD
        refine lv_i2l hx hb dn_X_root_34 rfl ?_
        have hP : va_P (dC, dI) vwCl [(ad 0, .inr (4, [.ref (ad 7), .ref (ad 2), .ref (ad 10), .ref (ad 17), .ref (ad 15), .ref (ad 1), .int (nI clk), .int 1, .int lf])), (ad 1, .inl (cI, 7, .inl dr)), (ad 2, .inr (0, [.ref (ad 3), .ref (ad 4), .ref (ad 5), .ref (ad 6), .int (nI K.1), .int (nI en)])), (ad 3, .inl (cI, 13, .inl K.2.1)), (ad 4, .inl (cI, 13, .inl K.2.2.1)), (ad 5, .inl (cI, 13, .inl K.2.2.2.1)), (ad 6, .inl (cI, 13, .inl K.2.2.2.2)), (ad 7, .inr (3, [.ref (ad 8), .ref (ad 9)])), (ad 8, .inl (cI, 292, .inl f)), (ad 9, .inl (cI, 40, .inl (nx_root f g clk 1 (nI m)))), (ad 10, .inr (0, [.ref (ad 11), .ref (ad 12), .ref (ad 13), .ref (ad 14), .int (nI U.1), .int (nI ea)])), (ad 11, .inl (cI, 13, .inl U.2.1)), (ad 12, .inl (cI, 13, .inl U.2.2.1)), (ad 13, .inl (cI, 13, .inl U.2.2.2.1)), (ad 14, .inl (cI, 13, .inl U.2.2.2.2)), (ad 15, .inr (2, [.ref (ad 16), .int (nI fc)])), (ad 16, .inl (cI, 12, .inl fd)), (ad 17, .inr (1, [.ref (ad 18), .ref (ad 19), .ref (ad 20), .int (nI st), .int (nI ff), .int (nI fn), .int (nI b)])), (ad 18, .inl (cZ, 6, .inl X)), (ad 19, .inl (cI, 6, .inl Y)), (ad 20, .inl (cI, 6, .inl Z))] H := by rw [← (ro_ok (g := g) hx_ hm_).2]; exact hP
        have hD : va_D A [(ad 0, .inr (4, [.ref (ad 7), .ref (ad 2), .ref (ad 10), .ref (ad 17), .ref (ad 15), .ref (ad 1), .int (nI clk), .int 1, .int lf])), (ad 1, .inl (cI, 7, .inl dr)), (ad 2, .inr (0, [.ref (ad 3), .ref (ad 4), .ref (ad 5), .ref (ad 6), .int (nI K.1), .int (nI en)])), (ad 3, .inl (cI, 13, .inl K.2.1)), (ad 4, .inl (cI, 13, .inl K.2.2.1)), (ad 5, .inl (cI, 13, .inl K.2.2.2.1)), (ad 6, .inl (cI, 13, .inl K.2.2.2.2)), (ad 7, .inr (3, [.ref (ad 8), .ref (ad 9)])), (ad 8, .inl (cI, 292, .inl f)), (ad 9, .inl (cI, 40, .inl (nx_root f g clk 1 (nI m)))), (ad 10, .inr (0, [.ref (ad 11), .ref (ad 12), .ref (ad 13), .ref (ad 14), .int (nI U.1), .int (nI ea)])), (ad 11, .inl (cI, 13, .inl U.2.1)), (ad 12, .inl (cI, 13, .inl U.2.2.1)), (ad 13, .inl (cI, 13, .inl U.2.2.2.1)), (ad 14, .inl (cI, 13, .inl U.2.2.2.2)), (ad 15, .inr (2, [.ref (ad 16), .int (nI fc)])), (ad 16, .inl (cI, 12, .inl fd)), (ad 17, .inr (1, [.ref (ad 18), .ref (ad 19), .ref (ad 20), .int (nI st), .int (nI ff), .int (nI fn), .int (nI b)])), (ad 18, .inl (cZ, 6, .inl X)), (ad 19, .inl (cI, 6, .inl Y)), (ad 20, .inl (cI, 6, .inl Z))] := by rw [← (ro_ok (g := g) hx_ hm_).2]; exact hD
        exact hret ((rt_v f g m).toInt64) () _ _ _ _ (ro_ok hx_ hm_).1 hP hD hS dn_X_root_35
      · skip
        refine lv_ldc2 (v := 1099511627776) hx hb hown (hw _ mw_260) dn_X_root_22 ?_
        have hb_ : n < 0 ∨ nI en < n := by first | exact Or.inl h8 | exact Or.inr (Int32.not_le.mp h19)
        have hP : va_P (dC, dI) vwCl [(ad 0, .inr (4, [.ref (ad 7), .ref (ad 2), .ref (ad 10), .ref (ad 17), .ref (ad 15), .ref (ad 1), .int (nI clk), .int 1, .int lf])), (ad 1, .inl (cI, 7, .inl dr)), (ad 2, .inr (0, [.ref (ad 3), .ref (ad 4), .ref (ad 5), .ref (ad 6), .int (nI K.1), .int (nI en)])), (ad 3, .inl (cI, 13, .inl K.2.1)), (ad 4, .inl (cI, 13, .inl K.2.2.1)), (ad 5, .inl (cI, 13, .inl K.2.2.2.1)), (ad 6, .inl (cI, 13, .inl K.2.2.2.2)), (ad 7, .inr (3, [.ref (ad 8), .ref (ad 9)])), (ad 8, .inl (cI, 292, .inl f)), (ad 9, .inl (cI, 40, .inl (nx_root f g clk 1 n))), (ad 10, .inr (0, [.ref (ad 11), .ref (ad 12), .ref (ad 13), .ref (ad 14), .int (nI U.1), .int (nI ea)])), (ad 11, .inl (cI, 13, .inl U.2.1)), (ad 12, .inl (cI, 13, .inl U.2.2.1)), (ad 13, .inl (cI, 13, .inl U.2.2.2.1)), (ad 14, .inl (cI, 13, .inl U.2.2.2.2)), (ad 15, .inr (2, [.ref (ad 16), .int (nI fc)])), (ad 16, .inl (cI, 12, .inl fd)), (ad 17, .inr (1, [.ref (ad 18), .ref (ad 19), .ref (ad 20), .int (nI st), .int (nI ff), .int (nI fn), .int (nI b)])), (ad 18, .inl (cZ, 6, .inl X)), (ad 19, .inl (cI, 6, .inl Y)), (ad 20, .inl (cI, 6, .inl Z))] H := by rw [← (ro_no (g := g) hx_ hb_).2]; exact hP
        have hD : va_D A [(ad 0, .inr (4, [.ref (ad 7), .ref (ad 2), .ref (ad 10), .ref (ad 17), .ref (ad 15), .ref (ad 1), .int (nI clk), .int 1, .int lf])), (ad 1, .inl (cI, 7, .inl dr)), (ad 2, .inr (0, [.ref (ad 3), .ref (ad 4), .ref (ad 5), .ref (ad 6), .int (nI K.1), .int (nI en)])), (ad 3, .inl (cI, 13, .inl K.2.1)), (ad 4, .inl (cI, 13, .inl K.2.2.1)), (ad 5, .inl (cI, 13, .inl K.2.2.2.1)), (ad 6, .inl (cI, 13, .inl K.2.2.2.2)), (ad 7, .inr (3, [.ref (ad 8), .ref (ad 9)])), (ad 8, .inl (cI, 292, .inl f)), (ad 9, .inl (cI, 40, .inl (nx_root f g clk 1 n))), (ad 10, .inr (0, [.ref (ad 11), .ref (ad 12), .ref (ad 13), .ref (ad 14), .int (nI U.1), .int (nI ea)])), (ad 11, .inl (cI, 13, .inl U.2.1)), (ad 12, .inl (cI, 13, .inl U.2.2.1)), (ad 13, .inl (cI, 13, .inl U.2.2.2.1)), (ad 14, .inl (cI, 13, .inl U.2.2.2.2)), (ad 15, .inr (2, [.ref (ad 16), .int (nI fc)])), (ad 16, .inl (cI, 12, .inl fd)), (ad 17, .inr (1, [.ref (ad 18), .ref (ad 19), .ref (ad 20), .int (nI st), .int (nI ff), .int (nI fn), .int (nI b)])), (ad 18, .inl (cZ, 6, .inl X)), (ad 19, .inl (cI, 6, .inl Y)), (ad 20, .inl (cI, 6, .inl Z))] := by rw [← (ro_no (g := g) hx_ hb_).2]; exact hD
        exact hret 1099511627776 () _ _ _ _ (ro_no (g := g) hx_ hb_).1 hP hD hS dn_X_root_25
