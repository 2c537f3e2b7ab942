theorem dn_M_get_0 : decode cn_M_get 0 = .ok (.aload_n 0, 1) := by decide +kernel
theorem dn_M_get_1 : decode cn_M_get 1 = .ok (.invokevirtual 104, 3) := by decide +kernel
theorem dn_M_get_4 : decode cn_M_get 4 = .ok (.aload_n 0, 1) := by decide +kernel
theorem dn_M_get_5 : decode cn_M_get 5 = .ok (.getfield 38, 3) := by decide +kernel
theorem dn_M_get_8 : decode cn_M_get 8 = .ok (.ifCond .eq 35, 3) := by decide +kernel
theorem dn_M_get_11 : decode cn_M_get 11 = .ok (.iload_n 1, 1) := by decide +kernel
theorem dn_M_get_12 : decode cn_M_get 12 = .ok (.iconst 1, 1) := by decide +kernel
theorem dn_M_get_13 : decode cn_M_get 13 = .ok (.if_icmp .lt 30, 3) := by decide +kernel
theorem dn_M_get_16 : decode cn_M_get 16 = .ok (.iload_n 1, 1) := by decide +kernel
theorem dn_M_get_17 : decode cn_M_get 17 = .ok (.aload_n 0, 1) := by decide +kernel
theorem dn_M_get_18 : decode cn_M_get 18 = .ok (.getfield 83, 3) := by decide +kernel
theorem dn_M_get_21 : decode cn_M_get 21 = .ok (.if_icmp .gt 22, 3) := by decide +kernel
theorem dn_M_get_24 : decode cn_M_get 24 = .ok (.aload_n 0, 1) := by decide +kernel
theorem dn_M_get_25 : decode cn_M_get 25 = .ok (.getfield 16, 3) := by decide +kernel
theorem dn_M_get_28 : decode cn_M_get 28 = .ok (.iload_n 1, 1) := by decide +kernel
theorem dn_M_get_29 : decode cn_M_get 29 = .ok (.iaload, 1) := by decide +kernel
theorem dn_M_get_30 : decode cn_M_get 30 = .ok (.iconst 1, 1) := by decide +kernel
theorem dn_M_get_31 : decode cn_M_get 31 = .ok (.if_icmp .ne 12, 3) := by decide +kernel
theorem dn_M_get_34 : decode cn_M_get 34 = .ok (.iload_n 2, 1) := by decide +kernel
theorem dn_M_get_35 : decode cn_M_get 35 = .ok (.ifCond .lt 8, 3) := by decide +kernel
theorem dn_M_get_38 : decode cn_M_get 38 = .ok (.iload_n 2, 1) := by decide +kernel
theorem dn_M_get_39 : decode cn_M_get 39 = .ok (.iconst 1, 1) := by decide +kernel
theorem dn_M_get_40 : decode cn_M_get 40 = .ok (.if_icmp .le 7, 3) := by decide +kernel
theorem dn_M_get_43 : decode cn_M_get 43 = .ok (.ldc2_w 77, 3) := by decide +kernel
theorem dn_M_get_46 : decode cn_M_get 46 = .ok (.lreturn, 1) := by decide +kernel
theorem dn_M_get_47 : decode cn_M_get 47 = .ok (.iconst 0, 1) := by decide +kernel
theorem dn_M_get_48 : decode cn_M_get 48 = .ok (.istore_n 3, 1) := by decide +kernel
theorem dn_M_get_49 : decode cn_M_get 49 = .ok (.aload_n 0, 1) := by decide +kernel
theorem dn_M_get_50 : decode cn_M_get 50 = .ok (.getfield 7, 3) := by decide +kernel
theorem dn_M_get_53 : decode cn_M_get 53 = .ok (.bipush 7, 2) := by decide +kernel
theorem dn_M_get_55 : decode cn_M_get 55 = .ok (.iload_n 3, 1) := by decide +kernel
theorem dn_M_get_56 : decode cn_M_get 56 = .ok (.imul, 1) := by decide +kernel
theorem dn_M_get_57 : decode cn_M_get 57 = .ok (.iaload, 1) := by decide +kernel
theorem dn_M_get_58 : decode cn_M_get 58 = .ok (.iconst 1, 1) := by decide +kernel
theorem dn_M_get_59 : decode cn_M_get 59 = .ok (.if_icmp .ne 18, 3) := by decide +kernel
theorem dn_M_get_62 : decode cn_M_get 62 = .ok (.aload_n 0, 1) := by decide +kernel
theorem dn_M_get_63 : decode cn_M_get 63 = .ok (.getfield 7, 3) := by decide +kernel
theorem dn_M_get_66 : decode cn_M_get 66 = .ok (.bipush 7, 2) := by decide +kernel
theorem dn_M_get_68 : decode cn_M_get 68 = .ok (.iload_n 3, 1) := by decide +kernel
theorem dn_M_get_69 : decode cn_M_get 69 = .ok (.imul, 1) := by decide +kernel
theorem dn_M_get_70 : decode cn_M_get 70 = .ok (.iconst 1, 1) := by decide +kernel
theorem dn_M_get_71 : decode cn_M_get 71 = .ok (.iadd, 1) := by decide +kernel
theorem dn_M_get_72 : decode cn_M_get 72 = .ok (.iaload, 1) := by decide +kernel
theorem dn_M_get_73 : decode cn_M_get 73 = .ok (.iload_n 1, 1) := by decide +kernel
theorem dn_M_get_74 : decode cn_M_get 74 = .ok (.if_icmp .eq 10, 3) := by decide +kernel
theorem dn_M_get_77 : decode cn_M_get 77 = .ok (.iload_n 3, 1) := by decide +kernel
theorem dn_M_get_78 : decode cn_M_get 78 = .ok (.iconst 1, 1) := by decide +kernel
theorem dn_M_get_79 : decode cn_M_get 79 = .ok (.iadd, 1) := by decide +kernel
theorem dn_M_get_80 : decode cn_M_get 80 = .ok (.istore_n 3, 1) := by decide +kernel
theorem dn_M_get_81 : decode cn_M_get 81 = .ok (.goto (-32), 3) := by decide +kernel
theorem dn_M_get_84 : decode cn_M_get 84 = .ok (.aload_n 0, 1) := by decide +kernel
theorem dn_M_get_85 : decode cn_M_get 85 = .ok (.getfield 7, 3) := by decide +kernel
theorem dn_M_get_88 : decode cn_M_get 88 = .ok (.sipush 279, 3) := by decide +kernel
theorem dn_M_get_91 : decode cn_M_get 91 = .ok (.iload_n 1, 1) := by decide +kernel
theorem dn_M_get_92 : decode cn_M_get 92 = .ok (.iadd, 1) := by decide +kernel
theorem dn_M_get_93 : decode cn_M_get 93 = .ok (.iaload, 1) := by decide +kernel
theorem dn_M_get_94 : decode cn_M_get 94 = .ok (.iload_n 1, 1) := by decide +kernel
theorem dn_M_get_95 : decode cn_M_get 95 = .ok (.invokestatic 47, 3) := by decide +kernel
theorem dn_M_get_98 : decode cn_M_get 98 = .ok (.istore 4, 2) := by decide +kernel
theorem dn_M_get_100 : decode cn_M_get 100 = .ok (.iload 4, 2) := by decide +kernel
theorem dn_M_get_102 : decode cn_M_get 102 = .ok (.iload_n 2, 1) := by decide +kernel
theorem dn_M_get_103 : decode cn_M_get 103 = .ok (.invokestatic 47, 3) := by decide +kernel
theorem dn_M_get_106 : decode cn_M_get 106 = .ok (.istore 5, 2) := by decide +kernel
theorem dn_M_get_108 : decode cn_M_get 108 = .ok (.aload_n 0, 1) := by decide +kernel
theorem dn_M_get_109 : decode cn_M_get 109 = .ok (.getfield 7, 3) := by decide +kernel
theorem dn_M_get_112 : decode cn_M_get 112 = .ok (.bipush 7, 2) := by decide +kernel
theorem dn_M_get_114 : decode cn_M_get 114 = .ok (.iload_n 3, 1) := by decide +kernel
theorem dn_M_get_115 : decode cn_M_get 115 = .ok (.imul, 1) := by decide +kernel
theorem dn_M_get_116 : decode cn_M_get 116 = .ok (.iconst 3, 1) := by decide +kernel
theorem dn_M_get_117 : decode cn_M_get 117 = .ok (.iadd, 1) := by decide +kernel
theorem dn_M_get_118 : decode cn_M_get 118 = .ok (.iload_n 2, 1) := by decide +kernel
theorem dn_M_get_119 : decode cn_M_get 119 = .ok (.iadd, 1) := by decide +kernel
theorem dn_M_get_120 : decode cn_M_get 120 = .ok (.iaload, 1) := by decide +kernel
theorem dn_M_get_121 : decode cn_M_get 121 = .ok (.iload 5, 2) := by decide +kernel
theorem dn_M_get_123 : decode cn_M_get 123 = .ok (.ixor, 1) := by decide +kernel
theorem dn_M_get_124 : decode cn_M_get 124 = .ok (.i2l, 1) := by decide +kernel
theorem dn_M_get_125 : decode cn_M_get 125 = .ok (.lreturn, 1) := by decide +kernel
theorem dn_M_look_0 : decode cn_M_look 0 = .ok (.aload_n 0, 1) := by decide +kernel
theorem dn_M_look_1 : decode cn_M_look 1 = .ok (.invokevirtual 104, 3) := by decide +kernel
theorem dn_M_look_4 : decode cn_M_look 4 = .ok (.aload_n 0, 1) := by decide +kernel
theorem dn_M_look_5 : decode cn_M_look 5 = .ok (.getfield 38, 3) := by decide +kernel
theorem dn_M_look_8 : decode cn_M_look 8 = .ok (.ifCond .eq 25, 3) := by decide +kernel
theorem dn_M_look_11 : decode cn_M_look 11 = .ok (.iload_n 1, 1) := by decide +kernel
theorem dn_M_look_12 : decode cn_M_look 12 = .ok (.iconst 1, 1) := by decide +kernel
theorem dn_M_look_13 : decode cn_M_look 13 = .ok (.if_icmp .lt 20, 3) := by decide +kernel
theorem dn_M_look_16 : decode cn_M_look 16 = .ok (.iload_n 1, 1) := by decide +kernel
theorem dn_M_look_17 : decode cn_M_look 17 = .ok (.aload_n 0, 1) := by decide +kernel
theorem dn_M_look_18 : decode cn_M_look 18 = .ok (.getfield 83, 3) := by decide +kernel
theorem dn_M_look_21 : decode cn_M_look 21 = .ok (.if_icmp .gt 12, 3) := by decide +kernel
theorem dn_M_look_24 : decode cn_M_look 24 = .ok (.iload_n 2, 1) := by decide +kernel
theorem dn_M_look_25 : decode cn_M_look 25 = .ok (.ifCond .lt 8, 3) := by decide +kernel
theorem dn_M_look_28 : decode cn_M_look 28 = .ok (.iload_n 2, 1) := by decide +kernel
theorem dn_M_look_29 : decode cn_M_look 29 = .ok (.iconst 2, 1) := by decide +kernel
theorem dn_M_look_30 : decode cn_M_look 30 = .ok (.if_icmp .le 5, 3) := by decide +kernel
theorem dn_M_look_33 : decode cn_M_look 33 = .ok (.iconst (-1), 1) := by decide +kernel
theorem dn_M_look_34 : decode cn_M_look 34 = .ok (.ireturn, 1) := by decide +kernel
theorem dn_M_look_35 : decode cn_M_look 35 = .ok (.iload_n 2, 1) := by decide +kernel
theorem dn_M_look_36 : decode cn_M_look 36 = .ok (.ifCond .ne 12, 3) := by decide +kernel
theorem dn_M_look_39 : decode cn_M_look 39 = .ok (.aload_n 0, 1) := by decide +kernel
theorem dn_M_look_40 : decode cn_M_look 40 = .ok (.getfield 16, 3) := by decide +kernel
theorem dn_M_look_43 : decode cn_M_look 43 = .ok (.iload_n 1, 1) := by decide +kernel
theorem dn_M_look_44 : decode cn_M_look 44 = .ok (.iaload, 1) := by decide +kernel
theorem dn_M_look_45 : decode cn_M_look 45 = .ok (.goto 23, 3) := by decide +kernel
theorem dn_M_look_48 : decode cn_M_look 48 = .ok (.iload_n 2, 1) := by decide +kernel
theorem dn_M_look_49 : decode cn_M_look 49 = .ok (.iconst 1, 1) := by decide +kernel
theorem dn_M_look_50 : decode cn_M_look 50 = .ok (.if_icmp .ne 12, 3) := by decide +kernel
theorem dn_M_look_53 : decode cn_M_look 53 = .ok (.aload_n 0, 1) := by decide +kernel
theorem dn_M_look_54 : decode cn_M_look 54 = .ok (.getfield 19, 3) := by decide +kernel
theorem dn_M_look_57 : decode cn_M_look 57 = .ok (.iload_n 1, 1) := by decide +kernel
theorem dn_M_look_58 : decode cn_M_look 58 = .ok (.iaload, 1) := by decide +kernel
theorem dn_M_look_59 : decode cn_M_look 59 = .ok (.goto 9, 3) := by decide +kernel
theorem dn_M_look_62 : decode cn_M_look 62 = .ok (.aload_n 0, 1) := by decide +kernel
theorem dn_M_look_63 : decode cn_M_look 63 = .ok (.getfield 22, 3) := by decide +kernel
theorem dn_M_look_66 : decode cn_M_look 66 = .ok (.iload_n 1, 1) := by decide +kernel
theorem dn_M_look_67 : decode cn_M_look 67 = .ok (.iaload, 1) := by decide +kernel
theorem dn_M_look_68 : decode cn_M_look 68 = .ok (.ireturn, 1) := by decide +kernel
theorem dn_M_root_0 : decode cn_M_root 0 = .ok (.aload_n 0, 1) := by decide +kernel
theorem dn_M_root_1 : decode cn_M_root 1 = .ok (.invokevirtual 104, 3) := by decide +kernel
theorem dn_M_root_4 : decode cn_M_root 4 = .ok (.aload_n 0, 1) := by decide +kernel
theorem dn_M_root_5 : decode cn_M_root 5 = .ok (.getfield 38, 3) := by decide +kernel
theorem dn_M_root_8 : decode cn_M_root 8 = .ok (.ifCond .eq 15, 3) := by decide +kernel
theorem dn_M_root_11 : decode cn_M_root 11 = .ok (.iload_n 1, 1) := by decide +kernel
theorem dn_M_root_12 : decode cn_M_root 12 = .ok (.ifCond .lt 11, 3) := by decide +kernel
theorem dn_M_root_15 : decode cn_M_root 15 = .ok (.iload_n 1, 1) := by decide +kernel
theorem dn_M_root_16 : decode cn_M_root 16 = .ok (.aload_n 0, 1) := by decide +kernel
theorem dn_M_root_17 : decode cn_M_root 17 = .ok (.getfield 93, 3) := by decide +kernel
theorem dn_M_root_20 : decode cn_M_root 20 = .ok (.if_icmp .le 7, 3) := by decide +kernel
theorem dn_M_root_23 : decode cn_M_root 23 = .ok (.ldc2_w 77, 3) := by decide +kernel
theorem dn_M_root_26 : decode cn_M_root 26 = .ok (.lreturn, 1) := by decide +kernel
theorem dn_M_root_27 : decode cn_M_root 27 = .ok (.iload_n 1, 1) := by decide +kernel
theorem dn_M_root_28 : decode cn_M_root 28 = .ok (.ifCond .ne 7, 3) := by decide +kernel
theorem dn_M_root_31 : decode cn_M_root 31 = .ok (.lconst 0, 1) := by decide +kernel
theorem dn_M_root_32 : decode cn_M_root 32 = .ok (.goto 10, 3) := by decide +kernel
theorem dn_M_root_35 : decode cn_M_root 35 = .ok (.aload_n 0, 1) := by decide +kernel
theorem dn_M_root_36 : decode cn_M_root 36 = .ok (.iconst 0, 1) := by decide +kernel
theorem dn_M_root_37 : decode cn_M_root 37 = .ok (.iload_n 1, 1) := by decide +kernel
theorem dn_M_root_38 : decode cn_M_root 38 = .ok (.invokevirtual 79, 3) := by decide +kernel
theorem dn_M_root_41 : decode cn_M_root 41 = .ok (.i2l, 1) := by decide +kernel
theorem dn_M_root_42 : decode cn_M_root 42 = .ok (.lreturn, 1) := by decide +kernel
theorem dn_M_path_0 : decode cn_M_path 0 = .ok (.aload_n 0, 1) := by decide +kernel
theorem dn_M_path_1 : decode cn_M_path 1 = .ok (.invokevirtual 104, 3) := by decide +kernel
theorem dn_M_path_4 : decode cn_M_path 4 = .ok (.aload_n 0, 1) := by decide +kernel
theorem dn_M_path_5 : decode cn_M_path 5 = .ok (.getfield 38, 3) := by decide +kernel
theorem dn_M_path_8 : decode cn_M_path 8 = .ok (.ifCond .eq 20, 3) := by decide +kernel
theorem dn_M_path_11 : decode cn_M_path 11 = .ok (.iload_n 1, 1) := by decide +kernel
theorem dn_M_path_12 : decode cn_M_path 12 = .ok (.ifCond .lt 16, 3) := by decide +kernel
theorem dn_M_path_15 : decode cn_M_path 15 = .ok (.iload_n 1, 1) := by decide +kernel
theorem dn_M_path_16 : decode cn_M_path 16 = .ok (.iload_n 2, 1) := by decide +kernel
theorem dn_M_path_17 : decode cn_M_path 17 = .ok (.if_icmp .ge 11, 3) := by decide +kernel
theorem dn_M_path_20 : decode cn_M_path 20 = .ok (.iload_n 2, 1) := by decide +kernel
theorem dn_M_path_21 : decode cn_M_path 21 = .ok (.aload_n 0, 1) := by decide +kernel
theorem dn_M_path_22 : decode cn_M_path 22 = .ok (.getfield 93, 3) := by decide +kernel
theorem dn_M_path_25 : decode cn_M_path 25 = .ok (.if_icmp .le 7, 3) := by decide +kernel
theorem dn_M_path_28 : decode cn_M_path 28 = .ok (.ldc2_w 77, 3) := by decide +kernel
theorem dn_M_path_31 : decode cn_M_path 31 = .ok (.lreturn, 1) := by decide +kernel
theorem dn_M_path_32 : decode cn_M_path 32 = .ok (.aload_n 0, 1) := by decide +kernel
theorem dn_M_path_33 : decode cn_M_path 33 = .ok (.iload_n 1, 1) := by decide +kernel
theorem dn_M_path_34 : decode cn_M_path 34 = .ok (.iload_n 2, 1) := by decide +kernel
theorem dn_M_path_35 : decode cn_M_path 35 = .ok (.invokevirtual 122, 3) := by decide +kernel
theorem dn_M_path_38 : decode cn_M_path 38 = .ok (.aload_n 0, 1) := by decide +kernel
theorem dn_M_path_39 : decode cn_M_path 39 = .ok (.iload_n 3, 1) := by decide +kernel
theorem dn_M_path_40 : decode cn_M_path 40 = .ok (.invokevirtual 125, 3) := by decide +kernel
theorem dn_M_path_43 : decode cn_M_path 43 = .ok (.lreturn, 1) := by decide +kernel
theorem dn_M_bridge_0 : decode cn_M_bridge 0 = .ok (.aload_n 0, 1) := by decide +kernel
theorem dn_M_bridge_1 : decode cn_M_bridge 1 = .ok (.invokevirtual 104, 3) := by decide +kernel
theorem dn_M_bridge_4 : decode cn_M_bridge 4 = .ok (.aload_n 0, 1) := by decide +kernel
theorem dn_M_bridge_5 : decode cn_M_bridge 5 = .ok (.getfield 38, 3) := by decide +kernel
theorem dn_M_bridge_8 : decode cn_M_bridge 8 = .ok (.ifCond .eq 21, 3) := by decide +kernel
theorem dn_M_bridge_11 : decode cn_M_bridge 11 = .ok (.iload_n 1, 1) := by decide +kernel
theorem dn_M_bridge_12 : decode cn_M_bridge 12 = .ok (.iconst 1, 1) := by decide +kernel
theorem dn_M_bridge_13 : decode cn_M_bridge 13 = .ok (.if_icmp .lt 16, 3) := by decide +kernel
theorem dn_M_bridge_16 : decode cn_M_bridge 16 = .ok (.iload_n 1, 1) := by decide +kernel
theorem dn_M_bridge_17 : decode cn_M_bridge 17 = .ok (.iload_n 2, 1) := by decide +kernel
theorem dn_M_bridge_18 : decode cn_M_bridge 18 = .ok (.if_icmp .gt 11, 3) := by decide +kernel
theorem dn_M_bridge_21 : decode cn_M_bridge 21 = .ok (.iload_n 2, 1) := by decide +kernel
theorem dn_M_bridge_22 : decode cn_M_bridge 22 = .ok (.aload_n 0, 1) := by decide +kernel
theorem dn_M_bridge_23 : decode cn_M_bridge 23 = .ok (.getfield 93, 3) := by decide +kernel
theorem dn_M_bridge_26 : decode cn_M_bridge 26 = .ok (.if_icmp .le 7, 3) := by decide +kernel
theorem dn_M_bridge_29 : decode cn_M_bridge 29 = .ok (.ldc2_w 77, 3) := by decide +kernel
theorem dn_M_bridge_32 : decode cn_M_bridge 32 = .ok (.lreturn, 1) := by decide +kernel
theorem dn_M_bridge_33 : decode cn_M_bridge 33 = .ok (.aload_n 0, 1) := by decide +kernel
theorem dn_M_bridge_34 : decode cn_M_bridge 34 = .ok (.iload_n 1, 1) := by decide +kernel
theorem dn_M_bridge_35 : decode cn_M_bridge 35 = .ok (.iload_n 2, 1) := by decide +kernel
theorem dn_M_bridge_36 : decode cn_M_bridge 36 = .ok (.invokevirtual 129, 3) := by decide +kernel
theorem dn_M_bridge_39 : decode cn_M_bridge 39 = .ok (.aload_n 0, 1) := by decide +kernel
theorem dn_M_bridge_40 : decode cn_M_bridge 40 = .ok (.iload_n 3, 1) := by decide +kernel
theorem dn_M_bridge_41 : decode cn_M_bridge 41 = .ok (.invokevirtual 125, 3) := by decide +kernel
theorem dn_M_bridge_44 : decode cn_M_bridge 44 = .ok (.lreturn, 1) := by decide +kernel
theorem dn_M_audit_0 : decode cn_M_audit 0 = .ok (.aload_n 0, 1) := by decide +kernel
theorem dn_M_audit_1 : decode cn_M_audit 1 = .ok (.invokevirtual 104, 3) := by decide +kernel
theorem dn_M_audit_4 : decode cn_M_audit 4 = .ok (.iload_n 1, 1) := by decide +kernel
theorem dn_M_audit_5 : decode cn_M_audit 5 = .ok (.ifCond .lt 11, 3) := by decide +kernel
theorem dn_M_audit_8 : decode cn_M_audit 8 = .ok (.iload_n 1, 1) := by decide +kernel
theorem dn_M_audit_9 : decode cn_M_audit 9 = .ok (.aload_n 0, 1) := by decide +kernel
theorem dn_M_audit_10 : decode cn_M_audit 10 = .ok (.getfield 93, 3) := by decide +kernel
theorem dn_M_audit_13 : decode cn_M_audit 13 = .ok (.if_icmp .le 10, 3) := by decide +kernel
theorem dn_M_audit_16 : decode cn_M_audit 16 = .ok (.iconst (-1), 1) := by decide +kernel
theorem dn_M_audit_17 : decode cn_M_audit 17 = .ok (.aload_n 0, 1) := by decide +kernel
theorem dn_M_audit_18 : decode cn_M_audit 18 = .ok (.getfield 93, 3) := by decide +kernel
theorem dn_M_audit_21 : decode cn_M_audit 21 = .ok (.isub, 1) := by decide +kernel
theorem dn_M_audit_22 : decode cn_M_audit 22 = .ok (.ireturn, 1) := by decide +kernel
theorem dn_M_audit_23 : decode cn_M_audit 23 = .ok (.iconst 0, 1) := by decide +kernel
theorem dn_M_audit_24 : decode cn_M_audit 24 = .ok (.istore_n 3, 1) := by decide +kernel
theorem dn_M_audit_25 : decode cn_M_audit 25 = .ok (.iload_n 1, 1) := by decide +kernel
theorem dn_M_audit_26 : decode cn_M_audit 26 = .ok (.ifCond .le 10, 3) := by decide +kernel
theorem dn_M_audit_29 : decode cn_M_audit 29 = .ok (.aload_n 0, 1) := by decide +kernel
theorem dn_M_audit_30 : decode cn_M_audit 30 = .ok (.iconst 0, 1) := by decide +kernel
theorem dn_M_audit_31 : decode cn_M_audit 31 = .ok (.iload_n 1, 1) := by decide +kernel
theorem dn_M_audit_32 : decode cn_M_audit 32 = .ok (.invokevirtual 79, 3) := by decide +kernel
theorem dn_M_audit_35 : decode cn_M_audit 35 = .ok (.istore_n 3, 1) := by decide +kernel
theorem dn_M_audit_36 : decode cn_M_audit 36 = .ok (.iload_n 3, 1) := by decide +kernel
theorem dn_M_audit_37 : decode cn_M_audit 37 = .ok (.iload_n 2, 1) := by decide +kernel
theorem dn_M_audit_38 : decode cn_M_audit 38 = .ok (.if_icmp .ne 10, 3) := by decide +kernel
theorem dn_M_audit_41 : decode cn_M_audit 41 = .ok (.aload_n 0, 1) := by decide +kernel
theorem dn_M_audit_42 : decode cn_M_audit 42 = .ok (.getfield 93, 3) := by decide +kernel
theorem dn_M_audit_45 : decode cn_M_audit 45 = .ok (.goto 9, 3) := by decide +kernel
theorem dn_M_audit_48 : decode cn_M_audit 48 = .ok (.iconst (-1), 1) := by decide +kernel
theorem dn_M_audit_49 : decode cn_M_audit 49 = .ok (.aload_n 0, 1) := by decide +kernel
theorem dn_M_audit_50 : decode cn_M_audit 50 = .ok (.getfield 93, 3) := by decide +kernel
theorem dn_M_audit_53 : decode cn_M_audit 53 = .ok (.isub, 1) := by decide +kernel
theorem dn_M_audit_54 : decode cn_M_audit 54 = .ok (.ireturn, 1) := by decide +kernel

set_option maxRecDepth 100000 in
set_option maxHeartbeats 1000000 in
theorem c_M_tick (l : Launch) (dC : Nat → ClassId) (dI : Nat → Nat → Nat) (cI cZ : ClassId) (bd : Nat → Nat) (clk : Nat) (pw lf : Int32) (f fd : Nat → Int32) (fc sn ob : Nat) (S D G : Nat → Int32) (st : Nat) (Y Z X : Nat → Int32) (ef ec fu : Nat) (g : Nat → Int32) (n : Int32) : gc_I l yn_M_tick (gw yn_M_tick cn_M_tick 2 (some .int)) (rm_ 0 0) (dC, dI) vwCl (gT cI cZ) [.ref (bd 0), .int n] [(bd 0, .inr (5, [.ref (bd 1), .int (nI clk), .int pw, .int lf, .ref (bd 2), .int (nI fc), .int (nI sn), .int (nI ob), .ref (bd 3), .ref (bd 4), .ref (bd 5), .int (nI st), .ref (bd 6), .ref (bd 7), .ref (bd 8), .int (nI ef), .int (nI ec), .int (nI fu), .ref (bd 9)])), (bd 1, .inl (cI, 292, .inl f)), (bd 2, .inl (cI, 12, .inl fd)), (bd 3, .inl (cI, 13, .inl S)), (bd 4, .inl (cI, 13, .inl D)), (bd 5, .inl (cI, 13, .inl G)), (bd 6, .inl (cI, 8, .inl Y)), (bd 7, .inl (cI, 8, .inl Z)), (bd 8, .inl (cZ, 8, .inl X)), (bd 9, .inl (cI, 40, .inl g))] (fun r (_ : Unit) => r = an_tick clk n) (fun _ => [(bd 0, .inr (5, [.ref (bd 1), .int (nI (nx_tick clk n)), .int pw, .int lf, .ref (bd 2), .int (nI fc), .int (nI sn), .int (nI ob), .ref (bd 3), .ref (bd 4), .ref (bd 5), .int (nI st), .ref (bd 6), .ref (bd 7), .ref (bd 8), .int (nI ef), .int (nI ec), .int (nI fu), .ref (bd 9)])), (bd 1, .inl (cI, 292, .inl f)), (bd 2, .inl (cI, 12, .inl fd)), (bd 3, .inl (cI, 13, .inl S)), (bd 4, .inl (cI, 13, .inl D)), (bd 5, .inl (cI, 13, .inl G)), (bd 6, .inl (cI, 8, .inl Y)), (bd 7, .inl (cI, 8, .inl Z)), (bd 8, .inl (cZ, 8, .inl X)), (bd 9, .inl (cI, 40, .inl g))]) := by
  refine gc_I_of (cc := cn_M_tick) (maxL := 2) (ty := .int) (by decide) rfl (Nat.le_of_ble_eq_true rfl) ?_
  intro pp ee ss mm ar be me cd A Q ls H0 H locs hx hb hml hown hts hK hP hD hS hA hl hret
  have hw : ∀ w ∈ gw_T, w.before ar ss = true := fun w h => hts w (List.mem_cons_of_mem _ h)
  have hl : lv_has ls 2 [(0, .ref (bd 0)), (1, .int n)] := hl
  refine lv_iload_n hx hb dn_M_tick_0 rfl (lv_at hl 1 rfl) ?_
  refine lv_if_lt (tgt := 11) hx hb dn_M_tick_1 (by decide) (fun h1 => ?_) (fun h1 => ?_)
  · skip
    refine lv_iconst (v := (-1)) hx hb dn_M_tick_11 (by decide) ?_
    have hb_ : n < 0 ∨ 1000 < n := by first | exact Or.inl h1 | exact Or.inr (Int32.not_le.mp h8)
    have hP : va_P (dC, dI) vwCl [(bd 0, .inr (5, [.ref (bd 1), .int (nI (nx_tick clk n)), .int pw, .int lf, .ref (bd 2), .int (nI fc), .int (nI sn), .int (nI ob), .ref (bd 3), .ref (bd 4), .ref (bd 5), .int (nI st), .ref (bd 6), .ref (bd 7), .ref (bd 8), .int (nI ef), .int (nI ec), .int (nI fu), .ref (bd 9)])), (bd 1, .inl (cI, 292, .inl f)), (bd 2, .inl (cI, 12, .inl fd)), (bd 3, .inl (cI, 13, .inl S)), (bd 4, .inl (cI, 13, .inl D)), (bd 5, .inl (cI, 13, .inl G)), (bd 6, .inl (cI, 8, .inl Y)), (bd 7, .inl (cI, 8, .inl Z)), (bd 8, .inl (cZ, 8, .inl X)), (bd 9, .inl (cI, 40, .inl g))] H := by rw [← (tk_no (clk := clk) hb_).2]; exact hP
    have hD : va_D A [(bd 0, .inr (5, [.ref (bd 1), .int (nI (nx_tick clk n)), .int pw, .int lf, .ref (bd 2), .int (nI fc), .int (nI sn), .int (nI ob), .ref (bd 3), .ref (bd 4), .ref (bd 5), .int (nI st), .ref (bd 6), .ref (bd 7), .ref (bd 8), .int (nI ef), .int (nI ec), .int (nI fu), .ref (bd 9)])), (bd 1, .inl (cI, 292, .inl f)), (bd 2, .inl (cI, 12, .inl fd)), (bd 3, .inl (cI, 13, .inl S)), (bd 4, .inl (cI, 13, .inl D)), (bd 5, .inl (cI, 13, .inl G)), (bd 6, .inl (cI, 8, .inl Y)), (bd 7, .inl (cI, 8, .inl Z)), (bd 8, .inl (cZ, 8, .inl X)), (bd 9, .inl (cI, 40, .inl g))] := by rw [← (tk_no (clk := clk) hb_).2]; exact hD
    exact hret (-1) () _ _ _ _ (tk_no (clk := clk) hb_).1 rfl hP hD hS dn_M_tick_12
  · skip
    refine lv_iload_n hx hb dn_M_tick_4 rfl (lv_at hl 1 rfl) ?_
    refine lv_sipush (v := 1000) hx hb dn_M_tick_5 (by decide) ?_
    refine lv_icmp_le (tgt := 13) hx hb dn_M_tick_8 (by decide) (fun h8 => ?_) (fun h8 => ?_)
    · skip
      obtain ⟨k, hk_, rfl⟩ := tk_k h1 h8
      refine lv_aload_n hx hb dn_M_tick_13 rfl (lv_at hl 0 rfl) ?_
      refine lv_aload_n hx hb dn_M_tick_14 rfl (lv_at hl 0 rfl) ?_
      refine va_get (D := (dC, dI)) (ci := 5) (v := .int (nI clk)) (C := rn_M) (T := tn_M) (N := 19) hx hb hw ml_M hown hK hP 0 rfl rfl 1 (by decide) (hw _ mw_474) (fun _ h9 => h9) rfl dn_M_tick_15 ?_
      refine lv_iload_n hx hb dn_M_tick_18 rfl (lv_at hl 1 rfl) ?_
      refine gr_addN hx hb clk k rfl rfl dn_M_tick_19 ?_
      refine va_put (D := (dC, dI)) (ci := 5) (v := .int (nI (clk + k))) (ty := .int) (C := rn_M) (T := tn_M) (N := 19) hx hb hw ml_M tt_M to_M nd_M hown hK hP hD hS 0 rfl rfl 1 (by decide) (hw _ mw_474) (fun _ h9 => h9) rfl (by decide +kernel) rfl rfl (Nat.le_of_ble_eq_true rfl) dn_M_tick_20 (fun H locs hP hD hS => ?_)
      have hP : va_P (dC, dI) vwCl [(bd 0, .inr (5, [.ref (bd 1), .int (nI (clk + k)), .int pw, .int lf, .ref (bd 2), .int (nI fc), .int (nI sn), .int (nI ob), .ref (bd 3), .ref (bd 4), .ref (bd 5), .int (nI st), .ref (bd 6), .ref (bd 7), .ref (bd 8), .int (nI ef), .int (nI ec), .int (nI fu), .ref (bd 9)])), (bd 1, .inl (cI, 292, .inl f)), (bd 2, .inl (cI, 12, .inl fd)), (bd 3, .inl (cI, 13, .inl S)), (bd 4, .inl (cI, 13, .inl D)), (bd 5, .inl (cI, 13, .inl G)), (bd 6, .inl (cI, 8, .inl Y)), (bd 7, .inl (cI, 8, .inl Z)), (bd 8, .inl (cZ, 8, .inl X)), (bd 9, .inl (cI, 40, .inl g))] H := hP
      have hD : va_D A [(bd 0, .inr (5, [.ref (bd 1), .int (nI (clk + k)), .int pw, .int lf, .ref (bd 2), .int (nI fc), .int (nI sn), .int (nI ob), .ref (bd 3), .ref (bd 4), .ref (bd 5), .int (nI st), .ref (bd 6), .ref (bd 7), .ref (bd 8), .int (nI ef), .int (nI ec), .int (nI fu), .ref (bd 9)])), (bd 1, .inl (cI, 292, .inl f)), (bd 2, .inl (cI, 12, .inl fd)), (bd 3, .inl (cI, 13, .inl S)), (bd 4, .inl (cI, 13, .inl D)), (bd 5, .inl (cI, 13, .inl G)), (bd 6, .inl (cI, 8, .inl Y)), (bd 7, .inl (cI, 8, .inl Z)), (bd 8, .inl (cZ, 8, .inl X)), (bd 9, .inl (cI, 40, .inl g))] := hD
      refine lv_aload_n hx hb dn_M_tick_23 rfl (lv_at hl 0 rfl) ?_
      refine va_get (D := (dC, dI)) (ci := 5) (v := .int (nI (clk + k))) (C := rn_M) (T := tn_M) (N := 19) hx hb hw ml_M hown hK hP 0 rfl rfl 1 (by decide) (hw _ mw_474) (fun _ h9 => h9) rfl dn_M_tick_24 ?_
      have hP : va_P (dC, dI) vwCl [(bd 0, .inr (5, [.ref (bd 1), .int (nI (nx_tick clk (nI k))), .int pw, .int lf, .ref (bd 2), .int (nI fc), .int (nI sn), .int (nI ob), .ref (bd 3), .ref (bd 4), .ref (bd 5), .int (nI st), .ref (bd 6), .ref (bd 7), .ref (bd 8), .int (nI ef), .int (nI ec), .int (nI fu), .ref (bd 9)])), (bd 1, .inl (cI, 292, .inl f)), (bd 2, .inl (cI, 12, .inl fd)), (bd 3, .inl (cI, 13, .inl S)), (bd 4, .inl (cI, 13, .inl D)), (bd 5, .inl (cI, 13, .inl G)), (bd 6, .inl (cI, 8, .inl Y)), (bd 7, .inl (cI, 8, .inl Z)), (bd 8, .inl (cZ, 8, .inl X)), (bd 9, .inl (cI, 40, .inl g))] H := by rw [← (tk_ok (clk := clk) hk_).2]; exact hP
      have hD : va_D A [(bd 0, .inr (5, [.ref (bd 1), .int (nI (nx_tick clk (nI k))), .int pw, .int lf, .ref (bd 2), .int (nI fc), .int (nI sn), .int (nI ob), .ref (bd 3), .ref (bd 4), .ref (bd 5), .int (nI st), .ref (bd 6), .ref (bd 7), .ref (bd 8), .int (nI ef), .int (nI ec), .int (nI fu), .ref (bd 9)])), (bd 1, .inl (cI, 292, .inl f)), (bd 2, .inl (cI, 12, .inl fd)), (bd 3, .inl (cI, 13, .inl S)), (bd 4, .inl (cI, 13, .inl D)), (bd 5, .inl (cI, 13, .inl G)), (bd 6, .inl (cI, 8, .inl Y)), (bd 7, .inl (cI, 8, .inl Z)), (bd 8, .inl (cZ, 8, .inl X)), (bd 9, .inl (cI, 40, .inl g))] := by rw [← (tk_ok (clk := clk) hk_).2]; exact hD
      exact hret (nI (clk + k)) () _ _ _ _ (tk_ok hk_).1 rfl hP hD hS dn_M_tick_27
    · skip
      refine lv_iconst (v := (-1)) hx hb dn_M_tick_11 (by decide) ?_
      have hb_ : n < 0 ∨ 1000 < n := by first | exact Or.inl h1 | exact Or.inr (Int32.not_le.mp h8)
      have hP : va_P (dC, dI) vwCl [(bd 0, .inr (5, [.ref (bd 1), .int (nI (nx_tick clk n)), .int pw, .int lf, .ref (bd 2), .int (nI fc), .int (nI sn), .int (nI ob), .ref (bd 3), .ref (bd 4), .ref (bd 5), .int (nI st), .ref (bd 6), .ref (bd 7), .ref (bd 8), .int (nI ef), .int (nI ec), .int (nI fu), .ref (bd 9)])), (bd 1, .inl (cI, 292, .inl f)), (bd 2, .inl (cI, 12, .inl fd)), (bd 3, .inl (cI, 13, .inl S)), (bd 4, .inl (cI, 13, .inl D)), (bd 5, .inl (cI, 13, .inl G)), (bd 6, .inl (cI, 8, .inl Y)), (bd 7, .inl (cI, 8, .inl Z)), (bd 8, .inl (cZ, 8, .inl X)), (bd 9, .inl (cI, 40, .inl g))] H := by rw [← (tk_no (clk := clk) hb_).2]; exact hP
      have hD : va_D A [(bd 0, .inr (5, [.ref (bd 1), .int (nI (nx_tick clk n)), .int pw, .int lf, .ref (bd 2), .int (nI fc), .int (nI sn), .int (nI ob), .ref (bd 3), .ref (bd 4), .ref (bd 5), .int (nI st), .ref (bd 6), .ref (bd 7), .ref (bd 8), .int (nI ef), .int (nI ec), .int (nI fu), .ref (bd 9)])), (bd 1, .inl (cI, 292, .inl f)), (bd 2, .inl (cI, 12, .inl fd)), (bd 3, .inl (cI, 13, .inl S)), (bd 4, .inl (cI, 13, .inl D)), (bd 5, .inl (cI, 13, .inl G)), (bd 6, .inl (cI, 8, .inl Y)), (bd 7, .inl (cI, 8, .inl Z)), (bd 8, .inl (cZ, 8, .inl X)), (bd 9, .inl (cI, 40, .inl g))] := by rw [← (tk_no (clk := clk) hb_).2]; exact hD
      exact hret (-1) () _ _ _ _ (tk_no (clk := clk) hb_).1 rfl hP hD hS dn_M_tick_12

set_option maxRecDepth 100000 in
set_option maxHeartbeats 1000000 in
theorem c_M_cut (l : Launch) (dC : Nat → ClassId) (dI : Nat → Nat → Nat) (cI cZ : ClassId) (bd : Nat → Nat) (clk : Nat) (pw lf : Int32) (f fd : Nat → Int32) (fc sn ob : Nat) (S D G : Nat → Int32) (st : Nat) (Y Z X : Nat → Int32) (ef ec fu : Nat) (g : Nat → Int32) (n : Int32) : gc_I l yn_M_cut (gw yn_M_cut cn_M_cut 2 (some .boolean)) (rm_ 0 0) (dC, dI) vwCl (gT cI cZ) [.ref (bd 0), .int n] [(bd 0, .inr (5, [.ref (bd 1), .int (nI clk), .int pw, .int lf, .ref (bd 2), .int (nI fc), .int (nI sn), .int (nI ob), .ref (bd 3), .ref (bd 4), .ref (bd 5), .int (nI st), .ref (bd 6), .ref (bd 7), .ref (bd 8), .int (nI ef), .int (nI ec), .int (nI fu), .ref (bd 9)])), (bd 1, .inl (cI, 292, .inl f)), (bd 2, .inl (cI, 12, .inl fd)), (bd 3, .inl (cI, 13, .inl S)), (bd 4, .inl (cI, 13, .inl D)), (bd 5, .inl (cI, 13, .inl G)), (bd 6, .inl (cI, 8, .inl Y)), (bd 7, .inl (cI, 8, .inl Z)), (bd 8, .inl (cZ, 8, .inl X)), (bd 9, .inl (cI, 40, .inl g))] (fun r (_ : Unit) => r = an_cut n) (fun _ => [(bd 0, .inr (5, [.ref (bd 1), .int (nI clk), .int pw, .int (nx_cut lf n), .ref (bd 2), .int (nI fc), .int (nI sn), .int (nI ob), .ref (bd 3), .ref (bd 4), .ref (bd 5), .int (nI st), .ref (bd 6), .ref (bd 7), .ref (bd 8), .int (nI ef), .int (nI ec), .int (nI fu), .ref (bd 9)])), (bd 1, .inl (cI, 292, .inl f)), (bd 2, .inl (cI, 12, .inl fd)), (bd 3, .inl (cI, 13, .inl S)), (bd 4, .inl (cI, 13, .inl D)), (bd 5, .inl (cI, 13, .inl G)), (bd 6, .inl (cI, 8, .inl Y)), (bd 7, .inl (cI, 8, .inl Z)), (bd 8, .inl (cZ, 8, .inl X)), (bd 9, .inl (cI, 40, .inl g))]) := by
  refine gc_I_of (cc := cn_M_cut) (maxL := 2) (ty := .boolean) (by decide) rfl (Nat.le_of_ble_eq_true rfl) ?_
  intro pp ee ss mm ar be me cd A Q ls H0 H locs hx hb hml hown hts hK hP hD hS hA hl hret
  have hw : ∀ w ∈ gw_T, w.before ar ss = true := fun w h => hts w (List.mem_cons_of_mem _ h)
  have hl : lv_has ls 2 [(0, .ref (bd 0)), (1, .int n)] := hl
  refine lv_iload_n hx hb dn_M_cut_0 rfl (lv_at hl 1 rfl) ?_
  refine lv_iconst (v := (-1)) hx hb dn_M_cut_1 (by decide) ?_
  refine lv_icmp_lt (tgt := 12) hx hb dn_M_cut_2 (by decide) (fun h2 => ?_) (fun h2 => ?_)
  · skip
    refine lv_iconst (v := 0) hx hb dn_M_cut_12 (by decide) ?_
    have hb_ : n < -1 ∨ 400 < n := by first | exact Or.inl h2 | exact Or.inr (Int32.not_le.mp h9)
    have hP : va_P (dC, dI) vwCl [(bd 0, .inr (5, [.ref (bd 1), .int (nI clk), .int pw, .int (nx_cut lf n), .ref (bd 2), .int (nI fc), .int (nI sn), .int (nI ob), .ref (bd 3), .ref (bd 4), .ref (bd 5), .int (nI st), .ref (bd 6), .ref (bd 7), .ref (bd 8), .int (nI ef), .int (nI ec), .int (nI fu), .ref (bd 9)])), (bd 1, .inl (cI, 292, .inl f)), (bd 2, .inl (cI, 12, .inl fd)), (bd 3, .inl (cI, 13, .inl S)), (bd 4, .inl (cI, 13, .inl D)), (bd 5, .inl (cI, 13, .inl G)), (bd 6, .inl (cI, 8, .inl Y)), (bd 7, .inl (cI, 8, .inl Z)), (bd 8, .inl (cZ, 8, .inl X)), (bd 9, .inl (cI, 40, .inl g))] H := by rw [show nx_cut lf n = lf from by unfold nx_cut; rw [if_pos hb_]]; exact hP
    have hD : va_D A [(bd 0, .inr (5, [.ref (bd 1), .int (nI clk), .int pw, .int (nx_cut lf n), .ref (bd 2), .int (nI fc), .int (nI sn), .int (nI ob), .ref (bd 3), .ref (bd 4), .ref (bd 5), .int (nI st), .ref (bd 6), .ref (bd 7), .ref (bd 8), .int (nI ef), .int (nI ec), .int (nI fu), .ref (bd 9)])), (bd 1, .inl (cI, 292, .inl f)), (bd 2, .inl (cI, 12, .inl fd)), (bd 3, .inl (cI, 13, .inl S)), (bd 4, .inl (cI, 13, .inl D)), (bd 5, .inl (cI, 13, .inl G)), (bd 6, .inl (cI, 8, .inl Y)), (bd 7, .inl (cI, 8, .inl Z)), (bd 8, .inl (cZ, 8, .inl X)), (bd 9, .inl (cI, 40, .inl g))] := by rw [show nx_cut lf n = lf from by unfold nx_cut; rw [if_pos hb_]]; exact hD
    exact hret 0 () _ _ _ _ (by unfold an_cut; rw [if_pos hb_]) rfl hP hD hS dn_M_cut_13
  · skip
    refine lv_iload_n hx hb dn_M_cut_5 rfl (lv_at hl 1 rfl) ?_
    refine lv_sipush (v := 400) hx hb dn_M_cut_6 (by decide) ?_
    refine lv_icmp_le (tgt := 14) hx hb dn_M_cut_9 (by decide) (fun h9 => ?_) (fun h9 => ?_)
    · skip
      refine lv_aload_n hx hb dn_M_cut_14 rfl (lv_at hl 0 rfl) ?_
      refine lv_iload_n hx hb dn_M_cut_15 rfl (lv_at hl 1 rfl) ?_
      refine va_put (D := (dC, dI)) (ci := 5) (v := .int n) (ty := .int) (C := rn_M) (T := tn_M) (N := 19) hx hb hw ml_M tt_M to_M nd_M hown hK hP hD hS 0 rfl rfl 3 (by decide) (hw _ mw_476) (fun _ h9 => h9) rfl (by decide +kernel) rfl rfl (Nat.le_of_ble_eq_true rfl) dn_M_cut_16 (fun H locs hP hD hS => ?_)
      have hP : va_P (dC, dI) vwCl [(bd 0, .inr (5, [.ref (bd 1), .int (nI clk), .int pw, .int n, .ref (bd 2), .int (nI fc), .int (nI sn), .int (nI ob), .ref (bd 3), .ref (bd 4), .ref (bd 5), .int (nI st), .ref (bd 6), .ref (bd 7), .ref (bd 8), .int (nI ef), .int (nI ec), .int (nI fu), .ref (bd 9)])), (bd 1, .inl (cI, 292, .inl f)), (bd 2, .inl (cI, 12, .inl fd)), (bd 3, .inl (cI, 13, .inl S)), (bd 4, .inl (cI, 13, .inl D)), (bd 5, .inl (cI, 13, .inl G)), (bd 6, .inl (cI, 8, .inl Y)), (bd 7, .inl (cI, 8, .inl Z)), (bd 8, .inl (cZ, 8, .inl X)), (bd 9, .inl (cI, 40, .inl g))] H := hP
      have hD : va_D A [(bd 0, .inr (5, [.ref (bd 1), .int (nI clk), .int pw, .int n, .ref (bd 2), .int (nI fc), .int (nI sn), .int (nI ob), .ref (bd 3), .ref (bd 4), .ref (bd 5), .int (nI st), .ref (bd 6), .ref (bd 7), .ref (bd 8), .int (nI ef), .int (nI ec), .int (nI fu), .ref (bd 9)])), (bd 1, .inl (cI, 292, .inl f)), (bd 2, .inl (cI, 12, .inl fd)), (bd 3, .inl (cI, 13, .inl S)), (bd 4, .inl (cI, 13, .inl D)), (bd 5, .inl (cI, 13, .inl G)), (bd 6, .inl (cI, 8, .inl Y)), (bd 7, .inl (cI, 8, .inl Z)), (bd 8, .inl (cZ, 8, .inl X)), (bd 9, .inl (cI, 40, .inl g))] := hD
      refine lv_iconst (v := 1) hx hb dn_M_cut_19 (by decide) ?_
      have hb_ : ¬ (n < -1 ∨ 400 < n) := fun q => q.elim h2 (Int32.not_lt.mpr h9)
      have hP : va_P (dC, dI) vwCl [(bd 0, .inr (5, [.ref (bd 1), .int (nI clk), .int pw, .int (nx_cut lf n), .ref (bd 2), .int (nI fc), .int (nI sn), .int (nI ob), .ref (bd 3), .ref (bd 4), .ref (bd 5), .int (nI st), .ref (bd 6), .ref (bd 7), .ref (bd 8), .int (nI ef), .int (nI ec), .int (nI fu), .ref (bd 9)])), (bd 1, .inl (cI, 292, .inl f)), (bd 2, .inl (cI, 12, .inl fd)), (bd 3, .inl (cI, 13, .inl S)), (bd 4, .inl (cI, 13, .inl D)), (bd 5, .inl (cI, 13, .inl G)), (bd 6, .inl (cI, 8, .inl Y)), (bd 7, .inl (cI, 8, .inl Z)), (bd 8, .inl (cZ, 8, .inl X)), (bd 9, .inl (cI, 40, .inl g))] H := by rw [show nx_cut lf n = n from by unfold nx_cut; rw [if_neg hb_]]; exact hP
      have hD : va_D A [(bd 0, .inr (5, [.ref (bd 1), .int (nI clk), .int pw, .int (nx_cut lf n), .ref (bd 2), .int (nI fc), .int (nI sn), .int (nI ob), .ref (bd 3), .ref (bd 4), .ref (bd 5), .int (nI st), .ref (bd 6), .ref (bd 7), .ref (bd 8), .int (nI ef), .int (nI ec), .int (nI fu), .ref (bd 9)])), (bd 1, .inl (cI, 292, .inl f)), (bd 2, .inl (cI, 12, .inl fd)), (bd 3, .inl (cI, 13, .inl S)), (bd 4, .inl (cI, 13, .inl D)), (bd 5, .inl (cI, 13, .inl G)), (bd 6, .inl (cI, 8, .inl Y)), (bd 7, .inl (cI, 8, .inl Z)), (bd 8, .inl (cZ, 8, .inl X)), (bd 9, .inl (cI, 40, .inl g))] := by rw [show nx_cut lf n = n from by unfold nx_cut; rw [if_neg hb_]]; exact hD
      exact hret 1 () _ _ _ _ (by unfold an_cut; rw [if_neg hb_]) rfl hP hD hS dn_M_cut_20
    · skip
      refine lv_iconst (v := 0) hx hb dn_M_cut_12 (by decide) ?_
      have hb_ : n < -1 ∨ 400 < n := by first | exact Or.inl h2 | exact Or.inr (Int32.not_le.mp h9)
      have hP : va_P (dC, dI) vwCl [(bd 0, .inr (5, [.ref (bd 1), .int (nI clk), .int pw, .int (nx_cut lf n), .ref (bd 2), .int (nI fc), .int (nI sn), .int (nI ob), .ref (bd 3), .ref (bd 4), .ref (bd 5), .int (nI st), .ref (bd 6), .ref (bd 7), .ref (bd 8), .int (nI ef), .int (nI ec), .int (nI fu), .ref (bd 9)])), (bd 1, .inl (cI, 292, .inl f)), (bd 2, .inl (cI, 12, .inl fd)), (bd 3, .inl (cI, 13, .inl S)), (bd 4, .inl (cI, 13, .inl D)), (bd 5, .inl (cI, 13, .inl G)), (bd 6, .inl (cI, 8, .inl Y)), (bd 7, .inl (cI, 8, .inl Z)), (bd 8, .inl (cZ, 8, .inl X)), (bd 9, .inl (cI, 40, .inl g))] H := by rw [show nx_cut lf n = lf from by unfold nx_cut; rw [if_pos hb_]]; exact hP
      have hD : va_D A [(bd 0, .inr (5, [.ref (bd 1), .int (nI clk), .int pw, .int (nx_cut lf n), .ref (bd 2), .int (nI fc), .int (nI sn), .int (nI ob), .ref (bd 3), .ref (bd 4), .ref (bd 5), .int (nI st), .ref (bd 6), .ref (bd 7), .ref (bd 8), .int (nI ef), .int (nI ec), .int (nI fu), .ref (bd 9)])), (bd 1, .inl (cI, 292, .inl f)), (bd 2, .inl (cI, 12, .inl fd)), (bd 3, .inl (cI, 13, .inl S)), (bd 4, .inl (cI, 13, .inl D)), (bd 5, .inl (cI, 13, .inl G)), (bd 6, .inl (cI, 8, .inl Y)), (bd 7, .inl (cI, 8, .inl Z)), (bd 8, .inl (cZ, 8, .inl X)), (bd 9, .inl (cI, 40, .inl g))] := by rw [show nx_cut lf n = lf from by unfold nx_cut; rw [if_pos hb_]]; exact hD
      exact hret 0 () _ _ _ _ (by unfold an_cut; rw [if_pos hb_]) rfl hP hD hS dn_M_cut_13

set_option maxRecDepth 100000 in
set_option maxHeartbeats 1000000 in
theorem c_M_feed (l : Launch) (dC : Nat → ClassId) (dI : Nat → Nat → Nat) (cI cZ : ClassId) (bd : Nat → Nat) (clk : Nat) (pw lf : Int32) (f fd : Nat → Int32) (fc sn ob : Nat) (S D G : Nat → Int32) (st : Nat) (Y Z X : Nat → Int32) (ef ec fu : Nat) (g : Nat → Int32) (hfc : fc ≤ 12) (x : Int32) : gc_I l yn_M_feed (gw yn_M_feed cn_M_feed 2 (some .boolean)) (rm_ 0 0) (dC, dI) vwCl (gT cI cZ) [.ref (bd 0), .int x] [(bd 0, .inr (5, [.ref (bd 1), .int (nI clk), .int pw, .int lf, .ref (bd 2), .int (nI fc), .int (nI sn), .int (nI ob), .ref (bd 3), .ref (bd 4), .ref (bd 5), .int (nI st), .ref (bd 6), .ref (bd 7), .ref (bd 8), .int (nI ef), .int (nI ec), .int (nI fu), .ref (bd 9)])), (bd 1, .inl (cI, 292, .inl f)), (bd 2, .inl (cI, 12, .inl fd)), (bd 3, .inl (cI, 13, .inl S)), (bd 4, .inl (cI, 13, .inl D)), (bd 5, .inl (cI, 13, .inl G)), (bd 6, .inl (cI, 8, .inl Y)), (bd 7, .inl (cI, 8, .inl Z)), (bd 8, .inl (cZ, 8, .inl X)), (bd 9, .inl (cI, 40, .inl g))] (fun r (u : (Nat → Int32) × Nat) => r = an_feed fc ∧ u = (nx_fd fd fc x, nx_fc fc)) (fun u => [(bd 0, .inr (5, [.ref (bd 1), .int (nI clk), .int pw, .int lf, .ref (bd 2), .int (nI u.2), .int (nI sn), .int (nI ob), .ref (bd 3), .ref (bd 4), .ref (bd 5), .int (nI st), .ref (bd 6), .ref (bd 7), .ref (bd 8), .int (nI ef), .int (nI ec), .int (nI fu), .ref (bd 9)])), (bd 1, .inl (cI, 292, .inl f)), (bd 2, .inl (cI, 12, .inl u.1)), (bd 3, .inl (cI, 13, .inl S)), (bd 4, .inl (cI, 13, .inl D)), (bd 5, .inl (cI, 13, .inl G)), (bd 6, .inl (cI, 8, .inl Y)), (bd 7, .inl (cI, 8, .inl Z)), (bd 8, .inl (cZ, 8, .inl X)), (bd 9, .inl (cI, 40, .inl g))]) := by
  refine gc_I_of (cc := cn_M_feed) (maxL := 2) (ty := .boolean) (by decide) rfl (Nat.le_of_ble_eq_true rfl) ?_
  intro pp ee ss mm ar be me cd A Q ls H0 H locs hx hb hml hown hts hK hP hD hS hA hl hret
  have hw : ∀ w ∈ gw_T, w.before ar ss = true := fun w h => hts w (List.mem_cons_of_mem _ h)
  have hl : lv_has ls 2 [(0, .ref (bd 0)), (1, .int x)] := hl
  refine lv_aload_n hx hb dn_M_feed_0 rfl (lv_at hl 0 rfl) ?_
  refine va_get (D := (dC, dI)) (ci := 5) (v := .int (nI fc)) (C := rn_M) (T := tn_M) (N := 19) hx hb hw ml_M hown hK hP 0 rfl rfl 5 (by decide) (hw _ mw_478) (fun _ h9 => h9) rfl dn_M_feed_1 ?_
  refine lv_bipush (v := 12) hx hb dn_M_feed_4 (by decide) ?_
  refine gr_clt (tgt := 11) hx hb fc 12 rfl rfl (by omega) (by decide) dn_M_feed_6 (by decide) (fun h6 => ?_) (fun h6 => ?_)
  · skip
    refine lv_aload_n hx hb dn_M_feed_11 rfl (lv_at hl 0 rfl) ?_
    refine va_get (D := (dC, dI)) (ci := 5) (v := .ref (bd 2)) (C := rn_M) (T := tn_M) (N := 19) hx hb hw ml_M hown hK hP 0 rfl rfl 4 (by decide) (hw _ mw_477) (fun _ h9 => h9) rfl dn_M_feed_12 ?_
    refine lv_aload_n hx hb dn_M_feed_15 rfl (lv_at hl 0 rfl) ?_
    refine va_get (D := (dC, dI)) (ci := 5) (v := .int (nI fc)) (C := rn_M) (T := tn_M) (N := 19) hx hb hw ml_M hown hK hP 0 rfl rfl 5 (by decide) (hw _ mw_478) (fun _ h9 => h9) rfl dn_M_feed_16 ?_
    refine lv_iload_n hx hb dn_M_feed_19 rfl (lv_at hl 1 rfl) ?_
    refine gr_iast hx hb hK hP hD hS 2 0 rfl rfl fc rfl (by omega) (by decide) dn_M_feed_20 (fun H locs hP hD hS => ?_)
    have hP : va_P (dC, dI) vwCl [(bd 0, .inr (5, [.ref (bd 1), .int (nI clk), .int pw, .int lf, .ref (bd 2), .int (nI fc), .int (nI sn), .int (nI ob), .ref (bd 3), .ref (bd 4), .ref (bd 5), .int (nI st), .ref (bd 6), .ref (bd 7), .ref (bd 8), .int (nI ef), .int (nI ec), .int (nI fu), .ref (bd 9)])), (bd 1, .inl (cI, 292, .inl f)), (bd 2, .inl (cI, 12, .inl (upd fd fc x))), (bd 3, .inl (cI, 13, .inl S)), (bd 4, .inl (cI, 13, .inl D)), (bd 5, .inl (cI, 13, .inl G)), (bd 6, .inl (cI, 8, .inl Y)), (bd 7, .inl (cI, 8, .inl Z)), (bd 8, .inl (cZ, 8, .inl X)), (bd 9, .inl (cI, 40, .inl g))] H := hP
    have hD : va_D A [(bd 0, .inr (5, [.ref (bd 1), .int (nI clk), .int pw, .int lf, .ref (bd 2), .int (nI fc), .int (nI sn), .int (nI ob), .ref (bd 3), .ref (bd 4), .ref (bd 5), .int (nI st), .ref (bd 6), .ref (bd 7), .ref (bd 8), .int (nI ef), .int (nI ec), .int (nI fu), .ref (bd 9)])), (bd 1, .inl (cI, 292, .inl f)), (bd 2, .inl (cI, 12, .inl (upd fd fc x))), (bd 3, .inl (cI, 13, .inl S)), (bd 4, .inl (cI, 13, .inl D)), (bd 5, .inl (cI, 13, .inl G)), (bd 6, .inl (cI, 8, .inl Y)), (bd 7, .inl (cI, 8, .inl Z)), (bd 8, .inl (cZ, 8, .inl X)), (bd 9, .inl (cI, 40, .inl g))] := hD
    refine lv_aload_n hx hb dn_M_feed_21 rfl (lv_at hl 0 rfl) ?_
    refine lv_aload_n hx hb dn_M_feed_22 rfl (lv_at hl 0 rfl) ?_
    refine va_get (D := (dC, dI)) (ci := 5) (v := .int (nI fc)) (C := rn_M) (T := tn_M) (N := 19) hx hb hw ml_M hown hK hP 0 rfl rfl 5 (by decide) (hw _ mw_478) (fun _ h9 => h9) rfl dn_M_feed_23 ?_
    refine lv_iconst (v := 1) hx hb dn_M_feed_26 (by decide) ?_
    refine gr_addN hx hb fc 1 rfl rfl dn_M_feed_27 ?_
    refine va_put (D := (dC, dI)) (ci := 5) (v := .int (nI (fc + 1))) (ty := .int) (C := rn_M) (T := tn_M) (N := 19) hx hb hw ml_M tt_M to_M nd_M hown hK hP hD hS 0 rfl rfl 5 (by decide) (hw _ mw_478) (fun _ h9 => h9) rfl (by decide +kernel) rfl rfl (Nat.le_of_ble_eq_true rfl) dn_M_feed_28 (fun H locs hP hD hS => ?_)
    have hP : va_P (dC, dI) vwCl [(bd 0, .inr (5, [.ref (bd 1), .int (nI clk), .int pw, .int lf, .ref (bd 2), .int (nI (fc + 1)), .int (nI sn), .int (nI ob), .ref (bd 3), .ref (bd 4), .ref (bd 5), .int (nI st), .ref (bd 6), .ref (bd 7), .ref (bd 8), .int (nI ef), .int (nI ec), .int (nI fu), .ref (bd 9)])), (bd 1, .inl (cI, 292, .inl f)), (bd 2, .inl (cI, 12, .inl (upd fd fc x))), (bd 3, .inl (cI, 13, .inl S)), (bd 4, .inl (cI, 13, .inl D)), (bd 5, .inl (cI, 13, .inl G)), (bd 6, .inl (cI, 8, .inl Y)), (bd 7, .inl (cI, 8, .inl Z)), (bd 8, .inl (cZ, 8, .inl X)), (bd 9, .inl (cI, 40, .inl g))] H := hP
    have hD : va_D A [(bd 0, .inr (5, [.ref (bd 1), .int (nI clk), .int pw, .int lf, .ref (bd 2), .int (nI (fc + 1)), .int (nI sn), .int (nI ob), .ref (bd 3), .ref (bd 4), .ref (bd 5), .int (nI st), .ref (bd 6), .ref (bd 7), .ref (bd 8), .int (nI ef), .int (nI ec), .int (nI fu), .ref (bd 9)])), (bd 1, .inl (cI, 292, .inl f)), (bd 2, .inl (cI, 12, .inl (upd fd fc x))), (bd 3, .inl (cI, 13, .inl S)), (bd 4, .inl (cI, 13, .inl D)), (bd 5, .inl (cI, 13, .inl G)), (bd 6, .inl (cI, 8, .inl Y)), (bd 7, .inl (cI, 8, .inl Z)), (bd 8, .inl (cZ, 8, .inl X)), (bd 9, .inl (cI, 40, .inl g))] := hD
    refine lv_iconst (v := 1) hx hb dn_M_feed_31 (by decide) ?_
    exact hret 1 (upd fd fc x, (fc + 1)) _ _ _ _ ⟨by unfold an_feed; rw [if_pos h6], by unfold nx_fd nx_fc; rw [if_pos h6, if_pos h6]⟩ rfl hP hD hS dn_M_feed_32
  · skip
    refine lv_iconst (v := 0) hx hb dn_M_feed_9 (by decide) ?_
    exact hret 0 (fd, fc) _ _ _ _ ⟨by unfold an_feed; rw [if_neg (Nat.not_lt.mpr h6)], by unfold nx_fd nx_fc; rw [if_neg (Nat.not_lt.mpr h6), if_neg (Nat.not_lt.mpr h6)]⟩ rfl hP hD hS dn_M_feed_10

set_option maxRecDepth 100000 in
set_option maxHeartbeats 1000000 in
theorem c_M_word (l : Launch) (dC : Nat → ClassId) (dI : Nat → Nat → Nat) (cI cZ : ClassId) (bd : Nat → Nat) (clk : Nat) (pw lf : Int32) (f fd : Nat → Int32) (fc sn ob : Nat) (S D G : Nat → Int32) (st : Nat) (Y Z X : Nat → Int32) (ef ec fu : Nat) (g : Nat → Int32) (x : Int32) : gc_L l yn_M_word (gw yn_M_word cn_M_word 2 (some .long)) (rm_ 0 0) (dC, dI) vwCl (gT cI cZ) [.ref (bd 0), .int x] [(bd 0, .inr (5, [.ref (bd 1), .int (nI clk), .int pw, .int lf, .ref (bd 2), .int (nI fc), .int (nI sn), .int (nI ob), .ref (bd 3), .ref (bd 4), .ref (bd 5), .int (nI st), .ref (bd 6), .ref (bd 7), .ref (bd 8), .int (nI ef), .int (nI ec), .int (nI fu), .ref (bd 9)])), (bd 1, .inl (cI, 292, .inl f)), (bd 2, .inl (cI, 12, .inl fd)), (bd 3, .inl (cI, 13, .inl S)), (bd 4, .inl (cI, 13, .inl D)), (bd 5, .inl (cI, 13, .inl G)), (bd 6, .inl (cI, 8, .inl Y)), (bd 7, .inl (cI, 8, .inl Z)), (bd 8, .inl (cZ, 8, .inl X)), (bd 9, .inl (cI, 40, .inl g))] (fun r (_ : Unit) => r = an_word f x) (fun _ => [(bd 0, .inr (5, [.ref (bd 1), .int (nI clk), .int pw, .int lf, .ref (bd 2), .int (nI fc), .int (nI sn), .int (nI ob), .ref (bd 3), .ref (bd 4), .ref (bd 5), .int (nI st), .ref (bd 6), .ref (bd 7), .ref (bd 8), .int (nI ef), .int (nI ec), .int (nI fu), .ref (bd 9)])), (bd 1, .inl (cI, 292, .inl f)), (bd 2, .inl (cI, 12, .inl fd)), (bd 3, .inl (cI, 13, .inl S)), (bd 4, .inl (cI, 13, .inl D)), (bd 5, .inl (cI, 13, .inl G)), (bd 6, .inl (cI, 8, .inl Y)), (bd 7, .inl (cI, 8, .inl Z)), (bd 8, .inl (cZ, 8, .inl X)), (bd 9, .inl (cI, 40, .inl g))]) := by
  refine gc_L_of (cc := cn_M_word) (maxL := 2) (by decide) rfl (Nat.le_of_ble_eq_true rfl) ?_
  intro pp ee ss mm ar be me cd A Q ls H0 H locs hx hb hml hown hts hK hP hD hS hA hl hret
  have hw : ∀ w ∈ gw_T, w.before ar ss = true := fun w h => hts w (List.mem_cons_of_mem _ h)
  have hl : lv_has ls 2 [(0, .ref (bd 0)), (1, .int x)] := hl
  refine lv_iload_n hx hb dn_M_word_0 rfl (lv_at hl 1 rfl) ?_
  refine lv_if_lt (tgt := 11) hx hb dn_M_word_1 (by decide) (fun h1 => ?_) (fun h1 => ?_)
  · skip
    refine lv_ldc2 (v := 1099511627776) hx hb hown (hw _ mw_600) dn_M_word_11 ?_
    refine lv_goto (tgt := 24) hx hb dn_M_word_14 (by decide) ?_
    exact hret 1099511627776 () _ _ _ _ (wo_out (pl_out1 (by first | exact Or.inl h1 | exact Or.inr h8))) hP hD hS dn_M_word_24
  · skip
    refine lv_iload_n hx hb dn_M_word_4 rfl (lv_at hl 1 rfl) ?_
    refine lv_sipush (v := 291) hx hb dn_M_word_5 (by decide) ?_
    refine lv_icmp_le (tgt := 17) hx hb dn_M_word_8 (by decide) (fun h8 => ?_) (fun h8 => ?_)
    · skip
      obtain ⟨k_, hk_, rfl⟩ := pl_in1 h1 h8
      refine lv_aload_n hx hb dn_M_word_17 rfl (lv_at hl 0 rfl) ?_
      refine va_get (D := (dC, dI)) (ci := 5) (v := .ref (bd 1)) (C := rn_M) (T := tn_M) (N := 19) hx hb hw ml_M hown hK hP 0 rfl rfl 0 (by decide) (hw _ mw_473) (fun _ h9 => h9) rfl dn_M_word_18 ?_
      refine lv_iload_n hx hb dn_M_word_21 rfl (lv_at hl 1 rfl) ?_
      refine gr_iald hx hb hK hP 1 0 rfl rfl k_ rfl (by omega) (by decide) dn_M_word_22 ?_
      refine lv_i2l hx hb dn_M_word_23 rfl ?_
      exact hret ((f k_).toInt64) () _ _ _ _ (wo_in hk_) hP hD hS dn_M_word_24
    · skip
      refine lv_ldc2 (v := 1099511627776) hx hb hown (hw _ mw_600) dn_M_word_11 ?_
      refine lv_goto (tgt := 24) hx hb dn_M_word_14 (by decide) ?_
      exact hret 1099511627776 () _ _ _ _ (wo_out (pl_out1 (by first | exact Or.inl h1 | exact Or.inr h8))) hP hD hS dn_M_word_24

set_option maxRecDepth 100000 in
set_option maxHeartbeats 1000000 in
theorem c_M_alter (l : Launch) (dC : Nat → ClassId) (dI : Nat → Nat → Nat) (cI cZ : ClassId) (bd : Nat → Nat) (clk : Nat) (pw lf : Int32) (f fd : Nat → Int32) (fc sn ob : Nat) (S D G : Nat → Int32) (st : Nat) (Y Z X : Nat → Int32) (ef ec fu : Nat) (g : Nat → Int32) (hpw : pw = 0 ∨ pw = 1) (x v : Int32) : gc_I l yn_M_alter (gw yn_M_alter cn_M_alter 3 (some .boolean)) (rm_ 0 0) (dC, dI) vwCl (gT cI cZ) [.ref (bd 0), .int x, .int v] [(bd 0, .inr (5, [.ref (bd 1), .int (nI clk), .int pw, .int lf, .ref (bd 2), .int (nI fc), .int (nI sn), .int (nI ob), .ref (bd 3), .ref (bd 4), .ref (bd 5), .int (nI st), .ref (bd 6), .ref (bd 7), .ref (bd 8), .int (nI ef), .int (nI ec), .int (nI fu), .ref (bd 9)])), (bd 1, .inl (cI, 292, .inl f)), (bd 2, .inl (cI, 12, .inl fd)), (bd 3, .inl (cI, 13, .inl S)), (bd 4, .inl (cI, 13, .inl D)), (bd 5, .inl (cI, 13, .inl G)), (bd 6, .inl (cI, 8, .inl Y)), (bd 7, .inl (cI, 8, .inl Z)), (bd 8, .inl (cZ, 8, .inl X)), (bd 9, .inl (cI, 40, .inl g))] (fun r (_ : Unit) => r = an_alt pw x) (fun _ => [(bd 0, .inr (5, [.ref (bd 1), .int (nI clk), .int pw, .int lf, .ref (bd 2), .int (nI fc), .int (nI sn), .int (nI ob), .ref (bd 3), .ref (bd 4), .ref (bd 5), .int (nI st), .ref (bd 6), .ref (bd 7), .ref (bd 8), .int (nI ef), .int (nI ec), .int (nI fu), .ref (bd 9)])), (bd 1, .inl (cI, 292, .inl (nx_alt f pw x v))), (bd 2, .inl (cI, 12, .inl fd)), (bd 3, .inl (cI, 13, .inl S)), (bd 4, .inl (cI, 13, .inl D)), (bd 5, .inl (cI, 13, .inl G)), (bd 6, .inl (cI, 8, .inl Y)), (bd 7, .inl (cI, 8, .inl Z)), (bd 8, .inl (cZ, 8, .inl X)), (bd 9, .inl (cI, 40, .inl g))]) := by
  refine gc_I_of (cc := cn_M_alter) (maxL := 3) (ty := .boolean) (by decide) rfl (Nat.le_of_ble_eq_true rfl) ?_
  intro pp ee ss mm ar be me cd A Q ls H0 H locs hx hb hml hown hts hK hP hD hS hA hl hret
  have hw : ∀ w ∈ gw_T, w.before ar ss = true := fun w h => hts w (List.mem_cons_of_mem _ h)
  have hl : lv_has ls 3 [(0, .ref (bd 0)), (1, .int x), (2, .int v)] := hl
  rcases hpw with rfl | rfl
  · skip
    refine lv_aload_n hx hb dn_M_alter_0 rfl (lv_at hl 0 rfl) ?_
    refine va_get (D := (dC, dI)) (ci := 5) (v := .int 0) (C := rn_M) (T := tn_M) (N := 19) hx hb hw ml_M hown hK hP 0 rfl rfl 2 (by decide) (hw _ mw_475) (fun _ h9 => h9) rfl dn_M_alter_1 ?_
    refine lv_if_ne (tgt := 18) hx hb dn_M_alter_4 (by decide) (fun h => absurd h (by decide)) (fun _ => ?_)
    refine lv_iload_n hx hb dn_M_alter_7 rfl (lv_at hl 1 rfl) ?_
    refine lv_if_lt (tgt := 18) hx hb dn_M_alter_8 (by decide) (fun h8 => ?_) (fun h8 => ?_)
    · skip
      refine lv_iconst (v := 0) hx hb dn_M_alter_18 (by decide) ?_
      have hno : x < 0 ∨ 292 ≤ x := pl_out1 (by first | exact Or.inl h8 | exact Or.inr h15)
      have hP : va_P (dC, dI) vwCl [(bd 0, .inr (5, [.ref (bd 1), .int (nI clk), .int 0, .int lf, .ref (bd 2), .int (nI fc), .int (nI sn), .int (nI ob), .ref (bd 3), .ref (bd 4), .ref (bd 5), .int (nI st), .ref (bd 6), .ref (bd 7), .ref (bd 8), .int (nI ef), .int (nI ec), .int (nI fu), .ref (bd 9)])), (bd 1, .inl (cI, 292, .inl (nx_alt f 0 x v))), (bd 2, .inl (cI, 12, .inl fd)), (bd 3, .inl (cI, 13, .inl S)), (bd 4, .inl (cI, 13, .inl D)), (bd 5, .inl (cI, 13, .inl G)), (bd 6, .inl (cI, 8, .inl Y)), (bd 7, .inl (cI, 8, .inl Z)), (bd 8, .inl (cZ, 8, .inl X)), (bd 9, .inl (cI, 40, .inl g))] H := by rw [← (al_no (f := f) (v := v) (pw := 0) (Or.inr hno)).2]; exact hP
      have hD : va_D A [(bd 0, .inr (5, [.ref (bd 1), .int (nI clk), .int 0, .int lf, .ref (bd 2), .int (nI fc), .int (nI sn), .int (nI ob), .ref (bd 3), .ref (bd 4), .ref (bd 5), .int (nI st), .ref (bd 6), .ref (bd 7), .ref (bd 8), .int (nI ef), .int (nI ec), .int (nI fu), .ref (bd 9)])), (bd 1, .inl (cI, 292, .inl (nx_alt f 0 x v))), (bd 2, .inl (cI, 12, .inl fd)), (bd 3, .inl (cI, 13, .inl S)), (bd 4, .inl (cI, 13, .inl D)), (bd 5, .inl (cI, 13, .inl G)), (bd 6, .inl (cI, 8, .inl Y)), (bd 7, .inl (cI, 8, .inl Z)), (bd 8, .inl (cZ, 8, .inl X)), (bd 9, .inl (cI, 40, .inl g))] := by rw [← (al_no (f := f) (v := v) (pw := 0) (Or.inr hno)).2]; exact hD
      exact hret 0 () _ _ _ _ (al_no (f := f) (v := v) (Or.inr hno)).1 rfl hP hD hS dn_M_alter_19
    · skip
      refine lv_iload_n hx hb dn_M_alter_11 rfl (lv_at hl 1 rfl) ?_
      refine lv_sipush (v := 291) hx hb dn_M_alter_12 (by decide) ?_
      refine lv_icmp_le (tgt := 20) hx hb dn_M_alter_15 (by decide) (fun h15 => ?_) (fun h15 => ?_)
      · skip
        obtain ⟨k_, hk_, rfl⟩ := pl_in1 h8 h15
        refine lv_aload_n hx hb dn_M_alter_20 rfl (lv_at hl 0 rfl) ?_
        refine va_get (D := (dC, dI)) (ci := 5) (v := .ref (bd 1)) (C := rn_M) (T := tn_M) (N := 19) hx hb hw ml_M hown hK hP 0 rfl rfl 0 (by decide) (hw _ mw_473) (fun _ h9 => h9) rfl dn_M_alter_21 ?_
        refine lv_iload_n hx hb dn_M_alter_24 rfl (lv_at hl 1 rfl) ?_
        refine lv_iload_n hx hb dn_M_alter_25 rfl (lv_at hl 2 rfl) ?_
        refine gr_iast hx hb hK hP hD hS 1 0 rfl rfl k_ rfl (by omega) (by decide) dn_M_alter_26 (fun H locs hP hD hS => ?_)
        have hP : va_P (dC, dI) vwCl [(bd 0, .inr (5, [.ref (bd 1), .int (nI clk), .int 0, .int lf, .ref (bd 2), .int (nI fc), .int (nI sn), .int (nI ob), .ref (bd 3), .ref (bd 4), .ref (bd 5), .int (nI st), .ref (bd 6), .ref (bd 7), .ref (bd 8), .int (nI ef), .int (nI ec), .int (nI fu), .ref (bd 9)])), (bd 1, .inl (cI, 292, .inl (upd f k_ v))), (bd 2, .inl (cI, 12, .inl fd)), (bd 3, .inl (cI, 13, .inl S)), (bd 4, .inl (cI, 13, .inl D)), (bd 5, .inl (cI, 13, .inl G)), (bd 6, .inl (cI, 8, .inl Y)), (bd 7, .inl (cI, 8, .inl Z)), (bd 8, .inl (cZ, 8, .inl X)), (bd 9, .inl (cI, 40, .inl g))] H := hP
        have hD : va_D A [(bd 0, .inr (5, [.ref (bd 1), .int (nI clk), .int 0, .int lf, .ref (bd 2), .int (nI fc), .int (nI sn), .int (nI ob), .ref (bd 3), .ref (bd 4), .ref (bd 5), .int (nI st), .ref (bd 6), .ref (bd 7), .ref (bd 8), .int (nI ef), .int (nI ec), .int (nI fu), .ref (bd 9)])), (bd 1, .inl (cI, 292, .inl (upd f k_ v))), (bd 2, .inl (cI, 12, .inl fd)), (bd 3, .inl (cI, 13, .inl S)), (bd 4, .inl (cI, 13, .inl D)), (bd 5, .inl (cI, 13, .inl G)), (bd 6, .inl (cI, 8, .inl Y)), (bd 7, .inl (cI, 8, .inl Z)), (bd 8, .inl (cZ, 8, .inl X)), (bd 9, .inl (cI, 40, .inl g))] := hD
        refine lv_iconst (v := 1) hx hb dn_M_alter_27 (by decide) ?_
        have hP : va_P (dC, dI) vwCl [(bd 0, .inr (5, [.ref (bd 1), .int (nI clk), .int 0, .int lf, .ref (bd 2), .int (nI fc), .int (nI sn), .int (nI ob), .ref (bd 3), .ref (bd 4), .ref (bd 5), .int (nI st), .ref (bd 6), .ref (bd 7), .ref (bd 8), .int (nI ef), .int (nI ec), .int (nI fu), .ref (bd 9)])), (bd 1, .inl (cI, 292, .inl (nx_alt f 0 (nI k_) v))), (bd 2, .inl (cI, 12, .inl fd)), (bd 3, .inl (cI, 13, .inl S)), (bd 4, .inl (cI, 13, .inl D)), (bd 5, .inl (cI, 13, .inl G)), (bd 6, .inl (cI, 8, .inl Y)), (bd 7, .inl (cI, 8, .inl Z)), (bd 8, .inl (cZ, 8, .inl X)), (bd 9, .inl (cI, 40, .inl g))] H := by rw [← (al_ok (f := f) (v := v) (pw := 0) rfl hk_).2]; exact hP
        have hD : va_D A [(bd 0, .inr (5, [.ref (bd 1), .int (nI clk), .int 0, .int lf, .ref (bd 2), .int (nI fc), .int (nI sn), .int (nI ob), .ref (bd 3), .ref (bd 4), .ref (bd 5), .int (nI st), .ref (bd 6), .ref (bd 7), .ref (bd 8), .int (nI ef), .int (nI ec), .int (nI fu), .ref (bd 9)])), (bd 1, .inl (cI, 292, .inl (nx_alt f 0 (nI k_) v))), (bd 2, .inl (cI, 12, .inl fd)), (bd 3, .inl (cI, 13, .inl S)), (bd 4, .inl (cI, 13, .inl D)), (bd 5, .inl (cI, 13, .inl G)), (bd 6, .inl (cI, 8, .inl Y)), (bd 7, .inl (cI, 8, .inl Z)), (bd 8, .inl (cZ, 8, .inl X)), (bd 9, .inl (cI, 40, .inl g))] := by rw [← (al_ok (f := f) (v := v) (pw := 0) rfl hk_).2]; exact hD
        exact hret 1 () _ _ _ _ (al_ok (f := f) (v := v) rfl hk_).1 rfl hP hD hS dn_M_alter_28
      · skip
        refine lv_iconst (v := 0) hx hb dn_M_alter_18 (by decide) ?_
        have hno : x < 0 ∨ 292 ≤ x := pl_out1 (by first | exact Or.inl h8 | exact Or.inr h15)
        have hP : va_P (dC, dI) vwCl [(bd 0, .inr (5, [.ref (bd 1), .int (nI clk), .int 0, .int lf, .ref (bd 2), .int (nI fc), .int (nI sn), .int (nI ob), .ref (bd 3), .ref (bd 4), .ref (bd 5), .int (nI st), .ref (bd 6), .ref (bd 7), .ref (bd 8), .int (nI ef), .int (nI ec), .int (nI fu), .ref (bd 9)])), (bd 1, .inl (cI, 292, .inl (nx_alt f 0 x v))), (bd 2, .inl (cI, 12, .inl fd)), (bd 3, .inl (cI, 13, .inl S)), (bd 4, .inl (cI, 13, .inl D)), (bd 5, .inl (cI, 13, .inl G)), (bd 6, .inl (cI, 8, .inl Y)), (bd 7, .inl (cI, 8, .inl Z)), (bd 8, .inl (cZ, 8, .inl X)), (bd 9, .inl (cI, 40, .inl g))] H := by rw [← (al_no (f := f) (v := v) (pw := 0) (Or.inr hno)).2]; exact hP
        have hD : va_D A [(bd 0, .inr (5, [.ref (bd 1), .int (nI clk), .int 0, .int lf, .ref (bd 2), .int (nI fc), .int (nI sn), .int (nI ob), .ref (bd 3), .ref (bd 4), .ref (bd 5), .int (nI st), .ref (bd 6), .ref (bd 7), .ref (bd 8), .int (nI ef), .int (nI ec), .int (nI fu), .ref (bd 9)])), (bd 1, .inl (cI, 292, .inl (nx_alt f 0 x v))), (bd 2, .inl (cI, 12, .inl fd)), (bd 3, .inl (cI, 13, .inl S)), (bd 4, .inl (cI, 13, .inl D)), (bd 5, .inl (cI, 13, .inl G)), (bd 6, .inl (cI, 8, .inl Y)), (bd 7, .inl (cI, 8, .inl Z)), (bd 8, .inl (cZ, 8, .inl X)), (bd 9, .inl (cI, 40, .inl g))] := by rw [← (al_no (f := f) (v := v) (pw := 0) (Or.inr hno)).2]; exact hD
        exact hret 0 () _ _ _ _ (al_no (f := f) (v := v) (Or.inr hno)).1 rfl hP hD hS dn_M_alter_19
  · skip
    refine lv_aload_n hx hb dn_M_alter_0 rfl (lv_at hl 0 rfl) ?_
    refine va_get (D := (dC, dI)) (ci := 5) (v := .int 1) (C := rn_M) (T := tn_M) (N := 19) hx hb hw ml_M hown hK hP 0 rfl rfl 2 (by decide) (hw _ mw_475) (fun _ h9 => h9) rfl dn_M_alter_1 ?_
    refine lv_if_ne (tgt := 18) hx hb dn_M_alter_4 (by decide) (fun _ => ?_) (fun h => absurd h (by decide))
    refine lv_iconst (v := 0) hx hb dn_M_alter_18 (by decide) ?_
    have hP : va_P (dC, dI) vwCl [(bd 0, .inr (5, [.ref (bd 1), .int (nI clk), .int 1, .int lf, .ref (bd 2), .int (nI fc), .int (nI sn), .int (nI ob), .ref (bd 3), .ref (bd 4), .ref (bd 5), .int (nI st), .ref (bd 6), .ref (bd 7), .ref (bd 8), .int (nI ef), .int (nI ec), .int (nI fu), .ref (bd 9)])), (bd 1, .inl (cI, 292, .inl (nx_alt f 1 x v))), (bd 2, .inl (cI, 12, .inl fd)), (bd 3, .inl (cI, 13, .inl S)), (bd 4, .inl (cI, 13, .inl D)), (bd 5, .inl (cI, 13, .inl G)), (bd 6, .inl (cI, 8, .inl Y)), (bd 7, .inl (cI, 8, .inl Z)), (bd 8, .inl (cZ, 8, .inl X)), (bd 9, .inl (cI, 40, .inl g))] H := by rw [← (al_no (f := f) (v := v) (a := x) (pw := 1) (Or.inl rfl)).2]; exact hP
    have hD : va_D A [(bd 0, .inr (5, [.ref (bd 1), .int (nI clk), .int 1, .int lf, .ref (bd 2), .int (nI fc), .int (nI sn), .int (nI ob), .ref (bd 3), .ref (bd 4), .ref (bd 5), .int (nI st), .ref (bd 6), .ref (bd 7), .ref (bd 8), .int (nI ef), .int (nI ec), .int (nI fu), .ref (bd 9)])), (bd 1, .inl (cI, 292, .inl (nx_alt f 1 x v))), (bd 2, .inl (cI, 12, .inl fd)), (bd 3, .inl (cI, 13, .inl S)), (bd 4, .inl (cI, 13, .inl D)), (bd 5, .inl (cI, 13, .inl G)), (bd 6, .inl (cI, 8, .inl Y)), (bd 7, .inl (cI, 8, .inl Z)), (bd 8, .inl (cZ, 8, .inl X)), (bd 9, .inl (cI, 40, .inl g))] := by rw [← (al_no (f := f) (v := v) (a := x) (pw := 1) (Or.inl rfl)).2]; exact hD
    exact hret 0 () _ _ _ _ (al_no (f := f) (v := v) (Or.inl rfl)).1 rfl hP hD hS dn_M_alter_19

set_option maxRecDepth 100000 in
set_option maxHeartbeats 1000000 in
theorem c_M_records (l : Launch) (dC : Nat → ClassId) (dI : Nat → Nat → Nat) (cI cZ : ClassId) (bd : Nat → Nat) (clk : Nat) (pw lf : Int32) (f fd : Nat → Int32) (fc sn ob : Nat) (S D G : Nat → Int32) (st : Nat) (Y Z X : Nat → Int32) (ef ec fu : Nat) (g : Nat → Int32) (hpw : pw = 0 ∨ pw = 1) : gc_I l yn_M_records (gw yn_M_records cn_M_records 1 (some .int)) (rm_ 4 95) (dC, dI) vwCl (gT cI cZ) [.ref (bd 0)] [(bd 0, .inr (5, [.ref (bd 1), .int (nI clk), .int pw, .int lf, .ref (bd 2), .int (nI fc), .int (nI sn), .int (nI ob), .ref (bd 3), .ref (bd 4), .ref (bd 5), .int (nI st), .ref (bd 6), .ref (bd 7), .ref (bd 8), .int (nI ef), .int (nI ec), .int (nI fu), .ref (bd 9)])), (bd 1, .inl (cI, 292, .inl f)), (bd 2, .inl (cI, 12, .inl fd)), (bd 3, .inl (cI, 13, .inl S)), (bd 4, .inl (cI, 13, .inl D)), (bd 5, .inl (cI, 13, .inl G)), (bd 6, .inl (cI, 8, .inl Y)), (bd 7, .inl (cI, 8, .inl Z)), (bd 8, .inl (cZ, 8, .inl X)), (bd 9, .inl (cI, 40, .inl g))] (fun r (u : ct_T × Nat) => r = an_rec f clk pw) (fun u => [(bd 0, .inr (5, [.ref (bd 1), .int (nI clk), .int pw, .int lf, .ref (bd 2), .int (nI fc), .int (nI u.2), .int (nI u.1.1), .ref (bd 3), .ref (bd 4), .ref (bd 5), .int (nI st), .ref (bd 6), .ref (bd 7), .ref (bd 8), .int (nI ef), .int (nI ec), .int (nI fu), .ref (bd 9)])), (bd 1, .inl (cI, 292, .inl f)), (bd 2, .inl (cI, 12, .inl fd)), (bd 3, .inl (cI, 13, .inl u.1.2.1)), (bd 4, .inl (cI, 13, .inl u.1.2.2.1)), (bd 5, .inl (cI, 13, .inl u.1.2.2.2.1)), (bd 6, .inl (cI, 8, .inl Y)), (bd 7, .inl (cI, 8, .inl Z)), (bd 8, .inl (cZ, 8, .inl X)), (bd 9, .inl (cI, 40, .inl g))]) := by
  refine gc_I_of (cc := cn_M_records) (maxL := 1) (ty := .int) (by decide) rfl (Nat.le_of_ble_eq_true rfl) ?_
  intro pp ee ss mm ar be me cd A Q ls H0 H locs hx hb hml hown hts hK hP hD hS hA hl hret
  have hw : ∀ w ∈ gw_T, w.before ar ss = true := fun w h => hts w (List.mem_cons_of_mem _ h)
  have hl : lv_has ls 1 [(0, .ref (bd 0))] := hl
  rcases hpw with rfl | rfl
  · skip
    refine lv_aload_n hx hb dn_M_records_0 rfl (lv_at hl 0 rfl) ?_
    refine gc_vv (pre := []) (wc := [(bd 0, .inr (5, [.ref (bd 1), .int (nI clk), .int 0, .int lf, .ref (bd 2), .int (nI fc), .int (nI sn), .int (nI ob), .ref (bd 3), .ref (bd 4), .ref (bd 5), .int (nI st), .ref (bd 6), .ref (bd 7), .ref (bd 8), .int (nI ef), .int (nI ec), .int (nI fu), .ref (bd 9)])), (bd 1, .inl (cI, 292, .inl f)), (bd 2, .inl (cI, 12, .inl fd)), (bd 3, .inl (cI, 13, .inl S)), (bd 4, .inl (cI, 13, .inl D)), (bd 5, .inl (cI, 13, .inl G)), (bd 6, .inl (cI, 8, .inl Y)), (bd 7, .inl (cI, 8, .inl Z)), (bd 8, .inl (cZ, 8, .inl X)), (bd 9, .inl (cI, 40, .inl g))]) (po := []) (As := []) (rest := []) ⟨hx, hb, hml, hown, hw⟩ (c_M_goThrough l dC dI cI cZ bd clk 0 lf f fd fc sn ob S D G st Y Z X ef ec fu g) (gw_cV 0 hw mw_539 mw_541 mv_22 mw_6 mw_542 hd_M_goThrough ⟨Nat.le_of_ble_eq_true rfl, Nat.le_of_ble_eq_true rfl⟩) (ci := 5) rfl rfl rfl hK hP hD hS hA rfl hl.1 rfl (Nat.le_of_ble_eq_true rfl) dn_M_records_1 ⟨Nat.zero_le _, Nat.zero_le _⟩ (fun u1 H locs hc1 hP hD hS => ?_)
    have hP : va_P (dC, dI) vwCl [(bd 0, .inr (5, [.ref (bd 1), .int (nI clk), .int 0, .int lf, .ref (bd 2), .int (nI fc), .int (nI u1.2), .int (nI u1.1.1), .ref (bd 3), .ref (bd 4), .ref (bd 5), .int (nI st), .ref (bd 6), .ref (bd 7), .ref (bd 8), .int (nI ef), .int (nI ec), .int (nI fu), .ref (bd 9)])), (bd 1, .inl (cI, 292, .inl f)), (bd 2, .inl (cI, 12, .inl fd)), (bd 3, .inl (cI, 13, .inl u1.1.2.1)), (bd 4, .inl (cI, 13, .inl u1.1.2.2.1)), (bd 5, .inl (cI, 13, .inl u1.1.2.2.2.1)), (bd 6, .inl (cI, 8, .inl Y)), (bd 7, .inl (cI, 8, .inl Z)), (bd 8, .inl (cZ, 8, .inl X)), (bd 9, .inl (cI, 40, .inl g))] H := hP
    have hD : va_D A [(bd 0, .inr (5, [.ref (bd 1), .int (nI clk), .int 0, .int lf, .ref (bd 2), .int (nI fc), .int (nI u1.2), .int (nI u1.1.1), .ref (bd 3), .ref (bd 4), .ref (bd 5), .int (nI st), .ref (bd 6), .ref (bd 7), .ref (bd 8), .int (nI ef), .int (nI ec), .int (nI fu), .ref (bd 9)])), (bd 1, .inl (cI, 292, .inl f)), (bd 2, .inl (cI, 12, .inl fd)), (bd 3, .inl (cI, 13, .inl u1.1.2.1)), (bd 4, .inl (cI, 13, .inl u1.1.2.2.1)), (bd 5, .inl (cI, 13, .inl u1.1.2.2.2.1)), (bd 6, .inl (cI, 8, .inl Y)), (bd 7, .inl (cI, 8, .inl Z)), (bd 8, .inl (cZ, 8, .inl X)), (bd 9, .inl (cI, 40, .inl g))] := hD
    have ho := ce_12 hc1.2 hc1.1.2.1
    have hsn := hc1.1.1
    refine lv_aload_n hx hb dn_M_records_4 rfl (lv_at hl 0 rfl) ?_
    refine va_get (D := (dC, dI)) (ci := 5) (v := .int 0) (C := rn_M) (T := tn_M) (N := 19) hx hb hw ml_M hown hK hP 0 rfl rfl 2 (by decide) (hw _ mw_475) (fun _ h9 => h9) rfl dn_M_records_5 ?_
    refine lv_if_eq (tgt := 18) hx hb dn_M_records_8 (by decide) (fun _ => ?_) (fun h => absurd h (by decide))
    refine lv_iconst (v := (-1)) hx hb dn_M_records_18 (by decide) ?_
    exact hret (-1) u1 _ _ _ _ (re_off rfl) rfl hP hD hS dn_M_records_19
  · skip
    refine lv_aload_n hx hb dn_M_records_0 rfl (lv_at hl 0 rfl) ?_
    refine gc_vv (pre := []) (wc := [(bd 0, .inr (5, [.ref (bd 1), .int (nI clk), .int 1, .int lf, .ref (bd 2), .int (nI fc), .int (nI sn), .int (nI ob), .ref (bd 3), .ref (bd 4), .ref (bd 5), .int (nI st), .ref (bd 6), .ref (bd 7), .ref (bd 8), .int (nI ef), .int (nI ec), .int (nI fu), .ref (bd 9)])), (bd 1, .inl (cI, 292, .inl f)), (bd 2, .inl (cI, 12, .inl fd)), (bd 3, .inl (cI, 13, .inl S)), (bd 4, .inl (cI, 13, .inl D)), (bd 5, .inl (cI, 13, .inl G)), (bd 6, .inl (cI, 8, .inl Y)), (bd 7, .inl (cI, 8, .inl Z)), (bd 8, .inl (cZ, 8, .inl X)), (bd 9, .inl (cI, 40, .inl g))]) (po := []) (As := []) (rest := []) ⟨hx, hb, hml, hown, hw⟩ (c_M_goThrough l dC dI cI cZ bd clk 1 lf f fd fc sn ob S D G st Y Z X ef ec fu g) (gw_cV 0 hw mw_539 mw_541 mv_22 mw_6 mw_542 hd_M_goThrough ⟨Nat.le_of_ble_eq_true rfl, Nat.le_of_ble_eq_true rfl⟩) (ci := 5) rfl rfl rfl hK hP hD hS hA rfl hl.1 rfl (Nat.le_of_ble_eq_true rfl) dn_M_records_1 ⟨Nat.zero_le _, Nat.zero_le _⟩ (fun u1 H locs hc1 hP hD hS => ?_)
    have hP : va_P (dC, dI) vwCl [(bd 0, .inr (5, [.ref (bd 1), .int (nI clk), .int 1, .int lf, .ref (bd 2), .int (nI fc), .int (nI u1.2), .int (nI u1.1.1), .ref (bd 3), .ref (bd 4), .ref (bd 5), .int (nI st), .ref (bd 6), .ref (bd 7), .ref (bd 8), .int (nI ef), .int (nI ec), .int (nI fu), .ref (bd 9)])), (bd 1, .inl (cI, 292, .inl f)), (bd 2, .inl (cI, 12, .inl fd)), (bd 3, .inl (cI, 13, .inl u1.1.2.1)), (bd 4, .inl (cI, 13, .inl u1.1.2.2.1)), (bd 5, .inl (cI, 13, .inl u1.1.2.2.2.1)), (bd 6, .inl (cI, 8, .inl Y)), (bd 7, .inl (cI, 8, .inl Z)), (bd 8, .inl (cZ, 8, .inl X)), (bd 9, .inl (cI, 40, .inl g))] H := hP
    have hD : va_D A [(bd 0, .inr (5, [.ref (bd 1), .int (nI clk), .int 1, .int lf, .ref (bd 2), .int (nI fc), .int (nI u1.2), .int (nI u1.1.1), .ref (bd 3), .ref (bd 4), .ref (bd 5), .int (nI st), .ref (bd 6), .ref (bd 7), .ref (bd 8), .int (nI ef), .int (nI ec), .int (nI fu), .ref (bd 9)])), (bd 1, .inl (cI, 292, .inl f)), (bd 2, .inl (cI, 12, .inl fd)), (bd 3, .inl (cI, 13, .inl u1.1.2.1)), (bd 4, .inl (cI, 13, .inl u1.1.2.2.1)), (bd 5, .inl (cI, 13, .inl u1.1.2.2.2.1)), (bd 6, .inl (cI, 8, .inl Y)), (bd 7, .inl (cI, 8, .inl Z)), (bd 8, .inl (cZ, 8, .inl X)), (bd 9, .inl (cI, 40, .inl g))] := hD
    have ho := ce_12 hc1.2 hc1.1.2.1
    have hsn := hc1.1.1
    refine lv_aload_n hx hb dn_M_records_4 rfl (lv_at hl 0 rfl) ?_
    refine va_get (D := (dC, dI)) (ci := 5) (v := .int 1) (C := rn_M) (T := tn_M) (N := 19) hx hb hw ml_M hown hK hP 0 rfl rfl 2 (by decide) (hw _ mw_475) (fun _ h9 => h9) rfl dn_M_records_5 ?_
    refine lv_if_eq (tgt := 18) hx hb dn_M_records_8 (by decide) (fun h => absurd h (by decide)) (fun _ => ?_)
    refine lv_aload_n hx hb dn_M_records_11 rfl (lv_at hl 0 rfl) ?_
    refine va_get (D := (dC, dI)) (ci := 5) (v := .int (nI u1.2)) (C := rn_M) (T := tn_M) (N := 19) hx hb hw ml_M hown hK hP 0 rfl rfl 6 (by decide) (hw _ mw_479) (fun _ h9 => h9) rfl dn_M_records_12 ?_
    refine lv_goto (tgt := 19) hx hb dn_M_records_15 (by decide) ?_
    exact hret (nI u1.2) u1 _ _ _ _ (md_rec hc1.1) rfl hP hD hS dn_M_records_19

set_option maxRecDepth 100000 in
set_option maxHeartbeats 1000000 in
theorem c_M_get (l : Launch) (dC : Nat → ClassId) (dI : Nat → Nat → Nat) (cI cZ : ClassId) (bd : Nat → Nat) (clk : Nat) (pw lf : Int32) (f fd : Nat → Int32) (fc sn ob : Nat) (S D G : Nat → Int32) (st : Nat) (Y Z X : Nat → Int32) (ef ec fu : Nat) (g : Nat → Int32) (hpw : pw = 0 ∨ pw = 1) (id j : Int32) : gc_L l yn_M_get (gw yn_M_get cn_M_get 6 (some .long)) (rm_ 4 95) (dC, dI) vwCl (gT cI cZ) [.ref (bd 0), .int id, .int j] [(bd 0, .inr (5, [.ref (bd 1), .int (nI clk), .int pw, .int lf, .ref (bd 2), .int (nI fc), .int (nI sn), .int (nI ob), .ref (bd 3), .ref (bd 4), .ref (bd 5), .int (nI st), .ref (bd 6), .ref (bd 7), .ref (bd 8), .int (nI ef), .int (nI ec), .int (nI fu), .ref (bd 9)])), (bd 1, .inl (cI, 292, .inl f)), (bd 2, .inl (cI, 12, .inl fd)), (bd 3, .inl (cI, 13, .inl S)), (bd 4, .inl (cI, 13, .inl D)), (bd 5, .inl (cI, 13, .inl G)), (bd 6, .inl (cI, 8, .inl Y)), (bd 7, .inl (cI, 8, .inl Z)), (bd 8, .inl (cZ, 8, .inl X)), (bd 9, .inl (cI, 40, .inl g))] (fun r (u : ct_T × Nat) => r = an_get f clk pw id j) (fun u => [(bd 0, .inr (5, [.ref (bd 1), .int (nI clk), .int pw, .int lf, .ref (bd 2), .int (nI fc), .int (nI u.2), .int (nI u.1.1), .ref (bd 3), .ref (bd 4), .ref (bd 5), .int (nI st), .ref (bd 6), .ref (bd 7), .ref (bd 8), .int (nI ef), .int (nI ec), .int (nI fu), .ref (bd 9)])), (bd 1, .inl (cI, 292, .inl f)), (bd 2, .inl (cI, 12, .inl fd)), (bd 3, .inl (cI, 13, .inl u.1.2.1)), (bd 4, .inl (cI, 13, .inl u.1.2.2.1)), (bd 5, .inl (cI, 13, .inl u.1.2.2.2.1)), (bd 6, .inl (cI, 8, .inl Y)), (bd 7, .inl (cI, 8, .inl Z)), (bd 8, .inl (cZ, 8, .inl X)), (bd 9, .inl (cI, 40, .inl g))]) := by
  refine gc_L_of (cc := cn_M_get) (maxL := 6) (by decide) rfl (Nat.le_of_ble_eq_true rfl) ?_
  intro pp ee ss mm ar be me cd A Q ls H0 H locs hx hb hml hown hts hK hP hD hS hA hl hret
  have hw : ∀ w ∈ gw_T, w.before ar ss = true := fun w h => hts w (List.mem_cons_of_mem _ h)
  have hl : lv_has ls 6 [(0, .ref (bd 0)), (1, .int id), (2, .int j)] := hl
  rcases hpw with rfl | rfl
  · skip
    refine lv_aload_n hx hb dn_M_get_0 rfl (lv_at hl 0 rfl) ?_
    refine gc_vv (pre := []) (wc := [(bd 0, .inr (5, [.ref (bd 1), .int (nI clk), .int 0, .int lf, .ref (bd 2), .int (nI fc), .int (nI sn), .int (nI ob), .ref (bd 3), .ref (bd 4), .ref (bd 5), .int (nI st), .ref (bd 6), .ref (bd 7), .ref (bd 8), .int (nI ef), .int (nI ec), .int (nI fu), .ref (bd 9)])), (bd 1, .inl (cI, 292, .inl f)), (bd 2, .inl (cI, 12, .inl fd)), (bd 3, .inl (cI, 13, .inl S)), (bd 4, .inl (cI, 13, .inl D)), (bd 5, .inl (cI, 13, .inl G)), (bd 6, .inl (cI, 8, .inl Y)), (bd 7, .inl (cI, 8, .inl Z)), (bd 8, .inl (cZ, 8, .inl X)), (bd 9, .inl (cI, 40, .inl g))]) (po := []) (As := []) (rest := []) ⟨hx, hb, hml, hown, hw⟩ (c_M_goThrough l dC dI cI cZ bd clk 0 lf f fd fc sn ob S D G st Y Z X ef ec fu g) (gw_cV 0 hw mw_539 mw_541 mv_22 mw_6 mw_542 hd_M_goThrough ⟨Nat.le_of_ble_eq_true rfl, Nat.le_of_ble_eq_true rfl⟩) (ci := 5) rfl rfl rfl hK hP hD hS hA rfl hl.1 rfl (Nat.le_of_ble_eq_true rfl) dn_M_get_1 ⟨Nat.zero_le _, Nat.zero_le _⟩ (fun u1 H locs hc1 hP hD hS => ?_)
    have hP : va_P (dC, dI) vwCl [(bd 0, .inr (5, [.ref (bd 1), .int (nI clk), .int 0, .int lf, .ref (bd 2), .int (nI fc), .int (nI u1.2), .int (nI u1.1.1), .ref (bd 3), .ref (bd 4), .ref (bd 5), .int (nI st), .ref (bd 6), .ref (bd 7), .ref (bd 8), .int (nI ef), .int (nI ec), .int (nI fu), .ref (bd 9)])), (bd 1, .inl (cI, 292, .inl f)), (bd 2, .inl (cI, 12, .inl fd)), (bd 3, .inl (cI, 13, .inl u1.1.2.1)), (bd 4, .inl (cI, 13, .inl u1.1.2.2.1)), (bd 5, .inl (cI, 13, .inl u1.1.2.2.2.1)), (bd 6, .inl (cI, 8, .inl Y)), (bd 7, .inl (cI, 8, .inl Z)), (bd 8, .inl (cZ, 8, .inl X)), (bd 9, .inl (cI, 40, .inl g))] H := hP
    have hD : va_D A [(bd 0, .inr (5, [.ref (bd 1), .int (nI clk), .int 0, .int lf, .ref (bd 2), .int (nI fc), .int (nI u1.2), .int (nI u1.1.1), .ref (bd 3), .ref (bd 4), .ref (bd 5), .int (nI st), .ref (bd 6), .ref (bd 7), .ref (bd 8), .int (nI ef), .int (nI ec), .int (nI fu), .ref (bd 9)])), (bd 1, .inl (cI, 292, .inl f)), (bd 2, .inl (cI, 12, .inl fd)), (bd 3, .inl (cI, 13, .inl u1.1.2.1)), (bd 4, .inl (cI, 13, .inl u1.1.2.2.1)), (bd 5, .inl (cI, 13, .inl u1.1.2.2.2.1)), (bd 6, .inl (cI, 8, .inl Y)), (bd 7, .inl (cI, 8, .inl Z)), (bd 8, .inl (cZ, 8, .inl X)), (bd 9, .inl (cI, 40, .inl g))] := hD
    have ho := ce_12 hc1.2 hc1.1.2.1
    have hsn := hc1.1.1
    refine lv_aload_n hx hb dn_M_get_4 rfl (lv_at hl 0 rfl) ?_
    refine va_get (D := (dC, dI)) (ci := 5) (v := .int 0) (C := rn_M) (T := tn_M) (N := 19) hx hb hw ml_M hown hK hP 0 rfl rfl 2 (by decide) (hw _ mw_475) (fun _ h9 => h9) rfl dn_M_get_5 ?_
    refine lv_if_eq (tgt := 43) hx hb dn_M_get_8 (by decide) (fun _ => ?_) (fun h => absurd h (by decide))
    refine lv_ldc2 (v := 1099511627776) hx hb hown (hw _ mw_600) dn_M_get_43 ?_
    exact hret 1099511627776 u1 _ _ _ _ (ge_off rfl) hP hD hS dn_M_get_46
  · skip
    refine lv_aload_n hx hb dn_M_get_0 rfl (lv_at hl 0 rfl) ?_
    refine gc_vv (pre := []) (wc := [(bd 0, .inr (5, [.ref (bd 1), .int (nI clk), .int 1, .int lf, .ref (bd 2), .int (nI fc), .int (nI sn), .int (nI ob), .ref (bd 3), .ref (bd 4), .ref (bd 5), .int (nI st), .ref (bd 6), .ref (bd 7), .ref (bd 8), .int (nI ef), .int (nI ec), .int (nI fu), .ref (bd 9)])), (bd 1, .inl (cI, 292, .inl f)), (bd 2, .inl (cI, 12, .inl fd)), (bd 3, .inl (cI, 13, .inl S)), (bd 4, .inl (cI, 13, .inl D)), (bd 5, .inl (cI, 13, .inl G)), (bd 6, .inl (cI, 8, .inl Y)), (bd 7, .inl (cI, 8, .inl Z)), (bd 8, .inl (cZ, 8, .inl X)), (bd 9, .inl (cI, 40, .inl g))]) (po := []) (As := []) (rest := []) ⟨hx, hb, hml, hown, hw⟩ (c_M_goThrough l dC dI cI cZ bd clk 1 lf f fd fc sn ob S D G st Y Z X ef ec fu g) (gw_cV 0 hw mw_539 mw_541 mv_22 mw_6 mw_542 hd_M_goThrough ⟨Nat.le_of_ble_eq_true rfl, Nat.le_of_ble_eq_true rfl⟩) (ci := 5) rfl rfl rfl hK hP hD hS hA rfl hl.1 rfl (Nat.le_of_ble_eq_true rfl) dn_M_get_1 ⟨Nat.zero_le _, Nat.zero_le _⟩ (fun u1 H locs hc1 hP hD hS => ?_)
    have hP : va_P (dC, dI) vwCl [(bd 0, .inr (5, [.ref (bd 1), .int (nI clk), .int 1, .int lf, .ref (bd 2), .int (nI fc), .int (nI u1.2), .int (nI u1.1.1), .ref (bd 3), .ref (bd 4), .ref (bd 5), .int (nI st), .ref (bd 6), .ref (bd 7), .ref (bd 8), .int (nI ef), .int (nI ec), .int (nI fu), .ref (bd 9)])), (bd 1, .inl (cI, 292, .inl f)), (bd 2, .inl (cI, 12, .inl fd)), (bd 3, .inl (cI, 13, .inl u1.1.2.1)), (bd 4, .inl (cI, 13, .inl u1.1.2.2.1)), (bd 5, .inl (cI, 13, .inl u1.1.2.2.2.1)), (bd 6, .inl (cI, 8, .inl Y)), (bd 7, .inl (cI, 8, .inl Z)), (bd 8, .inl (cZ, 8, .inl X)), (bd 9, .inl (cI, 40, .inl g))] H := hP
    have hD : va_D A [(bd 0, .inr (5, [.ref (bd 1), .int (nI clk), .int 1, .int lf, .ref (bd 2), .int (nI fc), .int (nI u1.2), .int (nI u1.1.1), .ref (bd 3), .ref (bd 4), .ref (bd 5), .int (nI st), .ref (bd 6), .ref (bd 7), .ref (bd 8), .int (nI ef), .int (nI ec), .int (nI fu), .ref (bd 9)])), (bd 1, .inl (cI, 292, .inl f)), (bd 2, .inl (cI, 12, .inl fd)), (bd 3, .inl (cI, 13, .inl u1.1.2.1)), (bd 4, .inl (cI, 13, .inl u1.1.2.2.1)), (bd 5, .inl (cI, 13, .inl u1.1.2.2.2.1)), (bd 6, .inl (cI, 8, .inl Y)), (bd 7, .inl (cI, 8, .inl Z)), (bd 8, .inl (cZ, 8, .inl X)), (bd 9, .inl (cI, 40, .inl g))] := hD
    have ho := ce_12 hc1.2 hc1.1.2.1
    have hsn := hc1.1.1
    refine lv_aload_n hx hb dn_M_get_4 rfl (lv_at hl 0 rfl) ?_
    refine va_get (D := (dC, dI)) (ci := 5) (v := .int 1) (C := rn_M) (T := tn_M) (N := 19) hx hb hw ml_M hown hK hP 0 rfl rfl 2 (by decide) (hw _ mw_475) (fun _ h9 => h9) rfl dn_M_get_5 ?_
    refine lv_if_eq (tgt := 43) hx hb dn_M_get_8 (by decide) (fun h => absurd h (by decide)) (fun _ => ?_)
    refine lv_iload_n hx hb dn_M_get_11 rfl (lv_at hl 1 rfl) ?_
    refine lv_iconst (v := 1) hx hb dn_M_get_12 (by decide) ?_
    refine lv_icmp_lt (tgt := 43) hx hb dn_M_get_13 (by decide) (fun h13 => ?_) (fun h13 => ?_)
    · skip
      refine lv_ldc2 (v := 1099511627776) hx hb hown (hw _ mw_600) dn_M_get_43 ?_
      exact hret 1099511627776 u1 _ _ _ _ (md_abs hc1.1 hc1.2 (by first | exact Or.inl h13 | exact Or.inr h21)).1 hP hD hS dn_M_get_46
    · skip
      refine lv_iload_n hx hb dn_M_get_16 rfl (lv_at hl 1 rfl) ?_
      refine lv_aload_n hx hb dn_M_get_17 rfl (lv_at hl 0 rfl) ?_
      refine va_get (D := (dC, dI)) (ci := 5) (v := .int (nI u1.1.1)) (C := rn_M) (T := tn_M) (N := 19) hx hb hw ml_M hown hK hP 0 rfl rfl 7 (by decide) (hw _ mw_480) (fun _ h9 => h9) rfl dn_M_get_18 ?_
      refine lv_icmp_gt (tgt := 43) hx hb dn_M_get_21 (by decide) (fun h21 => ?_) (fun h21 => ?_)
      · skip
        refine lv_ldc2 (v := 1099511627776) hx hb hown (hw _ mw_600) dn_M_get_43 ?_
        exact hret 1099511627776 u1 _ _ _ _ (md_abs hc1.1 hc1.2 (by first | exact Or.inl h13 | exact Or.inr h21)).1 hP hD hS dn_M_get_46
      · skip
        obtain ⟨i, i1, i2, rfl⟩ := ct_id (by omega) h13 h21
        refine lv_aload_n hx hb dn_M_get_24 rfl (lv_at hl 0 rfl) ?_
        refine va_get (D := (dC, dI)) (ci := 5) (v := .ref (bd 3)) (C := rn_M) (T := tn_M) (N := 19) hx hb hw ml_M hown hK hP 0 rfl rfl 8 (by decide) (hw _ mw_481) (fun _ h9 => h9) rfl dn_M_get_25 ?_
        refine lv_iload_n hx hb dn_M_get_28 rfl (lv_at hl 1 rfl) ?_
        refine gr_iald hx hb hK hP 3 0 rfl rfl i rfl (by omega) (by decide) dn_M_get_29 ?_
        refine lv_iconst (v := 1) hx hb dn_M_get_30 (by decide) ?_
        refine lv_icmp_ne (tgt := 43) hx hb dn_M_get_31 (by decide) (fun h31 => ?_) (fun h31 => ?_)
        · skip
          refine lv_ldc2 (v := 1099511627776) hx hb hown (hw _ mw_600) dn_M_get_43 ?_
          exact hret 1099511627776 u1 _ _ _ _ (md_dead hc1.1 hc1.2 i1 i2 h31) hP hD hS dn_M_get_46
        · skip
          refine lv_iload_n hx hb dn_M_get_34 rfl (lv_at hl 2 rfl) ?_
          refine lv_if_lt (tgt := 43) hx hb dn_M_get_35 (by decide) (fun h35 => ?_) (fun h35 => ?_)
          · skip
            refine lv_ldc2 (v := 1099511627776) hx hb hown (hw _ mw_600) dn_M_get_43 ?_
            exact hret 1099511627776 u1 _ _ _ _ (ge_j (Or.inl h35)) hP hD hS dn_M_get_46
          · skip
            refine lv_iload_n hx hb dn_M_get_38 rfl (lv_at hl 2 rfl) ?_
            refine lv_iconst (v := 1) hx hb dn_M_get_39 (by decide) ?_
            refine lv_icmp_le (tgt := 47) hx hb dn_M_get_40 (by decide) (fun h40 => ?_) (fun h40 => ?_)
            · skip
              obtain ⟨jj, hj_, rfl⟩ := ge_jj h35 h40
              obtain ⟨p, hp_, hP_, hp1, hp2, hp3⟩ := md_put hc1.1 hc1.2 i1 i2
              refine lv_iconst (v := 0) hx hb dn_M_get_47 (by decide) ?_
              refine lv_istore_n (lv' := [(3, .int 0), (0, .ref (bd 0)), (1, .int (nI i)), (2, .int (nI jj))]) hx hb dn_M_get_48 rfl hl (by decide) rfl (fun ls hl => ?_)
              have lp49 : ∀ (n49_ : Nat) (r : Nat) (ls : Array Slot) (H : Heap) (locs : List Loc), 40 - r = n49_ → lv_has ls 6 [(0, .ref (bd 0)), (1, .int (nI i)), (2, .int (nI jj)), (3, .int (nI r))] → va_P (dC, dI) vwCl [(bd 0, .inr (5, [.ref (bd 1), .int (nI clk), .int 1, .int lf, .ref (bd 2), .int (nI fc), .int (nI u1.2), .int (nI u1.1.1), .ref (bd 3), .ref (bd 4), .ref (bd 5), .int (nI st), .ref (bd 6), .ref (bd 7), .ref (bd 8), .int (nI ef), .int (nI ec), .int (nI fu), .ref (bd 9)])), (bd 1, .inl (cI, 292, .inl f)), (bd 2, .inl (cI, 12, .inl fd)), (bd 3, .inl (cI, 13, .inl u1.1.2.1)), (bd 4, .inl (cI, 13, .inl u1.1.2.2.1)), (bd 5, .inl (cI, 13, .inl u1.1.2.2.2.1)), (bd 6, .inl (cI, 8, .inl Y)), (bd 7, .inl (cI, 8, .inl Z)), (bd 8, .inl (cZ, 8, .inl X)), (bd 9, .inl (cI, 40, .inl g))] H → va_D A [(bd 0, .inr (5, [.ref (bd 1), .int (nI clk), .int 1, .int lf, .ref (bd 2), .int (nI fc), .int (nI u1.2), .int (nI u1.1.1), .ref (bd 3), .ref (bd 4), .ref (bd 5), .int (nI st), .ref (bd 6), .ref (bd 7), .ref (bd 8), .int (nI ef), .int (nI ec), .int (nI fu), .ref (bd 9)])), (bd 1, .inl (cI, 292, .inl f)), (bd 2, .inl (cI, 12, .inl fd)), (bd 3, .inl (cI, 13, .inl u1.1.2.1)), (bd 4, .inl (cI, 13, .inl u1.1.2.2.1)), (bd 5, .inl (cI, 13, .inl u1.1.2.2.2.1)), (bd 6, .inl (cI, 8, .inl Y)), (bd 7, .inl (cI, 8, .inl Z)), (bd 8, .inl (cZ, 8, .inl X)), (bd 9, .inl (cI, 40, .inl g))] → va_S A H0 H locs → (∀ q, q < r → ¬ (f (7 * q) = 1 ∧ f (7 * q + 1) = nI i)) → W pp l ee (headSpec (gw yn_M_get cn_M_get 6 (some .long)) (rm_ 4 95)).room ss mm ar be me cd H locs 0 0 Q (F0 mm 49 ls []) := by
                intro n49_
                induction n49_ using Nat.strongRecOn with
                | ind n49_ ih49 =>
                  intro r ls H locs hn49_ hl hP hD hS hq
                  have hrp : r ≤ p := Nat.le_of_not_lt fun z => hq p z ⟨hp1, hp2⟩
                  refine lv_aload_n hx hb dn_M_get_49 rfl (lv_at hl 0 rfl) ?_
                  refine va_get (D := (dC, dI)) (ci := 5) (v := .ref (bd 1)) (C := rn_M) (T := tn_M) (N := 19) hx hb hw ml_M hown hK hP 0 rfl rfl 0 (by decide) (hw _ mw_473) (fun _ h9 => h9) rfl dn_M_get_50 ?_
                  refine lv_bipush (v := 7) hx hb dn_M_get_53 (by decide) ?_
                  refine lv_iload_n hx hb dn_M_get_55 rfl (lv_at hl 3 rfl) ?_
                  refine gr_mulN hx hb 7 r rfl rfl dn_M_get_56 ?_
                  refine gr_iald hx hb hK hP 1 0 rfl rfl (7 * r) rfl (by omega) (by decide) dn_M_get_57 ?_
                  refine lv_iconst (v := 1) hx hb dn_M_get_58 (by decide) ?_
                  refine lv_icmp_ne (tgt := 77) hx hb dn_M_get_59 (by decide) (fun h59 => ?_) (fun h59 => ?_)
                  · skip
                    refine lv_iload_n hx hb dn_M_get_77 rfl (lv_at hl 3 rfl) ?_
                    refine lv_iconst (v := 1) hx hb dn_M_get_78 (by decide) ?_
                    refine gr_addN hx hb r 1 rfl rfl dn_M_get_79 ?_
                    refine lv_istore_n (lv' := [(3, .int (nI (r + 1))), (0, .ref (bd 0)), (1, .int (nI i)), (2, .int (nI jj))]) hx hb dn_M_get_80 rfl hl (by decide) rfl (fun ls hl => ?_)
                    refine lv_goto (tgt := 49) hx hb dn_M_get_81 (by decide) ?_
                    exact ih49 (40 - (r + 1)) (by omega) (r + 1) ls H locs rfl (lv_sub hl [1, 2, 3, 0] rfl) hP hD hS (lt_s hq (fun z => by first | exact h59 z.1 | exact h74 z.2))
                  · skip
                    refine lv_aload_n hx hb dn_M_get_62 rfl (lv_at hl 0 rfl) ?_
                    refine va_get (D := (dC, dI)) (ci := 5) (v := .ref (bd 1)) (C := rn_M) (T := tn_M) (N := 19) hx hb hw ml_M hown hK hP 0 rfl rfl 0 (by decide) (hw _ mw_473) (fun _ h9 => h9) rfl dn_M_get_63 ?_
                    refine lv_bipush (v := 7) hx hb dn_M_get_66 (by decide) ?_
                    refine lv_iload_n hx hb dn_M_get_68 rfl (lv_at hl 3 rfl) ?_
                    refine gr_mulN hx hb 7 r rfl rfl dn_M_get_69 ?_
                    refine lv_iconst (v := 1) hx hb dn_M_get_70 (by decide) ?_
                    refine gr_addN hx hb (7 * r) 1 rfl rfl dn_M_get_71 ?_
                    refine gr_iald hx hb hK hP 1 0 rfl rfl ((7 * r) + 1) rfl (by omega) (by decide) dn_M_get_72 ?_
                    refine lv_iload_n hx hb dn_M_get_73 rfl (lv_at hl 1 rfl) ?_
                    refine lv_icmp_eq (tgt := 84) hx hb dn_M_get_74 (by decide) (fun h74 => ?_) (fun h74 => ?_)
                    · skip
                      obtain rfl : p = r := by rcases Nat.lt_or_ge r p with z | z; exact absurd ⟨h59, h74⟩ (hp3 r z); omega
                      refine lv_aload_n hx hb dn_M_get_84 rfl (lv_at hl 0 rfl) ?_
                      refine va_get (D := (dC, dI)) (ci := 5) (v := .ref (bd 1)) (C := rn_M) (T := tn_M) (N := 19) hx hb hw ml_M hown hK hP 0 rfl rfl 0 (by decide) (hw _ mw_473) (fun _ h9 => h9) rfl dn_M_get_85 ?_
                      refine lv_sipush (v := 279) hx hb dn_M_get_88 (by decide) ?_
                      refine lv_iload_n hx hb dn_M_get_91 rfl (lv_at hl 1 rfl) ?_
                      refine gr_addN hx hb 279 i rfl rfl dn_M_get_92 ?_
                      refine gr_iald hx hb hK hP 1 0 rfl rfl (279 + i) rfl (by omega) (by decide) dn_M_get_93 ?_
                      refine lv_iload_n hx hb dn_M_get_94 rfl (lv_at hl 1 rfl) ?_
                      refine gc_s0 (v := (hf_mix (f (279 + i)) (nI i))) (As := [.int (f (279 + i)), .int (nI i)]) (rest := []) ⟨hx, hb, hml, hown, hw⟩ (c_M_mix l dC dI cI cZ (f (279 + i)) (nI i)) (gw_cS 2 hw mw_551 mw_552 mw_6 mw_553 hd_M_mix ⟨Nat.le_of_ble_eq_true rfl, Nat.le_of_ble_eq_true rfl⟩) hK hP hD hS hA rfl hl.1 rfl (Nat.le_of_ble_eq_true rfl) dn_M_get_95 ⟨Nat.zero_le _, Nat.zero_le _⟩ (fun H locs hP hD hS => ?_)
                      refine lv_istore (lv' := [(4, .int (hf_mix (f (279 + i)) (nI i))), (0, .ref (bd 0)), (1, .int (nI i)), (2, .int (nI jj)), (3, .int (nI p))]) hx hb dn_M_get_98 hl (by decide) rfl (fun ls hl => ?_)
                      refine lv_iload hx hb dn_M_get_100 (lv_at hl 0 rfl) ?_
                      refine lv_iload_n hx hb dn_M_get_102 rfl (lv_at hl 3 rfl) ?_
                      refine gc_s0 (v := (hf_mix (hf_mix (f (279 + i)) (nI i)) (nI jj))) (As := [.int (hf_mix (f (279 + i)) (nI i)), .int (nI jj)]) (rest := []) ⟨hx, hb, hml, hown, hw⟩ (c_M_mix l dC dI cI cZ (hf_mix (f (279 + i)) (nI i)) (nI jj)) (gw_cS 2 hw mw_551 mw_552 mw_6 mw_553 hd_M_mix ⟨Nat.le_of_ble_eq_true rfl, Nat.le_of_ble_eq_true rfl⟩) hK hP hD hS hA rfl hl.1 rfl (Nat.le_of_ble_eq_true rfl) dn_M_get_103 ⟨Nat.zero_le _, Nat.zero_le _⟩ (fun H locs hP hD hS => ?_)
                      refine lv_istore (lv' := [(5, .int (hf_mix (hf_mix (f (279 + i)) (nI i)) (nI jj))), (4, .int (hf_mix (f (279 + i)) (nI i))), (0, .ref (bd 0)), (1, .int (nI i)), (2, .int (nI jj)), (3, .int (nI p))]) hx hb dn_M_get_106 hl (by decide) rfl (fun ls hl => ?_)
                      refine lv_aload_n hx hb dn_M_get_108 rfl (lv_at hl 2 rfl) ?_
                      refine va_get (D := (dC, dI)) (ci := 5) (v := .ref (bd 1)) (C := rn_M) (T := tn_M) (N := 19) hx hb hw ml_M hown hK hP 0 rfl rfl 0 (by decide) (hw _ mw_473) (fun _ h9 => h9) rfl dn_M_get_109 ?_
                      refine lv_bipush (v := 7) hx hb dn_M_get_112 (by decide) ?_
                      refine lv_iload_n hx hb dn_M_get_114 rfl (lv_at hl 5 rfl) ?_
                      refine gr_mulN hx hb 7 p rfl rfl dn_M_get_115 ?_
                      refine lv_iconst (v := 3) hx hb dn_M_get_116 (by decide) ?_
                      refine gr_addN hx hb (7 * p) 3 rfl rfl dn_M_get_117 ?_
                      refine lv_iload_n hx hb dn_M_get_118 rfl (lv_at hl 4 rfl) ?_
                      refine gr_addN hx hb ((7 * p) + 3) jj rfl rfl dn_M_get_119 ?_
                      refine gr_iald hx hb hK hP 1 0 rfl rfl (((7 * p) + 3) + jj) rfl (by omega) (by decide) dn_M_get_120 ?_
                      refine lv_iload hx hb dn_M_get_121 (lv_at hl 0 rfl) ?_
                      refine lv_ixor hx hb dn_M_get_123 ?_
                      refine lv_i2l hx hb dn_M_get_124 rfl ?_
                      exact hret (((f (((7 * p) + 3) + jj)) ^^^ (hf_mix (hf_mix (f (279 + i)) (nI i)) (nI jj))).toInt64) u1 _ _ _ _ (md_get hc1.1 hc1.2 ho i1 i2 h31 hp_ hP_ hj_) hP hD hS dn_M_get_125
                    · skip
                      refine lv_iload_n hx hb dn_M_get_77 rfl (lv_at hl 3 rfl) ?_
                      refine lv_iconst (v := 1) hx hb dn_M_get_78 (by decide) ?_
                      refine gr_addN hx hb r 1 rfl rfl dn_M_get_79 ?_
                      refine lv_istore_n (lv' := [(3, .int (nI (r + 1))), (0, .ref (bd 0)), (1, .int (nI i)), (2, .int (nI jj))]) hx hb dn_M_get_80 rfl hl (by decide) rfl (fun ls hl => ?_)
                      refine lv_goto (tgt := 49) hx hb dn_M_get_81 (by decide) ?_
                      exact ih49 (40 - (r + 1)) (by omega) (r + 1) ls H locs rfl (lv_sub hl [1, 2, 3, 0] rfl) hP hD hS (lt_s hq (fun z => by first | exact h59 z.1 | exact h74 z.2))
              exact lp49 _ 0 ls H locs rfl (lv_sub hl [1, 2, 3, 0] rfl) hP hD hS (fun q h => absurd h (Nat.not_lt_zero q))
            · skip
              refine lv_ldc2 (v := 1099511627776) hx hb hown (hw _ mw_600) dn_M_get_43 ?_
              exact hret 1099511627776 u1 _ _ _ _ (ge_j (Or.inr (Int32.not_le.mp h40))) hP hD hS dn_M_get_46

set_option maxRecDepth 100000 in
set_option maxHeartbeats 1000000 in
theorem c_M_look (l : Launch) (dC : Nat → ClassId) (dI : Nat → Nat → Nat) (cI cZ : ClassId) (bd : Nat → Nat) (clk : Nat) (pw lf : Int32) (f fd : Nat → Int32) (fc sn ob : Nat) (S D G : Nat → Int32) (st : Nat) (Y Z X : Nat → Int32) (ef ec fu : Nat) (g : Nat → Int32) (hpw : pw = 0 ∨ pw = 1) (id w : Int32) : gc_I l yn_M_look (gw yn_M_look cn_M_look 3 (some .int)) (rm_ 4 95) (dC, dI) vwCl (gT cI cZ) [.ref (bd 0), .int id, .int w] [(bd 0, .inr (5, [.ref (bd 1), .int (nI clk), .int pw, .int lf, .ref (bd 2), .int (nI fc), .int (nI sn), .int (nI ob), .ref (bd 3), .ref (bd 4), .ref (bd 5), .int (nI st), .ref (bd 6), .ref (bd 7), .ref (bd 8), .int (nI ef), .int (nI ec), .int (nI fu), .ref (bd 9)])), (bd 1, .inl (cI, 292, .inl f)), (bd 2, .inl (cI, 12, .inl fd)), (bd 3, .inl (cI, 13, .inl S)), (bd 4, .inl (cI, 13, .inl D)), (bd 5, .inl (cI, 13, .inl G)), (bd 6, .inl (cI, 8, .inl Y)), (bd 7, .inl (cI, 8, .inl Z)), (bd 8, .inl (cZ, 8, .inl X)), (bd 9, .inl (cI, 40, .inl g))] (fun r (u : ct_T × Nat) => r = an_look f clk pw id w) (fun u => [(bd 0, .inr (5, [.ref (bd 1), .int (nI clk), .int pw, .int lf, .ref (bd 2), .int (nI fc), .int (nI u.2), .int (nI u.1.1), .ref (bd 3), .ref (bd 4), .ref (bd 5), .int (nI st), .ref (bd 6), .ref (bd 7), .ref (bd 8), .int (nI ef), .int (nI ec), .int (nI fu), .ref (bd 9)])), (bd 1, .inl (cI, 292, .inl f)), (bd 2, .inl (cI, 12, .inl fd)), (bd 3, .inl (cI, 13, .inl u.1.2.1)), (bd 4, .inl (cI, 13, .inl u.1.2.2.1)), (bd 5, .inl (cI, 13, .inl u.1.2.2.2.1)), (bd 6, .inl (cI, 8, .inl Y)), (bd 7, .inl (cI, 8, .inl Z)), (bd 8, .inl (cZ, 8, .inl X)), (bd 9, .inl (cI, 40, .inl g))]) := by
  refine gc_I_of (cc := cn_M_look) (maxL := 3) (ty := .int) (by decide) rfl (Nat.le_of_ble_eq_true rfl) ?_
  intro pp ee ss mm ar be me cd A Q ls H0 H locs hx hb hml hown hts hK hP hD hS hA hl hret
  have hw : ∀ w ∈ gw_T, w.before ar ss = true := fun w h => hts w (List.mem_cons_of_mem _ h)
  have hl : lv_has ls 3 [(0, .ref (bd 0)), (1, .int id), (2, .int w)] := hl
  rcases hpw with rfl | rfl
  · skip
    refine lv_aload_n hx hb dn_M_look_0 rfl (lv_at hl 0 rfl) ?_
    refine gc_vv (pre := []) (wc := [(bd 0, .inr (5, [.ref (bd 1), .int (nI clk), .int 0, .int lf, .ref (bd 2), .int (nI fc), .int (nI sn), .int (nI ob), .ref (bd 3), .ref (bd 4), .ref (bd 5), .int (nI st), .ref (bd 6), .ref (bd 7), .ref (bd 8), .int (nI ef), .int (nI ec), .int (nI fu), .ref (bd 9)])), (bd 1, .inl (cI, 292, .inl f)), (bd 2, .inl (cI, 12, .inl fd)), (bd 3, .inl (cI, 13, .inl S)), (bd 4, .inl (cI, 13, .inl D)), (bd 5, .inl (cI, 13, .inl G)), (bd 6, .inl (cI, 8, .inl Y)), (bd 7, .inl (cI, 8, .inl Z)), (bd 8, .inl (cZ, 8, .inl X)), (bd 9, .inl (cI, 40, .inl g))]) (po := []) (As := []) (rest := []) ⟨hx, hb, hml, hown, hw⟩ (c_M_goThrough l dC dI cI cZ bd clk 0 lf f fd fc sn ob S D G st Y Z X ef ec fu g) (gw_cV 0 hw mw_539 mw_541 mv_22 mw_6 mw_542 hd_M_goThrough ⟨Nat.le_of_ble_eq_true rfl, Nat.le_of_ble_eq_true rfl⟩) (ci := 5) rfl rfl rfl hK hP hD hS hA rfl hl.1 rfl (Nat.le_of_ble_eq_true rfl) dn_M_look_1 ⟨Nat.zero_le _, Nat.zero_le _⟩ (fun u1 H locs hc1 hP hD hS => ?_)
    have hP : va_P (dC, dI) vwCl [(bd 0, .inr (5, [.ref (bd 1), .int (nI clk), .int 0, .int lf, .ref (bd 2), .int (nI fc), .int (nI u1.2), .int (nI u1.1.1), .ref (bd 3), .ref (bd 4), .ref (bd 5), .int (nI st), .ref (bd 6), .ref (bd 7), .ref (bd 8), .int (nI ef), .int (nI ec), .int (nI fu), .ref (bd 9)])), (bd 1, .inl (cI, 292, .inl f)), (bd 2, .inl (cI, 12, .inl fd)), (bd 3, .inl (cI, 13, .inl u1.1.2.1)), (bd 4, .inl (cI, 13, .inl u1.1.2.2.1)), (bd 5, .inl (cI, 13, .inl u1.1.2.2.2.1)), (bd 6, .inl (cI, 8, .inl Y)), (bd 7, .inl (cI, 8, .inl Z)), (bd 8, .inl (cZ, 8, .inl X)), (bd 9, .inl (cI, 40, .inl g))] H := hP
    have hD : va_D A [(bd 0, .inr (5, [.ref (bd 1), .int (nI clk), .int 0, .int lf, .ref (bd 2), .int (nI fc), .int (nI u1.2), .int (nI u1.1.1), .ref (bd 3), .ref (bd 4), .ref (bd 5), .int (nI st), .ref (bd 6), .ref (bd 7), .ref (bd 8), .int (nI ef), .int (nI ec), .int (nI fu), .ref (bd 9)])), (bd 1, .inl (cI, 292, .inl f)), (bd 2, .inl (cI, 12, .inl fd)), (bd 3, .inl (cI, 13, .inl u1.1.2.1)), (bd 4, .inl (cI, 13, .inl u1.1.2.2.1)), (bd 5, .inl (cI, 13, .inl u1.1.2.2.2.1)), (bd 6, .inl (cI, 8, .inl Y)), (bd 7, .inl (cI, 8, .inl Z)), (bd 8, .inl (cZ, 8, .inl X)), (bd 9, .inl (cI, 40, .inl g))] := hD
    have ho := ce_12 hc1.2 hc1.1.2.1
    have hsn := hc1.1.1
    refine lv_aload_n hx hb dn_M_look_4 rfl (lv_at hl 0 rfl) ?_
    refine va_get (D := (dC, dI)) (ci := 5) (v := .int 0) (C := rn_M) (T := tn_M) (N := 19) hx hb hw ml_M hown hK hP 0 rfl rfl 2 (by decide) (hw _ mw_475) (fun _ h9 => h9) rfl dn_M_look_5 ?_
    refine lv_if_eq (tgt := 33) hx hb dn_M_look_8 (by decide) (fun _ => ?_) (fun h => absurd h (by decide))
    refine lv_iconst (v := (-1)) hx hb dn_M_look_33 (by decide) ?_
    exact hret (-1) u1 _ _ _ _ (lo_off rfl) rfl hP hD hS dn_M_look_34
  · skip
    refine lv_aload_n hx hb dn_M_look_0 rfl (lv_at hl 0 rfl) ?_
    refine gc_vv (pre := []) (wc := [(bd 0, .inr (5, [.ref (bd 1), .int (nI clk), .int 1, .int lf, .ref (bd 2), .int (nI fc), .int (nI sn), .int (nI ob), .ref (bd 3), .ref (bd 4), .ref (bd 5), .int (nI st), .ref (bd 6), .ref (bd 7), .ref (bd 8), .int (nI ef), .int (nI ec), .int (nI fu), .ref (bd 9)])), (bd 1, .inl (cI, 292, .inl f)), (bd 2, .inl (cI, 12, .inl fd)), (bd 3, .inl (cI, 13, .inl S)), (bd 4, .inl (cI, 13, .inl D)), (bd 5, .inl (cI, 13, .inl G)), (bd 6, .inl (cI, 8, .inl Y)), (bd 7, .inl (cI, 8, .inl Z)), (bd 8, .inl (cZ, 8, .inl X)), (bd 9, .inl (cI, 40, .inl g))]) (po := []) (As := []) (rest := []) ⟨hx, hb, hml, hown, hw⟩ (c_M_goThrough l dC dI cI cZ bd clk 1 lf f fd fc sn ob S D G st Y Z X ef ec fu g) (gw_cV 0 hw mw_539 mw_541 mv_22 mw_6 mw_542 hd_M_goThrough ⟨Nat.le_of_ble_eq_true rfl, Nat.le_of_ble_eq_true rfl⟩) (ci := 5) rfl rfl rfl hK hP hD hS hA rfl hl.1 rfl (Nat.le_of_ble_eq_true rfl) dn_M_look_1 ⟨Nat.zero_le _, Nat.zero_le _⟩ (fun u1 H locs hc1 hP hD hS => ?_)
    have hP : va_P (dC, dI) vwCl [(bd 0, .inr (5, [.ref (bd 1), .int (nI clk), .int 1, .int lf, .ref (bd 2), .int (nI fc), .int (nI u1.2), .int (nI u1.1.1), .ref (bd 3), .ref (bd 4), .ref (bd 5), .int (nI st), .ref (bd 6), .ref (bd 7), .ref (bd 8), .int (nI ef), .int (nI ec), .int (nI fu), .ref (bd 9)])), (bd 1, .inl (cI, 292, .inl f)), (bd 2, .inl (cI, 12, .inl fd)), (bd 3, .inl (cI, 13, .inl u1.1.2.1)), (bd 4, .inl (cI, 13, .inl u1.1.2.2.1)), (bd 5, .inl (cI, 13, .inl u1.1.2.2.2.1)), (bd 6, .inl (cI, 8, .inl Y)), (bd 7, .inl (cI, 8, .inl Z)), (bd 8, .inl (cZ, 8, .inl X)), (bd 9, .inl (cI, 40, .inl g))] H := hP
    have hD : va_D A [(bd 0, .inr (5, [.ref (bd 1), .int (nI clk), .int 1, .int lf, .ref (bd 2), .int (nI fc), .int (nI u1.2), .int (nI u1.1.1), .ref (bd 3), .ref (bd 4), .ref (bd 5), .int (nI st), .ref (bd 6), .ref (bd 7), .ref (bd 8), .int (nI ef), .int (nI ec), .int (nI fu), .ref (bd 9)])), (bd 1, .inl (cI, 292, .inl f)), (bd 2, .inl (cI, 12, .inl fd)), (bd 3, .inl (cI, 13, .inl u1.1.2.1)), (bd 4, .inl (cI, 13, .inl u1.1.2.2.1)), (bd 5, .inl (cI, 13, .inl u1.1.2.2.2.1)), (bd 6, .inl (cI, 8, .inl Y)), (bd 7, .inl (cI, 8, .inl Z)), (bd 8, .inl (cZ, 8, .inl X)), (bd 9, .inl (cI, 40, .inl g))] := hD
    have ho := ce_12 hc1.2 hc1.1.2.1
    have hsn := hc1.1.1
    refine lv_aload_n hx hb dn_M_look_4 rfl (lv_at hl 0 rfl) ?_
    refine va_get (D := (dC, dI)) (ci := 5) (v := .int 1) (C := rn_M) (T := tn_M) (N := 19) hx hb hw ml_M hown hK hP 0 rfl rfl 2 (by decide) (hw _ mw_475) (fun _ h9 => h9) rfl dn_M_look_5 ?_
    refine lv_if_eq (tgt := 33) hx hb dn_M_look_8 (by decide) (fun h => absurd h (by decide)) (fun _ => ?_)
    refine lv_iload_n hx hb dn_M_look_11 rfl (lv_at hl 1 rfl) ?_
    refine lv_iconst (v := 1) hx hb dn_M_look_12 (by decide) ?_
    refine lv_icmp_lt (tgt := 33) hx hb dn_M_look_13 (by decide) (fun h13 => ?_) (fun h13 => ?_)
    · skip
      refine lv_iconst (v := (-1)) hx hb dn_M_look_33 (by decide) ?_
      exact hret (-1) u1 _ _ _ _ ((md_abs (j := 0) hc1.1 hc1.2 (by first | exact Or.inl h13 | exact Or.inr h21)).2 w) rfl hP hD hS dn_M_look_34
    · skip
      refine lv_iload_n hx hb dn_M_look_16 rfl (lv_at hl 1 rfl) ?_
      refine lv_aload_n hx hb dn_M_look_17 rfl (lv_at hl 0 rfl) ?_
      refine va_get (D := (dC, dI)) (ci := 5) (v := .int (nI u1.1.1)) (C := rn_M) (T := tn_M) (N := 19) hx hb hw ml_M hown hK hP 0 rfl rfl 7 (by decide) (hw _ mw_480) (fun _ h9 => h9) rfl dn_M_look_18 ?_
      refine lv_icmp_gt (tgt := 33) hx hb dn_M_look_21 (by decide) (fun h21 => ?_) (fun h21 => ?_)
      · skip
        refine lv_iconst (v := (-1)) hx hb dn_M_look_33 (by decide) ?_
        exact hret (-1) u1 _ _ _ _ ((md_abs (j := 0) hc1.1 hc1.2 (by first | exact Or.inl h13 | exact Or.inr h21)).2 w) rfl hP hD hS dn_M_look_34
      · skip
        obtain ⟨i, i1, i2, rfl⟩ := ct_id (by omega) h13 h21
        refine lv_iload_n hx hb dn_M_look_24 rfl (lv_at hl 2 rfl) ?_
        refine lv_if_lt (tgt := 33) hx hb dn_M_look_25 (by decide) (fun h25 => ?_) (fun h25 => ?_)
        · skip
          refine lv_iconst (v := (-1)) hx hb dn_M_look_33 (by decide) ?_
          have hb_ : w < 0 ∨ 2 < w := by first | exact Or.inl h25 | exact Or.inr (Int32.not_le.mp h30)
          exact hret (-1) u1 _ _ _ _ (by rw [md_look hc1.1 hc1.2 ho i1 i2, if_neg (lk_no hb_).1, if_neg (lk_no hb_).2.1, if_neg (lk_no hb_).2.2]) rfl hP hD hS dn_M_look_34
        · skip
          refine lv_iload_n hx hb dn_M_look_28 rfl (lv_at hl 2 rfl) ?_
          refine lv_iconst (v := 2) hx hb dn_M_look_29 (by decide) ?_
          refine lv_icmp_le (tgt := 35) hx hb dn_M_look_30 (by decide) (fun h30 => ?_) (fun h30 => ?_)
          · skip
            refine lv_iload_n hx hb dn_M_look_35 rfl (lv_at hl 2 rfl) ?_
            refine lv_if_ne (tgt := 48) hx hb dn_M_look_36 (by decide) (fun h36 => ?_) (fun h36 => ?_)
            · skip
              refine lv_iload_n hx hb dn_M_look_48 rfl (lv_at hl 2 rfl) ?_
              refine lv_iconst (v := 1) hx hb dn_M_look_49 (by decide) ?_
              refine lv_icmp_ne (tgt := 62) hx hb dn_M_look_50 (by decide) (fun h50 => ?_) (fun h50 => ?_)
              · skip
                refine lv_aload_n hx hb dn_M_look_62 rfl (lv_at hl 0 rfl) ?_
                refine va_get (D := (dC, dI)) (ci := 5) (v := .ref (bd 5)) (C := rn_M) (T := tn_M) (N := 19) hx hb hw ml_M hown hK hP 0 rfl rfl 10 (by decide) (hw _ mw_483) (fun _ h9 => h9) rfl dn_M_look_63 ?_
                refine lv_iload_n hx hb dn_M_look_66 rfl (lv_at hl 1 rfl) ?_
                refine gr_iald hx hb hK hP 5 0 rfl rfl i rfl (by omega) (by decide) dn_M_look_67 ?_
                exact hret (u1.1.2.2.2.1 i) u1 _ _ _ _ (by rw [md_look hc1.1 hc1.2 ho i1 i2, if_neg h36]; first | rw [if_pos h50] | rw [if_neg h50, if_pos (lk_2 h25 h30 h36 h50)]) rfl hP hD hS dn_M_look_68
              · skip
                refine lv_aload_n hx hb dn_M_look_53 rfl (lv_at hl 0 rfl) ?_
                refine va_get (D := (dC, dI)) (ci := 5) (v := .ref (bd 4)) (C := rn_M) (T := tn_M) (N := 19) hx hb hw ml_M hown hK hP 0 rfl rfl 9 (by decide) (hw _ mw_482) (fun _ h9 => h9) rfl dn_M_look_54 ?_
                refine lv_iload_n hx hb dn_M_look_57 rfl (lv_at hl 1 rfl) ?_
                refine gr_iald hx hb hK hP 4 0 rfl rfl i rfl (by omega) (by decide) dn_M_look_58 ?_
                refine lv_goto (tgt := 68) hx hb dn_M_look_59 (by decide) ?_
                exact hret (u1.1.2.2.1 i) u1 _ _ _ _ (by rw [md_look hc1.1 hc1.2 ho i1 i2, if_neg h36]; first | rw [if_pos h50] | rw [if_neg h50, if_pos (lk_2 h25 h30 h36 h50)]) rfl hP hD hS dn_M_look_68
            · skip
              refine lv_aload_n hx hb dn_M_look_39 rfl (lv_at hl 0 rfl) ?_
              refine va_get (D := (dC, dI)) (ci := 5) (v := .ref (bd 3)) (C := rn_M) (T := tn_M) (N := 19) hx hb hw ml_M hown hK hP 0 rfl rfl 8 (by decide) (hw _ mw_481) (fun _ h9 => h9) rfl dn_M_look_40 ?_
              refine lv_iload_n hx hb dn_M_look_43 rfl (lv_at hl 1 rfl) ?_
              refine gr_iald hx hb hK hP 3 0 rfl rfl i rfl (by omega) (by decide) dn_M_look_44 ?_
              refine lv_goto (tgt := 68) hx hb dn_M_look_45 (by decide) ?_
              exact hret (u1.1.2.1 i) u1 _ _ _ _ (by rw [md_look hc1.1 hc1.2 ho i1 i2, if_pos h36]) rfl hP hD hS dn_M_look_68
          · skip
            refine lv_iconst (v := (-1)) hx hb dn_M_look_33 (by decide) ?_
            have hb_ : w < 0 ∨ 2 < w := by first | exact Or.inl h25 | exact Or.inr (Int32.not_le.mp h30)
            exact hret (-1) u1 _ _ _ _ (by rw [md_look hc1.1 hc1.2 ho i1 i2, if_neg (lk_no hb_).1, if_neg (lk_no hb_).2.1, if_neg (lk_no hb_).2.2]) rfl hP hD hS dn_M_look_34

set_option maxRecDepth 100000 in
set_option maxHeartbeats 1000000 in
theorem c_M_root (l : Launch) (dC : Nat → ClassId) (dI : Nat → Nat → Nat) (cI cZ : ClassId) (bd : Nat → Nat) (clk : Nat) (pw lf : Int32) (f fd : Nat → Int32) (fc sn ob : Nat) (S D G : Nat → Int32) (st : Nat) (Y Z X : Nat → Int32) (ef ec fu : Nat) (g : Nat → Int32) (hpw : pw = 0 ∨ pw = 1) (n : Int32) : gc_L l yn_M_root (gw yn_M_root cn_M_root 2 (some .long)) (rm_ 4 95) (dC, dI) vwCl (gT cI cZ) [.ref (bd 0), .int n] [(bd 0, .inr (5, [.ref (bd 1), .int (nI clk), .int pw, .int lf, .ref (bd 2), .int (nI fc), .int (nI sn), .int (nI ob), .ref (bd 3), .ref (bd 4), .ref (bd 5), .int (nI st), .ref (bd 6), .ref (bd 7), .ref (bd 8), .int (nI ef), .int (nI ec), .int (nI fu), .ref (bd 9)])), (bd 1, .inl (cI, 292, .inl f)), (bd 2, .inl (cI, 12, .inl fd)), (bd 3, .inl (cI, 13, .inl S)), (bd 4, .inl (cI, 13, .inl D)), (bd 5, .inl (cI, 13, .inl G)), (bd 6, .inl (cI, 8, .inl Y)), (bd 7, .inl (cI, 8, .inl Z)), (bd 8, .inl (cZ, 8, .inl X)), (bd 9, .inl (cI, 40, .inl g))] (fun r (u : ct_T × Nat) => r = an_root f g clk pw n) (fun u => [(bd 0, .inr (5, [.ref (bd 1), .int (nI clk), .int pw, .int lf, .ref (bd 2), .int (nI fc), .int (nI u.2), .int (nI u.1.1), .ref (bd 3), .ref (bd 4), .ref (bd 5), .int (nI st), .ref (bd 6), .ref (bd 7), .ref (bd 8), .int (nI ef), .int (nI ec), .int (nI fu), .ref (bd 9)])), (bd 1, .inl (cI, 292, .inl f)), (bd 2, .inl (cI, 12, .inl fd)), (bd 3, .inl (cI, 13, .inl u.1.2.1)), (bd 4, .inl (cI, 13, .inl u.1.2.2.1)), (bd 5, .inl (cI, 13, .inl u.1.2.2.2.1)), (bd 6, .inl (cI, 8, .inl Y)), (bd 7, .inl (cI, 8, .inl Z)), (bd 8, .inl (cZ, 8, .inl X)), (bd 9, .inl (cI, 40, .inl (nx_root f g clk pw n)))]) := by
  refine gc_L_of (cc := cn_M_root) (maxL := 2) (by decide) rfl (Nat.le_of_ble_eq_true rfl) ?_
  intro pp ee ss mm ar be me cd A Q ls H0 H locs hx hb hml hown hts hK hP hD hS hA hl hret
  have hw : ∀ w ∈ gw_T, w.before ar ss = true := fun w h => hts w (List.mem_cons_of_mem _ h)
  have hl : lv_has ls 2 [(0, .ref (bd 0)), (1, .int n)] := hl
  rcases hpw with rfl | rfl
  · skip
    refine lv_aload_n hx hb dn_M_root_0 rfl (lv_at hl 0 rfl) ?_
    refine gc_vv (pre := []) (wc := [(bd 0, .inr (5, [.ref (bd 1), .int (nI clk), .int 0, .int lf, .ref (bd 2), .int (nI fc), .int (nI sn), .int (nI ob), .ref (bd 3), .ref (bd 4), .ref (bd 5), .int (nI st), .ref (bd 6), .ref (bd 7), .ref (bd 8), .int (nI ef), .int (nI ec), .int (nI fu), .ref (bd 9)])), (bd 1, .inl (cI, 292, .inl f)), (bd 2, .inl (cI, 12, .inl fd)), (bd 3, .inl (cI, 13, .inl S)), (bd 4, .inl (cI, 13, .inl D)), (bd 5, .inl (cI, 13, .inl G)), (bd 6, .inl (cI, 8, .inl Y)), (bd 7, .inl (cI, 8, .inl Z)), (bd 8, .inl (cZ, 8, .inl X)), (bd 9, .inl (cI, 40, .inl g))]) (po := []) (As := []) (rest := []) ⟨hx, hb, hml, hown, hw⟩ (c_M_goThrough l dC dI cI cZ bd clk 0 lf f fd fc sn ob S D G st Y Z X ef ec fu g) (gw_cV 0 hw mw_539 mw_541 mv_22 mw_6 mw_542 hd_M_goThrough ⟨Nat.le_of_ble_eq_true rfl, Nat.le_of_ble_eq_true rfl⟩) (ci := 5) rfl rfl rfl hK hP hD hS hA rfl hl.1 rfl (Nat.le_of_ble_eq_true rfl) dn_M_root_1 ⟨Nat.zero_le _, Nat.zero_le _⟩ (fun u1 H locs hc1 hP hD hS => ?_)
    have hP : va_P (dC, dI) vwCl [(bd 0, .inr (5, [.ref (bd 1), .int (nI clk), .int 0, .int lf, .ref (bd 2), .int (nI fc), .int (nI u1.2), .int (nI u1.1.1), .ref (bd 3), .ref (bd 4), .ref (bd 5), .int (nI st), .ref (bd 6), .ref (bd 7), .ref (bd 8), .int (nI ef), .int (nI ec), .int (nI fu), .ref (bd 9)])), (bd 1, .inl (cI, 292, .inl f)), (bd 2, .inl (cI, 12, .inl fd)), (bd 3, .inl (cI, 13, .inl u1.1.2.1)), (bd 4, .inl (cI, 13, .inl u1.1.2.2.1)), (bd 5, .inl (cI, 13, .inl u1.1.2.2.2.1)), (bd 6, .inl (cI, 8, .inl Y)), (bd 7, .inl (cI, 8, .inl Z)), (bd 8, .inl (cZ, 8, .inl X)), (bd 9, .inl (cI, 40, .inl g))] H := hP
    have hD : va_D A [(bd 0, .inr (5, [.ref (bd 1), .int (nI clk), .int 0, .int lf, .ref (bd 2), .int (nI fc), .int (nI u1.2), .int (nI u1.1.1), .ref (bd 3), .ref (bd 4), .ref (bd 5), .int (nI st), .ref (bd 6), .ref (bd 7), .ref (bd 8), .int (nI ef), .int (nI ec), .int (nI fu), .ref (bd 9)])), (bd 1, .inl (cI, 292, .inl f)), (bd 2, .inl (cI, 12, .inl fd)), (bd 3, .inl (cI, 13, .inl u1.1.2.1)), (bd 4, .inl (cI, 13, .inl u1.1.2.2.1)), (bd 5, .inl (cI, 13, .inl u1.1.2.2.2.1)), (bd 6, .inl (cI, 8, .inl Y)), (bd 7, .inl (cI, 8, .inl Z)), (bd 8, .inl (cZ, 8, .inl X)), (bd 9, .inl (cI, 40, .inl g))] := hD
    have ho := ce_12 hc1.2 hc1.1.2.1
    have hsn := hc1.1.1
    refine lv_aload_n hx hb dn_M_root_4 rfl (lv_at hl 0 rfl) ?_
    refine va_get (D := (dC, dI)) (ci := 5) (v := .int 0) (C := rn_M) (T := tn_M) (N := 19) hx hb hw ml_M hown hK hP 0 rfl rfl 2 (by decide) (hw _ mw_475) (fun _ h9 => h9) rfl dn_M_root_5 ?_
    refine lv_if_eq (tgt := 23) hx hb dn_M_root_8 (by decide) (fun _ => ?_) (fun h => absurd h (by decide))
    refine lv_ldc2 (v := 1099511627776) hx hb hown (hw _ mw_600) dn_M_root_23 ?_
    have hP : va_P (dC, dI) vwCl [(bd 0, .inr (5, [.ref (bd 1), .int (nI clk), .int 0, .int lf, .ref (bd 2), .int (nI fc), .int (nI u1.2), .int (nI u1.1.1), .ref (bd 3), .ref (bd 4), .ref (bd 5), .int (nI st), .ref (bd 6), .ref (bd 7), .ref (bd 8), .int (nI ef), .int (nI ec), .int (nI fu), .ref (bd 9)])), (bd 1, .inl (cI, 292, .inl f)), (bd 2, .inl (cI, 12, .inl fd)), (bd 3, .inl (cI, 13, .inl u1.1.2.1)), (bd 4, .inl (cI, 13, .inl u1.1.2.2.1)), (bd 5, .inl (cI, 13, .inl u1.1.2.2.2.1)), (bd 6, .inl (cI, 8, .inl Y)), (bd 7, .inl (cI, 8, .inl Z)), (bd 8, .inl (cZ, 8, .inl X)), (bd 9, .inl (cI, 40, .inl (nx_root f g clk 0 n)))] H := by rw [← (ro_off (f := f) (g := g) (clk := clk) (w := n) (pw := 0) rfl).2]; exact hP
    have hD : va_D A [(bd 0, .inr (5, [.ref (bd 1), .int (nI clk), .int 0, .int lf, .ref (bd 2), .int (nI fc), .int (nI u1.2), .int (nI u1.1.1), .ref (bd 3), .ref (bd 4), .ref (bd 5), .int (nI st), .ref (bd 6), .ref (bd 7), .ref (bd 8), .int (nI ef), .int (nI ec), .int (nI fu), .ref (bd 9)])), (bd 1, .inl (cI, 292, .inl f)), (bd 2, .inl (cI, 12, .inl fd)), (bd 3, .inl (cI, 13, .inl u1.1.2.1)), (bd 4, .inl (cI, 13, .inl u1.1.2.2.1)), (bd 5, .inl (cI, 13, .inl u1.1.2.2.2.1)), (bd 6, .inl (cI, 8, .inl Y)), (bd 7, .inl (cI, 8, .inl Z)), (bd 8, .inl (cZ, 8, .inl X)), (bd 9, .inl (cI, 40, .inl (nx_root f g clk 0 n)))] := by rw [← (ro_off (f := f) (g := g) (clk := clk) (w := n) (pw := 0) rfl).2]; exact hD
    exact hret 1099511627776 u1 _ _ _ _ (ro_off (f := f) (g := g) (clk := clk) (w := n) rfl).1 hP hD hS dn_M_root_26
  · skip
    refine lv_aload_n hx hb dn_M_root_0 rfl (lv_at hl 0 rfl) ?_
    refine gc_vv (pre := []) (wc := [(bd 0, .inr (5, [.ref (bd 1), .int (nI clk), .int 1, .int lf, .ref (bd 2), .int (nI fc), .int (nI sn), .int (nI ob), .ref (bd 3), .ref (bd 4), .ref (bd 5), .int (nI st), .ref (bd 6), .ref (bd 7), .ref (bd 8), .int (nI ef), .int (nI ec), .int (nI fu), .ref (bd 9)])), (bd 1, .inl (cI, 292, .inl f)), (bd 2, .inl (cI, 12, .inl fd)), (bd 3, .inl (cI, 13, .inl S)), (bd 4, .inl (cI, 13, .inl D)), (bd 5, .inl (cI, 13, .inl G)), (bd 6, .inl (cI, 8, .inl Y)), (bd 7, .inl (cI, 8, .inl Z)), (bd 8, .inl (cZ, 8, .inl X)), (bd 9, .inl (cI, 40, .inl g))]) (po := []) (As := []) (rest := []) ⟨hx, hb, hml, hown, hw⟩ (c_M_goThrough l dC dI cI cZ bd clk 1 lf f fd fc sn ob S D G st Y Z X ef ec fu g) (gw_cV 0 hw mw_539 mw_541 mv_22 mw_6 mw_542 hd_M_goThrough ⟨Nat.le_of_ble_eq_true rfl, Nat.le_of_ble_eq_true rfl⟩) (ci := 5) rfl rfl rfl hK hP hD hS hA rfl hl.1 rfl (Nat.le_of_ble_eq_true rfl) dn_M_root_1 ⟨Nat.zero_le _, Nat.zero_le _⟩ (fun u1 H locs hc1 hP hD hS => ?_)
    have hP : va_P (dC, dI) vwCl [(bd 0, .inr (5, [.ref (bd 1), .int (nI clk), .int 1, .int lf, .ref (bd 2), .int (nI fc), .int (nI u1.2), .int (nI u1.1.1), .ref (bd 3), .ref (bd 4), .ref (bd 5), .int (nI st), .ref (bd 6), .ref (bd 7), .ref (bd 8), .int (nI ef), .int (nI ec), .int (nI fu), .ref (bd 9)])), (bd 1, .inl (cI, 292, .inl f)), (bd 2, .inl (cI, 12, .inl fd)), (bd 3, .inl (cI, 13, .inl u1.1.2.1)), (bd 4, .inl (cI, 13, .inl u1.1.2.2.1)), (bd 5, .inl (cI, 13, .inl u1.1.2.2.2.1)), (bd 6, .inl (cI, 8, .inl Y)), (bd 7, .inl (cI, 8, .inl Z)), (bd 8, .inl (cZ, 8, .inl X)), (bd 9, .inl (cI, 40, .inl g))] H := hP
    have hD : va_D A [(bd 0, .inr (5, [.ref (bd 1), .int (nI clk), .int 1, .int lf, .ref (bd 2), .int (nI fc), .int (nI u1.2), .int (nI u1.1.1), .ref (bd 3), .ref (bd 4), .ref (bd 5), .int (nI st), .ref (bd 6), .ref (bd 7), .ref (bd 8), .int (nI ef), .int (nI ec), .int (nI fu), .ref (bd 9)])), (bd 1, .inl (cI, 292, .inl f)), (bd 2, .inl (cI, 12, .inl fd)), (bd 3, .inl (cI, 13, .inl u1.1.2.1)), (bd 4, .inl (cI, 13, .inl u1.1.2.2.1)), (bd 5, .inl (cI, 13, .inl u1.1.2.2.2.1)), (bd 6, .inl (cI, 8, .inl Y)), (bd 7, .inl (cI, 8, .inl Z)), (bd 8, .inl (cZ, 8, .inl X)), (bd 9, .inl (cI, 40, .inl g))] := hD
    have ho := ce_12 hc1.2 hc1.1.2.1
    have hsn := hc1.1.1
    refine lv_aload_n hx hb dn_M_root_4 rfl (lv_at hl 0 rfl) ?_
    refine va_get (D := (dC, dI)) (ci := 5) (v := .int 1) (C := rn_M) (T := tn_M) (N := 19) hx hb hw ml_M hown hK hP 0 rfl rfl 2 (by decide) (hw _ mw_475) (fun _ h9 => h9) rfl dn_M_root_5 ?_
    refine lv_if_eq (tgt := 23) hx hb dn_M_root_8 (by decide) (fun h => absurd h (by decide)) (fun _ => ?_)
    refine lv_iload_n hx hb dn_M_root_11 rfl (lv_at hl 1 rfl) ?_
    refine lv_if_lt (tgt := 23) hx hb dn_M_root_12 (by decide) (fun h12 => ?_) (fun h12 => ?_)
    · skip
      refine lv_ldc2 (v := 1099511627776) hx hb hown (hw _ mw_600) dn_M_root_23 ?_
      have hb_ : n < 0 ∨ nI u1.2 < n := by first | exact Or.inl h12 | exact Or.inr (Int32.not_le.mp h20)
      have hP : va_P (dC, dI) vwCl [(bd 0, .inr (5, [.ref (bd 1), .int (nI clk), .int 1, .int lf, .ref (bd 2), .int (nI fc), .int (nI u1.2), .int (nI u1.1.1), .ref (bd 3), .ref (bd 4), .ref (bd 5), .int (nI st), .ref (bd 6), .ref (bd 7), .ref (bd 8), .int (nI ef), .int (nI ec), .int (nI fu), .ref (bd 9)])), (bd 1, .inl (cI, 292, .inl f)), (bd 2, .inl (cI, 12, .inl fd)), (bd 3, .inl (cI, 13, .inl u1.1.2.1)), (bd 4, .inl (cI, 13, .inl u1.1.2.2.1)), (bd 5, .inl (cI, 13, .inl u1.1.2.2.2.1)), (bd 6, .inl (cI, 8, .inl Y)), (bd 7, .inl (cI, 8, .inl Z)), (bd 8, .inl (cZ, 8, .inl X)), (bd 9, .inl (cI, 40, .inl (nx_root f g clk 1 n)))] H := by rw [← (md_rono (g := g) hc1.1 hb_).2]; exact hP
      have hD : va_D A [(bd 0, .inr (5, [.ref (bd 1), .int (nI clk), .int 1, .int lf, .ref (bd 2), .int (nI fc), .int (nI u1.2), .int (nI u1.1.1), .ref (bd 3), .ref (bd 4), .ref (bd 5), .int (nI st), .ref (bd 6), .ref (bd 7), .ref (bd 8), .int (nI ef), .int (nI ec), .int (nI fu), .ref (bd 9)])), (bd 1, .inl (cI, 292, .inl f)), (bd 2, .inl (cI, 12, .inl fd)), (bd 3, .inl (cI, 13, .inl u1.1.2.1)), (bd 4, .inl (cI, 13, .inl u1.1.2.2.1)), (bd 5, .inl (cI, 13, .inl u1.1.2.2.2.1)), (bd 6, .inl (cI, 8, .inl Y)), (bd 7, .inl (cI, 8, .inl Z)), (bd 8, .inl (cZ, 8, .inl X)), (bd 9, .inl (cI, 40, .inl (nx_root f g clk 1 n)))] := by rw [← (md_rono (g := g) hc1.1 hb_).2]; exact hD
      exact hret 1099511627776 u1 _ _ _ _ (md_rono (g := g) hc1.1 hb_).1 hP hD hS dn_M_root_26
    · skip
      refine lv_iload_n hx hb dn_M_root_15 rfl (lv_at hl 1 rfl) ?_
      refine lv_aload_n hx hb dn_M_root_16 rfl (lv_at hl 0 rfl) ?_
      refine va_get (D := (dC, dI)) (ci := 5) (v := .int (nI u1.2)) (C := rn_M) (T := tn_M) (N := 19) hx hb hw ml_M hown hK hP 0 rfl rfl 6 (by decide) (hw _ mw_479) (fun _ h9 => h9) rfl dn_M_root_17 ?_
      refine lv_icmp_le (tgt := 27) hx hb dn_M_root_20 (by decide) (fun h20 => ?_) (fun h20 => ?_)
      · skip
        obtain ⟨m, hm_, rfl⟩ := nI_le2 (by omega) h12 h20
        refine lv_iload_n hx hb dn_M_root_27 rfl (lv_at hl 1 rfl) ?_
        refine gr_zne (tgt := 35) hx hb m rfl (by omega) dn_M_root_28 (by decide) (fun h28 => ?_) (fun h28 => ?_)
        · skip
          refine lv_aload_n hx hb dn_M_root_35 rfl (lv_at hl 0 rfl) ?_
          refine lv_iconst (v := 0) hx hb dn_M_root_36 (by decide) ?_
          refine lv_iload_n hx hb dn_M_root_37 rfl (lv_at hl 1 rfl) ?_
          refine gc_vi (pre := []) (wc := [(bd 0, .inr (5, [.ref (bd 1), .int (nI clk), .int 1, .int lf, .ref (bd 2), .int (nI fc), .int (nI u1.2), .int (nI u1.1.1), .ref (bd 3), .ref (bd 4), .ref (bd 5), .int (nI st), .ref (bd 6), .ref (bd 7), .ref (bd 8), .int (nI ef), .int (nI ec), .int (nI fu), .ref (bd 9)])), (bd 1, .inl (cI, 292, .inl f)), (bd 2, .inl (cI, 12, .inl fd)), (bd 3, .inl (cI, 13, .inl u1.1.2.1)), (bd 4, .inl (cI, 13, .inl u1.1.2.2.1)), (bd 5, .inl (cI, 13, .inl u1.1.2.2.2.1)), (bd 6, .inl (cI, 8, .inl Y)), (bd 7, .inl (cI, 8, .inl Z)), (bd 8, .inl (cZ, 8, .inl X)), (bd 9, .inl (cI, 40, .inl g))]) (po := []) (As := [.int 0, .int (nI m)]) (rest := []) ⟨hx, hb, hml, hown, hw⟩ (c_M_tree l dC dI cI cZ bd clk 1 lf f fd fc u1.2 u1.1.1 u1.1.2.1 u1.1.2.2.1 u1.1.2.2.2.1 st Y Z X ef ec fu g 0 m (by omega) (by omega)) (gw_cV 2 hw mw_613 mw_615 mv_30 mw_6 mw_616 hd_M_tree ⟨Nat.le_of_ble_eq_true rfl, Nat.le_of_ble_eq_true rfl⟩) (ci := 5) rfl rfl rfl hK hP hD hS hA rfl hl.1 rfl (Nat.le_of_ble_eq_true rfl) dn_M_root_38 ⟨Nat.zero_le _, Nat.zero_le _⟩ (fun r38 u38 H locs hc38 hP hD hS => ?_)
          subst hc38
          have hP : va_P (dC, dI) vwCl [(bd 0, .inr (5, [.ref (bd 1), .int (nI clk), .int 1, .int lf, .ref (bd 2), .int (nI fc), .int (nI u1.2), .int (nI u1.1.1), .ref (bd 3), .ref (bd 4), .ref (bd 5), .int (nI st), .ref (bd 6), .ref (bd 7), .ref (bd 8), .int (nI ef), .int (nI ec), .int (nI fu), .ref (bd 9)])), (bd 1, .inl (cI, 292, .inl f)), (bd 2, .inl (cI, 12, .inl fd)), (bd 3, .inl (cI, 13, .inl u1.1.2.1)), (bd 4, .inl (cI, 13, .inl u1.1.2.2.1)), (bd 5, .inl (cI, 13, .inl u1.1.2.2.2.1)), (bd 6, .inl (cI, 8, .inl Y)), (bd 7, .inl (cI, 8, .inl Z)), (bd 8, .inl (cZ, 8, .inl X)), (bd 9, .inl (cI, 40, .inl (tr_of f g 0 m)))] H := hP
          have hD : va_D A [(bd 0, .inr (5, [.ref (bd 1), .int (nI clk), .int 1, .int lf, .ref (bd 2), .int (nI fc), .int (nI u1.2), .int (nI u1.1.1), .ref (bd 3), .ref (bd 4), .ref (bd 5), .int (nI st), .ref (bd 6), .ref (bd 7), .ref (bd 8), .int (nI ef), .int (nI ec), .int (nI fu), .ref (bd 9)])), (bd 1, .inl (cI, 292, .inl f)), (bd 2, .inl (cI, 12, .inl fd)), (bd 3, .inl (cI, 13, .inl u1.1.2.1)), (bd 4, .inl (cI, 13, .inl u1.1.2.2.1)), (bd 5, .inl (cI, 13, .inl u1.1.2.2.2.1)), (bd 6, .inl (cI, 8, .inl Y)), (bd 7, .inl (cI, 8, .inl Z)), (bd 8, .inl (cZ, 8, .inl X)), (bd 9, .inl (cI, 40, .inl (tr_of f g 0 m)))] := hD
          refine lv_i2l hx hb dn_M_root_41 rfl ?_
          have hr_ := md_ro (g := g) hc1.1 hm_
          have hP : va_P (dC, dI) vwCl [(bd 0, .inr (5, [.ref (bd 1), .int (nI clk), .int 1, .int lf, .ref (bd 2), .int (nI fc), .int (nI u1.2), .int (nI u1.1.1), .ref (bd 3), .ref (bd 4), .ref (bd 5), .int (nI st), .ref (bd 6), .ref (bd 7), .ref (bd 8), .int (nI ef), .int (nI ec), .int (nI fu), .ref (bd 9)])), (bd 1, .inl (cI, 292, .inl f)), (bd 2, .inl (cI, 12, .inl fd)), (bd 3, .inl (cI, 13, .inl u1.1.2.1)), (bd 4, .inl (cI, 13, .inl u1.1.2.2.1)), (bd 5, .inl (cI, 13, .inl u1.1.2.2.2.1)), (bd 6, .inl (cI, 8, .inl Y)), (bd 7, .inl (cI, 8, .inl Z)), (bd 8, .inl (cZ, 8, .inl X)), (bd 9, .inl (cI, 40, .inl (nx_root f g clk 1 (nI m))))] H := by rw [hr_.2, (rt_s h28).2]; exact hP
          have hD : va_D A [(bd 0, .inr (5, [.ref (bd 1), .int (nI clk), .int 1, .int lf, .ref (bd 2), .int (nI fc), .int (nI u1.2), .int (nI u1.1.1), .ref (bd 3), .ref (bd 4), .ref (bd 5), .int (nI st), .ref (bd 6), .ref (bd 7), .ref (bd 8), .int (nI ef), .int (nI ec), .int (nI fu), .ref (bd 9)])), (bd 1, .inl (cI, 292, .inl f)), (bd 2, .inl (cI, 12, .inl fd)), (bd 3, .inl (cI, 13, .inl u1.1.2.1)), (bd 4, .inl (cI, 13, .inl u1.1.2.2.1)), (bd 5, .inl (cI, 13, .inl u1.1.2.2.2.1)), (bd 6, .inl (cI, 8, .inl Y)), (bd 7, .inl (cI, 8, .inl Z)), (bd 8, .inl (cZ, 8, .inl X)), (bd 9, .inl (cI, 40, .inl (nx_root f g clk 1 (nI m))))] := by rw [hr_.2, (rt_s h28).2]; exact hD
          exact hret ((tr_of f g 0 m 0).toInt64) u1 _ _ _ _ (by rw [hr_.1, (rt_s h28).1] <;> rfl) hP hD hS dn_M_root_42
        · skip
          refine lv_lconst (v := 0) hx hb dn_M_root_31 (by decide) ?_
          refine lv_goto (tgt := 42) hx hb dn_M_root_32 (by decide) ?_
          obtain rfl : 0 = m := by omega
          have hr_ := md_ro (g := g) hc1.1 hm_
          have hP : va_P (dC, dI) vwCl [(bd 0, .inr (5, [.ref (bd 1), .int (nI clk), .int 1, .int lf, .ref (bd 2), .int (nI fc), .int (nI u1.2), .int (nI u1.1.1), .ref (bd 3), .ref (bd 4), .ref (bd 5), .int (nI st), .ref (bd 6), .ref (bd 7), .ref (bd 8), .int (nI ef), .int (nI ec), .int (nI fu), .ref (bd 9)])), (bd 1, .inl (cI, 292, .inl f)), (bd 2, .inl (cI, 12, .inl fd)), (bd 3, .inl (cI, 13, .inl u1.1.2.1)), (bd 4, .inl (cI, 13, .inl u1.1.2.2.1)), (bd 5, .inl (cI, 13, .inl u1.1.2.2.2.1)), (bd 6, .inl (cI, 8, .inl Y)), (bd 7, .inl (cI, 8, .inl Z)), (bd 8, .inl (cZ, 8, .inl X)), (bd 9, .inl (cI, 40, .inl (nx_root f g clk 1 (nI 0))))] H := by rw [hr_.2, (rt_0).2]; exact hP
          have hD : va_D A [(bd 0, .inr (5, [.ref (bd 1), .int (nI clk), .int 1, .int lf, .ref (bd 2), .int (nI fc), .int (nI u1.2), .int (nI u1.1.1), .ref (bd 3), .ref (bd 4), .ref (bd 5), .int (nI st), .ref (bd 6), .ref (bd 7), .ref (bd 8), .int (nI ef), .int (nI ec), .int (nI fu), .ref (bd 9)])), (bd 1, .inl (cI, 292, .inl f)), (bd 2, .inl (cI, 12, .inl fd)), (bd 3, .inl (cI, 13, .inl u1.1.2.1)), (bd 4, .inl (cI, 13, .inl u1.1.2.2.1)), (bd 5, .inl (cI, 13, .inl u1.1.2.2.2.1)), (bd 6, .inl (cI, 8, .inl Y)), (bd 7, .inl (cI, 8, .inl Z)), (bd 8, .inl (cZ, 8, .inl X)), (bd 9, .inl (cI, 40, .inl (nx_root f g clk 1 (nI 0))))] := by rw [hr_.2, (rt_0).2]; exact hD
          exact hret 0 u1 _ _ _ _ (by rw [hr_.1, (rt_0).1] <;> rfl) hP hD hS dn_M_root_42
      · skip
        refine lv_ldc2 (v := 1099511627776) hx hb hown (hw _ mw_600) dn_M_root_23 ?_
        have hb_ : n < 0 ∨ nI u1.2 < n := by first | exact Or.inl h12 | exact Or.inr (Int32.not_le.mp h20)
        have hP : va_P (dC, dI) vwCl [(bd 0, .inr (5, [.ref (bd 1), .int (nI clk), .int 1, .int lf, .ref (bd 2), .int (nI fc), .int (nI u1.2), .int (nI u1.1.1), .ref (bd 3), .ref (bd 4), .ref (bd 5), .int (nI st), .ref (bd 6), .ref (bd 7), .ref (bd 8), .int (nI ef), .int (nI ec), .int (nI fu), .ref (bd 9)])), (bd 1, .inl (cI, 292, .inl f)), (bd 2, .inl (cI, 12, .inl fd)), (bd 3, .inl (cI, 13, .inl u1.1.2.1)), (bd 4, .inl (cI, 13, .inl u1.1.2.2.1)), (bd 5, .inl (cI, 13, .inl u1.1.2.2.2.1)), (bd 6, .inl (cI, 8, .inl Y)), (bd 7, .inl (cI, 8, .inl Z)), (bd 8, .inl (cZ, 8, .inl X)), (bd 9, .inl (cI, 40, .inl (nx_root f g clk 1 n)))] H := by rw [← (md_rono (g := g) hc1.1 hb_).2]; exact hP
        have hD : va_D A [(bd 0, .inr (5, [.ref (bd 1), .int (nI clk), .int 1, .int lf, .ref (bd 2), .int (nI fc), .int (nI u1.2), .int (nI u1.1.1), .ref (bd 3), .ref (bd 4), .ref (bd 5), .int (nI st), .ref (bd 6), .ref (bd 7), .ref (bd 8), .int (nI ef), .int (nI ec), .int (nI fu), .ref (bd 9)])), (bd 1, .inl (cI, 292, .inl f)), (bd 2, .inl (cI, 12, .inl fd)), (bd 3, .inl (cI, 13, .inl u1.1.2.1)), (bd 4, .inl (cI, 13, .inl u1.1.2.2.1)), (bd 5, .inl (cI, 13, .inl u1.1.2.2.2.1)), (bd 6, .inl (cI, 8, .inl Y)), (bd 7, .inl (cI, 8, .inl Z)), (bd 8, .inl (cZ, 8, .inl X)), (bd 9, .inl (cI, 40, .inl (nx_root f g clk 1 n)))] := by rw [← (md_rono (g := g) hc1.1 hb_).2]; exact hD
        exact hret 1099511627776 u1 _ _ _ _ (md_rono (g := g) hc1.1 hb_).1 hP hD hS dn_M_root_26

set_option maxRecDepth 100000 in
set_option maxHeartbeats 1000000 in
theorem c_M_audit (l : Launch) (dC : Nat → ClassId) (dI : Nat → Nat → Nat) (cI cZ : ClassId) (bd : Nat → Nat) (clk : Nat) (pw lf : Int32) (f fd : Nat → Int32) (fc sn ob : Nat) (S D G : Nat → Int32) (st : Nat) (Y Z X : Nat → Int32) (ef ec fu : Nat) (g : Nat → Int32) (n root : Int32) : gc_I l yn_M_audit (gw yn_M_audit cn_M_audit 4 (some .int)) (rm_ 4 95) (dC, dI) vwCl (gT cI cZ) [.ref (bd 0), .int n, .int root] [(bd 0, .inr (5, [.ref (bd 1), .int (nI clk), .int pw, .int lf, .ref (bd 2), .int (nI fc), .int (nI sn), .int (nI ob), .ref (bd 3), .ref (bd 4), .ref (bd 5), .int (nI st), .ref (bd 6), .ref (bd 7), .ref (bd 8), .int (nI ef), .int (nI ec), .int (nI fu), .ref (bd 9)])), (bd 1, .inl (cI, 292, .inl f)), (bd 2, .inl (cI, 12, .inl fd)), (bd 3, .inl (cI, 13, .inl S)), (bd 4, .inl (cI, 13, .inl D)), (bd 5, .inl (cI, 13, .inl G)), (bd 6, .inl (cI, 8, .inl Y)), (bd 7, .inl (cI, 8, .inl Z)), (bd 8, .inl (cZ, 8, .inl X)), (bd 9, .inl (cI, 40, .inl g))] (fun r (u : ct_T × Nat) => r = an_aud f g clk n root) (fun u => [(bd 0, .inr (5, [.ref (bd 1), .int (nI clk), .int pw, .int lf, .ref (bd 2), .int (nI fc), .int (nI u.2), .int (nI u.1.1), .ref (bd 3), .ref (bd 4), .ref (bd 5), .int (nI st), .ref (bd 6), .ref (bd 7), .ref (bd 8), .int (nI ef), .int (nI ec), .int (nI fu), .ref (bd 9)])), (bd 1, .inl (cI, 292, .inl f)), (bd 2, .inl (cI, 12, .inl fd)), (bd 3, .inl (cI, 13, .inl u.1.2.1)), (bd 4, .inl (cI, 13, .inl u.1.2.2.1)), (bd 5, .inl (cI, 13, .inl u.1.2.2.2.1)), (bd 6, .inl (cI, 8, .inl Y)), (bd 7, .inl (cI, 8, .inl Z)), (bd 8, .inl (cZ, 8, .inl X)), (bd 9, .inl (cI, 40, .inl (nx_aud f g clk n)))]) := by
  refine gc_I_of (cc := cn_M_audit) (maxL := 4) (ty := .int) (by decide) rfl (Nat.le_of_ble_eq_true rfl) ?_
  intro pp ee ss mm ar be me cd A Q ls H0 H locs hx hb hml hown hts hK hP hD hS hA hl hret
  have hw : ∀ w ∈ gw_T, w.before ar ss = true := fun w h => hts w (List.mem_cons_of_mem _ h)
  have hl : lv_has ls 4 [(0, .ref (bd 0)), (1, .int n), (2, .int root)] := hl
  refine lv_aload_n hx hb dn_M_audit_0 rfl (lv_at hl 0 rfl) ?_
  refine gc_vv (pre := []) (wc := [(bd 0, .inr (5, [.ref (bd 1), .int (nI clk), .int pw, .int lf, .ref (bd 2), .int (nI fc), .int (nI sn), .int (nI ob), .ref (bd 3), .ref (bd 4), .ref (bd 5), .int (nI st), .ref (bd 6), .ref (bd 7), .ref (bd 8), .int (nI ef), .int (nI ec), .int (nI fu), .ref (bd 9)])), (bd 1, .inl (cI, 292, .inl f)), (bd 2, .inl (cI, 12, .inl fd)), (bd 3, .inl (cI, 13, .inl S)), (bd 4, .inl (cI, 13, .inl D)), (bd 5, .inl (cI, 13, .inl G)), (bd 6, .inl (cI, 8, .inl Y)), (bd 7, .inl (cI, 8, .inl Z)), (bd 8, .inl (cZ, 8, .inl X)), (bd 9, .inl (cI, 40, .inl g))]) (po := []) (As := []) (rest := []) ⟨hx, hb, hml, hown, hw⟩ (c_M_goThrough l dC dI cI cZ bd clk pw lf f fd fc sn ob S D G st Y Z X ef ec fu g) (gw_cV 0 hw mw_539 mw_541 mv_22 mw_6 mw_542 hd_M_goThrough ⟨Nat.le_of_ble_eq_true rfl, Nat.le_of_ble_eq_true rfl⟩) (ci := 5) rfl rfl rfl hK hP hD hS hA rfl hl.1 rfl (Nat.le_of_ble_eq_true rfl) dn_M_audit_1 ⟨Nat.zero_le _, Nat.zero_le _⟩ (fun u1 H locs hc1 hP hD hS => ?_)
  have hP : va_P (dC, dI) vwCl [(bd 0, .inr (5, [.ref (bd 1), .int (nI clk), .int pw, .int lf, .ref (bd 2), .int (nI fc), .int (nI u1.2), .int (nI u1.1.1), .ref (bd 3), .ref (bd 4), .ref (bd 5), .int (nI st), .ref (bd 6), .ref (bd 7), .ref (bd 8), .int (nI ef), .int (nI ec), .int (nI fu), .ref (bd 9)])), (bd 1, .inl (cI, 292, .inl f)), (bd 2, .inl (cI, 12, .inl fd)), (bd 3, .inl (cI, 13, .inl u1.1.2.1)), (bd 4, .inl (cI, 13, .inl u1.1.2.2.1)), (bd 5, .inl (cI, 13, .inl u1.1.2.2.2.1)), (bd 6, .inl (cI, 8, .inl Y)), (bd 7, .inl (cI, 8, .inl Z)), (bd 8, .inl (cZ, 8, .inl X)), (bd 9, .inl (cI, 40, .inl g))] H := hP
  have hD : va_D A [(bd 0, .inr (5, [.ref (bd 1), .int (nI clk), .int pw, .int lf, .ref (bd 2), .int (nI fc), .int (nI u1.2), .int (nI u1.1.1), .ref (bd 3), .ref (bd 4), .ref (bd 5), .int (nI st), .ref (bd 6), .ref (bd 7), .ref (bd 8), .int (nI ef), .int (nI ec), .int (nI fu), .ref (bd 9)])), (bd 1, .inl (cI, 292, .inl f)), (bd 2, .inl (cI, 12, .inl fd)), (bd 3, .inl (cI, 13, .inl u1.1.2.1)), (bd 4, .inl (cI, 13, .inl u1.1.2.2.1)), (bd 5, .inl (cI, 13, .inl u1.1.2.2.2.1)), (bd 6, .inl (cI, 8, .inl Y)), (bd 7, .inl (cI, 8, .inl Z)), (bd 8, .inl (cZ, 8, .inl X)), (bd 9, .inl (cI, 40, .inl g))] := hD
  have ho := ce_12 hc1.2 hc1.1.2.1
  have hsn := hc1.1.1
  refine lv_iload_n hx hb dn_M_audit_4 rfl (lv_at hl 1 rfl) ?_
  refine lv_if_lt (tgt := 16) hx hb dn_M_audit_5 (by decide) (fun h5 => ?_) (fun h5 => ?_)
  · skip
    refine lv_iconst (v := (-1)) hx hb dn_M_audit_16 (by decide) ?_
    refine lv_aload_n hx hb dn_M_audit_17 rfl (lv_at hl 0 rfl) ?_
    refine va_get (D := (dC, dI)) (ci := 5) (v := .int (nI u1.2)) (C := rn_M) (T := tn_M) (N := 19) hx hb hw ml_M hown hK hP 0 rfl rfl 6 (by decide) (hw _ mw_479) (fun _ h9 => h9) rfl dn_M_audit_18 ?_
    refine lv_isub hx hb dn_M_audit_21 ?_
    have hb_ : n < 0 ∨ nI u1.2 < n := by first | exact Or.inl h5 | exact Or.inr (Int32.not_le.mp h13)
    have hP : va_P (dC, dI) vwCl [(bd 0, .inr (5, [.ref (bd 1), .int (nI clk), .int pw, .int lf, .ref (bd 2), .int (nI fc), .int (nI u1.2), .int (nI u1.1.1), .ref (bd 3), .ref (bd 4), .ref (bd 5), .int (nI st), .ref (bd 6), .ref (bd 7), .ref (bd 8), .int (nI ef), .int (nI ec), .int (nI fu), .ref (bd 9)])), (bd 1, .inl (cI, 292, .inl f)), (bd 2, .inl (cI, 12, .inl fd)), (bd 3, .inl (cI, 13, .inl u1.1.2.1)), (bd 4, .inl (cI, 13, .inl u1.1.2.2.1)), (bd 5, .inl (cI, 13, .inl u1.1.2.2.2.1)), (bd 6, .inl (cI, 8, .inl Y)), (bd 7, .inl (cI, 8, .inl Z)), (bd 8, .inl (cZ, 8, .inl X)), (bd 9, .inl (cI, 40, .inl (nx_aud f g clk n)))] H := by rw [← (au_no (g := g) (root := root) hc1.1 hb_).2]; exact hP
    have hD : va_D A [(bd 0, .inr (5, [.ref (bd 1), .int (nI clk), .int pw, .int lf, .ref (bd 2), .int (nI fc), .int (nI u1.2), .int (nI u1.1.1), .ref (bd 3), .ref (bd 4), .ref (bd 5), .int (nI st), .ref (bd 6), .ref (bd 7), .ref (bd 8), .int (nI ef), .int (nI ec), .int (nI fu), .ref (bd 9)])), (bd 1, .inl (cI, 292, .inl f)), (bd 2, .inl (cI, 12, .inl fd)), (bd 3, .inl (cI, 13, .inl u1.1.2.1)), (bd 4, .inl (cI, 13, .inl u1.1.2.2.1)), (bd 5, .inl (cI, 13, .inl u1.1.2.2.2.1)), (bd 6, .inl (cI, 8, .inl Y)), (bd 7, .inl (cI, 8, .inl Z)), (bd 8, .inl (cZ, 8, .inl X)), (bd 9, .inl (cI, 40, .inl (nx_aud f g clk n)))] := by rw [← (au_no (g := g) (root := root) hc1.1 hb_).2]; exact hD
    exact hret ((-1) - (nI u1.2)) u1 _ _ _ _ (au_no (g := g) hc1.1 hb_).1 rfl hP hD hS dn_M_audit_22
  · skip
    refine lv_iload_n hx hb dn_M_audit_8 rfl (lv_at hl 1 rfl) ?_
    refine lv_aload_n hx hb dn_M_audit_9 rfl (lv_at hl 0 rfl) ?_
    refine va_get (D := (dC, dI)) (ci := 5) (v := .int (nI u1.2)) (C := rn_M) (T := tn_M) (N := 19) hx hb hw ml_M hown hK hP 0 rfl rfl 6 (by decide) (hw _ mw_479) (fun _ h9 => h9) rfl dn_M_audit_10 ?_
    refine lv_icmp_le (tgt := 23) hx hb dn_M_audit_13 (by decide) (fun h13 => ?_) (fun h13 => ?_)
    · skip
      obtain ⟨m, hm_, rfl⟩ := nI_le2 (by omega) h5 h13
      refine lv_iconst (v := 0) hx hb dn_M_audit_23 (by decide) ?_
      refine lv_istore_n (lv' := [(3, .int 0), (0, .ref (bd 0)), (1, .int (nI m)), (2, .int root)]) hx hb dn_M_audit_24 rfl hl (by decide) rfl (fun ls hl => ?_)
      refine lv_iload_n hx hb dn_M_audit_25 rfl (lv_at hl 2 rfl) ?_
      refine gr_zle (tgt := 36) hx hb m rfl (by omega) dn_M_audit_26 (by decide) (fun h26 => ?_) (fun h26 => ?_)
      · skip
        refine lv_iload_n hx hb dn_M_audit_36 rfl (lv_at hl 0 rfl) ?_
        refine lv_iload_n hx hb dn_M_audit_37 rfl (lv_at hl 3 rfl) ?_
        refine lv_icmp_ne (tgt := 48) hx hb dn_M_audit_38 (by decide) (fun h38 => ?_) (fun h38 => ?_)
        · skip
          refine lv_iconst (v := (-1)) hx hb dn_M_audit_48 (by decide) ?_
          refine lv_aload_n hx hb dn_M_audit_49 rfl (lv_at hl 1 rfl) ?_
          refine va_get (D := (dC, dI)) (ci := 5) (v := .int (nI u1.2)) (C := rn_M) (T := tn_M) (N := 19) hx hb hw ml_M hown hK hP 0 rfl rfl 6 (by decide) (hw _ mw_479) (fun _ h9 => h9) rfl dn_M_audit_50 ?_
          refine lv_isub hx hb dn_M_audit_53 ?_
          obtain rfl : 0 = m := by omega
          have hP : va_P (dC, dI) vwCl [(bd 0, .inr (5, [.ref (bd 1), .int (nI clk), .int pw, .int lf, .ref (bd 2), .int (nI fc), .int (nI u1.2), .int (nI u1.1.1), .ref (bd 3), .ref (bd 4), .ref (bd 5), .int (nI st), .ref (bd 6), .ref (bd 7), .ref (bd 8), .int (nI ef), .int (nI ec), .int (nI fu), .ref (bd 9)])), (bd 1, .inl (cI, 292, .inl f)), (bd 2, .inl (cI, 12, .inl fd)), (bd 3, .inl (cI, 13, .inl u1.1.2.1)), (bd 4, .inl (cI, 13, .inl u1.1.2.2.1)), (bd 5, .inl (cI, 13, .inl u1.1.2.2.2.1)), (bd 6, .inl (cI, 8, .inl Y)), (bd 7, .inl (cI, 8, .inl Z)), (bd 8, .inl (cZ, 8, .inl X)), (bd 9, .inl (cI, 40, .inl (nx_aud f g clk (nI 0))))] H := by rw [← au_g (g := g) hc1.1 hm_, (rt_0).2]; exact hP
          have hD : va_D A [(bd 0, .inr (5, [.ref (bd 1), .int (nI clk), .int pw, .int lf, .ref (bd 2), .int (nI fc), .int (nI u1.2), .int (nI u1.1.1), .ref (bd 3), .ref (bd 4), .ref (bd 5), .int (nI st), .ref (bd 6), .ref (bd 7), .ref (bd 8), .int (nI ef), .int (nI ec), .int (nI fu), .ref (bd 9)])), (bd 1, .inl (cI, 292, .inl f)), (bd 2, .inl (cI, 12, .inl fd)), (bd 3, .inl (cI, 13, .inl u1.1.2.1)), (bd 4, .inl (cI, 13, .inl u1.1.2.2.1)), (bd 5, .inl (cI, 13, .inl u1.1.2.2.2.1)), (bd 6, .inl (cI, 8, .inl Y)), (bd 7, .inl (cI, 8, .inl Z)), (bd 8, .inl (cZ, 8, .inl X)), (bd 9, .inl (cI, 40, .inl (nx_aud f g clk (nI 0))))] := by rw [← au_g (g := g) hc1.1 hm_, (rt_0).2]; exact hD
          exact hret ((-1) - (nI u1.2)) u1 _ _ _ _ (au_ne hc1.1 hm_ (fun q => h38 ((rt_0).1.symm.trans q))) rfl hP hD hS dn_M_audit_54
        · skip
          refine lv_aload_n hx hb dn_M_audit_41 rfl (lv_at hl 1 rfl) ?_
          refine va_get (D := (dC, dI)) (ci := 5) (v := .int (nI u1.2)) (C := rn_M) (T := tn_M) (N := 19) hx hb hw ml_M hown hK hP 0 rfl rfl 6 (by decide) (hw _ mw_479) (fun _ h9 => h9) rfl dn_M_audit_42 ?_
          refine lv_goto (tgt := 54) hx hb dn_M_audit_45 (by decide) ?_
          obtain rfl : 0 = m := by omega
          have hP : va_P (dC, dI) vwCl [(bd 0, .inr (5, [.ref (bd 1), .int (nI clk), .int pw, .int lf, .ref (bd 2), .int (nI fc), .int (nI u1.2), .int (nI u1.1.1), .ref (bd 3), .ref (bd 4), .ref (bd 5), .int (nI st), .ref (bd 6), .ref (bd 7), .ref (bd 8), .int (nI ef), .int (nI ec), .int (nI fu), .ref (bd 9)])), (bd 1, .inl (cI, 292, .inl f)), (bd 2, .inl (cI, 12, .inl fd)), (bd 3, .inl (cI, 13, .inl u1.1.2.1)), (bd 4, .inl (cI, 13, .inl u1.1.2.2.1)), (bd 5, .inl (cI, 13, .inl u1.1.2.2.2.1)), (bd 6, .inl (cI, 8, .inl Y)), (bd 7, .inl (cI, 8, .inl Z)), (bd 8, .inl (cZ, 8, .inl X)), (bd 9, .inl (cI, 40, .inl (nx_aud f g clk (nI 0))))] H := by rw [← au_g (g := g) hc1.1 hm_, (rt_0).2]; exact hP
          have hD : va_D A [(bd 0, .inr (5, [.ref (bd 1), .int (nI clk), .int pw, .int lf, .ref (bd 2), .int (nI fc), .int (nI u1.2), .int (nI u1.1.1), .ref (bd 3), .ref (bd 4), .ref (bd 5), .int (nI st), .ref (bd 6), .ref (bd 7), .ref (bd 8), .int (nI ef), .int (nI ec), .int (nI fu), .ref (bd 9)])), (bd 1, .inl (cI, 292, .inl f)), (bd 2, .inl (cI, 12, .inl fd)), (bd 3, .inl (cI, 13, .inl u1.1.2.1)), (bd 4, .inl (cI, 13, .inl u1.1.2.2.1)), (bd 5, .inl (cI, 13, .inl u1.1.2.2.2.1)), (bd 6, .inl (cI, 8, .inl Y)), (bd 7, .inl (cI, 8, .inl Z)), (bd 8, .inl (cZ, 8, .inl X)), (bd 9, .inl (cI, 40, .inl (nx_aud f g clk (nI 0))))] := by rw [← au_g (g := g) hc1.1 hm_, (rt_0).2]; exact hD
          exact hret (nI u1.2) u1 _ _ _ _ (au_eq hc1.1 hm_ ((rt_0).1.trans h38)) rfl hP hD hS dn_M_audit_54
      · skip
        refine lv_aload_n hx hb dn_M_audit_29 rfl (lv_at hl 1 rfl) ?_
        refine lv_iconst (v := 0) hx hb dn_M_audit_30 (by decide) ?_
        refine lv_iload_n hx hb dn_M_audit_31 rfl (lv_at hl 2 rfl) ?_
        refine gc_vi (pre := []) (wc := [(bd 0, .inr (5, [.ref (bd 1), .int (nI clk), .int pw, .int lf, .ref (bd 2), .int (nI fc), .int (nI u1.2), .int (nI u1.1.1), .ref (bd 3), .ref (bd 4), .ref (bd 5), .int (nI st), .ref (bd 6), .ref (bd 7), .ref (bd 8), .int (nI ef), .int (nI ec), .int (nI fu), .ref (bd 9)])), (bd 1, .inl (cI, 292, .inl f)), (bd 2, .inl (cI, 12, .inl fd)), (bd 3, .inl (cI, 13, .inl u1.1.2.1)), (bd 4, .inl (cI, 13, .inl u1.1.2.2.1)), (bd 5, .inl (cI, 13, .inl u1.1.2.2.2.1)), (bd 6, .inl (cI, 8, .inl Y)), (bd 7, .inl (cI, 8, .inl Z)), (bd 8, .inl (cZ, 8, .inl X)), (bd 9, .inl (cI, 40, .inl g))]) (po := []) (As := [.int 0, .int (nI m)]) (rest := []) ⟨hx, hb, hml, hown, hw⟩ (c_M_tree l dC dI cI cZ bd clk pw lf f fd fc u1.2 u1.1.1 u1.1.2.1 u1.1.2.2.1 u1.1.2.2.2.1 st Y Z X ef ec fu g 0 m (by omega) (by omega)) (gw_cV 2 hw mw_613 mw_615 mv_30 mw_6 mw_616 hd_M_tree ⟨Nat.le_of_ble_eq_true rfl, Nat.le_of_ble_eq_true rfl⟩) (ci := 5) rfl rfl rfl hK hP hD hS hA rfl hl.1 rfl (Nat.le_of_ble_eq_true rfl) dn_M_audit_32 ⟨Nat.zero_le _, Nat.zero_le _⟩ (fun r32 u32 H locs hc32 hP hD hS => ?_)
        subst hc32
        have hP : va_P (dC, dI) vwCl [(bd 0, .inr (5, [.ref (bd 1), .int (nI clk), .int pw, .int lf, .ref (bd 2), .int (nI fc), .int (nI u1.2), .int (nI u1.1.1), .ref (bd 3), .ref (bd 4), .ref (bd 5), .int (nI st), .ref (bd 6), .ref (bd 7), .ref (bd 8), .int (nI ef), .int (nI ec), .int (nI fu), .ref (bd 9)])), (bd 1, .inl (cI, 292, .inl f)), (bd 2, .inl (cI, 12, .inl fd)), (bd 3, .inl (cI, 13, .inl u1.1.2.1)), (bd 4, .inl (cI, 13, .inl u1.1.2.2.1)), (bd 5, .inl (cI, 13, .inl u1.1.2.2.2.1)), (bd 6, .inl (cI, 8, .inl Y)), (bd 7, .inl (cI, 8, .inl Z)), (bd 8, .inl (cZ, 8, .inl X)), (bd 9, .inl (cI, 40, .inl (tr_of f g 0 m)))] H := hP
        have hD : va_D A [(bd 0, .inr (5, [.ref (bd 1), .int (nI clk), .int pw, .int lf, .ref (bd 2), .int (nI fc), .int (nI u1.2), .int (nI u1.1.1), .ref (bd 3), .ref (bd 4), .ref (bd 5), .int (nI st), .ref (bd 6), .ref (bd 7), .ref (bd 8), .int (nI ef), .int (nI ec), .int (nI fu), .ref (bd 9)])), (bd 1, .inl (cI, 292, .inl f)), (bd 2, .inl (cI, 12, .inl fd)), (bd 3, .inl (cI, 13, .inl u1.1.2.1)), (bd 4, .inl (cI, 13, .inl u1.1.2.2.1)), (bd 5, .inl (cI, 13, .inl u1.1.2.2.2.1)), (bd 6, .inl (cI, 8, .inl Y)), (bd 7, .inl (cI, 8, .inl Z)), (bd 8, .inl (cZ, 8, .inl X)), (bd 9, .inl (cI, 40, .inl (tr_of f g 0 m)))] := hD
        refine lv_istore_n (lv' := [(3, .int (tr_of f g 0 m 0)), (0, .ref (bd 0)), (1, .int (nI m)), (2, .int root)]) hx hb dn_M_audit_35 rfl hl (by decide) rfl (fun ls hl => ?_)
        refine lv_iload_n hx hb dn_M_audit_36 rfl (lv_at hl 0 rfl) ?_
        refine lv_iload_n hx hb dn_M_audit_37 rfl (lv_at hl 3 rfl) ?_
        refine lv_icmp_ne (tgt := 48) hx hb dn_M_audit_38 (by decide) (fun h38 => ?_) (fun h38 => ?_)
        · skip
          refine lv_iconst (v := (-1)) hx hb dn_M_audit_48 (by decide) ?_
          refine lv_aload_n hx hb dn_M_audit_49 rfl (lv_at hl 1 rfl) ?_
          refine va_get (D := (dC, dI)) (ci := 5) (v := .int (nI u1.2)) (C := rn_M) (T := tn_M) (N := 19) hx hb hw ml_M hown hK hP 0 rfl rfl 6 (by decide) (hw _ mw_479) (fun _ h9 => h9) rfl dn_M_audit_50 ?_
          refine lv_isub hx hb dn_M_audit_53 ?_
          have hP : va_P (dC, dI) vwCl [(bd 0, .inr (5, [.ref (bd 1), .int (nI clk), .int pw, .int lf, .ref (bd 2), .int (nI fc), .int (nI u1.2), .int (nI u1.1.1), .ref (bd 3), .ref (bd 4), .ref (bd 5), .int (nI st), .ref (bd 6), .ref (bd 7), .ref (bd 8), .int (nI ef), .int (nI ec), .int (nI fu), .ref (bd 9)])), (bd 1, .inl (cI, 292, .inl f)), (bd 2, .inl (cI, 12, .inl fd)), (bd 3, .inl (cI, 13, .inl u1.1.2.1)), (bd 4, .inl (cI, 13, .inl u1.1.2.2.1)), (bd 5, .inl (cI, 13, .inl u1.1.2.2.2.1)), (bd 6, .inl (cI, 8, .inl Y)), (bd 7, .inl (cI, 8, .inl Z)), (bd 8, .inl (cZ, 8, .inl X)), (bd 9, .inl (cI, 40, .inl (nx_aud f g clk (nI m))))] H := by rw [← au_g (g := g) hc1.1 hm_, (rt_s (show m ≠ 0 by omega)).2]; exact hP
          have hD : va_D A [(bd 0, .inr (5, [.ref (bd 1), .int (nI clk), .int pw, .int lf, .ref (bd 2), .int (nI fc), .int (nI u1.2), .int (nI u1.1.1), .ref (bd 3), .ref (bd 4), .ref (bd 5), .int (nI st), .ref (bd 6), .ref (bd 7), .ref (bd 8), .int (nI ef), .int (nI ec), .int (nI fu), .ref (bd 9)])), (bd 1, .inl (cI, 292, .inl f)), (bd 2, .inl (cI, 12, .inl fd)), (bd 3, .inl (cI, 13, .inl u1.1.2.1)), (bd 4, .inl (cI, 13, .inl u1.1.2.2.1)), (bd 5, .inl (cI, 13, .inl u1.1.2.2.2.1)), (bd 6, .inl (cI, 8, .inl Y)), (bd 7, .inl (cI, 8, .inl Z)), (bd 8, .inl (cZ, 8, .inl X)), (bd 9, .inl (cI, 40, .inl (nx_aud f g clk (nI m))))] := by rw [← au_g (g := g) hc1.1 hm_, (rt_s (show m ≠ 0 by omega)).2]; exact hD
          exact hret ((-1) - (nI u1.2)) u1 _ _ _ _ (au_ne hc1.1 hm_ (fun q => h38 ((rt_s (show m ≠ 0 by omega)).1.symm.trans q))) rfl hP hD hS dn_M_audit_54
        · skip
          refine lv_aload_n hx hb dn_M_audit_41 rfl (lv_at hl 1 rfl) ?_
          refine va_get (D := (dC, dI)) (ci := 5) (v := .int (nI u1.2)) (C := rn_M) (T := tn_M) (N := 19) hx hb hw ml_M hown hK hP 0 rfl rfl 6 (by decide) (hw _ mw_479) (fun _ h9 => h9) rfl dn_M_audit_42 ?_
          refine lv_goto (tgt := 54) hx hb dn_M_audit_45 (by decide) ?_
          have hP : va_P (dC, dI) vwCl [(bd 0, .inr (5, [.ref (bd 1), .int (nI clk), .int pw, .int lf, .ref (bd 2), .int (nI fc), .int (nI u1.2), .int (nI u1.1.1), .ref (bd 3), .ref (bd 4), .ref (bd 5), .int (nI st), .ref (bd 6), .ref (bd 7), .ref (bd 8), .int (nI ef), .int (nI ec), .int (nI fu), .ref (bd 9)])), (bd 1, .inl (cI, 292, .inl f)), (bd 2, .inl (cI, 12, .inl fd)), (bd 3, .inl (cI, 13, .inl u1.1.2.1)), (bd 4, .inl (cI, 13, .inl u1.1.2.2.1)), (bd 5, .inl (cI, 13, .inl u1.1.2.2.2.1)), (bd 6, .inl (cI, 8, .inl Y)), (bd 7, .inl (cI, 8, .inl Z)), (bd 8, .inl (cZ, 8, .inl X)), (bd 9, .inl (cI, 40, .inl (nx_aud f g clk (nI m))))] H := by rw [← au_g (g := g) hc1.1 hm_, (rt_s (show m ≠ 0 by omega)).2]; exact hP
          have hD : va_D A [(bd 0, .inr (5, [.ref (bd 1), .int (nI clk), .int pw, .int lf, .ref (bd 2), .int (nI fc), .int (nI u1.2), .int (nI u1.1.1), .ref (bd 3), .ref (bd 4), .ref (bd 5), .int (nI st), .ref (bd 6), .ref (bd 7), .ref (bd 8), .int (nI ef), .int (nI ec), .int (nI fu), .ref (bd 9)])), (bd 1, .inl (cI, 292, .inl f)), (bd 2, .inl (cI, 12, .inl fd)), (bd 3, .inl (cI, 13, .inl u1.1.2.1)), (bd 4, .inl (cI, 13, .inl u1.1.2.2.1)), (bd 5, .inl (cI, 13, .inl u1.1.2.2.2.1)), (bd 6, .inl (cI, 8, .inl Y)), (bd 7, .inl (cI, 8, .inl Z)), (bd 8, .inl (cZ, 8, .inl X)), (bd 9, .inl (cI, 40, .inl (nx_aud f g clk (nI m))))] := by rw [← au_g (g := g) hc1.1 hm_, (rt_s (show m ≠ 0 by omega)).2]; exact hD
          exact hret (nI u1.2) u1 _ _ _ _ (au_eq hc1.1 hm_ ((rt_s (show m ≠ 0 by omega)).1.trans h38)) rfl hP hD hS dn_M_audit_54
    · skip
      refine lv_iconst (v := (-1)) hx hb dn_M_audit_16 (by decide) ?_
      refine lv_aload_n hx hb dn_M_audit_17 rfl (lv_at hl 0 rfl) ?_
      refine va_get (D := (dC, dI)) (ci := 5) (v := .int (nI u1.2)) (C := rn_M) (T := tn_M) (N := 19) hx hb hw ml_M hown hK hP 0 rfl rfl 6 (by decide) (hw _ mw_479) (fun _ h9 => h9) rfl dn_M_audit_18 ?_
      refine lv_isub hx hb dn_M_audit_21 ?_
      have hb_ : n < 0 ∨ nI u1.2 < n := by first | exact Or.inl h5 | exact Or.inr (Int32.not_le.mp h13)
      have hP : va_P (dC, dI) vwCl [(bd 0, .inr (5, [.ref (bd 1), .int (nI clk), .int pw, .int lf, .ref (bd 2), .int (nI fc), .int (nI u1.2), .int (nI u1.1.1), .ref (bd 3), .ref (bd 4), .ref (bd 5), .int (nI st), .ref (bd 6), .ref (bd 7), .ref (bd 8), .int (nI ef), .int (nI ec), .int (nI fu), .ref (bd 9)])), (bd 1, .inl (cI, 292, .inl f)), (bd 2, .inl (cI, 12, .inl fd)), (bd 3, .inl (cI, 13, .inl u1.1.2.1)), (bd 4, .inl (cI, 13, .inl u1.1.2.2.1)), (bd 5, .inl (cI, 13, .inl u1.1.2.2.2.1)), (bd 6, .inl (cI, 8, .inl Y)), (bd 7, .inl (cI, 8, .inl Z)), (bd 8, .inl (cZ, 8, .inl X)), (bd 9, .inl (cI, 40, .inl (nx_aud f g clk n)))] H := by rw [← (au_no (g := g) (root := root) hc1.1 hb_).2]; exact hP
      have hD : va_D A [(bd 0, .inr (5, [.ref (bd 1), .int (nI clk), .int pw, .int lf, .ref (bd 2), .int (nI fc), .int (nI u1.2), .int (nI u1.1.1), .ref (bd 3), .ref (bd 4), .ref (bd 5), .int (nI st), .ref (bd 6), .ref (bd 7), .ref (bd 8), .int (nI ef), .int (nI ec), .int (nI fu), .ref (bd 9)])), (bd 1, .inl (cI, 292, .inl f)), (bd 2, .inl (cI, 12, .inl fd)), (bd 3, .inl (cI, 13, .inl u1.1.2.1)), (bd 4, .inl (cI, 13, .inl u1.1.2.2.1)), (bd 5, .inl (cI, 13, .inl u1.1.2.2.2.1)), (bd 6, .inl (cI, 8, .inl Y)), (bd 7, .inl (cI, 8, .inl Z)), (bd 8, .inl (cZ, 8, .inl X)), (bd 9, .inl (cI, 40, .inl (nx_aud f g clk n)))] := by rw [← (au_no (g := g) (root := root) hc1.1 hb_).2]; exact hD
      exact hret ((-1) - (nI u1.2)) u1 _ _ _ _ (au_no (g := g) hc1.1 hb_).1 rfl hP hD hS dn_M_audit_22
