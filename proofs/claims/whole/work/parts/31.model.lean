theorem dn_M_mix_0 : decode cn_M_mix 0 = .ok (.iload_n 0, 1) := by decide +kernel
theorem dn_M_mix_1 : decode cn_M_mix 1 = .ok (.bipush 11, 2) := by decide +kernel
theorem dn_M_mix_3 : decode cn_M_mix 3 = .ok (.ishl, 1) := by decide +kernel
theorem dn_M_mix_4 : decode cn_M_mix 4 = .ok (.iload_n 0, 1) := by decide +kernel
theorem dn_M_mix_5 : decode cn_M_mix 5 = .ok (.bipush 21, 2) := by decide +kernel
theorem dn_M_mix_7 : decode cn_M_mix 7 = .ok (.iushr, 1) := by decide +kernel
theorem dn_M_mix_8 : decode cn_M_mix 8 = .ok (.ior, 1) := by decide +kernel
theorem dn_M_mix_9 : decode cn_M_mix 9 = .ok (.istore_n 2, 1) := by decide +kernel
theorem dn_M_mix_10 : decode cn_M_mix 10 = .ok (.iload_n 2, 1) := by decide +kernel
theorem dn_M_mix_11 : decode cn_M_mix 11 = .ok (.iload_n 1, 1) := by decide +kernel
theorem dn_M_mix_12 : decode cn_M_mix 12 = .ok (.ixor, 1) := by decide +kernel
theorem dn_M_mix_13 : decode cn_M_mix 13 = .ok (.ldc 46, 2) := by decide +kernel
theorem dn_M_mix_15 : decode cn_M_mix 15 = .ok (.imul, 1) := by decide +kernel
theorem dn_M_mix_16 : decode cn_M_mix 16 = .ok (.sipush 12345, 3) := by decide +kernel
theorem dn_M_mix_19 : decode cn_M_mix 19 = .ok (.iadd, 1) := by decide +kernel
theorem dn_M_mix_20 : decode cn_M_mix 20 = .ok (.istore_n 3, 1) := by decide +kernel
theorem dn_M_mix_21 : decode cn_M_mix 21 = .ok (.iload_n 3, 1) := by decide +kernel
theorem dn_M_mix_22 : decode cn_M_mix 22 = .ok (.iload_n 3, 1) := by decide +kernel
theorem dn_M_mix_23 : decode cn_M_mix 23 = .ok (.bipush 15, 2) := by decide +kernel
theorem dn_M_mix_25 : decode cn_M_mix 25 = .ok (.iushr, 1) := by decide +kernel
theorem dn_M_mix_26 : decode cn_M_mix 26 = .ok (.ixor, 1) := by decide +kernel
theorem dn_M_mix_27 : decode cn_M_mix 27 = .ok (.ireturn, 1) := by decide +kernel
theorem dn_M_node_0 : decode cn_M_node 0 = .ok (.iconst 2, 1) := by decide +kernel
theorem dn_M_node_1 : decode cn_M_node 1 = .ok (.iload_n 0, 1) := by decide +kernel
theorem dn_M_node_2 : decode cn_M_node 2 = .ok (.invokestatic 47, 3) := by decide +kernel
theorem dn_M_node_5 : decode cn_M_node 5 = .ok (.istore_n 2, 1) := by decide +kernel
theorem dn_M_node_6 : decode cn_M_node 6 = .ok (.iload_n 2, 1) := by decide +kernel
theorem dn_M_node_7 : decode cn_M_node 7 = .ok (.iload_n 1, 1) := by decide +kernel
theorem dn_M_node_8 : decode cn_M_node 8 = .ok (.invokestatic 47, 3) := by decide +kernel
theorem dn_M_node_11 : decode cn_M_node 11 = .ok (.ireturn, 1) := by decide +kernel
theorem dn_M_leaf_0 : decode cn_M_leaf 0 = .ok (.iconst 1, 1) := by decide +kernel
theorem dn_M_leaf_1 : decode cn_M_leaf 1 = .ok (.istore_n 2, 1) := by decide +kernel
theorem dn_M_leaf_2 : decode cn_M_leaf 2 = .ok (.iconst 0, 1) := by decide +kernel
theorem dn_M_leaf_3 : decode cn_M_leaf 3 = .ok (.istore_n 3, 1) := by decide +kernel
theorem dn_M_leaf_4 : decode cn_M_leaf 4 = .ok (.iload_n 3, 1) := by decide +kernel
theorem dn_M_leaf_5 : decode cn_M_leaf 5 = .ok (.bipush 6, 2) := by decide +kernel
theorem dn_M_leaf_7 : decode cn_M_leaf 7 = .ok (.if_icmp .ge 25, 3) := by decide +kernel
theorem dn_M_leaf_10 : decode cn_M_leaf 10 = .ok (.iload_n 2, 1) := by decide +kernel
theorem dn_M_leaf_11 : decode cn_M_leaf 11 = .ok (.aload_n 0, 1) := by decide +kernel
theorem dn_M_leaf_12 : decode cn_M_leaf 12 = .ok (.getfield 7, 3) := by decide +kernel
theorem dn_M_leaf_15 : decode cn_M_leaf 15 = .ok (.bipush 7, 2) := by decide +kernel
theorem dn_M_leaf_17 : decode cn_M_leaf 17 = .ok (.iload_n 1, 1) := by decide +kernel
theorem dn_M_leaf_18 : decode cn_M_leaf 18 = .ok (.imul, 1) := by decide +kernel
theorem dn_M_leaf_19 : decode cn_M_leaf 19 = .ok (.iload_n 3, 1) := by decide +kernel
theorem dn_M_leaf_20 : decode cn_M_leaf 20 = .ok (.iadd, 1) := by decide +kernel
theorem dn_M_leaf_21 : decode cn_M_leaf 21 = .ok (.iaload, 1) := by decide +kernel
theorem dn_M_leaf_22 : decode cn_M_leaf 22 = .ok (.invokestatic 47, 3) := by decide +kernel
theorem dn_M_leaf_25 : decode cn_M_leaf 25 = .ok (.istore_n 2, 1) := by decide +kernel
theorem dn_M_leaf_26 : decode cn_M_leaf 26 = .ok (.iinc 3 1, 3) := by decide +kernel
theorem dn_M_leaf_29 : decode cn_M_leaf 29 = .ok (.goto (-25), 3) := by decide +kernel
theorem dn_M_leaf_32 : decode cn_M_leaf 32 = .ok (.iload_n 2, 1) := by decide +kernel
theorem dn_M_leaf_33 : decode cn_M_leaf 33 = .ok (.ireturn, 1) := by decide +kernel
theorem dn_M_tree_0 : decode cn_M_tree 0 = .ok (.iconst 0, 1) := by decide +kernel
theorem dn_M_tree_1 : decode cn_M_tree 1 = .ok (.istore_n 3, 1) := by decide +kernel
theorem dn_M_tree_2 : decode cn_M_tree 2 = .ok (.iload_n 3, 1) := by decide +kernel
theorem dn_M_tree_3 : decode cn_M_tree 3 = .ok (.iload_n 2, 1) := by decide +kernel
theorem dn_M_tree_4 : decode cn_M_tree 4 = .ok (.if_icmp .ge 22, 3) := by decide +kernel
theorem dn_M_tree_7 : decode cn_M_tree 7 = .ok (.aload_n 0, 1) := by decide +kernel
theorem dn_M_tree_8 : decode cn_M_tree 8 = .ok (.getfield 35, 3) := by decide +kernel
theorem dn_M_tree_11 : decode cn_M_tree 11 = .ok (.iload_n 3, 1) := by decide +kernel
theorem dn_M_tree_12 : decode cn_M_tree 12 = .ok (.aload_n 0, 1) := by decide +kernel
theorem dn_M_tree_13 : decode cn_M_tree 13 = .ok (.iload_n 1, 1) := by decide +kernel
theorem dn_M_tree_14 : decode cn_M_tree 14 = .ok (.iload_n 3, 1) := by decide +kernel
theorem dn_M_tree_15 : decode cn_M_tree 15 = .ok (.iadd, 1) := by decide +kernel
theorem dn_M_tree_16 : decode cn_M_tree 16 = .ok (.invokevirtual 51, 3) := by decide +kernel
theorem dn_M_tree_19 : decode cn_M_tree 19 = .ok (.iastore, 1) := by decide +kernel
theorem dn_M_tree_20 : decode cn_M_tree 20 = .ok (.iinc 3 1, 3) := by decide +kernel
theorem dn_M_tree_23 : decode cn_M_tree 23 = .ok (.goto (-21), 3) := by decide +kernel
theorem dn_M_tree_26 : decode cn_M_tree 26 = .ok (.iload_n 2, 1) := by decide +kernel
theorem dn_M_tree_27 : decode cn_M_tree 27 = .ok (.istore_n 3, 1) := by decide +kernel
theorem dn_M_tree_28 : decode cn_M_tree 28 = .ok (.iload_n 3, 1) := by decide +kernel
theorem dn_M_tree_29 : decode cn_M_tree 29 = .ok (.iconst 1, 1) := by decide +kernel
theorem dn_M_tree_30 : decode cn_M_tree 30 = .ok (.if_icmp .le 80, 3) := by decide +kernel
theorem dn_M_tree_33 : decode cn_M_tree 33 = .ok (.iconst 0, 1) := by decide +kernel
theorem dn_M_tree_34 : decode cn_M_tree 34 = .ok (.istore 4, 2) := by decide +kernel
theorem dn_M_tree_36 : decode cn_M_tree 36 = .ok (.iload 4, 2) := by decide +kernel
theorem dn_M_tree_38 : decode cn_M_tree 38 = .ok (.iconst 1, 1) := by decide +kernel
theorem dn_M_tree_39 : decode cn_M_tree 39 = .ok (.iadd, 1) := by decide +kernel
theorem dn_M_tree_40 : decode cn_M_tree 40 = .ok (.iload_n 3, 1) := by decide +kernel
theorem dn_M_tree_41 : decode cn_M_tree 41 = .ok (.if_icmp .ge 37, 3) := by decide +kernel
theorem dn_M_tree_44 : decode cn_M_tree 44 = .ok (.aload_n 0, 1) := by decide +kernel
theorem dn_M_tree_45 : decode cn_M_tree 45 = .ok (.getfield 35, 3) := by decide +kernel
theorem dn_M_tree_48 : decode cn_M_tree 48 = .ok (.iload 4, 2) := by decide +kernel
theorem dn_M_tree_50 : decode cn_M_tree 50 = .ok (.iconst 2, 1) := by decide +kernel
theorem dn_M_tree_51 : decode cn_M_tree 51 = .ok (.idiv, 1) := by decide +kernel
theorem dn_M_tree_52 : decode cn_M_tree 52 = .ok (.aload_n 0, 1) := by decide +kernel
theorem dn_M_tree_53 : decode cn_M_tree 53 = .ok (.getfield 35, 3) := by decide +kernel
theorem dn_M_tree_56 : decode cn_M_tree 56 = .ok (.iload 4, 2) := by decide +kernel
theorem dn_M_tree_58 : decode cn_M_tree 58 = .ok (.iaload, 1) := by decide +kernel
theorem dn_M_tree_59 : decode cn_M_tree 59 = .ok (.aload_n 0, 1) := by decide +kernel
theorem dn_M_tree_60 : decode cn_M_tree 60 = .ok (.getfield 35, 3) := by decide +kernel
theorem dn_M_tree_63 : decode cn_M_tree 63 = .ok (.iload 4, 2) := by decide +kernel
theorem dn_M_tree_65 : decode cn_M_tree 65 = .ok (.iconst 1, 1) := by decide +kernel
theorem dn_M_tree_66 : decode cn_M_tree 66 = .ok (.iadd, 1) := by decide +kernel
theorem dn_M_tree_67 : decode cn_M_tree 67 = .ok (.iaload, 1) := by decide +kernel
theorem dn_M_tree_68 : decode cn_M_tree 68 = .ok (.invokestatic 55, 3) := by decide +kernel
theorem dn_M_tree_71 : decode cn_M_tree 71 = .ok (.iastore, 1) := by decide +kernel
theorem dn_M_tree_72 : decode cn_M_tree 72 = .ok (.iinc 4 2, 3) := by decide +kernel
theorem dn_M_tree_75 : decode cn_M_tree 75 = .ok (.goto (-39), 3) := by decide +kernel
theorem dn_M_tree_78 : decode cn_M_tree 78 = .ok (.iload_n 3, 1) := by decide +kernel
theorem dn_M_tree_79 : decode cn_M_tree 79 = .ok (.iconst 2, 1) := by decide +kernel
theorem dn_M_tree_80 : decode cn_M_tree 80 = .ok (.irem, 1) := by decide +kernel
theorem dn_M_tree_81 : decode cn_M_tree 81 = .ok (.iconst 1, 1) := by decide +kernel
theorem dn_M_tree_82 : decode cn_M_tree 82 = .ok (.if_icmp .ne 19, 3) := by decide +kernel
theorem dn_M_tree_85 : decode cn_M_tree 85 = .ok (.aload_n 0, 1) := by decide +kernel
theorem dn_M_tree_86 : decode cn_M_tree 86 = .ok (.getfield 35, 3) := by decide +kernel
theorem dn_M_tree_89 : decode cn_M_tree 89 = .ok (.iload_n 3, 1) := by decide +kernel
theorem dn_M_tree_90 : decode cn_M_tree 90 = .ok (.iconst 2, 1) := by decide +kernel
theorem dn_M_tree_91 : decode cn_M_tree 91 = .ok (.idiv, 1) := by decide +kernel
theorem dn_M_tree_92 : decode cn_M_tree 92 = .ok (.aload_n 0, 1) := by decide +kernel
theorem dn_M_tree_93 : decode cn_M_tree 93 = .ok (.getfield 35, 3) := by decide +kernel
theorem dn_M_tree_96 : decode cn_M_tree 96 = .ok (.iload_n 3, 1) := by decide +kernel
theorem dn_M_tree_97 : decode cn_M_tree 97 = .ok (.iconst 1, 1) := by decide +kernel
theorem dn_M_tree_98 : decode cn_M_tree 98 = .ok (.isub, 1) := by decide +kernel
theorem dn_M_tree_99 : decode cn_M_tree 99 = .ok (.iaload, 1) := by decide +kernel
theorem dn_M_tree_100 : decode cn_M_tree 100 = .ok (.iastore, 1) := by decide +kernel
theorem dn_M_tree_101 : decode cn_M_tree 101 = .ok (.iload_n 3, 1) := by decide +kernel
theorem dn_M_tree_102 : decode cn_M_tree 102 = .ok (.iconst 1, 1) := by decide +kernel
theorem dn_M_tree_103 : decode cn_M_tree 103 = .ok (.iadd, 1) := by decide +kernel
theorem dn_M_tree_104 : decode cn_M_tree 104 = .ok (.iconst 2, 1) := by decide +kernel
theorem dn_M_tree_105 : decode cn_M_tree 105 = .ok (.idiv, 1) := by decide +kernel
theorem dn_M_tree_106 : decode cn_M_tree 106 = .ok (.istore_n 3, 1) := by decide +kernel
theorem dn_M_tree_107 : decode cn_M_tree 107 = .ok (.goto (-79), 3) := by decide +kernel
theorem dn_M_tree_110 : decode cn_M_tree 110 = .ok (.aload_n 0, 1) := by decide +kernel
theorem dn_M_tree_111 : decode cn_M_tree 111 = .ok (.getfield 35, 3) := by decide +kernel
theorem dn_M_tree_114 : decode cn_M_tree 114 = .ok (.iconst 0, 1) := by decide +kernel
theorem dn_M_tree_115 : decode cn_M_tree 115 = .ok (.iaload, 1) := by decide +kernel
theorem dn_M_tree_116 : decode cn_M_tree 116 = .ok (.ireturn, 1) := by decide +kernel
theorem dn_M_half_0 : decode cn_M_half 0 = .ok (.iconst 1, 1) := by decide +kernel
theorem dn_M_half_1 : decode cn_M_half 1 = .ok (.istore_n 1, 1) := by decide +kernel
theorem dn_M_half_2 : decode cn_M_half 2 = .ok (.iconst 2, 1) := by decide +kernel
theorem dn_M_half_3 : decode cn_M_half 3 = .ok (.iload_n 1, 1) := by decide +kernel
theorem dn_M_half_4 : decode cn_M_half 4 = .ok (.imul, 1) := by decide +kernel
theorem dn_M_half_5 : decode cn_M_half 5 = .ok (.iload_n 0, 1) := by decide +kernel
theorem dn_M_half_6 : decode cn_M_half 6 = .ok (.if_icmp .ge 10, 3) := by decide +kernel
theorem dn_M_half_9 : decode cn_M_half 9 = .ok (.iconst 2, 1) := by decide +kernel
theorem dn_M_half_10 : decode cn_M_half 10 = .ok (.iload_n 1, 1) := by decide +kernel
theorem dn_M_half_11 : decode cn_M_half 11 = .ok (.imul, 1) := by decide +kernel
theorem dn_M_half_12 : decode cn_M_half 12 = .ok (.istore_n 1, 1) := by decide +kernel
theorem dn_M_half_13 : decode cn_M_half 13 = .ok (.goto (-11), 3) := by decide +kernel
theorem dn_M_half_16 : decode cn_M_half 16 = .ok (.iload_n 1, 1) := by decide +kernel
theorem dn_M_half_17 : decode cn_M_half 17 = .ok (.ireturn, 1) := by decide +kernel
theorem dn_M_step_0 : decode cn_M_step 0 = .ok (.aload_n 0, 1) := by decide +kernel
theorem dn_M_step_1 : decode cn_M_step 1 = .ok (.getfield 25, 3) := by decide +kernel
theorem dn_M_step_4 : decode cn_M_step 4 = .ok (.aload_n 0, 1) := by decide +kernel
theorem dn_M_step_5 : decode cn_M_step 5 = .ok (.getfield 58, 3) := by decide +kernel
theorem dn_M_step_8 : decode cn_M_step 8 = .ok (.iload_n 1, 1) := by decide +kernel
theorem dn_M_step_9 : decode cn_M_step 9 = .ok (.iastore, 1) := by decide +kernel
theorem dn_M_step_10 : decode cn_M_step 10 = .ok (.aload_n 0, 1) := by decide +kernel
theorem dn_M_step_11 : decode cn_M_step 11 = .ok (.getfield 28, 3) := by decide +kernel
theorem dn_M_step_14 : decode cn_M_step 14 = .ok (.aload_n 0, 1) := by decide +kernel
theorem dn_M_step_15 : decode cn_M_step 15 = .ok (.getfield 58, 3) := by decide +kernel
theorem dn_M_step_18 : decode cn_M_step 18 = .ok (.iload_n 2, 1) := by decide +kernel
theorem dn_M_step_19 : decode cn_M_step 19 = .ok (.iastore, 1) := by decide +kernel
theorem dn_M_step_20 : decode cn_M_step 20 = .ok (.aload_n 0, 1) := by decide +kernel
theorem dn_M_step_21 : decode cn_M_step 21 = .ok (.getfield 31, 3) := by decide +kernel
theorem dn_M_step_24 : decode cn_M_step 24 = .ok (.aload_n 0, 1) := by decide +kernel
theorem dn_M_step_25 : decode cn_M_step 25 = .ok (.getfield 58, 3) := by decide +kernel
theorem dn_M_step_28 : decode cn_M_step 28 = .ok (.iload_n 3, 1) := by decide +kernel
theorem dn_M_step_29 : decode cn_M_step 29 = .ok (.bastore, 1) := by decide +kernel
theorem dn_M_step_30 : decode cn_M_step 30 = .ok (.aload_n 0, 1) := by decide +kernel
theorem dn_M_step_31 : decode cn_M_step 31 = .ok (.aload_n 0, 1) := by decide +kernel
theorem dn_M_step_32 : decode cn_M_step 32 = .ok (.getfield 58, 3) := by decide +kernel
theorem dn_M_step_35 : decode cn_M_step 35 = .ok (.iconst 1, 1) := by decide +kernel
theorem dn_M_step_36 : decode cn_M_step 36 = .ok (.iadd, 1) := by decide +kernel
theorem dn_M_step_37 : decode cn_M_step 37 = .ok (.putfield 58, 3) := by decide +kernel
theorem dn_M_step_40 : decode cn_M_step 40 = .ok (.return_, 1) := by decide +kernel
theorem dn_M_wayToLeaf_0 : decode cn_M_wayToLeaf 0 = .ok (.aload_n 0, 1) := by decide +kernel
theorem dn_M_wayToLeaf_1 : decode cn_M_wayToLeaf 1 = .ok (.iconst 0, 1) := by decide +kernel
theorem dn_M_wayToLeaf_2 : decode cn_M_wayToLeaf 2 = .ok (.putfield 58, 3) := by decide +kernel
theorem dn_M_wayToLeaf_5 : decode cn_M_wayToLeaf 5 = .ok (.iconst 0, 1) := by decide +kernel
theorem dn_M_wayToLeaf_6 : decode cn_M_wayToLeaf 6 = .ok (.istore_n 3, 1) := by decide +kernel
theorem dn_M_wayToLeaf_7 : decode cn_M_wayToLeaf 7 = .ok (.iload_n 2, 1) := by decide +kernel
theorem dn_M_wayToLeaf_8 : decode cn_M_wayToLeaf 8 = .ok (.istore 4, 2) := by decide +kernel
theorem dn_M_wayToLeaf_10 : decode cn_M_wayToLeaf 10 = .ok (.iload 4, 2) := by decide +kernel
theorem dn_M_wayToLeaf_12 : decode cn_M_wayToLeaf 12 = .ok (.iconst 1, 1) := by decide +kernel
theorem dn_M_wayToLeaf_13 : decode cn_M_wayToLeaf 13 = .ok (.if_icmp .le 62, 3) := by decide +kernel
theorem dn_M_wayToLeaf_16 : decode cn_M_wayToLeaf 16 = .ok (.iload 4, 2) := by decide +kernel
theorem dn_M_wayToLeaf_18 : decode cn_M_wayToLeaf 18 = .ok (.invokestatic 61, 3) := by decide +kernel
theorem dn_M_wayToLeaf_21 : decode cn_M_wayToLeaf 21 = .ok (.istore 5, 2) := by decide +kernel
theorem dn_M_wayToLeaf_23 : decode cn_M_wayToLeaf 23 = .ok (.iload_n 1, 1) := by decide +kernel
theorem dn_M_wayToLeaf_24 : decode cn_M_wayToLeaf 24 = .ok (.iload_n 3, 1) := by decide +kernel
theorem dn_M_wayToLeaf_25 : decode cn_M_wayToLeaf 25 = .ok (.iload 5, 2) := by decide +kernel
theorem dn_M_wayToLeaf_27 : decode cn_M_wayToLeaf 27 = .ok (.iadd, 1) := by decide +kernel
theorem dn_M_wayToLeaf_28 : decode cn_M_wayToLeaf 28 = .ok (.if_icmp .ge 24, 3) := by decide +kernel
theorem dn_M_wayToLeaf_31 : decode cn_M_wayToLeaf 31 = .ok (.aload_n 0, 1) := by decide +kernel
theorem dn_M_wayToLeaf_32 : decode cn_M_wayToLeaf 32 = .ok (.iload_n 3, 1) := by decide +kernel
theorem dn_M_wayToLeaf_33 : decode cn_M_wayToLeaf 33 = .ok (.iload 5, 2) := by decide +kernel
theorem dn_M_wayToLeaf_35 : decode cn_M_wayToLeaf 35 = .ok (.iadd, 1) := by decide +kernel
theorem dn_M_wayToLeaf_36 : decode cn_M_wayToLeaf 36 = .ok (.iload 4, 2) := by decide +kernel
theorem dn_M_wayToLeaf_38 : decode cn_M_wayToLeaf 38 = .ok (.iload 5, 2) := by decide +kernel
theorem dn_M_wayToLeaf_40 : decode cn_M_wayToLeaf 40 = .ok (.isub, 1) := by decide +kernel
theorem dn_M_wayToLeaf_41 : decode cn_M_wayToLeaf 41 = .ok (.iconst 0, 1) := by decide +kernel
theorem dn_M_wayToLeaf_42 : decode cn_M_wayToLeaf 42 = .ok (.invokevirtual 64, 3) := by decide +kernel
theorem dn_M_wayToLeaf_45 : decode cn_M_wayToLeaf 45 = .ok (.iload 5, 2) := by decide +kernel
theorem dn_M_wayToLeaf_47 : decode cn_M_wayToLeaf 47 = .ok (.istore 4, 2) := by decide +kernel
theorem dn_M_wayToLeaf_49 : decode cn_M_wayToLeaf 49 = .ok (.goto 23, 3) := by decide +kernel
theorem dn_M_wayToLeaf_52 : decode cn_M_wayToLeaf 52 = .ok (.aload_n 0, 1) := by decide +kernel
theorem dn_M_wayToLeaf_53 : decode cn_M_wayToLeaf 53 = .ok (.iload_n 3, 1) := by decide +kernel
theorem dn_M_wayToLeaf_54 : decode cn_M_wayToLeaf 54 = .ok (.iload 5, 2) := by decide +kernel
theorem dn_M_wayToLeaf_56 : decode cn_M_wayToLeaf 56 = .ok (.iconst 1, 1) := by decide +kernel
theorem dn_M_wayToLeaf_57 : decode cn_M_wayToLeaf 57 = .ok (.invokevirtual 64, 3) := by decide +kernel
theorem dn_M_wayToLeaf_60 : decode cn_M_wayToLeaf 60 = .ok (.iload_n 3, 1) := by decide +kernel
theorem dn_M_wayToLeaf_61 : decode cn_M_wayToLeaf 61 = .ok (.iload 5, 2) := by decide +kernel
theorem dn_M_wayToLeaf_63 : decode cn_M_wayToLeaf 63 = .ok (.iadd, 1) := by decide +kernel
theorem dn_M_wayToLeaf_64 : decode cn_M_wayToLeaf 64 = .ok (.istore_n 3, 1) := by decide +kernel
theorem dn_M_wayToLeaf_65 : decode cn_M_wayToLeaf 65 = .ok (.iload 4, 2) := by decide +kernel
theorem dn_M_wayToLeaf_67 : decode cn_M_wayToLeaf 67 = .ok (.iload 5, 2) := by decide +kernel
theorem dn_M_wayToLeaf_69 : decode cn_M_wayToLeaf 69 = .ok (.isub, 1) := by decide +kernel
theorem dn_M_wayToLeaf_70 : decode cn_M_wayToLeaf 70 = .ok (.istore 4, 2) := by decide +kernel
theorem dn_M_wayToLeaf_72 : decode cn_M_wayToLeaf 72 = .ok (.goto (-62), 3) := by decide +kernel
theorem dn_M_wayToLeaf_75 : decode cn_M_wayToLeaf 75 = .ok (.aload_n 0, 1) := by decide +kernel
theorem dn_M_wayToLeaf_76 : decode cn_M_wayToLeaf 76 = .ok (.iload_n 3, 1) := by decide +kernel
theorem dn_M_wayToLeaf_77 : decode cn_M_wayToLeaf 77 = .ok (.putfield 68, 3) := by decide +kernel
theorem dn_M_wayToLeaf_80 : decode cn_M_wayToLeaf 80 = .ok (.aload_n 0, 1) := by decide +kernel
theorem dn_M_wayToLeaf_81 : decode cn_M_wayToLeaf 81 = .ok (.iconst 1, 1) := by decide +kernel
theorem dn_M_wayToLeaf_82 : decode cn_M_wayToLeaf 82 = .ok (.putfield 71, 3) := by decide +kernel
theorem dn_M_wayToLeaf_85 : decode cn_M_wayToLeaf 85 = .ok (.aload_n 0, 1) := by decide +kernel
theorem dn_M_wayToLeaf_86 : decode cn_M_wayToLeaf 86 = .ok (.iconst 1, 1) := by decide +kernel
theorem dn_M_wayToLeaf_87 : decode cn_M_wayToLeaf 87 = .ok (.putfield 74, 3) := by decide +kernel
theorem dn_M_wayToLeaf_90 : decode cn_M_wayToLeaf 90 = .ok (.return_, 1) := by decide +kernel
theorem dn_M_wayToEnd_0 : decode cn_M_wayToEnd 0 = .ok (.aload_n 0, 1) := by decide +kernel
theorem dn_M_wayToEnd_1 : decode cn_M_wayToEnd 1 = .ok (.iconst 0, 1) := by decide +kernel
theorem dn_M_wayToEnd_2 : decode cn_M_wayToEnd 2 = .ok (.putfield 58, 3) := by decide +kernel
theorem dn_M_wayToEnd_5 : decode cn_M_wayToEnd 5 = .ok (.aload_n 0, 1) := by decide +kernel
theorem dn_M_wayToEnd_6 : decode cn_M_wayToEnd 6 = .ok (.iconst 0, 1) := by decide +kernel
theorem dn_M_wayToEnd_7 : decode cn_M_wayToEnd 7 = .ok (.putfield 74, 3) := by decide +kernel
theorem dn_M_wayToEnd_10 : decode cn_M_wayToEnd 10 = .ok (.iconst 0, 1) := by decide +kernel
theorem dn_M_wayToEnd_11 : decode cn_M_wayToEnd 11 = .ok (.istore_n 3, 1) := by decide +kernel
theorem dn_M_wayToEnd_12 : decode cn_M_wayToEnd 12 = .ok (.iload_n 2, 1) := by decide +kernel
theorem dn_M_wayToEnd_13 : decode cn_M_wayToEnd 13 = .ok (.istore 4, 2) := by decide +kernel
theorem dn_M_wayToEnd_15 : decode cn_M_wayToEnd 15 = .ok (.iload_n 3, 1) := by decide +kernel
theorem dn_M_wayToEnd_16 : decode cn_M_wayToEnd 16 = .ok (.iload 4, 2) := by decide +kernel
theorem dn_M_wayToEnd_18 : decode cn_M_wayToEnd 18 = .ok (.iadd, 1) := by decide +kernel
theorem dn_M_wayToEnd_19 : decode cn_M_wayToEnd 19 = .ok (.iload_n 1, 1) := by decide +kernel
theorem dn_M_wayToEnd_20 : decode cn_M_wayToEnd 20 = .ok (.if_icmp .eq 67, 3) := by decide +kernel
theorem dn_M_wayToEnd_23 : decode cn_M_wayToEnd 23 = .ok (.iload 4, 2) := by decide +kernel
theorem dn_M_wayToEnd_25 : decode cn_M_wayToEnd 25 = .ok (.invokestatic 61, 3) := by decide +kernel
theorem dn_M_wayToEnd_28 : decode cn_M_wayToEnd 28 = .ok (.istore 5, 2) := by decide +kernel
theorem dn_M_wayToEnd_30 : decode cn_M_wayToEnd 30 = .ok (.iload_n 1, 1) := by decide +kernel
theorem dn_M_wayToEnd_31 : decode cn_M_wayToEnd 31 = .ok (.iload_n 3, 1) := by decide +kernel
theorem dn_M_wayToEnd_32 : decode cn_M_wayToEnd 32 = .ok (.iload 5, 2) := by decide +kernel
theorem dn_M_wayToEnd_34 : decode cn_M_wayToEnd 34 = .ok (.iadd, 1) := by decide +kernel
theorem dn_M_wayToEnd_35 : decode cn_M_wayToEnd 35 = .ok (.if_icmp .gt 24, 3) := by decide +kernel
theorem dn_M_wayToEnd_38 : decode cn_M_wayToEnd 38 = .ok (.aload_n 0, 1) := by decide +kernel
theorem dn_M_wayToEnd_39 : decode cn_M_wayToEnd 39 = .ok (.iload_n 3, 1) := by decide +kernel
theorem dn_M_wayToEnd_40 : decode cn_M_wayToEnd 40 = .ok (.iload 5, 2) := by decide +kernel
theorem dn_M_wayToEnd_42 : decode cn_M_wayToEnd 42 = .ok (.iadd, 1) := by decide +kernel
theorem dn_M_wayToEnd_43 : decode cn_M_wayToEnd 43 = .ok (.iload 4, 2) := by decide +kernel
theorem dn_M_wayToEnd_45 : decode cn_M_wayToEnd 45 = .ok (.iload 5, 2) := by decide +kernel
theorem dn_M_wayToEnd_47 : decode cn_M_wayToEnd 47 = .ok (.isub, 1) := by decide +kernel
theorem dn_M_wayToEnd_48 : decode cn_M_wayToEnd 48 = .ok (.iconst 0, 1) := by decide +kernel
theorem dn_M_wayToEnd_49 : decode cn_M_wayToEnd 49 = .ok (.invokevirtual 64, 3) := by decide +kernel
theorem dn_M_wayToEnd_52 : decode cn_M_wayToEnd 52 = .ok (.iload 5, 2) := by decide +kernel
theorem dn_M_wayToEnd_54 : decode cn_M_wayToEnd 54 = .ok (.istore 4, 2) := by decide +kernel
theorem dn_M_wayToEnd_56 : decode cn_M_wayToEnd 56 = .ok (.goto 28, 3) := by decide +kernel
theorem dn_M_wayToEnd_59 : decode cn_M_wayToEnd 59 = .ok (.aload_n 0, 1) := by decide +kernel
theorem dn_M_wayToEnd_60 : decode cn_M_wayToEnd 60 = .ok (.iload_n 3, 1) := by decide +kernel
theorem dn_M_wayToEnd_61 : decode cn_M_wayToEnd 61 = .ok (.iload 5, 2) := by decide +kernel
theorem dn_M_wayToEnd_63 : decode cn_M_wayToEnd 63 = .ok (.iconst 1, 1) := by decide +kernel
theorem dn_M_wayToEnd_64 : decode cn_M_wayToEnd 64 = .ok (.invokevirtual 64, 3) := by decide +kernel
theorem dn_M_wayToEnd_67 : decode cn_M_wayToEnd 67 = .ok (.iload_n 3, 1) := by decide +kernel
theorem dn_M_wayToEnd_68 : decode cn_M_wayToEnd 68 = .ok (.iload 5, 2) := by decide +kernel
theorem dn_M_wayToEnd_70 : decode cn_M_wayToEnd 70 = .ok (.iadd, 1) := by decide +kernel
theorem dn_M_wayToEnd_71 : decode cn_M_wayToEnd 71 = .ok (.istore_n 3, 1) := by decide +kernel
theorem dn_M_wayToEnd_72 : decode cn_M_wayToEnd 72 = .ok (.iload 4, 2) := by decide +kernel
theorem dn_M_wayToEnd_74 : decode cn_M_wayToEnd 74 = .ok (.iload 5, 2) := by decide +kernel
theorem dn_M_wayToEnd_76 : decode cn_M_wayToEnd 76 = .ok (.isub, 1) := by decide +kernel
theorem dn_M_wayToEnd_77 : decode cn_M_wayToEnd 77 = .ok (.istore 4, 2) := by decide +kernel
theorem dn_M_wayToEnd_79 : decode cn_M_wayToEnd 79 = .ok (.aload_n 0, 1) := by decide +kernel
theorem dn_M_wayToEnd_80 : decode cn_M_wayToEnd 80 = .ok (.iconst 1, 1) := by decide +kernel
theorem dn_M_wayToEnd_81 : decode cn_M_wayToEnd 81 = .ok (.putfield 74, 3) := by decide +kernel
theorem dn_M_wayToEnd_84 : decode cn_M_wayToEnd 84 = .ok (.goto (-69), 3) := by decide +kernel
theorem dn_M_wayToEnd_87 : decode cn_M_wayToEnd 87 = .ok (.aload_n 0, 1) := by decide +kernel
theorem dn_M_wayToEnd_88 : decode cn_M_wayToEnd 88 = .ok (.iload_n 3, 1) := by decide +kernel
theorem dn_M_wayToEnd_89 : decode cn_M_wayToEnd 89 = .ok (.putfield 68, 3) := by decide +kernel
theorem dn_M_wayToEnd_92 : decode cn_M_wayToEnd 92 = .ok (.aload_n 0, 1) := by decide +kernel
theorem dn_M_wayToEnd_93 : decode cn_M_wayToEnd 93 = .ok (.iload 4, 2) := by decide +kernel
theorem dn_M_wayToEnd_95 : decode cn_M_wayToEnd 95 = .ok (.putfield 71, 3) := by decide +kernel
theorem dn_M_wayToEnd_98 : decode cn_M_wayToEnd 98 = .ok (.return_, 1) := by decide +kernel
theorem dn_M_digest_0 : decode cn_M_digest 0 = .ok (.aload_n 0, 1) := by decide +kernel
theorem dn_M_digest_1 : decode cn_M_digest 1 = .ok (.getfield 74, 3) := by decide +kernel
theorem dn_M_digest_4 : decode cn_M_digest 4 = .ok (.ifCond .eq 7, 3) := by decide +kernel
theorem dn_M_digest_7 : decode cn_M_digest 7 = .ok (.iconst 1, 1) := by decide +kernel
theorem dn_M_digest_8 : decode cn_M_digest 8 = .ok (.goto 4, 3) := by decide +kernel
theorem dn_M_digest_11 : decode cn_M_digest 11 = .ok (.iconst 0, 1) := by decide +kernel
theorem dn_M_digest_12 : decode cn_M_digest 12 = .ok (.istore_n 2, 1) := by decide +kernel
theorem dn_M_digest_13 : decode cn_M_digest 13 = .ok (.iload_n 1, 1) := by decide +kernel
theorem dn_M_digest_14 : decode cn_M_digest 14 = .ok (.ifCond .lt 13, 3) := by decide +kernel
theorem dn_M_digest_17 : decode cn_M_digest 17 = .ok (.iload_n 1, 1) := by decide +kernel
theorem dn_M_digest_18 : decode cn_M_digest 18 = .ok (.iload_n 2, 1) := by decide +kernel
theorem dn_M_digest_19 : decode cn_M_digest 19 = .ok (.aload_n 0, 1) := by decide +kernel
theorem dn_M_digest_20 : decode cn_M_digest 20 = .ok (.getfield 58, 3) := by decide +kernel
theorem dn_M_digest_23 : decode cn_M_digest 23 = .ok (.iadd, 1) := by decide +kernel
theorem dn_M_digest_24 : decode cn_M_digest 24 = .ok (.if_icmp .lt 7, 3) := by decide +kernel
theorem dn_M_digest_27 : decode cn_M_digest 27 = .ok (.ldc2_w 77, 3) := by decide +kernel
theorem dn_M_digest_30 : decode cn_M_digest 30 = .ok (.lreturn, 1) := by decide +kernel
theorem dn_M_digest_31 : decode cn_M_digest 31 = .ok (.iload_n 1, 1) := by decide +kernel
theorem dn_M_digest_32 : decode cn_M_digest 32 = .ok (.iload_n 2, 1) := by decide +kernel
theorem dn_M_digest_33 : decode cn_M_digest 33 = .ok (.if_icmp .ge 17, 3) := by decide +kernel
theorem dn_M_digest_36 : decode cn_M_digest 36 = .ok (.aload_n 0, 1) := by decide +kernel
theorem dn_M_digest_37 : decode cn_M_digest 37 = .ok (.aload_n 0, 1) := by decide +kernel
theorem dn_M_digest_38 : decode cn_M_digest 38 = .ok (.getfield 68, 3) := by decide +kernel
theorem dn_M_digest_41 : decode cn_M_digest 41 = .ok (.aload_n 0, 1) := by decide +kernel
theorem dn_M_digest_42 : decode cn_M_digest 42 = .ok (.getfield 71, 3) := by decide +kernel
theorem dn_M_digest_45 : decode cn_M_digest 45 = .ok (.invokevirtual 79, 3) := by decide +kernel
theorem dn_M_digest_48 : decode cn_M_digest 48 = .ok (.i2l, 1) := by decide +kernel
theorem dn_M_digest_49 : decode cn_M_digest 49 = .ok (.lreturn, 1) := by decide +kernel
theorem dn_M_digest_50 : decode cn_M_digest 50 = .ok (.aload_n 0, 1) := by decide +kernel
theorem dn_M_digest_51 : decode cn_M_digest 51 = .ok (.getfield 58, 3) := by decide +kernel
theorem dn_M_digest_54 : decode cn_M_digest 54 = .ok (.iconst 1, 1) := by decide +kernel
theorem dn_M_digest_55 : decode cn_M_digest 55 = .ok (.isub, 1) := by decide +kernel
theorem dn_M_digest_56 : decode cn_M_digest 56 = .ok (.iload_n 1, 1) := by decide +kernel
theorem dn_M_digest_57 : decode cn_M_digest 57 = .ok (.iload_n 2, 1) := by decide +kernel
theorem dn_M_digest_58 : decode cn_M_digest 58 = .ok (.isub, 1) := by decide +kernel
theorem dn_M_digest_59 : decode cn_M_digest 59 = .ok (.isub, 1) := by decide +kernel
theorem dn_M_digest_60 : decode cn_M_digest 60 = .ok (.istore_n 3, 1) := by decide +kernel
theorem dn_M_digest_61 : decode cn_M_digest 61 = .ok (.aload_n 0, 1) := by decide +kernel
theorem dn_M_digest_62 : decode cn_M_digest 62 = .ok (.aload_n 0, 1) := by decide +kernel
theorem dn_M_digest_63 : decode cn_M_digest 63 = .ok (.getfield 25, 3) := by decide +kernel
theorem dn_M_digest_66 : decode cn_M_digest 66 = .ok (.iload_n 3, 1) := by decide +kernel
theorem dn_M_digest_67 : decode cn_M_digest 67 = .ok (.iaload, 1) := by decide +kernel
theorem dn_M_digest_68 : decode cn_M_digest 68 = .ok (.aload_n 0, 1) := by decide +kernel
theorem dn_M_digest_69 : decode cn_M_digest 69 = .ok (.getfield 28, 3) := by decide +kernel
theorem dn_M_digest_72 : decode cn_M_digest 72 = .ok (.iload_n 3, 1) := by decide +kernel
theorem dn_M_digest_73 : decode cn_M_digest 73 = .ok (.iaload, 1) := by decide +kernel
theorem dn_M_digest_74 : decode cn_M_digest 74 = .ok (.invokevirtual 79, 3) := by decide +kernel
theorem dn_M_digest_77 : decode cn_M_digest 77 = .ok (.i2l, 1) := by decide +kernel
theorem dn_M_digest_78 : decode cn_M_digest 78 = .ok (.lreturn, 1) := by decide +kernel

set_option maxRecDepth 100000 in
set_option maxHeartbeats 4000000 in
theorem c_M_mix (l : Launch) (dC : Nat → ClassId) (dI : Nat → Nat → Nat) (cI cZ : ClassId) (a b : Int32) : gc_I l yn_M_mix (gw yn_M_mix cn_M_mix 4 (some .int)) (rm_ 0 0) (dC, dI) vwCl (gT cI cZ) [.int a, .int b] [] (fun r (_ : Unit) => r = (hf_mix a b)) (fun _ => []) := by
  refine gc_I_of (cc := cn_M_mix) (maxL := 4) (ty := .int) (by decide) rfl (Nat.le_of_ble_eq_true rfl) ?_
  intro pp ee ss mm ar be me cd A Q ls H0 H locs hx hb hml hown hts hK hP hD hS hA hl hret
  have hw : ∀ w ∈ gw_T, w.before ar ss = true := fun w h => hts w (List.mem_cons_of_mem _ h)
  have hl : lv_has ls 4 [(0, .int a), (1, .int b)] := hl
  refine lv_iload_n hx hb dn_M_mix_0 rfl (lv_at hl 0 rfl) ?_
  refine lv_bipush (v := 11) hx hb dn_M_mix_1 (by decide) ?_
  refine lv_ishl hx hb dn_M_mix_3 ?_
  refine lv_iload_n hx hb dn_M_mix_4 rfl (lv_at hl 0 rfl) ?_
  refine lv_bipush (v := 21) hx hb dn_M_mix_5 (by decide) ?_
  refine lv_iushr hx hb dn_M_mix_7 rfl ?_
  refine lv_ior hx hb dn_M_mix_8 ?_
  refine lv_istore_n (lv' := [(2, .int ((a <<< (11 &&& 31)) ||| (((a : Int32).toUInt32 >>> ((21 : Int32).toUInt32 &&& Int32.toUInt32 31)).toInt32))), (0, .int a), (1, .int b)]) hx hb dn_M_mix_9 rfl hl (by decide) rfl (fun ls hl => ?_)
  refine lv_iload_n hx hb dn_M_mix_10 rfl (lv_at hl 0 rfl) ?_
  refine lv_iload_n hx hb dn_M_mix_11 rfl (lv_at hl 2 rfl) ?_
  refine lv_ixor hx hb dn_M_mix_12 ?_
  refine lv_ldc (v := 48271001) hx hb hown (hw _ mw_554) dn_M_mix_13 ?_
  refine lv_imul hx hb dn_M_mix_15 ?_
  refine lv_sipush (v := 12345) hx hb dn_M_mix_16 (by decide) ?_
  refine lv_iadd hx hb dn_M_mix_19 ?_
  refine lv_istore_n (lv' := [(3, .int (((((a <<< (11 &&& 31)) ||| (((a : Int32).toUInt32 >>> ((21 : Int32).toUInt32 &&& Int32.toUInt32 31)).toInt32)) ^^^ b) * 48271001) + 12345)), (2, .int ((a <<< (11 &&& 31)) ||| (((a : Int32).toUInt32 >>> ((21 : Int32).toUInt32 &&& Int32.toUInt32 31)).toInt32))), (0, .int a), (1, .int b)]) hx hb dn_M_mix_20 rfl hl (by decide) rfl (fun ls hl => ?_)
  refine lv_iload_n hx hb dn_M_mix_21 rfl (lv_at hl 0 rfl) ?_
  refine lv_iload_n hx hb dn_M_mix_22 rfl (lv_at hl 0 rfl) ?_
  refine lv_bipush (v := 15) hx hb dn_M_mix_23 (by decide) ?_
  refine lv_iushr hx hb dn_M_mix_25 rfl ?_
  refine lv_ixor hx hb dn_M_mix_26 ?_
  exact hret _ () _ _ _ _ (by unfold hf_mix hf_y hf_rot; rfl) rfl hP hD hS dn_M_mix_27

set_option maxRecDepth 100000 in
set_option maxHeartbeats 4000000 in
theorem c_M_node (l : Launch) (dC : Nat → ClassId) (dI : Nat → Nat → Nat) (cI cZ : ClassId) (a b : Int32) : gc_I l yn_M_node (gw yn_M_node cn_M_node 3 (some .int)) (rm_ 1 23) (dC, dI) vwCl (gT cI cZ) [.int a, .int b] [] (fun r (_ : Unit) => r = (hf_node a b)) (fun _ => []) := by
  refine gc_I_of (cc := cn_M_node) (maxL := 3) (ty := .int) (by decide) rfl (Nat.le_of_ble_eq_true rfl) ?_
  intro pp ee ss mm ar be me cd A Q ls H0 H locs hx hb hml hown hts hK hP hD hS hA hl hret
  have hw : ∀ w ∈ gw_T, w.before ar ss = true := fun w h => hts w (List.mem_cons_of_mem _ h)
  have hl : lv_has ls 3 [(0, .int a), (1, .int b)] := hl
  refine lv_iconst (v := 2) hx hb dn_M_node_0 (by decide) ?_
  refine lv_iload_n hx hb dn_M_node_1 rfl (lv_at hl 0 rfl) ?_
  refine gc_s0 (v := (hf_mix 2 a)) (As := [.int 2, .int a]) (rest := []) ⟨hx, hb, hml, hown, hw⟩ (c_M_mix l dC dI cI cZ 2 a) (gw_cS 2 hw mw_551 mw_552 mw_6 mw_553 hd_M_mix ⟨Nat.le_of_ble_eq_true rfl, Nat.le_of_ble_eq_true rfl⟩) hK hP hD hS hA rfl hl.1 rfl (Nat.le_of_ble_eq_true rfl) dn_M_node_2 ⟨Nat.zero_le _, Nat.zero_le _⟩ (fun H locs hP hD hS => ?_)
  refine lv_istore_n (lv' := [(2, .int (hf_mix 2 a)), (0, .int a), (1, .int b)]) hx hb dn_M_node_5 rfl hl (by decide) rfl (fun ls hl => ?_)
  refine lv_iload_n hx hb dn_M_node_6 rfl (lv_at hl 0 rfl) ?_
  refine lv_iload_n hx hb dn_M_node_7 rfl (lv_at hl 2 rfl) ?_
  refine gc_s0 (v := (hf_mix (hf_mix 2 a) b)) (As := [.int (hf_mix 2 a), .int b]) (rest := []) ⟨hx, hb, hml, hown, hw⟩ (c_M_mix l dC dI cI cZ (hf_mix 2 a) b) (gw_cS 2 hw mw_551 mw_552 mw_6 mw_553 hd_M_mix ⟨Nat.le_of_ble_eq_true rfl, Nat.le_of_ble_eq_true rfl⟩) hK hP hD hS hA rfl hl.1 rfl (Nat.le_of_ble_eq_true rfl) dn_M_node_8 ⟨Nat.zero_le _, Nat.zero_le _⟩ (fun H locs hP hD hS => ?_)
  exact hret (hf_mix (hf_mix 2 a) b) () _ _ _ _ rfl rfl hP hD hS dn_M_node_11

set_option maxRecDepth 100000 in
set_option maxHeartbeats 4000000 in
theorem c_M_leaf (l : Launch) (dC : Nat → ClassId) (dI : Nat → Nat → Nat) (cI cZ : ClassId) (bd : Nat → Nat) (clk : Nat) (pw lf : Int32) (f fd : Nat → Int32) (fc sn ob : Nat) (S D G : Nat → Int32) (st : Nat) (Y Z X : Nat → Int32) (ef ec fu : Nat) (g : Nat → Int32) (r : Nat) (hr : r < 40) : gc_I l yn_M_leaf (gw yn_M_leaf cn_M_leaf 4 (some .int)) (rm_ 1 23) (dC, dI) vwCl (gT cI cZ) [.ref (bd 0), .int (nI r)] [(bd 0, .inr (5, [.ref (bd 1), .int (nI clk), .int pw, .int lf, .ref (bd 2), .int (nI fc), .int (nI sn), .int (nI ob), .ref (bd 3), .ref (bd 4), .ref (bd 5), .int (nI st), .ref (bd 6), .ref (bd 7), .ref (bd 8), .int (nI ef), .int (nI ec), .int (nI fu), .ref (bd 9)])), (bd 1, .inl (cI, 292, .inl f)), (bd 2, .inl (cI, 12, .inl fd)), (bd 3, .inl (cI, 13, .inl S)), (bd 4, .inl (cI, 13, .inl D)), (bd 5, .inl (cI, 13, .inl G)), (bd 6, .inl (cI, 8, .inl Y)), (bd 7, .inl (cI, 8, .inl Z)), (bd 8, .inl (cZ, 8, .inl X)), (bd 9, .inl (cI, 40, .inl g))] (fun x (_ : Unit) => x = hf_leaf f (7 * r)) (fun _ => [(bd 0, .inr (5, [.ref (bd 1), .int (nI clk), .int pw, .int lf, .ref (bd 2), .int (nI fc), .int (nI sn), .int (nI ob), .ref (bd 3), .ref (bd 4), .ref (bd 5), .int (nI st), .ref (bd 6), .ref (bd 7), .ref (bd 8), .int (nI ef), .int (nI ec), .int (nI fu), .ref (bd 9)])), (bd 1, .inl (cI, 292, .inl f)), (bd 2, .inl (cI, 12, .inl fd)), (bd 3, .inl (cI, 13, .inl S)), (bd 4, .inl (cI, 13, .inl D)), (bd 5, .inl (cI, 13, .inl G)), (bd 6, .inl (cI, 8, .inl Y)), (bd 7, .inl (cI, 8, .inl Z)), (bd 8, .inl (cZ, 8, .inl X)), (bd 9, .inl (cI, 40, .inl g))]) := by
  refine gc_I_of (cc := cn_M_leaf) (maxL := 4) (ty := .int) (by decide) rfl (Nat.le_of_ble_eq_true rfl) ?_
  intro pp ee ss mm ar be me cd A Q ls H0 H locs hx hb hml hown hts hK hP hD hS hA hl hret
  have hw : ∀ w ∈ gw_T, w.before ar ss = true := fun w h => hts w (List.mem_cons_of_mem _ h)
  have hl : lv_has ls 4 [(0, .ref (bd 0)), (1, .int (nI r))] := hl
  refine lv_iconst (v := 1) hx hb dn_M_leaf_0 (by decide) ?_
  refine lv_istore_n (lv' := [(2, .int 1), (0, .ref (bd 0)), (1, .int (nI r))]) hx hb dn_M_leaf_1 rfl hl (by decide) rfl (fun ls hl => ?_)
  refine lv_iconst (v := 0) hx hb dn_M_leaf_2 (by decide) ?_
  refine lv_istore_n (lv' := [(3, .int 0), (2, .int 1), (0, .ref (bd 0)), (1, .int (nI r))]) hx hb dn_M_leaf_3 rfl hl (by decide) rfl (fun ls hl => ?_)
  refine lv_iload_n hx hb dn_M_leaf_4 rfl (lv_at hl 0 rfl) ?_
  refine lv_bipush (v := 6) hx hb dn_M_leaf_5 (by decide) ?_
  refine lv_icmp_ge (tgt := 32) hx hb dn_M_leaf_7 (by decide) (fun h => absurd h (by decide)) (fun _ => ?_)
  refine lv_iload_n hx hb dn_M_leaf_10 rfl (lv_at hl 1 rfl) ?_
  refine lv_aload_n hx hb dn_M_leaf_11 rfl (lv_at hl 2 rfl) ?_
  refine va_get (D := (dC, dI)) (ci := 5) (v := .ref (bd 1)) (C := rn_M) (T := tn_M) (N := 19) hx hb hw ml_M hown hK hP 0 rfl rfl 0 (by decide) (hw _ mw_473) (fun _ h9 => h9) rfl dn_M_leaf_12 ?_
  refine lv_bipush (v := 7) hx hb dn_M_leaf_15 (by decide) ?_
  refine lv_iload_n hx hb dn_M_leaf_17 rfl (lv_at hl 3 rfl) ?_
  refine gr_mulN hx hb 7 r rfl rfl dn_M_leaf_18 ?_
  refine lv_iload_n hx hb dn_M_leaf_19 rfl (lv_at hl 0 rfl) ?_
  refine gr_addN hx hb (7 * r) 0 rfl rfl dn_M_leaf_20 ?_
  refine gr_iald hx hb hK hP 1 0 rfl rfl ((7 * r) + 0) rfl (by omega) (by decide) dn_M_leaf_21 ?_
  refine gc_s0 (v := (hf_mix 1 (f ((7 * r) + 0)))) (As := [.int 1, .int (f ((7 * r) + 0))]) (rest := []) ⟨hx, hb, hml, hown, hw⟩ (c_M_mix l dC dI cI cZ 1 (f ((7 * r) + 0))) (gw_cS 2 hw mw_551 mw_552 mw_6 mw_553 hd_M_mix ⟨Nat.le_of_ble_eq_true rfl, Nat.le_of_ble_eq_true rfl⟩) hK hP hD hS hA rfl hl.1 rfl (Nat.le_of_ble_eq_true rfl) dn_M_leaf_22 ⟨Nat.zero_le _, Nat.zero_le _⟩ (fun H locs hP hD hS => ?_)
  refine lv_istore_n (lv' := [(2, .int (hf_mix 1 (f ((7 * r) + 0)))), (3, .int 0), (0, .ref (bd 0)), (1, .int (nI r))]) hx hb dn_M_leaf_25 rfl hl (by decide) rfl (fun ls hl => ?_)
  refine lv_iinc (lv' := [(3, .int 1), (2, .int (hf_mix 1 (f ((7 * r) + 0)))), (0, .ref (bd 0)), (1, .int (nI r))]) (v := 1) (k := 1) hx hb dn_M_leaf_26 hl rfl (by decide) (by decide) rfl (fun ls hl => ?_)
  refine lv_goto (tgt := 4) hx hb dn_M_leaf_29 (by decide) ?_
  refine lv_iload_n hx hb dn_M_leaf_4 rfl (lv_at hl 0 rfl) ?_
  refine lv_bipush (v := 6) hx hb dn_M_leaf_5 (by decide) ?_
  refine lv_icmp_ge (tgt := 32) hx hb dn_M_leaf_7 (by decide) (fun h => absurd h (by decide)) (fun _ => ?_)
  refine lv_iload_n hx hb dn_M_leaf_10 rfl (lv_at hl 1 rfl) ?_
  refine lv_aload_n hx hb dn_M_leaf_11 rfl (lv_at hl 2 rfl) ?_
  refine va_get (D := (dC, dI)) (ci := 5) (v := .ref (bd 1)) (C := rn_M) (T := tn_M) (N := 19) hx hb hw ml_M hown hK hP 0 rfl rfl 0 (by decide) (hw _ mw_473) (fun _ h9 => h9) rfl dn_M_leaf_12 ?_
  refine lv_bipush (v := 7) hx hb dn_M_leaf_15 (by decide) ?_
  refine lv_iload_n hx hb dn_M_leaf_17 rfl (lv_at hl 3 rfl) ?_
  refine gr_mulN hx hb 7 r rfl rfl dn_M_leaf_18 ?_
  refine lv_iload_n hx hb dn_M_leaf_19 rfl (lv_at hl 0 rfl) ?_
  refine gr_addN hx hb (7 * r) 1 rfl rfl dn_M_leaf_20 ?_
  refine gr_iald hx hb hK hP 1 0 rfl rfl ((7 * r) + 1) rfl (by omega) (by decide) dn_M_leaf_21 ?_
  refine gc_s0 (v := (hf_mix (hf_mix 1 (f ((7 * r) + 0))) (f ((7 * r) + 1)))) (As := [.int (hf_mix 1 (f ((7 * r) + 0))), .int (f ((7 * r) + 1))]) (rest := []) ⟨hx, hb, hml, hown, hw⟩ (c_M_mix l dC dI cI cZ (hf_mix 1 (f ((7 * r) + 0))) (f ((7 * r) + 1))) (gw_cS 2 hw mw_551 mw_552 mw_6 mw_553 hd_M_mix ⟨Nat.le_of_ble_eq_true rfl, Nat.le_of_ble_eq_true rfl⟩) hK hP hD hS hA rfl hl.1 rfl (Nat.le_of_ble_eq_true rfl) dn_M_leaf_22 ⟨Nat.zero_le _, Nat.zero_le _⟩ (fun H locs hP hD hS => ?_)
  refine lv_istore_n (lv' := [(2, .int (hf_mix (hf_mix 1 (f ((7 * r) + 0))) (f ((7 * r) + 1)))), (3, .int 1), (0, .ref (bd 0)), (1, .int (nI r))]) hx hb dn_M_leaf_25 rfl hl (by decide) rfl (fun ls hl => ?_)
  refine lv_iinc (lv' := [(3, .int 2), (2, .int (hf_mix (hf_mix 1 (f ((7 * r) + 0))) (f ((7 * r) + 1)))), (0, .ref (bd 0)), (1, .int (nI r))]) (v := 2) (k := 1) hx hb dn_M_leaf_26 hl rfl (by decide) (by decide) rfl (fun ls hl => ?_)
  refine lv_goto (tgt := 4) hx hb dn_M_leaf_29 (by decide) ?_
  refine lv_iload_n hx hb dn_M_leaf_4 rfl (lv_at hl 0 rfl) ?_
  refine lv_bipush (v := 6) hx hb dn_M_leaf_5 (by decide) ?_
  refine lv_icmp_ge (tgt := 32) hx hb dn_M_leaf_7 (by decide) (fun h => absurd h (by decide)) (fun _ => ?_)
  refine lv_iload_n hx hb dn_M_leaf_10 rfl (lv_at hl 1 rfl) ?_
  refine lv_aload_n hx hb dn_M_leaf_11 rfl (lv_at hl 2 rfl) ?_
  refine va_get (D := (dC, dI)) (ci := 5) (v := .ref (bd 1)) (C := rn_M) (T := tn_M) (N := 19) hx hb hw ml_M hown hK hP 0 rfl rfl 0 (by decide) (hw _ mw_473) (fun _ h9 => h9) rfl dn_M_leaf_12 ?_
  refine lv_bipush (v := 7) hx hb dn_M_leaf_15 (by decide) ?_
  refine lv_iload_n hx hb dn_M_leaf_17 rfl (lv_at hl 3 rfl) ?_
  refine gr_mulN hx hb 7 r rfl rfl dn_M_leaf_18 ?_
  refine lv_iload_n hx hb dn_M_leaf_19 rfl (lv_at hl 0 rfl) ?_
  refine gr_addN hx hb (7 * r) 2 rfl rfl dn_M_leaf_20 ?_
  refine gr_iald hx hb hK hP 1 0 rfl rfl ((7 * r) + 2) rfl (by omega) (by decide) dn_M_leaf_21 ?_
  refine gc_s0 (v := (hf_mix (hf_mix (hf_mix 1 (f ((7 * r) + 0))) (f ((7 * r) + 1))) (f ((7 * r) + 2)))) (As := [.int (hf_mix (hf_mix 1 (f ((7 * r) + 0))) (f ((7 * r) + 1))), .int (f ((7 * r) + 2))]) (rest := []) ⟨hx, hb, hml, hown, hw⟩ (c_M_mix l dC dI cI cZ (hf_mix (hf_mix 1 (f ((7 * r) + 0))) (f ((7 * r) + 1))) (f ((7 * r) + 2))) (gw_cS 2 hw mw_551 mw_552 mw_6 mw_553 hd_M_mix ⟨Nat.le_of_ble_eq_true rfl, Nat.le_of_ble_eq_true rfl⟩) hK hP hD hS hA rfl hl.1 rfl (Nat.le_of_ble_eq_true rfl) dn_M_leaf_22 ⟨Nat.zero_le _, Nat.zero_le _⟩ (fun H locs hP hD hS => ?_)
  refine lv_istore_n (lv' := [(2, .int (hf_mix (hf_mix (hf_mix 1 (f ((7 * r) + 0))) (f ((7 * r) + 1))) (f ((7 * r) + 2)))), (3, .int 2), (0, .ref (bd 0)), (1, .int (nI r))]) hx hb dn_M_leaf_25 rfl hl (by decide) rfl (fun ls hl => ?_)
  refine lv_iinc (lv' := [(3, .int 3), (2, .int (hf_mix (hf_mix (hf_mix 1 (f ((7 * r) + 0))) (f ((7 * r) + 1))) (f ((7 * r) + 2)))), (0, .ref (bd 0)), (1, .int (nI r))]) (v := 3) (k := 1) hx hb dn_M_leaf_26 hl rfl (by decide) (by decide) rfl (fun ls hl => ?_)
  refine lv_goto (tgt := 4) hx hb dn_M_leaf_29 (by decide) ?_
  refine lv_iload_n hx hb dn_M_leaf_4 rfl (lv_at hl 0 rfl) ?_
  refine lv_bipush (v := 6) hx hb dn_M_leaf_5 (by decide) ?_
  refine lv_icmp_ge (tgt := 32) hx hb dn_M_leaf_7 (by decide) (fun h => absurd h (by decide)) (fun _ => ?_)
  refine lv_iload_n hx hb dn_M_leaf_10 rfl (lv_at hl 1 rfl) ?_
  refine lv_aload_n hx hb dn_M_leaf_11 rfl (lv_at hl 2 rfl) ?_
  refine va_get (D := (dC, dI)) (ci := 5) (v := .ref (bd 1)) (C := rn_M) (T := tn_M) (N := 19) hx hb hw ml_M hown hK hP 0 rfl rfl 0 (by decide) (hw _ mw_473) (fun _ h9 => h9) rfl dn_M_leaf_12 ?_
  refine lv_bipush (v := 7) hx hb dn_M_leaf_15 (by decide) ?_
  refine lv_iload_n hx hb dn_M_leaf_17 rfl (lv_at hl 3 rfl) ?_
  refine gr_mulN hx hb 7 r rfl rfl dn_M_leaf_18 ?_
  refine lv_iload_n hx hb dn_M_leaf_19 rfl (lv_at hl 0 rfl) ?_
  refine gr_addN hx hb (7 * r) 3 rfl rfl dn_M_leaf_20 ?_
  refine gr_iald hx hb hK hP 1 0 rfl rfl ((7 * r) + 3) rfl (by omega) (by decide) dn_M_leaf_21 ?_
  refine gc_s0 (v := (hf_mix (hf_mix (hf_mix (hf_mix 1 (f ((7 * r) + 0))) (f ((7 * r) + 1))) (f ((7 * r) + 2))) (f ((7 * r) + 3)))) (As := [.int (hf_mix (hf_mix (hf_mix 1 (f ((7 * r) + 0))) (f ((7 * r) + 1))) (f ((7 * r) + 2))), .int (f ((7 * r) + 3))]) (rest := []) ⟨hx, hb, hml, hown, hw⟩ (c_M_mix l dC dI cI cZ (hf_mix (hf_mix (hf_mix 1 (f ((7 * r) + 0))) (f ((7 * r) + 1))) (f ((7 * r) + 2))) (f ((7 * r) + 3))) (gw_cS 2 hw mw_551 mw_552 mw_6 mw_553 hd_M_mix ⟨Nat.le_of_ble_eq_true rfl, Nat.le_of_ble_eq_true rfl⟩) hK hP hD hS hA rfl hl.1 rfl (Nat.le_of_ble_eq_true rfl) dn_M_leaf_22 ⟨Nat.zero_le _, Nat.zero_le _⟩ (fun H locs hP hD hS => ?_)
  refine lv_istore_n (lv' := [(2, .int (hf_mix (hf_mix (hf_mix (hf_mix 1 (f ((7 * r) + 0))) (f ((7 * r) + 1))) (f ((7 * r) + 2))) (f ((7 * r) + 3)))), (3, .int 3), (0, .ref (bd 0)), (1, .int (nI r))]) hx hb dn_M_leaf_25 rfl hl (by decide) rfl (fun ls hl => ?_)
  refine lv_iinc (lv' := [(3, .int 4), (2, .int (hf_mix (hf_mix (hf_mix (hf_mix 1 (f ((7 * r) + 0))) (f ((7 * r) + 1))) (f ((7 * r) + 2))) (f ((7 * r) + 3)))), (0, .ref (bd 0)), (1, .int (nI r))]) (v := 4) (k := 1) hx hb dn_M_leaf_26 hl rfl (by decide) (by decide) rfl (fun ls hl => ?_)
  refine lv_goto (tgt := 4) hx hb dn_M_leaf_29 (by decide) ?_
  refine lv_iload_n hx hb dn_M_leaf_4 rfl (lv_at hl 0 rfl) ?_
  refine lv_bipush (v := 6) hx hb dn_M_leaf_5 (by decide) ?_
  refine lv_icmp_ge (tgt := 32) hx hb dn_M_leaf_7 (by decide) (fun h => absurd h (by decide)) (fun _ => ?_)
  refine lv_iload_n hx hb dn_M_leaf_10 rfl (lv_at hl 1 rfl) ?_
  refine lv_aload_n hx hb dn_M_leaf_11 rfl (lv_at hl 2 rfl) ?_
  refine va_get (D := (dC, dI)) (ci := 5) (v := .ref (bd 1)) (C := rn_M) (T := tn_M) (N := 19) hx hb hw ml_M hown hK hP 0 rfl rfl 0 (by decide) (hw _ mw_473) (fun _ h9 => h9) rfl dn_M_leaf_12 ?_
  refine lv_bipush (v := 7) hx hb dn_M_leaf_15 (by decide) ?_
  refine lv_iload_n hx hb dn_M_leaf_17 rfl (lv_at hl 3 rfl) ?_
  refine gr_mulN hx hb 7 r rfl rfl dn_M_leaf_18 ?_
  refine lv_iload_n hx hb dn_M_leaf_19 rfl (lv_at hl 0 rfl) ?_
  refine gr_addN hx hb (7 * r) 4 rfl rfl dn_M_leaf_20 ?_
  refine gr_iald hx hb hK hP 1 0 rfl rfl ((7 * r) + 4) rfl (by omega) (by decide) dn_M_leaf_21 ?_
  refine gc_s0 (v := (hf_mix (hf_mix (hf_mix (hf_mix (hf_mix 1 (f ((7 * r) + 0))) (f ((7 * r) + 1))) (f ((7 * r) + 2))) (f ((7 * r) + 3))) (f ((7 * r) + 4)))) (As := [.int (hf_mix (hf_mix (hf_mix (hf_mix 1 (f ((7 * r) + 0))) (f ((7 * r) + 1))) (f ((7 * r) + 2))) (f ((7 * r) + 3))), .int (f ((7 * r) + 4))]) (rest := []) ⟨hx, hb, hml, hown, hw⟩ (c_M_mix l dC dI cI cZ (hf_mix (hf_mix (hf_mix (hf_mix 1 (f ((7 * r) + 0))) (f ((7 * r) + 1))) (f ((7 * r) + 2))) (f ((7 * r) + 3))) (f ((7 * r) + 4))) (gw_cS 2 hw mw_551 mw_552 mw_6 mw_553 hd_M_mix ⟨Nat.le_of_ble_eq_true rfl, Nat.le_of_ble_eq_true rfl⟩) hK hP hD hS hA rfl hl.1 rfl (Nat.le_of_ble_eq_true rfl) dn_M_leaf_22 ⟨Nat.zero_le _, Nat.zero_le _⟩ (fun H locs hP hD hS => ?_)
  refine lv_istore_n (lv' := [(2, .int (hf_mix (hf_mix (hf_mix (hf_mix (hf_mix 1 (f ((7 * r) + 0))) (f ((7 * r) + 1))) (f ((7 * r) + 2))) (f ((7 * r) + 3))) (f ((7 * r) + 4)))), (3, .int 4), (0, .ref (bd 0)), (1, .int (nI r))]) hx hb dn_M_leaf_25 rfl hl (by decide) rfl (fun ls hl => ?_)
  refine lv_iinc (lv' := [(3, .int 5), (2, .int (hf_mix (hf_mix (hf_mix (hf_mix (hf_mix 1 (f ((7 * r) + 0))) (f ((7 * r) + 1))) (f ((7 * r) + 2))) (f ((7 * r) + 3))) (f ((7 * r) + 4)))), (0, .ref (bd 0)), (1, .int (nI r))]) (v := 5) (k := 1) hx hb dn_M_leaf_26 hl rfl (by decide) (by decide) rfl (fun ls hl => ?_)
  refine lv_goto (tgt := 4) hx hb dn_M_leaf_29 (by decide) ?_
  refine lv_iload_n hx hb dn_M_leaf_4 rfl (lv_at hl 0 rfl) ?_
  refine lv_bipush (v := 6) hx hb dn_M_leaf_5 (by decide) ?_
  refine lv_icmp_ge (tgt := 32) hx hb dn_M_leaf_7 (by decide) (fun h => absurd h (by decide)) (fun _ => ?_)
  refine lv_iload_n hx hb dn_M_leaf_10 rfl (lv_at hl 1 rfl) ?_
  refine lv_aload_n hx hb dn_M_leaf_11 rfl (lv_at hl 2 rfl) ?_
  refine va_get (D := (dC, dI)) (ci := 5) (v := .ref (bd 1)) (C := rn_M) (T := tn_M) (N := 19) hx hb hw ml_M hown hK hP 0 rfl rfl 0 (by decide) (hw _ mw_473) (fun _ h9 => h9) rfl dn_M_leaf_12 ?_
  refine lv_bipush (v := 7) hx hb dn_M_leaf_15 (by decide) ?_
  refine lv_iload_n hx hb dn_M_leaf_17 rfl (lv_at hl 3 rfl) ?_
  refine gr_mulN hx hb 7 r rfl rfl dn_M_leaf_18 ?_
  refine lv_iload_n hx hb dn_M_leaf_19 rfl (lv_at hl 0 rfl) ?_
  refine gr_addN hx hb (7 * r) 5 rfl rfl dn_M_leaf_20 ?_
  refine gr_iald hx hb hK hP 1 0 rfl rfl ((7 * r) + 5) rfl (by omega) (by decide) dn_M_leaf_21 ?_
  refine gc_s0 (v := (hf_mix (hf_mix (hf_mix (hf_mix (hf_mix (hf_mix 1 (f ((7 * r) + 0))) (f ((7 * r) + 1))) (f ((7 * r) + 2))) (f ((7 * r) + 3))) (f ((7 * r) + 4))) (f ((7 * r) + 5)))) (As := [.int (hf_mix (hf_mix (hf_mix (hf_mix (hf_mix 1 (f ((7 * r) + 0))) (f ((7 * r) + 1))) (f ((7 * r) + 2))) (f ((7 * r) + 3))) (f ((7 * r) + 4))), .int (f ((7 * r) + 5))]) (rest := []) ⟨hx, hb, hml, hown, hw⟩ (c_M_mix l dC dI cI cZ (hf_mix (hf_mix (hf_mix (hf_mix (hf_mix 1 (f ((7 * r) + 0))) (f ((7 * r) + 1))) (f ((7 * r) + 2))) (f ((7 * r) + 3))) (f ((7 * r) + 4))) (f ((7 * r) + 5))) (gw_cS 2 hw mw_551 mw_552 mw_6 mw_553 hd_M_mix ⟨Nat.le_of_ble_eq_true rfl, Nat.le_of_ble_eq_true rfl⟩) hK hP hD hS hA rfl hl.1 rfl (Nat.le_of_ble_eq_true rfl) dn_M_leaf_22 ⟨Nat.zero_le _, Nat.zero_le _⟩ (fun H locs hP hD hS => ?_)
  refine lv_istore_n (lv' := [(2, .int (hf_mix (hf_mix (hf_mix (hf_mix (hf_mix (hf_mix 1 (f ((7 * r) + 0))) (f ((7 * r) + 1))) (f ((7 * r) + 2))) (f ((7 * r) + 3))) (f ((7 * r) + 4))) (f ((7 * r) + 5)))), (3, .int 5), (0, .ref (bd 0)), (1, .int (nI r))]) hx hb dn_M_leaf_25 rfl hl (by decide) rfl (fun ls hl => ?_)
  refine lv_iinc (lv' := [(3, .int 6), (2, .int (hf_mix (hf_mix (hf_mix (hf_mix (hf_mix (hf_mix 1 (f ((7 * r) + 0))) (f ((7 * r) + 1))) (f ((7 * r) + 2))) (f ((7 * r) + 3))) (f ((7 * r) + 4))) (f ((7 * r) + 5)))), (0, .ref (bd 0)), (1, .int (nI r))]) (v := 6) (k := 1) hx hb dn_M_leaf_26 hl rfl (by decide) (by decide) rfl (fun ls hl => ?_)
  refine lv_goto (tgt := 4) hx hb dn_M_leaf_29 (by decide) ?_
  refine lv_iload_n hx hb dn_M_leaf_4 rfl (lv_at hl 0 rfl) ?_
  refine lv_bipush (v := 6) hx hb dn_M_leaf_5 (by decide) ?_
  refine lv_icmp_ge (tgt := 32) hx hb dn_M_leaf_7 (by decide) (fun _ => ?_) (fun h => absurd h (by decide))
  refine lv_iload_n hx hb dn_M_leaf_32 rfl (lv_at hl 1 rfl) ?_
  exact hret (hf_mix (hf_mix (hf_mix (hf_mix (hf_mix (hf_mix 1 (f ((7 * r) + 0))) (f ((7 * r) + 1))) (f ((7 * r) + 2))) (f ((7 * r) + 3))) (f ((7 * r) + 4))) (f ((7 * r) + 5))) () _ _ _ _ rfl rfl hP hD hS dn_M_leaf_33

set_option maxRecDepth 100000 in
set_option maxHeartbeats 4000000 in
theorem c_M_tree (l : Launch) (dC : Nat → ClassId) (dI : Nat → Nat → Nat) (cI cZ : ClassId) (bd : Nat → Nat) (clk : Nat) (pw lf : Int32) (f fd : Nat → Int32) (fc sn ob : Nat) (S D G : Nat → Int32) (st : Nat) (Y Z X : Nat → Int32) (ef ec fu : Nat) (g : Nat → Int32) (a cn : Nat) (hc1 : 1 ≤ cn) (hac : a + cn ≤ 40) : gc_I l yn_M_tree (gw yn_M_tree cn_M_tree 5 (some .int)) (rm_ 2 46) (dC, dI) vwCl (gT cI cZ) [.ref (bd 0), .int (nI a), .int (nI cn)] [(bd 0, .inr (5, [.ref (bd 1), .int (nI clk), .int pw, .int lf, .ref (bd 2), .int (nI fc), .int (nI sn), .int (nI ob), .ref (bd 3), .ref (bd 4), .ref (bd 5), .int (nI st), .ref (bd 6), .ref (bd 7), .ref (bd 8), .int (nI ef), .int (nI ec), .int (nI fu), .ref (bd 9)])), (bd 1, .inl (cI, 292, .inl f)), (bd 2, .inl (cI, 12, .inl fd)), (bd 3, .inl (cI, 13, .inl S)), (bd 4, .inl (cI, 13, .inl D)), (bd 5, .inl (cI, 13, .inl G)), (bd 6, .inl (cI, 8, .inl Y)), (bd 7, .inl (cI, 8, .inl Z)), (bd 8, .inl (cZ, 8, .inl X)), (bd 9, .inl (cI, 40, .inl g))] (fun x (_ : Unit) => x = tr_of f g a cn 0) (fun _ => [(bd 0, .inr (5, [.ref (bd 1), .int (nI clk), .int pw, .int lf, .ref (bd 2), .int (nI fc), .int (nI sn), .int (nI ob), .ref (bd 3), .ref (bd 4), .ref (bd 5), .int (nI st), .ref (bd 6), .ref (bd 7), .ref (bd 8), .int (nI ef), .int (nI ec), .int (nI fu), .ref (bd 9)])), (bd 1, .inl (cI, 292, .inl f)), (bd 2, .inl (cI, 12, .inl fd)), (bd 3, .inl (cI, 13, .inl S)), (bd 4, .inl (cI, 13, .inl D)), (bd 5, .inl (cI, 13, .inl G)), (bd 6, .inl (cI, 8, .inl Y)), (bd 7, .inl (cI, 8, .inl Z)), (bd 8, .inl (cZ, 8, .inl X)), (bd 9, .inl (cI, 40, .inl (tr_of f g a cn)))]) := by
  refine gc_I_of (cc := cn_M_tree) (maxL := 5) (ty := .int) (by decide) rfl (Nat.le_of_ble_eq_true rfl) ?_
  intro pp ee ss mm ar be me cd A Q ls H0 H locs hx hb hml hown hts hK hP hD hS hA hl hret
  have hw : ∀ w ∈ gw_T, w.before ar ss = true := fun w h => hts w (List.mem_cons_of_mem _ h)
  have hl : lv_has ls 5 [(0, .ref (bd 0)), (1, .int (nI a)), (2, .int (nI cn))] := hl
  refine lv_iconst (v := 0) hx hb dn_M_tree_0 (by decide) ?_
  refine lv_istore_n (lv' := [(3, .int 0), (0, .ref (bd 0)), (1, .int (nI a)), (2, .int (nI cn))]) hx hb dn_M_tree_1 rfl hl (by decide) rfl (fun ls hl => ?_)
  rw [← tr_lv_0 f g a] at hP hD
  have hP : va_P (dC, dI) vwCl [(bd 0, .inr (5, [.ref (bd 1), .int (nI clk), .int pw, .int lf, .ref (bd 2), .int (nI fc), .int (nI sn), .int (nI ob), .ref (bd 3), .ref (bd 4), .ref (bd 5), .int (nI st), .ref (bd 6), .ref (bd 7), .ref (bd 8), .int (nI ef), .int (nI ec), .int (nI fu), .ref (bd 9)])), (bd 1, .inl (cI, 292, .inl f)), (bd 2, .inl (cI, 12, .inl fd)), (bd 3, .inl (cI, 13, .inl S)), (bd 4, .inl (cI, 13, .inl D)), (bd 5, .inl (cI, 13, .inl G)), (bd 6, .inl (cI, 8, .inl Y)), (bd 7, .inl (cI, 8, .inl Z)), (bd 8, .inl (cZ, 8, .inl X)), (bd 9, .inl (cI, 40, .inl (tr_lv f a g 0)))] H := hP
  have hD : va_D A [(bd 0, .inr (5, [.ref (bd 1), .int (nI clk), .int pw, .int lf, .ref (bd 2), .int (nI fc), .int (nI sn), .int (nI ob), .ref (bd 3), .ref (bd 4), .ref (bd 5), .int (nI st), .ref (bd 6), .ref (bd 7), .ref (bd 8), .int (nI ef), .int (nI ec), .int (nI fu), .ref (bd 9)])), (bd 1, .inl (cI, 292, .inl f)), (bd 2, .inl (cI, 12, .inl fd)), (bd 3, .inl (cI, 13, .inl S)), (bd 4, .inl (cI, 13, .inl D)), (bd 5, .inl (cI, 13, .inl G)), (bd 6, .inl (cI, 8, .inl Y)), (bd 7, .inl (cI, 8, .inl Z)), (bd 8, .inl (cZ, 8, .inl X)), (bd 9, .inl (cI, 40, .inl (tr_lv f a g 0)))] := hD
  have lp2 : ∀ (n2_ : Nat) (j : Nat) (ls : Array Slot) (H : Heap) (locs : List Loc), cn - j = n2_ → lv_has ls 5 [(0, .ref (bd 0)), (1, .int (nI a)), (2, .int (nI cn)), (3, .int (nI j))] → va_P (dC, dI) vwCl [(bd 0, .inr (5, [.ref (bd 1), .int (nI clk), .int pw, .int lf, .ref (bd 2), .int (nI fc), .int (nI sn), .int (nI ob), .ref (bd 3), .ref (bd 4), .ref (bd 5), .int (nI st), .ref (bd 6), .ref (bd 7), .ref (bd 8), .int (nI ef), .int (nI ec), .int (nI fu), .ref (bd 9)])), (bd 1, .inl (cI, 292, .inl f)), (bd 2, .inl (cI, 12, .inl fd)), (bd 3, .inl (cI, 13, .inl S)), (bd 4, .inl (cI, 13, .inl D)), (bd 5, .inl (cI, 13, .inl G)), (bd 6, .inl (cI, 8, .inl Y)), (bd 7, .inl (cI, 8, .inl Z)), (bd 8, .inl (cZ, 8, .inl X)), (bd 9, .inl (cI, 40, .inl (tr_lv f a g j)))] H → va_D A [(bd 0, .inr (5, [.ref (bd 1), .int (nI clk), .int pw, .int lf, .ref (bd 2), .int (nI fc), .int (nI sn), .int (nI ob), .ref (bd 3), .ref (bd 4), .ref (bd 5), .int (nI st), .ref (bd 6), .ref (bd 7), .ref (bd 8), .int (nI ef), .int (nI ec), .int (nI fu), .ref (bd 9)])), (bd 1, .inl (cI, 292, .inl f)), (bd 2, .inl (cI, 12, .inl fd)), (bd 3, .inl (cI, 13, .inl S)), (bd 4, .inl (cI, 13, .inl D)), (bd 5, .inl (cI, 13, .inl G)), (bd 6, .inl (cI, 8, .inl Y)), (bd 7, .inl (cI, 8, .inl Z)), (bd 8, .inl (cZ, 8, .inl X)), (bd 9, .inl (cI, 40, .inl (tr_lv f a g j)))] → va_S A H0 H locs → (j ≤ cn) → W pp l ee (headSpec (gw yn_M_tree cn_M_tree 5 (some .int)) (rm_ 2 46)).room ss mm ar be me cd H locs 0 0 Q (F0 mm 2 ls []) := by
    intro n2_
    induction n2_ using Nat.strongRecOn with
    | ind n2_ ih2 =>
      intro j ls H locs hn2_ hl hP hD hS hj
      refine lv_iload_n hx hb dn_M_tree_2 rfl (lv_at hl 3 rfl) ?_
      refine lv_iload_n hx hb dn_M_tree_3 rfl (lv_at hl 2 rfl) ?_
      refine gr_cge (tgt := 26) hx hb j cn rfl rfl (by omega) (by omega) dn_M_tree_4 (by decide) (fun h4 => ?_) (fun h4 => ?_)
      · skip
        obtain rfl : cn = j := by omega
        refine lv_iload_n hx hb dn_M_tree_26 rfl (lv_at hl 2 rfl) ?_
        refine lv_istore_n (lv' := [(3, .int (nI cn)), (0, .ref (bd 0)), (1, .int (nI a)), (2, .int (nI cn))]) hx hb dn_M_tree_27 rfl hl (by decide) rfl (fun ls hl => ?_)
        have lp28 : ∀ (n28_ : Nat) (w : Nat) (k : Nat) (h : Nat → Int32) (ls : Array Slot) (H : Heap) (locs : List Loc), w = n28_ → lv_has ls 5 [(0, .ref (bd 0)), (1, .int (nI a)), (2, .int (nI cn)), (3, .int (nI w))] → va_P (dC, dI) vwCl [(bd 0, .inr (5, [.ref (bd 1), .int (nI clk), .int pw, .int lf, .ref (bd 2), .int (nI fc), .int (nI sn), .int (nI ob), .ref (bd 3), .ref (bd 4), .ref (bd 5), .int (nI st), .ref (bd 6), .ref (bd 7), .ref (bd 8), .int (nI ef), .int (nI ec), .int (nI fu), .ref (bd 9)])), (bd 1, .inl (cI, 292, .inl f)), (bd 2, .inl (cI, 12, .inl fd)), (bd 3, .inl (cI, 13, .inl S)), (bd 4, .inl (cI, 13, .inl D)), (bd 5, .inl (cI, 13, .inl G)), (bd 6, .inl (cI, 8, .inl Y)), (bd 7, .inl (cI, 8, .inl Z)), (bd 8, .inl (cZ, 8, .inl X)), (bd 9, .inl (cI, 40, .inl h))] H → va_D A [(bd 0, .inr (5, [.ref (bd 1), .int (nI clk), .int pw, .int lf, .ref (bd 2), .int (nI fc), .int (nI sn), .int (nI ob), .ref (bd 3), .ref (bd 4), .ref (bd 5), .int (nI st), .ref (bd 6), .ref (bd 7), .ref (bd 8), .int (nI ef), .int (nI ec), .int (nI fu), .ref (bd 9)])), (bd 1, .inl (cI, 292, .inl f)), (bd 2, .inl (cI, 12, .inl fd)), (bd 3, .inl (cI, 13, .inl S)), (bd 4, .inl (cI, 13, .inl D)), (bd 5, .inl (cI, 13, .inl G)), (bd 6, .inl (cI, 8, .inl Y)), (bd 7, .inl (cI, 8, .inl Z)), (bd 8, .inl (cZ, 8, .inl X)), (bd 9, .inl (cI, 40, .inl h))] → va_S A H0 H locs → (1 ≤ w) → (w ≤ 40) → (w ≤ 2 ^ k) → (tr_go k w h = tr_of f g a cn) → W pp l ee (headSpec (gw yn_M_tree cn_M_tree 5 (some .int)) (rm_ 2 46)).room ss mm ar be me cd H locs 0 0 Q (F0 mm 28 ls []) := by
          intro n28_
          induction n28_ using Nat.strongRecOn with
          | ind n28_ ih28 =>
            intro w k h ls H locs hn28_ hl hP hD hS hw1 hw40 hk hi
            refine lv_iload_n hx hb dn_M_tree_28 rfl (lv_at hl 3 rfl) ?_
            refine lv_iconst (v := 1) hx hb dn_M_tree_29 (by decide) ?_
            refine gr_cle (tgt := 110) hx hb w 1 rfl rfl (by omega) (by decide) dn_M_tree_30 (by decide) (fun h30 => ?_) (fun h30 => ?_)
            · skip
              obtain rfl : tr_of f g a cn = h := by rw [← hi, tr_go_1 _ _ h30]
              refine lv_aload_n hx hb dn_M_tree_110 rfl (lv_at hl 0 rfl) ?_
              refine va_get (D := (dC, dI)) (ci := 5) (v := .ref (bd 9)) (C := rn_M) (T := tn_M) (N := 19) hx hb hw ml_M hown hK hP 0 rfl rfl 18 (by decide) (hw _ mw_491) (fun _ h9 => h9) rfl dn_M_tree_111 ?_
              refine lv_iconst (v := 0) hx hb dn_M_tree_114 (by decide) ?_
              refine gr_iald hx hb hK hP 9 0 rfl rfl 0 rfl (by omega) (by decide) dn_M_tree_115 ?_
              exact hret ((tr_of f g a cn) 0) () _ _ _ _ rfl rfl hP hD hS dn_M_tree_116
            · skip
              rcases k with _ | k
              · exact absurd hk (by rw [Nat.pow_zero]; omega)
              refine lv_iconst (v := 0) hx hb dn_M_tree_33 (by decide) ?_
              refine lv_istore (lv' := [(4, .int 0), (0, .ref (bd 0)), (1, .int (nI a)), (2, .int (nI cn)), (3, .int (nI w))]) hx hb dn_M_tree_34 hl (by decide) rfl (fun ls hl => ?_)
              rw [← tr_jp_0 h] at hP hD
              have hP : va_P (dC, dI) vwCl [(bd 0, .inr (5, [.ref (bd 1), .int (nI clk), .int pw, .int lf, .ref (bd 2), .int (nI fc), .int (nI sn), .int (nI ob), .ref (bd 3), .ref (bd 4), .ref (bd 5), .int (nI st), .ref (bd 6), .ref (bd 7), .ref (bd 8), .int (nI ef), .int (nI ec), .int (nI fu), .ref (bd 9)])), (bd 1, .inl (cI, 292, .inl f)), (bd 2, .inl (cI, 12, .inl fd)), (bd 3, .inl (cI, 13, .inl S)), (bd 4, .inl (cI, 13, .inl D)), (bd 5, .inl (cI, 13, .inl G)), (bd 6, .inl (cI, 8, .inl Y)), (bd 7, .inl (cI, 8, .inl Z)), (bd 8, .inl (cZ, 8, .inl X)), (bd 9, .inl (cI, 40, .inl (tr_jp h 0)))] H := hP
              have hD : va_D A [(bd 0, .inr (5, [.ref (bd 1), .int (nI clk), .int pw, .int lf, .ref (bd 2), .int (nI fc), .int (nI sn), .int (nI ob), .ref (bd 3), .ref (bd 4), .ref (bd 5), .int (nI st), .ref (bd 6), .ref (bd 7), .ref (bd 8), .int (nI ef), .int (nI ec), .int (nI fu), .ref (bd 9)])), (bd 1, .inl (cI, 292, .inl f)), (bd 2, .inl (cI, 12, .inl fd)), (bd 3, .inl (cI, 13, .inl S)), (bd 4, .inl (cI, 13, .inl D)), (bd 5, .inl (cI, 13, .inl G)), (bd 6, .inl (cI, 8, .inl Y)), (bd 7, .inl (cI, 8, .inl Z)), (bd 8, .inl (cZ, 8, .inl X)), (bd 9, .inl (cI, 40, .inl (tr_jp h 0)))] := hD
              have lp36 : ∀ (n36_ : Nat) (j : Nat) (ls : Array Slot) (H : Heap) (locs : List Loc), w / 2 - j = n36_ → lv_has ls 5 [(0, .ref (bd 0)), (1, .int (nI a)), (2, .int (nI cn)), (3, .int (nI w)), (4, .int (nI (2 * j)))] → va_P (dC, dI) vwCl [(bd 0, .inr (5, [.ref (bd 1), .int (nI clk), .int pw, .int lf, .ref (bd 2), .int (nI fc), .int (nI sn), .int (nI ob), .ref (bd 3), .ref (bd 4), .ref (bd 5), .int (nI st), .ref (bd 6), .ref (bd 7), .ref (bd 8), .int (nI ef), .int (nI ec), .int (nI fu), .ref (bd 9)])), (bd 1, .inl (cI, 292, .inl f)), (bd 2, .inl (cI, 12, .inl fd)), (bd 3, .inl (cI, 13, .inl S)), (bd 4, .inl (cI, 13, .inl D)), (bd 5, .inl (cI, 13, .inl G)), (bd 6, .inl (cI, 8, .inl Y)), (bd 7, .inl (cI, 8, .inl Z)), (bd 8, .inl (cZ, 8, .inl X)), (bd 9, .inl (cI, 40, .inl (tr_jp h j)))] H → va_D A [(bd 0, .inr (5, [.ref (bd 1), .int (nI clk), .int pw, .int lf, .ref (bd 2), .int (nI fc), .int (nI sn), .int (nI ob), .ref (bd 3), .ref (bd 4), .ref (bd 5), .int (nI st), .ref (bd 6), .ref (bd 7), .ref (bd 8), .int (nI ef), .int (nI ec), .int (nI fu), .ref (bd 9)])), (bd 1, .inl (cI, 292, .inl f)), (bd 2, .inl (cI, 12, .inl fd)), (bd 3, .inl (cI, 13, .inl S)), (bd 4, .inl (cI, 13, .inl D)), (bd 5, .inl (cI, 13, .inl G)), (bd 6, .inl (cI, 8, .inl Y)), (bd 7, .inl (cI, 8, .inl Z)), (bd 8, .inl (cZ, 8, .inl X)), (bd 9, .inl (cI, 40, .inl (tr_jp h j)))] → va_S A H0 H locs → (j ≤ w / 2) → W pp l ee (headSpec (gw yn_M_tree cn_M_tree 5 (some .int)) (rm_ 2 46)).room ss mm ar be me cd H locs 0 0 Q (F0 mm 36 ls []) := by
                intro n36_
                induction n36_ using Nat.strongRecOn with
                | ind n36_ ih36 =>
                  intro j ls H locs hn36_ hl hP hD hS hj
                  refine lv_iload hx hb dn_M_tree_36 (lv_at hl 4 rfl) ?_
                  refine lv_iconst (v := 1) hx hb dn_M_tree_38 (by decide) ?_
                  refine gr_addN hx hb (2 * j) 1 rfl rfl dn_M_tree_39 ?_
                  refine lv_iload_n hx hb dn_M_tree_40 rfl (lv_at hl 3 rfl) ?_
                  refine gr_cge (tgt := 78) hx hb ((2 * j) + 1) w rfl rfl (by omega) (by omega) dn_M_tree_41 (by decide) (fun h41 => ?_) (fun h41 => ?_)
                  · skip
                    obtain rfl : w / 2 = j := by omega
                    refine lv_iload_n hx hb dn_M_tree_78 rfl (lv_at hl 3 rfl) ?_
                    refine lv_iconst (v := 2) hx hb dn_M_tree_79 (by decide) ?_
                    refine gr_remN hx hb w 2 rfl rfl (by omega) (by decide) (by decide) dn_M_tree_80 ?_
                    refine lv_iconst (v := 1) hx hb dn_M_tree_81 (by decide) ?_
                    refine gr_cne (tgt := 101) hx hb (w % 2) 1 rfl rfl (by omega) (by decide) dn_M_tree_82 (by decide) (fun h82 => ?_) (fun h82 => ?_)
                    · skip
                      rw [show tr_jp h (w / 2) = tr_jn w h from (by unfold tr_jn; rw [if_neg h82])] at hP hD
                      have hP : va_P (dC, dI) vwCl [(bd 0, .inr (5, [.ref (bd 1), .int (nI clk), .int pw, .int lf, .ref (bd 2), .int (nI fc), .int (nI sn), .int (nI ob), .ref (bd 3), .ref (bd 4), .ref (bd 5), .int (nI st), .ref (bd 6), .ref (bd 7), .ref (bd 8), .int (nI ef), .int (nI ec), .int (nI fu), .ref (bd 9)])), (bd 1, .inl (cI, 292, .inl f)), (bd 2, .inl (cI, 12, .inl fd)), (bd 3, .inl (cI, 13, .inl S)), (bd 4, .inl (cI, 13, .inl D)), (bd 5, .inl (cI, 13, .inl G)), (bd 6, .inl (cI, 8, .inl Y)), (bd 7, .inl (cI, 8, .inl Z)), (bd 8, .inl (cZ, 8, .inl X)), (bd 9, .inl (cI, 40, .inl (tr_jn w h)))] H := hP
                      have hD : va_D A [(bd 0, .inr (5, [.ref (bd 1), .int (nI clk), .int pw, .int lf, .ref (bd 2), .int (nI fc), .int (nI sn), .int (nI ob), .ref (bd 3), .ref (bd 4), .ref (bd 5), .int (nI st), .ref (bd 6), .ref (bd 7), .ref (bd 8), .int (nI ef), .int (nI ec), .int (nI fu), .ref (bd 9)])), (bd 1, .inl (cI, 292, .inl f)), (bd 2, .inl (cI, 12, .inl fd)), (bd 3, .inl (cI, 13, .inl S)), (bd 4, .inl (cI, 13, .inl D)), (bd 5, .inl (cI, 13, .inl G)), (bd 6, .inl (cI, 8, .inl Y)), (bd 7, .inl (cI, 8, .inl Z)), (bd 8, .inl (cZ, 8, .inl X)), (bd 9, .inl (cI, 40, .inl (tr_jn w h)))] := hD
                      refine lv_iload_n hx hb dn_M_tree_101 rfl (lv_at hl 3 rfl) ?_
                      refine lv_iconst (v := 1) hx hb dn_M_tree_102 (by decide) ?_
                      refine gr_addN hx hb w 1 rfl rfl dn_M_tree_103 ?_
                      refine lv_iconst (v := 2) hx hb dn_M_tree_104 (by decide) ?_
                      refine gr_divN hx hb (w + 1) 2 rfl rfl (by omega) (by decide) (by decide) dn_M_tree_105 ?_
                      refine lv_istore_n (lv' := [(3, .int (nI ((w + 1) / 2))), (0, .ref (bd 0)), (1, .int (nI a)), (2, .int (nI cn)), (4, .int (nI (2 * (w / 2))))]) hx hb dn_M_tree_106 rfl hl (by decide) rfl (fun ls hl => ?_)
                      refine lv_goto (tgt := 28) hx hb dn_M_tree_107 (by decide) ?_
                      exact ih28 ((w + 1) / 2) (by omega) ((w + 1) / 2) k (tr_jn w h) ls H locs rfl (lv_sub hl [1, 2, 3, 0] rfl) hP hD hS (by omega) (by omega) (by rw [Nat.pow_succ] at hk; omega) (by rw [← hi, tr_go, if_neg (by omega)])
                    · skip
                      refine lv_aload_n hx hb dn_M_tree_85 rfl (lv_at hl 0 rfl) ?_
                      refine va_get (D := (dC, dI)) (ci := 5) (v := .ref (bd 9)) (C := rn_M) (T := tn_M) (N := 19) hx hb hw ml_M hown hK hP 0 rfl rfl 18 (by decide) (hw _ mw_491) (fun _ h9 => h9) rfl dn_M_tree_86 ?_
                      refine lv_iload_n hx hb dn_M_tree_89 rfl (lv_at hl 3 rfl) ?_
                      refine lv_iconst (v := 2) hx hb dn_M_tree_90 (by decide) ?_
                      refine gr_divN hx hb w 2 rfl rfl (by omega) (by decide) (by decide) dn_M_tree_91 ?_
                      refine lv_aload_n hx hb dn_M_tree_92 rfl (lv_at hl 0 rfl) ?_
                      refine va_get (D := (dC, dI)) (ci := 5) (v := .ref (bd 9)) (C := rn_M) (T := tn_M) (N := 19) hx hb hw ml_M hown hK hP 0 rfl rfl 18 (by decide) (hw _ mw_491) (fun _ h9 => h9) rfl dn_M_tree_93 ?_
                      refine lv_iload_n hx hb dn_M_tree_96 rfl (lv_at hl 3 rfl) ?_
                      refine lv_iconst (v := 1) hx hb dn_M_tree_97 (by decide) ?_
                      refine gr_subN hx hb w 1 rfl rfl (by omega) dn_M_tree_98 ?_
                      refine gr_iald hx hb hK hP 9 0 rfl rfl (w - 1) rfl (by omega) (by decide) dn_M_tree_99 ?_
                      refine gr_top (y := (h (w - 1))) (tr_jp_w h (by omega)) ?_
                      refine gr_iast hx hb hK hP hD hS 9 0 rfl rfl (w / 2) rfl (by omega) (by decide) dn_M_tree_100 (fun H locs hP hD hS => ?_)
                      have hP : va_P (dC, dI) vwCl [(bd 0, .inr (5, [.ref (bd 1), .int (nI clk), .int pw, .int lf, .ref (bd 2), .int (nI fc), .int (nI sn), .int (nI ob), .ref (bd 3), .ref (bd 4), .ref (bd 5), .int (nI st), .ref (bd 6), .ref (bd 7), .ref (bd 8), .int (nI ef), .int (nI ec), .int (nI fu), .ref (bd 9)])), (bd 1, .inl (cI, 292, .inl f)), (bd 2, .inl (cI, 12, .inl fd)), (bd 3, .inl (cI, 13, .inl S)), (bd 4, .inl (cI, 13, .inl D)), (bd 5, .inl (cI, 13, .inl G)), (bd 6, .inl (cI, 8, .inl Y)), (bd 7, .inl (cI, 8, .inl Z)), (bd 8, .inl (cZ, 8, .inl X)), (bd 9, .inl (cI, 40, .inl (upd (tr_jp h (w / 2)) (w / 2) (h (w - 1)))))] H := hP
                      have hD : va_D A [(bd 0, .inr (5, [.ref (bd 1), .int (nI clk), .int pw, .int lf, .ref (bd 2), .int (nI fc), .int (nI sn), .int (nI ob), .ref (bd 3), .ref (bd 4), .ref (bd 5), .int (nI st), .ref (bd 6), .ref (bd 7), .ref (bd 8), .int (nI ef), .int (nI ec), .int (nI fu), .ref (bd 9)])), (bd 1, .inl (cI, 292, .inl f)), (bd 2, .inl (cI, 12, .inl fd)), (bd 3, .inl (cI, 13, .inl S)), (bd 4, .inl (cI, 13, .inl D)), (bd 5, .inl (cI, 13, .inl G)), (bd 6, .inl (cI, 8, .inl Y)), (bd 7, .inl (cI, 8, .inl Z)), (bd 8, .inl (cZ, 8, .inl X)), (bd 9, .inl (cI, 40, .inl (upd (tr_jp h (w / 2)) (w / 2) (h (w - 1)))))] := hD
                      rw [show upd (tr_jp h (w / 2)) (w / 2) (h (w - 1)) = tr_jn w h from (by unfold tr_jn; rw [if_pos h82])] at hP hD
                      have hP : va_P (dC, dI) vwCl [(bd 0, .inr (5, [.ref (bd 1), .int (nI clk), .int pw, .int lf, .ref (bd 2), .int (nI fc), .int (nI sn), .int (nI ob), .ref (bd 3), .ref (bd 4), .ref (bd 5), .int (nI st), .ref (bd 6), .ref (bd 7), .ref (bd 8), .int (nI ef), .int (nI ec), .int (nI fu), .ref (bd 9)])), (bd 1, .inl (cI, 292, .inl f)), (bd 2, .inl (cI, 12, .inl fd)), (bd 3, .inl (cI, 13, .inl S)), (bd 4, .inl (cI, 13, .inl D)), (bd 5, .inl (cI, 13, .inl G)), (bd 6, .inl (cI, 8, .inl Y)), (bd 7, .inl (cI, 8, .inl Z)), (bd 8, .inl (cZ, 8, .inl X)), (bd 9, .inl (cI, 40, .inl (tr_jn w h)))] H := hP
                      have hD : va_D A [(bd 0, .inr (5, [.ref (bd 1), .int (nI clk), .int pw, .int lf, .ref (bd 2), .int (nI fc), .int (nI sn), .int (nI ob), .ref (bd 3), .ref (bd 4), .ref (bd 5), .int (nI st), .ref (bd 6), .ref (bd 7), .ref (bd 8), .int (nI ef), .int (nI ec), .int (nI fu), .ref (bd 9)])), (bd 1, .inl (cI, 292, .inl f)), (bd 2, .inl (cI, 12, .inl fd)), (bd 3, .inl (cI, 13, .inl S)), (bd 4, .inl (cI, 13, .inl D)), (bd 5, .inl (cI, 13, .inl G)), (bd 6, .inl (cI, 8, .inl Y)), (bd 7, .inl (cI, 8, .inl Z)), (bd 8, .inl (cZ, 8, .inl X)), (bd 9, .inl (cI, 40, .inl (tr_jn w h)))] := hD
                      refine lv_iload_n hx hb dn_M_tree_101 rfl (lv_at hl 3 rfl) ?_
                      refine lv_iconst (v := 1) hx hb dn_M_tree_102 (by decide) ?_
                      refine gr_addN hx hb w 1 rfl rfl dn_M_tree_103 ?_
                      refine lv_iconst (v := 2) hx hb dn_M_tree_104 (by decide) ?_
                      refine gr_divN hx hb (w + 1) 2 rfl rfl (by omega) (by decide) (by decide) dn_M_tree_105 ?_
                      refine lv_istore_n (lv' := [(3, .int (nI ((w + 1) / 2))), (0, .ref (bd 0)), (1, .int (nI a)), (2, .int (nI cn)), (4, .int (nI (2 * (w / 2))))]) hx hb dn_M_tree_106 rfl hl (by decide) rfl (fun ls hl => ?_)
                      refine lv_goto (tgt := 28) hx hb dn_M_tree_107 (by decide) ?_
                      exact ih28 ((w + 1) / 2) (by omega) ((w + 1) / 2) k (tr_jn w h) ls H locs rfl (lv_sub hl [1, 2, 3, 0] rfl) hP hD hS (by omega) (by omega) (by rw [Nat.pow_succ] at hk; omega) (by rw [← hi, tr_go, if_neg (by omega)])
                  · skip
                    refine lv_aload_n hx hb dn_M_tree_44 rfl (lv_at hl 0 rfl) ?_
                    refine va_get (D := (dC, dI)) (ci := 5) (v := .ref (bd 9)) (C := rn_M) (T := tn_M) (N := 19) hx hb hw ml_M hown hK hP 0 rfl rfl 18 (by decide) (hw _ mw_491) (fun _ h9 => h9) rfl dn_M_tree_45 ?_
                    refine lv_iload hx hb dn_M_tree_48 (lv_at hl 4 rfl) ?_
                    refine lv_iconst (v := 2) hx hb dn_M_tree_50 (by decide) ?_
                    refine gr_divN hx hb (2 * j) 2 rfl rfl (by omega) (by decide) (by decide) dn_M_tree_51 ?_
                    refine gr_top (y := (nI j)) (congrArg nI (by omega)) ?_
                    refine lv_aload_n hx hb dn_M_tree_52 rfl (lv_at hl 0 rfl) ?_
                    refine va_get (D := (dC, dI)) (ci := 5) (v := .ref (bd 9)) (C := rn_M) (T := tn_M) (N := 19) hx hb hw ml_M hown hK hP 0 rfl rfl 18 (by decide) (hw _ mw_491) (fun _ h9 => h9) rfl dn_M_tree_53 ?_
                    refine lv_iload hx hb dn_M_tree_56 (lv_at hl 4 rfl) ?_
                    refine gr_iald hx hb hK hP 9 0 rfl rfl (2 * j) rfl (by omega) (by decide) dn_M_tree_58 ?_
                    refine gr_top (y := (h (2 * j))) (tr_jp_a h j) ?_
                    refine lv_aload_n hx hb dn_M_tree_59 rfl (lv_at hl 0 rfl) ?_
                    refine va_get (D := (dC, dI)) (ci := 5) (v := .ref (bd 9)) (C := rn_M) (T := tn_M) (N := 19) hx hb hw ml_M hown hK hP 0 rfl rfl 18 (by decide) (hw _ mw_491) (fun _ h9 => h9) rfl dn_M_tree_60 ?_
                    refine lv_iload hx hb dn_M_tree_63 (lv_at hl 4 rfl) ?_
                    refine lv_iconst (v := 1) hx hb dn_M_tree_65 (by decide) ?_
                    refine gr_addN hx hb (2 * j) 1 rfl rfl dn_M_tree_66 ?_
                    refine gr_iald hx hb hK hP 9 0 rfl rfl ((2 * j) + 1) rfl (by omega) (by decide) dn_M_tree_67 ?_
                    refine gr_top (y := (h (2 * j + 1))) (tr_jp_b h j) ?_
                    refine gc_s0 (v := (hf_node (h (2 * j)) (h (2 * j + 1)))) (As := [.int (h (2 * j)), .int (h (2 * j + 1))]) (rest := [.int (nI j), .ref (bd 9)]) ⟨hx, hb, hml, hown, hw⟩ (c_M_node l dC dI cI cZ (h (2 * j)) (h (2 * j + 1))) (gw_cS 2 hw mw_617 mw_618 mw_6 mw_619 hd_M_node ⟨Nat.le_of_ble_eq_true rfl, Nat.le_of_ble_eq_true rfl⟩) hK hP hD hS hA rfl hl.1 rfl (Nat.le_of_ble_eq_true rfl) dn_M_tree_68 ⟨Nat.zero_le _, Nat.zero_le _⟩ (fun H locs hP hD hS => ?_)
                    refine gr_iast hx hb hK hP hD hS 9 0 rfl rfl j rfl (by omega) (by decide) dn_M_tree_71 (fun H locs hP hD hS => ?_)
                    have hP : va_P (dC, dI) vwCl [(bd 0, .inr (5, [.ref (bd 1), .int (nI clk), .int pw, .int lf, .ref (bd 2), .int (nI fc), .int (nI sn), .int (nI ob), .ref (bd 3), .ref (bd 4), .ref (bd 5), .int (nI st), .ref (bd 6), .ref (bd 7), .ref (bd 8), .int (nI ef), .int (nI ec), .int (nI fu), .ref (bd 9)])), (bd 1, .inl (cI, 292, .inl f)), (bd 2, .inl (cI, 12, .inl fd)), (bd 3, .inl (cI, 13, .inl S)), (bd 4, .inl (cI, 13, .inl D)), (bd 5, .inl (cI, 13, .inl G)), (bd 6, .inl (cI, 8, .inl Y)), (bd 7, .inl (cI, 8, .inl Z)), (bd 8, .inl (cZ, 8, .inl X)), (bd 9, .inl (cI, 40, .inl (upd (tr_jp h j) j (hf_node (h (2 * j)) (h (2 * j + 1))))))] H := hP
                    have hD : va_D A [(bd 0, .inr (5, [.ref (bd 1), .int (nI clk), .int pw, .int lf, .ref (bd 2), .int (nI fc), .int (nI sn), .int (nI ob), .ref (bd 3), .ref (bd 4), .ref (bd 5), .int (nI st), .ref (bd 6), .ref (bd 7), .ref (bd 8), .int (nI ef), .int (nI ec), .int (nI fu), .ref (bd 9)])), (bd 1, .inl (cI, 292, .inl f)), (bd 2, .inl (cI, 12, .inl fd)), (bd 3, .inl (cI, 13, .inl S)), (bd 4, .inl (cI, 13, .inl D)), (bd 5, .inl (cI, 13, .inl G)), (bd 6, .inl (cI, 8, .inl Y)), (bd 7, .inl (cI, 8, .inl Z)), (bd 8, .inl (cZ, 8, .inl X)), (bd 9, .inl (cI, 40, .inl (upd (tr_jp h j) j (hf_node (h (2 * j)) (h (2 * j + 1))))))] := hD
                    rw [show upd (tr_jp h j) j (hf_node (h (2 * j)) (h (2 * j + 1))) = tr_jp h (j + 1) from (tr_jp_s h j)] at hP hD
                    have hP : va_P (dC, dI) vwCl [(bd 0, .inr (5, [.ref (bd 1), .int (nI clk), .int pw, .int lf, .ref (bd 2), .int (nI fc), .int (nI sn), .int (nI ob), .ref (bd 3), .ref (bd 4), .ref (bd 5), .int (nI st), .ref (bd 6), .ref (bd 7), .ref (bd 8), .int (nI ef), .int (nI ec), .int (nI fu), .ref (bd 9)])), (bd 1, .inl (cI, 292, .inl f)), (bd 2, .inl (cI, 12, .inl fd)), (bd 3, .inl (cI, 13, .inl S)), (bd 4, .inl (cI, 13, .inl D)), (bd 5, .inl (cI, 13, .inl G)), (bd 6, .inl (cI, 8, .inl Y)), (bd 7, .inl (cI, 8, .inl Z)), (bd 8, .inl (cZ, 8, .inl X)), (bd 9, .inl (cI, 40, .inl (tr_jp h (j + 1))))] H := hP
                    have hD : va_D A [(bd 0, .inr (5, [.ref (bd 1), .int (nI clk), .int pw, .int lf, .ref (bd 2), .int (nI fc), .int (nI sn), .int (nI ob), .ref (bd 3), .ref (bd 4), .ref (bd 5), .int (nI st), .ref (bd 6), .ref (bd 7), .ref (bd 8), .int (nI ef), .int (nI ec), .int (nI fu), .ref (bd 9)])), (bd 1, .inl (cI, 292, .inl f)), (bd 2, .inl (cI, 12, .inl fd)), (bd 3, .inl (cI, 13, .inl S)), (bd 4, .inl (cI, 13, .inl D)), (bd 5, .inl (cI, 13, .inl G)), (bd 6, .inl (cI, 8, .inl Y)), (bd 7, .inl (cI, 8, .inl Z)), (bd 8, .inl (cZ, 8, .inl X)), (bd 9, .inl (cI, 40, .inl (tr_jp h (j + 1))))] := hD
                    refine lv_iinc (lv' := [(4, .int (nI ((2 * j) + 2))), (0, .ref (bd 0)), (1, .int (nI a)), (2, .int (nI cn)), (3, .int (nI w))]) (v := (nI ((2 * j) + 2))) (k := 4) hx hb dn_M_tree_72 hl rfl (nI_add (2 * j) 2) (by decide) rfl (fun ls hl => ?_)
                    refine lv_goto (tgt := 36) hx hb dn_M_tree_75 (by decide) ?_
                    exact ih36 (w / 2 - (j + 1)) (by omega) (j + 1) ls H locs rfl (lv_sub hl [1, 2, 3, 4, 0] rfl) hP hD hS (by omega)
              exact lp36 _ 0 ls H locs rfl (lv_sub hl [1, 2, 3, 4, 0] rfl) hP hD hS (Nat.zero_le _)
        exact lp28 _ cn 6 (tr_lv f a g cn) ls H locs rfl (lv_sub hl [1, 2, 3, 0] rfl) hP hD hS (by omega) (by omega) (Nat.le_trans (show cn ≤ 40 by omega) (by decide)) rfl
      · skip
        refine lv_aload_n hx hb dn_M_tree_7 rfl (lv_at hl 0 rfl) ?_
        refine va_get (D := (dC, dI)) (ci := 5) (v := .ref (bd 9)) (C := rn_M) (T := tn_M) (N := 19) hx hb hw ml_M hown hK hP 0 rfl rfl 18 (by decide) (hw _ mw_491) (fun _ h9 => h9) rfl dn_M_tree_8 ?_
        refine lv_iload_n hx hb dn_M_tree_11 rfl (lv_at hl 3 rfl) ?_
        refine lv_aload_n hx hb dn_M_tree_12 rfl (lv_at hl 0 rfl) ?_
        refine lv_iload_n hx hb dn_M_tree_13 rfl (lv_at hl 1 rfl) ?_
        refine lv_iload_n hx hb dn_M_tree_14 rfl (lv_at hl 3 rfl) ?_
        refine gr_addN hx hb a j rfl rfl dn_M_tree_15 ?_
        refine gc_vi (pre := []) (wc := [(bd 0, .inr (5, [.ref (bd 1), .int (nI clk), .int pw, .int lf, .ref (bd 2), .int (nI fc), .int (nI sn), .int (nI ob), .ref (bd 3), .ref (bd 4), .ref (bd 5), .int (nI st), .ref (bd 6), .ref (bd 7), .ref (bd 8), .int (nI ef), .int (nI ec), .int (nI fu), .ref (bd 9)])), (bd 1, .inl (cI, 292, .inl f)), (bd 2, .inl (cI, 12, .inl fd)), (bd 3, .inl (cI, 13, .inl S)), (bd 4, .inl (cI, 13, .inl D)), (bd 5, .inl (cI, 13, .inl G)), (bd 6, .inl (cI, 8, .inl Y)), (bd 7, .inl (cI, 8, .inl Z)), (bd 8, .inl (cZ, 8, .inl X)), (bd 9, .inl (cI, 40, .inl (tr_lv f a g j)))]) (po := []) (As := [.int (nI (a + j))]) (rest := [.int (nI j), .ref (bd 9)]) ⟨hx, hb, hml, hown, hw⟩ (c_M_leaf l dC dI cI cZ bd clk pw lf f fd fc sn ob S D G st Y Z X ef ec fu (tr_lv f a g j) (a + j) (by omega)) (gw_cV 1 hw mw_547 mw_549 mv_24 mw_6 mw_550 hd_M_leaf ⟨Nat.le_of_ble_eq_true rfl, Nat.le_of_ble_eq_true rfl⟩) (ci := 5) rfl rfl rfl hK hP hD hS hA rfl hl.1 rfl (Nat.le_of_ble_eq_true rfl) dn_M_tree_16 ⟨Nat.zero_le _, Nat.zero_le _⟩ (fun r16 u16 H locs hc16 hP hD hS => ?_)
        subst hc16
        have hP : va_P (dC, dI) vwCl [(bd 0, .inr (5, [.ref (bd 1), .int (nI clk), .int pw, .int lf, .ref (bd 2), .int (nI fc), .int (nI sn), .int (nI ob), .ref (bd 3), .ref (bd 4), .ref (bd 5), .int (nI st), .ref (bd 6), .ref (bd 7), .ref (bd 8), .int (nI ef), .int (nI ec), .int (nI fu), .ref (bd 9)])), (bd 1, .inl (cI, 292, .inl f)), (bd 2, .inl (cI, 12, .inl fd)), (bd 3, .inl (cI, 13, .inl S)), (bd 4, .inl (cI, 13, .inl D)), (bd 5, .inl (cI, 13, .inl G)), (bd 6, .inl (cI, 8, .inl Y)), (bd 7, .inl (cI, 8, .inl Z)), (bd 8, .inl (cZ, 8, .inl X)), (bd 9, .inl (cI, 40, .inl (tr_lv f a g j)))] H := hP
        have hD : va_D A [(bd 0, .inr (5, [.ref (bd 1), .int (nI clk), .int pw, .int lf, .ref (bd 2), .int (nI fc), .int (nI sn), .int (nI ob), .ref (bd 3), .ref (bd 4), .ref (bd 5), .int (nI st), .ref (bd 6), .ref (bd 7), .ref (bd 8), .int (nI ef), .int (nI ec), .int (nI fu), .ref (bd 9)])), (bd 1, .inl (cI, 292, .inl f)), (bd 2, .inl (cI, 12, .inl fd)), (bd 3, .inl (cI, 13, .inl S)), (bd 4, .inl (cI, 13, .inl D)), (bd 5, .inl (cI, 13, .inl G)), (bd 6, .inl (cI, 8, .inl Y)), (bd 7, .inl (cI, 8, .inl Z)), (bd 8, .inl (cZ, 8, .inl X)), (bd 9, .inl (cI, 40, .inl (tr_lv f a g j)))] := hD
        refine gr_iast hx hb hK hP hD hS 9 0 rfl rfl j rfl (by omega) (by decide) dn_M_tree_19 (fun H locs hP hD hS => ?_)
        have hP : va_P (dC, dI) vwCl [(bd 0, .inr (5, [.ref (bd 1), .int (nI clk), .int pw, .int lf, .ref (bd 2), .int (nI fc), .int (nI sn), .int (nI ob), .ref (bd 3), .ref (bd 4), .ref (bd 5), .int (nI st), .ref (bd 6), .ref (bd 7), .ref (bd 8), .int (nI ef), .int (nI ec), .int (nI fu), .ref (bd 9)])), (bd 1, .inl (cI, 292, .inl f)), (bd 2, .inl (cI, 12, .inl fd)), (bd 3, .inl (cI, 13, .inl S)), (bd 4, .inl (cI, 13, .inl D)), (bd 5, .inl (cI, 13, .inl G)), (bd 6, .inl (cI, 8, .inl Y)), (bd 7, .inl (cI, 8, .inl Z)), (bd 8, .inl (cZ, 8, .inl X)), (bd 9, .inl (cI, 40, .inl (upd (tr_lv f a g j) j (hf_leaf f (7 * (a + j))))))] H := hP
        have hD : va_D A [(bd 0, .inr (5, [.ref (bd 1), .int (nI clk), .int pw, .int lf, .ref (bd 2), .int (nI fc), .int (nI sn), .int (nI ob), .ref (bd 3), .ref (bd 4), .ref (bd 5), .int (nI st), .ref (bd 6), .ref (bd 7), .ref (bd 8), .int (nI ef), .int (nI ec), .int (nI fu), .ref (bd 9)])), (bd 1, .inl (cI, 292, .inl f)), (bd 2, .inl (cI, 12, .inl fd)), (bd 3, .inl (cI, 13, .inl S)), (bd 4, .inl (cI, 13, .inl D)), (bd 5, .inl (cI, 13, .inl G)), (bd 6, .inl (cI, 8, .inl Y)), (bd 7, .inl (cI, 8, .inl Z)), (bd 8, .inl (cZ, 8, .inl X)), (bd 9, .inl (cI, 40, .inl (upd (tr_lv f a g j) j (hf_leaf f (7 * (a + j))))))] := hD
        rw [show upd (tr_lv f a g j) j (hf_leaf f (7 * (a + j))) = tr_lv f a g (j + 1) from (tr_lv_s f g a j)] at hP hD
        have hP : va_P (dC, dI) vwCl [(bd 0, .inr (5, [.ref (bd 1), .int (nI clk), .int pw, .int lf, .ref (bd 2), .int (nI fc), .int (nI sn), .int (nI ob), .ref (bd 3), .ref (bd 4), .ref (bd 5), .int (nI st), .ref (bd 6), .ref (bd 7), .ref (bd 8), .int (nI ef), .int (nI ec), .int (nI fu), .ref (bd 9)])), (bd 1, .inl (cI, 292, .inl f)), (bd 2, .inl (cI, 12, .inl fd)), (bd 3, .inl (cI, 13, .inl S)), (bd 4, .inl (cI, 13, .inl D)), (bd 5, .inl (cI, 13, .inl G)), (bd 6, .inl (cI, 8, .inl Y)), (bd 7, .inl (cI, 8, .inl Z)), (bd 8, .inl (cZ, 8, .inl X)), (bd 9, .inl (cI, 40, .inl (tr_lv f a g (j + 1))))] H := hP
        have hD : va_D A [(bd 0, .inr (5, [.ref (bd 1), .int (nI clk), .int pw, .int lf, .ref (bd 2), .int (nI fc), .int (nI sn), .int (nI ob), .ref (bd 3), .ref (bd 4), .ref (bd 5), .int (nI st), .ref (bd 6), .ref (bd 7), .ref (bd 8), .int (nI ef), .int (nI ec), .int (nI fu), .ref (bd 9)])), (bd 1, .inl (cI, 292, .inl f)), (bd 2, .inl (cI, 12, .inl fd)), (bd 3, .inl (cI, 13, .inl S)), (bd 4, .inl (cI, 13, .inl D)), (bd 5, .inl (cI, 13, .inl G)), (bd 6, .inl (cI, 8, .inl Y)), (bd 7, .inl (cI, 8, .inl Z)), (bd 8, .inl (cZ, 8, .inl X)), (bd 9, .inl (cI, 40, .inl (tr_lv f a g (j + 1))))] := hD
        refine lv_iinc (lv' := [(3, .int (nI (j + 1))), (0, .ref (bd 0)), (1, .int (nI a)), (2, .int (nI cn))]) (v := (nI (j + 1))) (k := 3) hx hb dn_M_tree_20 hl rfl (nI_add j 1) (by decide) rfl (fun ls hl => ?_)
        refine lv_goto (tgt := 2) hx hb dn_M_tree_23 (by decide) ?_
        exact ih2 (cn - (j + 1)) (by omega) (j + 1) ls H locs rfl (lv_sub hl [1, 2, 3, 0] rfl) hP hD hS (by omega)
  exact lp2 _ 0 ls H locs rfl (lv_sub hl [1, 2, 3, 0] rfl) hP hD hS (Nat.zero_le _)

set_option maxRecDepth 100000 in
set_option maxHeartbeats 4000000 in
theorem c_M_half (l : Launch) (dC : Nat → ClassId) (dI : Nat → Nat → Nat) (cI cZ : ClassId) (c : Nat) (hc2 : 2 ≤ c) (hc : c ≤ 40) : gc_I l yn_M_half (gw yn_M_half cn_M_half 2 (some .int)) (rm_ 0 0) (dC, dI) vwCl (gT cI cZ) [.int (nI c)] [] (fun r (_ : Unit) => r = nI (ds_hb c)) (fun _ => []) := by
  refine gc_I_of (cc := cn_M_half) (maxL := 2) (ty := .int) (by decide) rfl (Nat.le_of_ble_eq_true rfl) ?_
  intro pp ee ss mm ar be me cd A Q ls H0 H locs hx hb hml hown hts hK hP hD hS hA hl hret
  have hw : ∀ w ∈ gw_T, w.before ar ss = true := fun w h => hts w (List.mem_cons_of_mem _ h)
  have hl : lv_has ls 2 [(0, .int (nI c))] := hl
  refine lv_iconst (v := 1) hx hb dn_M_half_0 (by decide) ?_
  refine lv_istore_n (lv' := [(1, .int 1), (0, .int (nI c))]) hx hb dn_M_half_1 rfl hl (by decide) rfl (fun ls hl => ?_)
  refine lv_iconst (v := 2) hx hb dn_M_half_2 (by decide) ?_
  refine lv_iload_n hx hb dn_M_half_3 rfl (lv_at hl 0 rfl) ?_
  refine gr_mulN hx hb 2 1 rfl rfl dn_M_half_4 ?_
  refine lv_iload_n hx hb dn_M_half_5 rfl (lv_at hl 1 rfl) ?_
  refine gr_cge (tgt := 16) hx hb 2 c rfl rfl (by decide) (by omega) dn_M_half_6 (by decide) (fun h6 => ?_) (fun h6 => ?_)
  · skip
    refine lv_iload_n hx hb dn_M_half_16 rfl (lv_at hl 0 rfl) ?_
    exact hret 1 () _ _ _ _ (congrArg nI (by unfold ds_hb; (repeat' split) <;> omega)) rfl hP hD hS dn_M_half_17
  · skip
    refine lv_iconst (v := 2) hx hb dn_M_half_9 (by decide) ?_
    refine lv_iload_n hx hb dn_M_half_10 rfl (lv_at hl 0 rfl) ?_
    refine gr_mulN hx hb 2 1 rfl rfl dn_M_half_11 ?_
    refine lv_istore_n (lv' := [(1, .int 2), (0, .int (nI c))]) hx hb dn_M_half_12 rfl hl (by decide) rfl (fun ls hl => ?_)
    refine lv_goto (tgt := 2) hx hb dn_M_half_13 (by decide) ?_
    refine lv_iconst (v := 2) hx hb dn_M_half_2 (by decide) ?_
    refine lv_iload_n hx hb dn_M_half_3 rfl (lv_at hl 0 rfl) ?_
    refine gr_mulN hx hb 2 2 rfl rfl dn_M_half_4 ?_
    refine lv_iload_n hx hb dn_M_half_5 rfl (lv_at hl 1 rfl) ?_
    refine gr_cge (tgt := 16) hx hb 4 c rfl rfl (by decide) (by omega) dn_M_half_6 (by decide) (fun h6 => ?_) (fun h6 => ?_)
    · skip
      refine lv_iload_n hx hb dn_M_half_16 rfl (lv_at hl 0 rfl) ?_
      exact hret 2 () _ _ _ _ (congrArg nI (by unfold ds_hb; (repeat' split) <;> omega)) rfl hP hD hS dn_M_half_17
    · skip
      refine lv_iconst (v := 2) hx hb dn_M_half_9 (by decide) ?_
      refine lv_iload_n hx hb dn_M_half_10 rfl (lv_at hl 0 rfl) ?_
      refine gr_mulN hx hb 2 2 rfl rfl dn_M_half_11 ?_
      refine lv_istore_n (lv' := [(1, .int 4), (0, .int (nI c))]) hx hb dn_M_half_12 rfl hl (by decide) rfl (fun ls hl => ?_)
      refine lv_goto (tgt := 2) hx hb dn_M_half_13 (by decide) ?_
      refine lv_iconst (v := 2) hx hb dn_M_half_2 (by decide) ?_
      refine lv_iload_n hx hb dn_M_half_3 rfl (lv_at hl 0 rfl) ?_
      refine gr_mulN hx hb 2 4 rfl rfl dn_M_half_4 ?_
      refine lv_iload_n hx hb dn_M_half_5 rfl (lv_at hl 1 rfl) ?_
      refine gr_cge (tgt := 16) hx hb 8 c rfl rfl (by decide) (by omega) dn_M_half_6 (by decide) (fun h6 => ?_) (fun h6 => ?_)
      · skip
        refine lv_iload_n hx hb dn_M_half_16 rfl (lv_at hl 0 rfl) ?_
        exact hret 4 () _ _ _ _ (congrArg nI (by unfold ds_hb; (repeat' split) <;> omega)) rfl hP hD hS dn_M_half_17
      · skip
        refine lv_iconst (v := 2) hx hb dn_M_half_9 (by decide) ?_
        refine lv_iload_n hx hb dn_M_half_10 rfl (lv_at hl 0 rfl) ?_
        refine gr_mulN hx hb 2 4 rfl rfl dn_M_half_11 ?_
        refine lv_istore_n (lv' := [(1, .int 8), (0, .int (nI c))]) hx hb dn_M_half_12 rfl hl (by decide) rfl (fun ls hl => ?_)
        refine lv_goto (tgt := 2) hx hb dn_M_half_13 (by decide) ?_
        refine lv_iconst (v := 2) hx hb dn_M_half_2 (by decide) ?_
        refine lv_iload_n hx hb dn_M_half_3 rfl (lv_at hl 0 rfl) ?_
        refine gr_mulN hx hb 2 8 rfl rfl dn_M_half_4 ?_
        refine lv_iload_n hx hb dn_M_half_5 rfl (lv_at hl 1 rfl) ?_
        refine gr_cge (tgt := 16) hx hb 16 c rfl rfl (by decide) (by omega) dn_M_half_6 (by decide) (fun h6 => ?_) (fun h6 => ?_)
        · skip
          refine lv_iload_n hx hb dn_M_half_16 rfl (lv_at hl 0 rfl) ?_
          exact hret 8 () _ _ _ _ (congrArg nI (by unfold ds_hb; (repeat' split) <;> omega)) rfl hP hD hS dn_M_half_17
        · skip
          refine lv_iconst (v := 2) hx hb dn_M_half_9 (by decide) ?_
          refine lv_iload_n hx hb dn_M_half_10 rfl (lv_at hl 0 rfl) ?_
          refine gr_mulN hx hb 2 8 rfl rfl dn_M_half_11 ?_
          refine lv_istore_n (lv' := [(1, .int 16), (0, .int (nI c))]) hx hb dn_M_half_12 rfl hl (by decide) rfl (fun ls hl => ?_)
          refine lv_goto (tgt := 2) hx hb dn_M_half_13 (by decide) ?_
          refine lv_iconst (v := 2) hx hb dn_M_half_2 (by decide) ?_
          refine lv_iload_n hx hb dn_M_half_3 rfl (lv_at hl 0 rfl) ?_
          refine gr_mulN hx hb 2 16 rfl rfl dn_M_half_4 ?_
          refine lv_iload_n hx hb dn_M_half_5 rfl (lv_at hl 1 rfl) ?_
          refine gr_cge (tgt := 16) hx hb 32 c rfl rfl (by decide) (by omega) dn_M_half_6 (by decide) (fun h6 => ?_) (fun h6 => ?_)
          · skip
            refine lv_iload_n hx hb dn_M_half_16 rfl (lv_at hl 0 rfl) ?_
            exact hret 16 () _ _ _ _ (congrArg nI (by unfold ds_hb; (repeat' split) <;> omega)) rfl hP hD hS dn_M_half_17
          · skip
            refine lv_iconst (v := 2) hx hb dn_M_half_9 (by decide) ?_
            refine lv_iload_n hx hb dn_M_half_10 rfl (lv_at hl 0 rfl) ?_
            refine gr_mulN hx hb 2 16 rfl rfl dn_M_half_11 ?_
            refine lv_istore_n (lv' := [(1, .int 32), (0, .int (nI c))]) hx hb dn_M_half_12 rfl hl (by decide) rfl (fun ls hl => ?_)
            refine lv_goto (tgt := 2) hx hb dn_M_half_13 (by decide) ?_
            refine lv_iconst (v := 2) hx hb dn_M_half_2 (by decide) ?_
            refine lv_iload_n hx hb dn_M_half_3 rfl (lv_at hl 0 rfl) ?_
            refine gr_mulN hx hb 2 32 rfl rfl dn_M_half_4 ?_
            refine lv_iload_n hx hb dn_M_half_5 rfl (lv_at hl 1 rfl) ?_
            refine gr_cge (tgt := 16) hx hb 64 c rfl rfl (by decide) (by omega) dn_M_half_6 (by decide) (fun h6 => ?_) (fun h6 => absurd h6 (by omega))
            refine lv_iload_n hx hb dn_M_half_16 rfl (lv_at hl 0 rfl) ?_
            exact hret 32 () _ _ _ _ (congrArg nI (by unfold ds_hb; (repeat' split) <;> omega)) rfl hP hD hS dn_M_half_17

set_option maxRecDepth 100000 in
set_option maxHeartbeats 4000000 in
theorem c_M_step0 (l : Launch) (dC : Nat → ClassId) (dI : Nat → Nat → Nat) (cI cZ : ClassId) (bd : Nat → Nat) (clk : Nat) (pw lf : Int32) (f fd : Nat → Int32) (fc sn ob : Nat) (S D G : Nat → Int32) (st : Nat) (Y Z X : Nat → Int32) (ef ec fu : Nat) (g : Nat → Int32) (a cn : Nat) (hst : st < 8) : gc_V l yn_M_step (gw yn_M_step cn_M_step 4 none) (rm_ 0 0) (dC, dI) vwCl (gT cI cZ) [.ref (bd 0), .int (nI a), .int (nI cn), .int 0] [(bd 0, .inr (5, [.ref (bd 1), .int (nI clk), .int pw, .int lf, .ref (bd 2), .int (nI fc), .int (nI sn), .int (nI ob), .ref (bd 3), .ref (bd 4), .ref (bd 5), .int (nI st), .ref (bd 6), .ref (bd 7), .ref (bd 8), .int (nI ef), .int (nI ec), .int (nI fu), .ref (bd 9)])), (bd 1, .inl (cI, 292, .inl f)), (bd 2, .inl (cI, 12, .inl fd)), (bd 3, .inl (cI, 13, .inl S)), (bd 4, .inl (cI, 13, .inl D)), (bd 5, .inl (cI, 13, .inl G)), (bd 6, .inl (cI, 8, .inl Y)), (bd 7, .inl (cI, 8, .inl Z)), (bd 8, .inl (cZ, 8, .inl X)), (bd 9, .inl (cI, 40, .inl g))] (fun (_ : Unit) => True) (fun _ => [(bd 0, .inr (5, [.ref (bd 1), .int (nI clk), .int pw, .int lf, .ref (bd 2), .int (nI fc), .int (nI sn), .int (nI ob), .ref (bd 3), .ref (bd 4), .ref (bd 5), .int (nI (st + 1)), .ref (bd 6), .ref (bd 7), .ref (bd 8), .int (nI ef), .int (nI ec), .int (nI fu), .ref (bd 9)])), (bd 1, .inl (cI, 292, .inl f)), (bd 2, .inl (cI, 12, .inl fd)), (bd 3, .inl (cI, 13, .inl S)), (bd 4, .inl (cI, 13, .inl D)), (bd 5, .inl (cI, 13, .inl G)), (bd 6, .inl (cI, 8, .inl (upd Y st (nI a)))), (bd 7, .inl (cI, 8, .inl (upd Z st (nI cn)))), (bd 8, .inl (cZ, 8, .inl (upd X st 0))), (bd 9, .inl (cI, 40, .inl g))]) := by
  refine gc_V_of (cc := cn_M_step) (maxL := 4) (by decide) rfl (Nat.le_of_ble_eq_true rfl) ?_
  intro pp ee ss mm ar be me cd A Q ls H0 H locs hx hb hml hown hts hK hP hD hS hA hl hret
  have hw : ∀ w ∈ gw_T, w.before ar ss = true := fun w h => hts w (List.mem_cons_of_mem _ h)
  have hl : lv_has ls 4 [(0, .ref (bd 0)), (1, .int (nI a)), (2, .int (nI cn)), (3, .int 0)] := hl
  refine lv_aload_n hx hb dn_M_step_0 rfl (lv_at hl 0 rfl) ?_
  refine va_get (D := (dC, dI)) (ci := 5) (v := .ref (bd 6)) (C := rn_M) (T := tn_M) (N := 19) hx hb hw ml_M hown hK hP 0 rfl rfl 12 (by decide) (hw _ mw_485) (fun _ h9 => h9) rfl dn_M_step_1 ?_
  refine lv_aload_n hx hb dn_M_step_4 rfl (lv_at hl 0 rfl) ?_
  refine va_get (D := (dC, dI)) (ci := 5) (v := .int (nI st)) (C := rn_M) (T := tn_M) (N := 19) hx hb hw ml_M hown hK hP 0 rfl rfl 11 (by decide) (hw _ mw_484) (fun _ h9 => h9) rfl dn_M_step_5 ?_
  refine lv_iload_n hx hb dn_M_step_8 rfl (lv_at hl 1 rfl) ?_
  refine gr_iast hx hb hK hP hD hS 6 0 rfl rfl st rfl (by omega) (by decide) dn_M_step_9 (fun H locs hP hD hS => ?_)
  have hP : va_P (dC, dI) vwCl [(bd 0, .inr (5, [.ref (bd 1), .int (nI clk), .int pw, .int lf, .ref (bd 2), .int (nI fc), .int (nI sn), .int (nI ob), .ref (bd 3), .ref (bd 4), .ref (bd 5), .int (nI st), .ref (bd 6), .ref (bd 7), .ref (bd 8), .int (nI ef), .int (nI ec), .int (nI fu), .ref (bd 9)])), (bd 1, .inl (cI, 292, .inl f)), (bd 2, .inl (cI, 12, .inl fd)), (bd 3, .inl (cI, 13, .inl S)), (bd 4, .inl (cI, 13, .inl D)), (bd 5, .inl (cI, 13, .inl G)), (bd 6, .inl (cI, 8, .inl (upd Y st (nI a)))), (bd 7, .inl (cI, 8, .inl Z)), (bd 8, .inl (cZ, 8, .inl X)), (bd 9, .inl (cI, 40, .inl g))] H := hP
  have hD : va_D A [(bd 0, .inr (5, [.ref (bd 1), .int (nI clk), .int pw, .int lf, .ref (bd 2), .int (nI fc), .int (nI sn), .int (nI ob), .ref (bd 3), .ref (bd 4), .ref (bd 5), .int (nI st), .ref (bd 6), .ref (bd 7), .ref (bd 8), .int (nI ef), .int (nI ec), .int (nI fu), .ref (bd 9)])), (bd 1, .inl (cI, 292, .inl f)), (bd 2, .inl (cI, 12, .inl fd)), (bd 3, .inl (cI, 13, .inl S)), (bd 4, .inl (cI, 13, .inl D)), (bd 5, .inl (cI, 13, .inl G)), (bd 6, .inl (cI, 8, .inl (upd Y st (nI a)))), (bd 7, .inl (cI, 8, .inl Z)), (bd 8, .inl (cZ, 8, .inl X)), (bd 9, .inl (cI, 40, .inl g))] := hD
  refine lv_aload_n hx hb dn_M_step_10 rfl (lv_at hl 0 rfl) ?_
  refine va_get (D := (dC, dI)) (ci := 5) (v := .ref (bd 7)) (C := rn_M) (T := tn_M) (N := 19) hx hb hw ml_M hown hK hP 0 rfl rfl 13 (by decide) (hw _ mw_486) (fun _ h9 => h9) rfl dn_M_step_11 ?_
  refine lv_aload_n hx hb dn_M_step_14 rfl (lv_at hl 0 rfl) ?_
  refine va_get (D := (dC, dI)) (ci := 5) (v := .int (nI st)) (C := rn_M) (T := tn_M) (N := 19) hx hb hw ml_M hown hK hP 0 rfl rfl 11 (by decide) (hw _ mw_484) (fun _ h9 => h9) rfl dn_M_step_15 ?_
  refine lv_iload_n hx hb dn_M_step_18 rfl (lv_at hl 2 rfl) ?_
  refine gr_iast hx hb hK hP hD hS 7 0 rfl rfl st rfl (by omega) (by decide) dn_M_step_19 (fun H locs hP hD hS => ?_)
  have hP : va_P (dC, dI) vwCl [(bd 0, .inr (5, [.ref (bd 1), .int (nI clk), .int pw, .int lf, .ref (bd 2), .int (nI fc), .int (nI sn), .int (nI ob), .ref (bd 3), .ref (bd 4), .ref (bd 5), .int (nI st), .ref (bd 6), .ref (bd 7), .ref (bd 8), .int (nI ef), .int (nI ec), .int (nI fu), .ref (bd 9)])), (bd 1, .inl (cI, 292, .inl f)), (bd 2, .inl (cI, 12, .inl fd)), (bd 3, .inl (cI, 13, .inl S)), (bd 4, .inl (cI, 13, .inl D)), (bd 5, .inl (cI, 13, .inl G)), (bd 6, .inl (cI, 8, .inl (upd Y st (nI a)))), (bd 7, .inl (cI, 8, .inl (upd Z st (nI cn)))), (bd 8, .inl (cZ, 8, .inl X)), (bd 9, .inl (cI, 40, .inl g))] H := hP
  have hD : va_D A [(bd 0, .inr (5, [.ref (bd 1), .int (nI clk), .int pw, .int lf, .ref (bd 2), .int (nI fc), .int (nI sn), .int (nI ob), .ref (bd 3), .ref (bd 4), .ref (bd 5), .int (nI st), .ref (bd 6), .ref (bd 7), .ref (bd 8), .int (nI ef), .int (nI ec), .int (nI fu), .ref (bd 9)])), (bd 1, .inl (cI, 292, .inl f)), (bd 2, .inl (cI, 12, .inl fd)), (bd 3, .inl (cI, 13, .inl S)), (bd 4, .inl (cI, 13, .inl D)), (bd 5, .inl (cI, 13, .inl G)), (bd 6, .inl (cI, 8, .inl (upd Y st (nI a)))), (bd 7, .inl (cI, 8, .inl (upd Z st (nI cn)))), (bd 8, .inl (cZ, 8, .inl X)), (bd 9, .inl (cI, 40, .inl g))] := hD
  refine lv_aload_n hx hb dn_M_step_20 rfl (lv_at hl 0 rfl) ?_
  refine va_get (D := (dC, dI)) (ci := 5) (v := .ref (bd 8)) (C := rn_M) (T := tn_M) (N := 19) hx hb hw ml_M hown hK hP 0 rfl rfl 14 (by decide) (hw _ mw_487) (fun _ h9 => h9) rfl dn_M_step_21 ?_
  refine lv_aload_n hx hb dn_M_step_24 rfl (lv_at hl 0 rfl) ?_
  refine va_get (D := (dC, dI)) (ci := 5) (v := .int (nI st)) (C := rn_M) (T := tn_M) (N := 19) hx hb hw ml_M hown hK hP 0 rfl rfl 11 (by decide) (hw _ mw_484) (fun _ h9 => h9) rfl dn_M_step_25 ?_
  refine lv_iload_n hx hb dn_M_step_28 rfl (lv_at hl 3 rfl) ?_
  refine gr_zast hx hb hK hP hD hS 8 1 rfl rfl st rfl (by omega) (by decide) rfl dn_M_step_29 (fun H locs hP hD hS => ?_)
  have hP : va_P (dC, dI) vwCl [(bd 0, .inr (5, [.ref (bd 1), .int (nI clk), .int pw, .int lf, .ref (bd 2), .int (nI fc), .int (nI sn), .int (nI ob), .ref (bd 3), .ref (bd 4), .ref (bd 5), .int (nI st), .ref (bd 6), .ref (bd 7), .ref (bd 8), .int (nI ef), .int (nI ec), .int (nI fu), .ref (bd 9)])), (bd 1, .inl (cI, 292, .inl f)), (bd 2, .inl (cI, 12, .inl fd)), (bd 3, .inl (cI, 13, .inl S)), (bd 4, .inl (cI, 13, .inl D)), (bd 5, .inl (cI, 13, .inl G)), (bd 6, .inl (cI, 8, .inl (upd Y st (nI a)))), (bd 7, .inl (cI, 8, .inl (upd Z st (nI cn)))), (bd 8, .inl (cZ, 8, .inl (upd X st 0))), (bd 9, .inl (cI, 40, .inl g))] H := hP
  have hD : va_D A [(bd 0, .inr (5, [.ref (bd 1), .int (nI clk), .int pw, .int lf, .ref (bd 2), .int (nI fc), .int (nI sn), .int (nI ob), .ref (bd 3), .ref (bd 4), .ref (bd 5), .int (nI st), .ref (bd 6), .ref (bd 7), .ref (bd 8), .int (nI ef), .int (nI ec), .int (nI fu), .ref (bd 9)])), (bd 1, .inl (cI, 292, .inl f)), (bd 2, .inl (cI, 12, .inl fd)), (bd 3, .inl (cI, 13, .inl S)), (bd 4, .inl (cI, 13, .inl D)), (bd 5, .inl (cI, 13, .inl G)), (bd 6, .inl (cI, 8, .inl (upd Y st (nI a)))), (bd 7, .inl (cI, 8, .inl (upd Z st (nI cn)))), (bd 8, .inl (cZ, 8, .inl (upd X st 0))), (bd 9, .inl (cI, 40, .inl g))] := hD
  refine lv_aload_n hx hb dn_M_step_30 rfl (lv_at hl 0 rfl) ?_
  refine lv_aload_n hx hb dn_M_step_31 rfl (lv_at hl 0 rfl) ?_
  refine va_get (D := (dC, dI)) (ci := 5) (v := .int (nI st)) (C := rn_M) (T := tn_M) (N := 19) hx hb hw ml_M hown hK hP 0 rfl rfl 11 (by decide) (hw _ mw_484) (fun _ h9 => h9) rfl dn_M_step_32 ?_
  refine lv_iconst (v := 1) hx hb dn_M_step_35 (by decide) ?_
  refine gr_addN hx hb st 1 rfl rfl dn_M_step_36 ?_
  refine va_put (D := (dC, dI)) (ci := 5) (v := .int (nI (st + 1))) (ty := .int) (C := rn_M) (T := tn_M) (N := 19) hx hb hw ml_M tt_M to_M nd_M hown hK hP hD hS 0 rfl rfl 11 (by decide) (hw _ mw_484) (fun _ h9 => h9) rfl (by decide +kernel) rfl rfl (Nat.le_of_ble_eq_true rfl) dn_M_step_37 (fun H locs hP hD hS => ?_)
  have hP : va_P (dC, dI) vwCl [(bd 0, .inr (5, [.ref (bd 1), .int (nI clk), .int pw, .int lf, .ref (bd 2), .int (nI fc), .int (nI sn), .int (nI ob), .ref (bd 3), .ref (bd 4), .ref (bd 5), .int (nI (st + 1)), .ref (bd 6), .ref (bd 7), .ref (bd 8), .int (nI ef), .int (nI ec), .int (nI fu), .ref (bd 9)])), (bd 1, .inl (cI, 292, .inl f)), (bd 2, .inl (cI, 12, .inl fd)), (bd 3, .inl (cI, 13, .inl S)), (bd 4, .inl (cI, 13, .inl D)), (bd 5, .inl (cI, 13, .inl G)), (bd 6, .inl (cI, 8, .inl (upd Y st (nI a)))), (bd 7, .inl (cI, 8, .inl (upd Z st (nI cn)))), (bd 8, .inl (cZ, 8, .inl (upd X st 0))), (bd 9, .inl (cI, 40, .inl g))] H := hP
  have hD : va_D A [(bd 0, .inr (5, [.ref (bd 1), .int (nI clk), .int pw, .int lf, .ref (bd 2), .int (nI fc), .int (nI sn), .int (nI ob), .ref (bd 3), .ref (bd 4), .ref (bd 5), .int (nI (st + 1)), .ref (bd 6), .ref (bd 7), .ref (bd 8), .int (nI ef), .int (nI ec), .int (nI fu), .ref (bd 9)])), (bd 1, .inl (cI, 292, .inl f)), (bd 2, .inl (cI, 12, .inl fd)), (bd 3, .inl (cI, 13, .inl S)), (bd 4, .inl (cI, 13, .inl D)), (bd 5, .inl (cI, 13, .inl G)), (bd 6, .inl (cI, 8, .inl (upd Y st (nI a)))), (bd 7, .inl (cI, 8, .inl (upd Z st (nI cn)))), (bd 8, .inl (cZ, 8, .inl (upd X st 0))), (bd 9, .inl (cI, 40, .inl g))] := hD
  exact hret () _ _ _ _ trivial hP hD hS dn_M_step_40

set_option maxRecDepth 100000 in
set_option maxHeartbeats 4000000 in
theorem c_M_step1 (l : Launch) (dC : Nat → ClassId) (dI : Nat → Nat → Nat) (cI cZ : ClassId) (bd : Nat → Nat) (clk : Nat) (pw lf : Int32) (f fd : Nat → Int32) (fc sn ob : Nat) (S D G : Nat → Int32) (st : Nat) (Y Z X : Nat → Int32) (ef ec fu : Nat) (g : Nat → Int32) (a cn : Nat) (hst : st < 8) : gc_V l yn_M_step (gw yn_M_step cn_M_step 4 none) (rm_ 0 0) (dC, dI) vwCl (gT cI cZ) [.ref (bd 0), .int (nI a), .int (nI cn), .int 1] [(bd 0, .inr (5, [.ref (bd 1), .int (nI clk), .int pw, .int lf, .ref (bd 2), .int (nI fc), .int (nI sn), .int (nI ob), .ref (bd 3), .ref (bd 4), .ref (bd 5), .int (nI st), .ref (bd 6), .ref (bd 7), .ref (bd 8), .int (nI ef), .int (nI ec), .int (nI fu), .ref (bd 9)])), (bd 1, .inl (cI, 292, .inl f)), (bd 2, .inl (cI, 12, .inl fd)), (bd 3, .inl (cI, 13, .inl S)), (bd 4, .inl (cI, 13, .inl D)), (bd 5, .inl (cI, 13, .inl G)), (bd 6, .inl (cI, 8, .inl Y)), (bd 7, .inl (cI, 8, .inl Z)), (bd 8, .inl (cZ, 8, .inl X)), (bd 9, .inl (cI, 40, .inl g))] (fun (_ : Unit) => True) (fun _ => [(bd 0, .inr (5, [.ref (bd 1), .int (nI clk), .int pw, .int lf, .ref (bd 2), .int (nI fc), .int (nI sn), .int (nI ob), .ref (bd 3), .ref (bd 4), .ref (bd 5), .int (nI (st + 1)), .ref (bd 6), .ref (bd 7), .ref (bd 8), .int (nI ef), .int (nI ec), .int (nI fu), .ref (bd 9)])), (bd 1, .inl (cI, 292, .inl f)), (bd 2, .inl (cI, 12, .inl fd)), (bd 3, .inl (cI, 13, .inl S)), (bd 4, .inl (cI, 13, .inl D)), (bd 5, .inl (cI, 13, .inl G)), (bd 6, .inl (cI, 8, .inl (upd Y st (nI a)))), (bd 7, .inl (cI, 8, .inl (upd Z st (nI cn)))), (bd 8, .inl (cZ, 8, .inl (upd X st 1))), (bd 9, .inl (cI, 40, .inl g))]) := by
  refine gc_V_of (cc := cn_M_step) (maxL := 4) (by decide) rfl (Nat.le_of_ble_eq_true rfl) ?_
  intro pp ee ss mm ar be me cd A Q ls H0 H locs hx hb hml hown hts hK hP hD hS hA hl hret
  have hw : ∀ w ∈ gw_T, w.before ar ss = true := fun w h => hts w (List.mem_cons_of_mem _ h)
  have hl : lv_has ls 4 [(0, .ref (bd 0)), (1, .int (nI a)), (2, .int (nI cn)), (3, .int 1)] := hl
  refine lv_aload_n hx hb dn_M_step_0 rfl (lv_at hl 0 rfl) ?_
  refine va_get (D := (dC, dI)) (ci := 5) (v := .ref (bd 6)) (C := rn_M) (T := tn_M) (N := 19) hx hb hw ml_M hown hK hP 0 rfl rfl 12 (by decide) (hw _ mw_485) (fun _ h9 => h9) rfl dn_M_step_1 ?_
  refine lv_aload_n hx hb dn_M_step_4 rfl (lv_at hl 0 rfl) ?_
  refine va_get (D := (dC, dI)) (ci := 5) (v := .int (nI st)) (C := rn_M) (T := tn_M) (N := 19) hx hb hw ml_M hown hK hP 0 rfl rfl 11 (by decide) (hw _ mw_484) (fun _ h9 => h9) rfl dn_M_step_5 ?_
  refine lv_iload_n hx hb dn_M_step_8 rfl (lv_at hl 1 rfl) ?_
  refine gr_iast hx hb hK hP hD hS 6 0 rfl rfl st rfl (by omega) (by decide) dn_M_step_9 (fun H locs hP hD hS => ?_)
  have hP : va_P (dC, dI) vwCl [(bd 0, .inr (5, [.ref (bd 1), .int (nI clk), .int pw, .int lf, .ref (bd 2), .int (nI fc), .int (nI sn), .int (nI ob), .ref (bd 3), .ref (bd 4), .ref (bd 5), .int (nI st), .ref (bd 6), .ref (bd 7), .ref (bd 8), .int (nI ef), .int (nI ec), .int (nI fu), .ref (bd 9)])), (bd 1, .inl (cI, 292, .inl f)), (bd 2, .inl (cI, 12, .inl fd)), (bd 3, .inl (cI, 13, .inl S)), (bd 4, .inl (cI, 13, .inl D)), (bd 5, .inl (cI, 13, .inl G)), (bd 6, .inl (cI, 8, .inl (upd Y st (nI a)))), (bd 7, .inl (cI, 8, .inl Z)), (bd 8, .inl (cZ, 8, .inl X)), (bd 9, .inl (cI, 40, .inl g))] H := hP
  have hD : va_D A [(bd 0, .inr (5, [.ref (bd 1), .int (nI clk), .int pw, .int lf, .ref (bd 2), .int (nI fc), .int (nI sn), .int (nI ob), .ref (bd 3), .ref (bd 4), .ref (bd 5), .int (nI st), .ref (bd 6), .ref (bd 7), .ref (bd 8), .int (nI ef), .int (nI ec), .int (nI fu), .ref (bd 9)])), (bd 1, .inl (cI, 292, .inl f)), (bd 2, .inl (cI, 12, .inl fd)), (bd 3, .inl (cI, 13, .inl S)), (bd 4, .inl (cI, 13, .inl D)), (bd 5, .inl (cI, 13, .inl G)), (bd 6, .inl (cI, 8, .inl (upd Y st (nI a)))), (bd 7, .inl (cI, 8, .inl Z)), (bd 8, .inl (cZ, 8, .inl X)), (bd 9, .inl (cI, 40, .inl g))] := hD
  refine lv_aload_n hx hb dn_M_step_10 rfl (lv_at hl 0 rfl) ?_
  refine va_get (D := (dC, dI)) (ci := 5) (v := .ref (bd 7)) (C := rn_M) (T := tn_M) (N := 19) hx hb hw ml_M hown hK hP 0 rfl rfl 13 (by decide) (hw _ mw_486) (fun _ h9 => h9) rfl dn_M_step_11 ?_
  refine lv_aload_n hx hb dn_M_step_14 rfl (lv_at hl 0 rfl) ?_
  refine va_get (D := (dC, dI)) (ci := 5) (v := .int (nI st)) (C := rn_M) (T := tn_M) (N := 19) hx hb hw ml_M hown hK hP 0 rfl rfl 11 (by decide) (hw _ mw_484) (fun _ h9 => h9) rfl dn_M_step_15 ?_
  refine lv_iload_n hx hb dn_M_step_18 rfl (lv_at hl 2 rfl) ?_
  refine gr_iast hx hb hK hP hD hS 7 0 rfl rfl st rfl (by omega) (by decide) dn_M_step_19 (fun H locs hP hD hS => ?_)
  have hP : va_P (dC, dI) vwCl [(bd 0, .inr (5, [.ref (bd 1), .int (nI clk), .int pw, .int lf, .ref (bd 2), .int (nI fc), .int (nI sn), .int (nI ob), .ref (bd 3), .ref (bd 4), .ref (bd 5), .int (nI st), .ref (bd 6), .ref (bd 7), .ref (bd 8), .int (nI ef), .int (nI ec), .int (nI fu), .ref (bd 9)])), (bd 1, .inl (cI, 292, .inl f)), (bd 2, .inl (cI, 12, .inl fd)), (bd 3, .inl (cI, 13, .inl S)), (bd 4, .inl (cI, 13, .inl D)), (bd 5, .inl (cI, 13, .inl G)), (bd 6, .inl (cI, 8, .inl (upd Y st (nI a)))), (bd 7, .inl (cI, 8, .inl (upd Z st (nI cn)))), (bd 8, .inl (cZ, 8, .inl X)), (bd 9, .inl (cI, 40, .inl g))] H := hP
  have hD : va_D A [(bd 0, .inr (5, [.ref (bd 1), .int (nI clk), .int pw, .int lf, .ref (bd 2), .int (nI fc), .int (nI sn), .int (nI ob), .ref (bd 3), .ref (bd 4), .ref (bd 5), .int (nI st), .ref (bd 6), .ref (bd 7), .ref (bd 8), .int (nI ef), .int (nI ec), .int (nI fu), .ref (bd 9)])), (bd 1, .inl (cI, 292, .inl f)), (bd 2, .inl (cI, 12, .inl fd)), (bd 3, .inl (cI, 13, .inl S)), (bd 4, .inl (cI, 13, .inl D)), (bd 5, .inl (cI, 13, .inl G)), (bd 6, .inl (cI, 8, .inl (upd Y st (nI a)))), (bd 7, .inl (cI, 8, .inl (upd Z st (nI cn)))), (bd 8, .inl (cZ, 8, .inl X)), (bd 9, .inl (cI, 40, .inl g))] := hD
  refine lv_aload_n hx hb dn_M_step_20 rfl (lv_at hl 0 rfl) ?_
  refine va_get (D := (dC, dI)) (ci := 5) (v := .ref (bd 8)) (C := rn_M) (T := tn_M) (N := 19) hx hb hw ml_M hown hK hP 0 rfl rfl 14 (by decide) (hw _ mw_487) (fun _ h9 => h9) rfl dn_M_step_21 ?_
  refine lv_aload_n hx hb dn_M_step_24 rfl (lv_at hl 0 rfl) ?_
  refine va_get (D := (dC, dI)) (ci := 5) (v := .int (nI st)) (C := rn_M) (T := tn_M) (N := 19) hx hb hw ml_M hown hK hP 0 rfl rfl 11 (by decide) (hw _ mw_484) (fun _ h9 => h9) rfl dn_M_step_25 ?_
  refine lv_iload_n hx hb dn_M_step_28 rfl (lv_at hl 3 rfl) ?_
  refine gr_zast hx hb hK hP hD hS 8 1 rfl rfl st rfl (by omega) (by decide) rfl dn_M_step_29 (fun H locs hP hD hS => ?_)
  have hP : va_P (dC, dI) vwCl [(bd 0, .inr (5, [.ref (bd 1), .int (nI clk), .int pw, .int lf, .ref (bd 2), .int (nI fc), .int (nI sn), .int (nI ob), .ref (bd 3), .ref (bd 4), .ref (bd 5), .int (nI st), .ref (bd 6), .ref (bd 7), .ref (bd 8), .int (nI ef), .int (nI ec), .int (nI fu), .ref (bd 9)])), (bd 1, .inl (cI, 292, .inl f)), (bd 2, .inl (cI, 12, .inl fd)), (bd 3, .inl (cI, 13, .inl S)), (bd 4, .inl (cI, 13, .inl D)), (bd 5, .inl (cI, 13, .inl G)), (bd 6, .inl (cI, 8, .inl (upd Y st (nI a)))), (bd 7, .inl (cI, 8, .inl (upd Z st (nI cn)))), (bd 8, .inl (cZ, 8, .inl (upd X st 1))), (bd 9, .inl (cI, 40, .inl g))] H := hP
  have hD : va_D A [(bd 0, .inr (5, [.ref (bd 1), .int (nI clk), .int pw, .int lf, .ref (bd 2), .int (nI fc), .int (nI sn), .int (nI ob), .ref (bd 3), .ref (bd 4), .ref (bd 5), .int (nI st), .ref (bd 6), .ref (bd 7), .ref (bd 8), .int (nI ef), .int (nI ec), .int (nI fu), .ref (bd 9)])), (bd 1, .inl (cI, 292, .inl f)), (bd 2, .inl (cI, 12, .inl fd)), (bd 3, .inl (cI, 13, .inl S)), (bd 4, .inl (cI, 13, .inl D)), (bd 5, .inl (cI, 13, .inl G)), (bd 6, .inl (cI, 8, .inl (upd Y st (nI a)))), (bd 7, .inl (cI, 8, .inl (upd Z st (nI cn)))), (bd 8, .inl (cZ, 8, .inl (upd X st 1))), (bd 9, .inl (cI, 40, .inl g))] := hD
  refine lv_aload_n hx hb dn_M_step_30 rfl (lv_at hl 0 rfl) ?_
  refine lv_aload_n hx hb dn_M_step_31 rfl (lv_at hl 0 rfl) ?_
  refine va_get (D := (dC, dI)) (ci := 5) (v := .int (nI st)) (C := rn_M) (T := tn_M) (N := 19) hx hb hw ml_M hown hK hP 0 rfl rfl 11 (by decide) (hw _ mw_484) (fun _ h9 => h9) rfl dn_M_step_32 ?_
  refine lv_iconst (v := 1) hx hb dn_M_step_35 (by decide) ?_
  refine gr_addN hx hb st 1 rfl rfl dn_M_step_36 ?_
  refine va_put (D := (dC, dI)) (ci := 5) (v := .int (nI (st + 1))) (ty := .int) (C := rn_M) (T := tn_M) (N := 19) hx hb hw ml_M tt_M to_M nd_M hown hK hP hD hS 0 rfl rfl 11 (by decide) (hw _ mw_484) (fun _ h9 => h9) rfl (by decide +kernel) rfl rfl (Nat.le_of_ble_eq_true rfl) dn_M_step_37 (fun H locs hP hD hS => ?_)
  have hP : va_P (dC, dI) vwCl [(bd 0, .inr (5, [.ref (bd 1), .int (nI clk), .int pw, .int lf, .ref (bd 2), .int (nI fc), .int (nI sn), .int (nI ob), .ref (bd 3), .ref (bd 4), .ref (bd 5), .int (nI (st + 1)), .ref (bd 6), .ref (bd 7), .ref (bd 8), .int (nI ef), .int (nI ec), .int (nI fu), .ref (bd 9)])), (bd 1, .inl (cI, 292, .inl f)), (bd 2, .inl (cI, 12, .inl fd)), (bd 3, .inl (cI, 13, .inl S)), (bd 4, .inl (cI, 13, .inl D)), (bd 5, .inl (cI, 13, .inl G)), (bd 6, .inl (cI, 8, .inl (upd Y st (nI a)))), (bd 7, .inl (cI, 8, .inl (upd Z st (nI cn)))), (bd 8, .inl (cZ, 8, .inl (upd X st 1))), (bd 9, .inl (cI, 40, .inl g))] H := hP
  have hD : va_D A [(bd 0, .inr (5, [.ref (bd 1), .int (nI clk), .int pw, .int lf, .ref (bd 2), .int (nI fc), .int (nI sn), .int (nI ob), .ref (bd 3), .ref (bd 4), .ref (bd 5), .int (nI (st + 1)), .ref (bd 6), .ref (bd 7), .ref (bd 8), .int (nI ef), .int (nI ec), .int (nI fu), .ref (bd 9)])), (bd 1, .inl (cI, 292, .inl f)), (bd 2, .inl (cI, 12, .inl fd)), (bd 3, .inl (cI, 13, .inl S)), (bd 4, .inl (cI, 13, .inl D)), (bd 5, .inl (cI, 13, .inl G)), (bd 6, .inl (cI, 8, .inl (upd Y st (nI a)))), (bd 7, .inl (cI, 8, .inl (upd Z st (nI cn)))), (bd 8, .inl (cZ, 8, .inl (upd X st 1))), (bd 9, .inl (cI, 40, .inl g))] := hD
  exact hret () _ _ _ _ trivial hP hD hS dn_M_step_40

set_option maxRecDepth 100000 in
set_option maxHeartbeats 4000000 in
theorem c_M_wayToLeaf (l : Launch) (dC : Nat → ClassId) (dI : Nat → Nat → Nat) (cI cZ : ClassId) (bd : Nat → Nat) (clk : Nat) (pw lf : Int32) (f fd : Nat → Int32) (fc sn ob : Nat) (S D G : Nat → Int32) (st : Nat) (Y Z X : Nat → Int32) (ef ec fu : Nat) (g : Nat → Int32) (t n : Nat) (ht : t < n) (hn : n ≤ 40) : gc_V l yn_M_wayToLeaf (gw yn_M_wayToLeaf cn_M_wayToLeaf 6 none) (rm_ 1 23) (dC, dI) vwCl (gT cI cZ) [.ref (bd 0), .int (nI t), .int (nI n)] [(bd 0, .inr (5, [.ref (bd 1), .int (nI clk), .int pw, .int lf, .ref (bd 2), .int (nI fc), .int (nI sn), .int (nI ob), .ref (bd 3), .ref (bd 4), .ref (bd 5), .int (nI st), .ref (bd 6), .ref (bd 7), .ref (bd 8), .int (nI ef), .int (nI ec), .int (nI fu), .ref (bd 9)])), (bd 1, .inl (cI, 292, .inl f)), (bd 2, .inl (cI, 12, .inl fd)), (bd 3, .inl (cI, 13, .inl S)), (bd 4, .inl (cI, 13, .inl D)), (bd 5, .inl (cI, 13, .inl G)), (bd 6, .inl (cI, 8, .inl Y)), (bd 7, .inl (cI, 8, .inl Z)), (bd 8, .inl (cZ, 8, .inl X)), (bd 9, .inl (cI, 40, .inl g))] (fun (u : (Nat → Int32) × (Nat → Int32) × (Nat → Int32) × Nat) => ds_is false t n u.2.2.2 ∧ de_ar t n u.2.2.2 u.1 u.2.1 u.2.2.1) (fun u => [(bd 0, .inr (5, [.ref (bd 1), .int (nI clk), .int pw, .int lf, .ref (bd 2), .int (nI fc), .int (nI sn), .int (nI ob), .ref (bd 3), .ref (bd 4), .ref (bd 5), .int (nI u.2.2.2), .ref (bd 6), .ref (bd 7), .ref (bd 8), .int (nI ((ds_at t n u.2.2.2).1)), .int (nI ((ds_at t n u.2.2.2).2)), .int (nI 1), .ref (bd 9)])), (bd 1, .inl (cI, 292, .inl f)), (bd 2, .inl (cI, 12, .inl fd)), (bd 3, .inl (cI, 13, .inl S)), (bd 4, .inl (cI, 13, .inl D)), (bd 5, .inl (cI, 13, .inl G)), (bd 6, .inl (cI, 8, .inl u.2.1)), (bd 7, .inl (cI, 8, .inl u.2.2.1)), (bd 8, .inl (cZ, 8, .inl u.1)), (bd 9, .inl (cI, 40, .inl g))]) := by
  refine gc_V_of (cc := cn_M_wayToLeaf) (maxL := 6) (by decide) rfl (Nat.le_of_ble_eq_true rfl) ?_
  intro pp ee ss mm ar be me cd A Q ls H0 H locs hx hb hml hown hts hK hP hD hS hA hl hret
  have hw : ∀ w ∈ gw_T, w.before ar ss = true := fun w h => hts w (List.mem_cons_of_mem _ h)
  have hl : lv_has ls 6 [(0, .ref (bd 0)), (1, .int (nI t)), (2, .int (nI n))] := hl
  refine lv_aload_n hx hb dn_M_wayToLeaf_0 rfl (lv_at hl 0 rfl) ?_
  refine lv_iconst (v := 0) hx hb dn_M_wayToLeaf_1 (by decide) ?_
  refine va_put (D := (dC, dI)) (ci := 5) (v := .int 0) (ty := .int) (C := rn_M) (T := tn_M) (N := 19) hx hb hw ml_M tt_M to_M nd_M hown hK hP hD hS 0 rfl rfl 11 (by decide) (hw _ mw_484) (fun _ h9 => h9) rfl (by decide +kernel) rfl rfl (Nat.le_of_ble_eq_true rfl) dn_M_wayToLeaf_2 (fun H locs hP hD hS => ?_)
  have hP : va_P (dC, dI) vwCl [(bd 0, .inr (5, [.ref (bd 1), .int (nI clk), .int pw, .int lf, .ref (bd 2), .int (nI fc), .int (nI sn), .int (nI ob), .ref (bd 3), .ref (bd 4), .ref (bd 5), .int 0, .ref (bd 6), .ref (bd 7), .ref (bd 8), .int (nI ef), .int (nI ec), .int (nI fu), .ref (bd 9)])), (bd 1, .inl (cI, 292, .inl f)), (bd 2, .inl (cI, 12, .inl fd)), (bd 3, .inl (cI, 13, .inl S)), (bd 4, .inl (cI, 13, .inl D)), (bd 5, .inl (cI, 13, .inl G)), (bd 6, .inl (cI, 8, .inl Y)), (bd 7, .inl (cI, 8, .inl Z)), (bd 8, .inl (cZ, 8, .inl X)), (bd 9, .inl (cI, 40, .inl g))] H := hP
  have hD : va_D A [(bd 0, .inr (5, [.ref (bd 1), .int (nI clk), .int pw, .int lf, .ref (bd 2), .int (nI fc), .int (nI sn), .int (nI ob), .ref (bd 3), .ref (bd 4), .ref (bd 5), .int 0, .ref (bd 6), .ref (bd 7), .ref (bd 8), .int (nI ef), .int (nI ec), .int (nI fu), .ref (bd 9)])), (bd 1, .inl (cI, 292, .inl f)), (bd 2, .inl (cI, 12, .inl fd)), (bd 3, .inl (cI, 13, .inl S)), (bd 4, .inl (cI, 13, .inl D)), (bd 5, .inl (cI, 13, .inl G)), (bd 6, .inl (cI, 8, .inl Y)), (bd 7, .inl (cI, 8, .inl Z)), (bd 8, .inl (cZ, 8, .inl X)), (bd 9, .inl (cI, 40, .inl g))] := hD
  refine lv_iconst (v := 0) hx hb dn_M_wayToLeaf_5 (by decide) ?_
  refine lv_istore_n (lv' := [(3, .int 0), (0, .ref (bd 0)), (1, .int (nI t)), (2, .int (nI n))]) hx hb dn_M_wayToLeaf_6 rfl hl (by decide) rfl (fun ls hl => ?_)
  refine lv_iload_n hx hb dn_M_wayToLeaf_7 rfl (lv_at hl 3 rfl) ?_
  refine lv_istore (lv' := [(4, .int (nI n)), (3, .int 0), (0, .ref (bd 0)), (1, .int (nI t)), (2, .int (nI n))]) hx hb dn_M_wayToLeaf_8 hl (by decide) rfl (fun ls hl => ?_)
  have lp10 : ∀ (n10_ : Nat) (s : Nat) (X : Nat → Int32) (Y : Nat → Int32) (Z : Nat → Int32) (ls : Array Slot) (H : Heap) (locs : List Loc), 7 - s = n10_ → lv_has ls 6 [(0, .ref (bd 0)), (1, .int (nI t)), (2, .int (nI n)), (3, .int (nI ((ds_at t n s).1))), (4, .int (nI ((ds_at t n s).2)))] → va_P (dC, dI) vwCl [(bd 0, .inr (5, [.ref (bd 1), .int (nI clk), .int pw, .int lf, .ref (bd 2), .int (nI fc), .int (nI sn), .int (nI ob), .ref (bd 3), .ref (bd 4), .ref (bd 5), .int (nI s), .ref (bd 6), .ref (bd 7), .ref (bd 8), .int (nI ef), .int (nI ec), .int (nI fu), .ref (bd 9)])), (bd 1, .inl (cI, 292, .inl f)), (bd 2, .inl (cI, 12, .inl fd)), (bd 3, .inl (cI, 13, .inl S)), (bd 4, .inl (cI, 13, .inl D)), (bd 5, .inl (cI, 13, .inl G)), (bd 6, .inl (cI, 8, .inl Y)), (bd 7, .inl (cI, 8, .inl Z)), (bd 8, .inl (cZ, 8, .inl X)), (bd 9, .inl (cI, 40, .inl g))] H → va_D A [(bd 0, .inr (5, [.ref (bd 1), .int (nI clk), .int pw, .int lf, .ref (bd 2), .int (nI fc), .int (nI sn), .int (nI ob), .ref (bd 3), .ref (bd 4), .ref (bd 5), .int (nI s), .ref (bd 6), .ref (bd 7), .ref (bd 8), .int (nI ef), .int (nI ec), .int (nI fu), .ref (bd 9)])), (bd 1, .inl (cI, 292, .inl f)), (bd 2, .inl (cI, 12, .inl fd)), (bd 3, .inl (cI, 13, .inl S)), (bd 4, .inl (cI, 13, .inl D)), (bd 5, .inl (cI, 13, .inl G)), (bd 6, .inl (cI, 8, .inl Y)), (bd 7, .inl (cI, 8, .inl Z)), (bd 8, .inl (cZ, 8, .inl X)), (bd 9, .inl (cI, 40, .inl g))] → va_S A H0 H locs → (s ≤ 6) → (ds_run false t n s) → (de_ar t n s X Y Z) → W pp l ee (headSpec (gw yn_M_wayToLeaf cn_M_wayToLeaf 6 none) (rm_ 1 23)).room ss mm ar be me cd H locs 0 0 Q (F0 mm 10 ls []) := by
    intro n10_
    induction n10_ using Nat.strongRecOn with
    | ind n10_ ih10 =>
      intro s X Y Z ls H locs hn10_ hl hP hD hS hs hrun har
      obtain ⟨d1, d2, d3, -⟩ := ds_iv ht hn s hrun
      refine lv_iload hx hb dn_M_wayToLeaf_10 (lv_at hl 4 rfl) ?_
      refine lv_iconst (v := 1) hx hb dn_M_wayToLeaf_12 (by decide) ?_
      refine gr_cle (tgt := 75) hx hb ((ds_at t n s).2) 1 rfl rfl (by omega) (by decide) dn_M_wayToLeaf_13 (by decide) (fun h13 => ?_) (fun h13 => ?_)
      · skip
        refine lv_aload_n hx hb dn_M_wayToLeaf_75 rfl (lv_at hl 0 rfl) ?_
        refine lv_iload_n hx hb dn_M_wayToLeaf_76 rfl (lv_at hl 3 rfl) ?_
        refine va_put (D := (dC, dI)) (ci := 5) (v := .int (nI ((ds_at t n s).1))) (ty := .int) (C := rn_M) (T := tn_M) (N := 19) hx hb hw ml_M tt_M to_M nd_M hown hK hP hD hS 0 rfl rfl 15 (by decide) (hw _ mw_488) (fun _ h9 => h9) rfl (by decide +kernel) rfl rfl (Nat.le_of_ble_eq_true rfl) dn_M_wayToLeaf_77 (fun H locs hP hD hS => ?_)
        have hP : va_P (dC, dI) vwCl [(bd 0, .inr (5, [.ref (bd 1), .int (nI clk), .int pw, .int lf, .ref (bd 2), .int (nI fc), .int (nI sn), .int (nI ob), .ref (bd 3), .ref (bd 4), .ref (bd 5), .int (nI s), .ref (bd 6), .ref (bd 7), .ref (bd 8), .int (nI ((ds_at t n s).1)), .int (nI ec), .int (nI fu), .ref (bd 9)])), (bd 1, .inl (cI, 292, .inl f)), (bd 2, .inl (cI, 12, .inl fd)), (bd 3, .inl (cI, 13, .inl S)), (bd 4, .inl (cI, 13, .inl D)), (bd 5, .inl (cI, 13, .inl G)), (bd 6, .inl (cI, 8, .inl Y)), (bd 7, .inl (cI, 8, .inl Z)), (bd 8, .inl (cZ, 8, .inl X)), (bd 9, .inl (cI, 40, .inl g))] H := hP
        have hD : va_D A [(bd 0, .inr (5, [.ref (bd 1), .int (nI clk), .int pw, .int lf, .ref (bd 2), .int (nI fc), .int (nI sn), .int (nI ob), .ref (bd 3), .ref (bd 4), .ref (bd 5), .int (nI s), .ref (bd 6), .ref (bd 7), .ref (bd 8), .int (nI ((ds_at t n s).1)), .int (nI ec), .int (nI fu), .ref (bd 9)])), (bd 1, .inl (cI, 292, .inl f)), (bd 2, .inl (cI, 12, .inl fd)), (bd 3, .inl (cI, 13, .inl S)), (bd 4, .inl (cI, 13, .inl D)), (bd 5, .inl (cI, 13, .inl G)), (bd 6, .inl (cI, 8, .inl Y)), (bd 7, .inl (cI, 8, .inl Z)), (bd 8, .inl (cZ, 8, .inl X)), (bd 9, .inl (cI, 40, .inl g))] := hD
        refine lv_aload_n hx hb dn_M_wayToLeaf_80 rfl (lv_at hl 0 rfl) ?_
        refine lv_iconst (v := 1) hx hb dn_M_wayToLeaf_81 (by decide) ?_
        refine va_put (D := (dC, dI)) (ci := 5) (v := .int 1) (ty := .int) (C := rn_M) (T := tn_M) (N := 19) hx hb hw ml_M tt_M to_M nd_M hown hK hP hD hS 0 rfl rfl 16 (by decide) (hw _ mw_489) (fun _ h9 => h9) rfl (by decide +kernel) rfl rfl (Nat.le_of_ble_eq_true rfl) dn_M_wayToLeaf_82 (fun H locs hP hD hS => ?_)
        have hP : va_P (dC, dI) vwCl [(bd 0, .inr (5, [.ref (bd 1), .int (nI clk), .int pw, .int lf, .ref (bd 2), .int (nI fc), .int (nI sn), .int (nI ob), .ref (bd 3), .ref (bd 4), .ref (bd 5), .int (nI s), .ref (bd 6), .ref (bd 7), .ref (bd 8), .int (nI ((ds_at t n s).1)), .int 1, .int (nI fu), .ref (bd 9)])), (bd 1, .inl (cI, 292, .inl f)), (bd 2, .inl (cI, 12, .inl fd)), (bd 3, .inl (cI, 13, .inl S)), (bd 4, .inl (cI, 13, .inl D)), (bd 5, .inl (cI, 13, .inl G)), (bd 6, .inl (cI, 8, .inl Y)), (bd 7, .inl (cI, 8, .inl Z)), (bd 8, .inl (cZ, 8, .inl X)), (bd 9, .inl (cI, 40, .inl g))] H := hP
        have hD : va_D A [(bd 0, .inr (5, [.ref (bd 1), .int (nI clk), .int pw, .int lf, .ref (bd 2), .int (nI fc), .int (nI sn), .int (nI ob), .ref (bd 3), .ref (bd 4), .ref (bd 5), .int (nI s), .ref (bd 6), .ref (bd 7), .ref (bd 8), .int (nI ((ds_at t n s).1)), .int 1, .int (nI fu), .ref (bd 9)])), (bd 1, .inl (cI, 292, .inl f)), (bd 2, .inl (cI, 12, .inl fd)), (bd 3, .inl (cI, 13, .inl S)), (bd 4, .inl (cI, 13, .inl D)), (bd 5, .inl (cI, 13, .inl G)), (bd 6, .inl (cI, 8, .inl Y)), (bd 7, .inl (cI, 8, .inl Z)), (bd 8, .inl (cZ, 8, .inl X)), (bd 9, .inl (cI, 40, .inl g))] := hD
        refine lv_aload_n hx hb dn_M_wayToLeaf_85 rfl (lv_at hl 0 rfl) ?_
        refine lv_iconst (v := 1) hx hb dn_M_wayToLeaf_86 (by decide) ?_
        refine va_put (D := (dC, dI)) (ci := 5) (v := .int 1) (ty := .boolean) (C := rn_M) (T := tn_M) (N := 19) hx hb hw ml_M tt_M to_M nd_M hown hK hP hD hS 0 rfl rfl 17 (by decide) (hw _ mw_490) (fun _ h9 => h9) rfl (by decide +kernel) rfl rfl (Nat.le_of_ble_eq_true rfl) dn_M_wayToLeaf_87 (fun H locs hP hD hS => ?_)
        have hP : va_P (dC, dI) vwCl [(bd 0, .inr (5, [.ref (bd 1), .int (nI clk), .int pw, .int lf, .ref (bd 2), .int (nI fc), .int (nI sn), .int (nI ob), .ref (bd 3), .ref (bd 4), .ref (bd 5), .int (nI s), .ref (bd 6), .ref (bd 7), .ref (bd 8), .int (nI ((ds_at t n s).1)), .int 1, .int 1, .ref (bd 9)])), (bd 1, .inl (cI, 292, .inl f)), (bd 2, .inl (cI, 12, .inl fd)), (bd 3, .inl (cI, 13, .inl S)), (bd 4, .inl (cI, 13, .inl D)), (bd 5, .inl (cI, 13, .inl G)), (bd 6, .inl (cI, 8, .inl Y)), (bd 7, .inl (cI, 8, .inl Z)), (bd 8, .inl (cZ, 8, .inl X)), (bd 9, .inl (cI, 40, .inl g))] H := hP
        have hD : va_D A [(bd 0, .inr (5, [.ref (bd 1), .int (nI clk), .int pw, .int lf, .ref (bd 2), .int (nI fc), .int (nI sn), .int (nI ob), .ref (bd 3), .ref (bd 4), .ref (bd 5), .int (nI s), .ref (bd 6), .ref (bd 7), .ref (bd 8), .int (nI ((ds_at t n s).1)), .int 1, .int 1, .ref (bd 9)])), (bd 1, .inl (cI, 292, .inl f)), (bd 2, .inl (cI, 12, .inl fd)), (bd 3, .inl (cI, 13, .inl S)), (bd 4, .inl (cI, 13, .inl D)), (bd 5, .inl (cI, 13, .inl G)), (bd 6, .inl (cI, 8, .inl Y)), (bd 7, .inl (cI, 8, .inl Z)), (bd 8, .inl (cZ, 8, .inl X)), (bd 9, .inl (cI, 40, .inl g))] := hD
        have hP : va_P (dC, dI) vwCl [(bd 0, .inr (5, [.ref (bd 1), .int (nI clk), .int pw, .int lf, .ref (bd 2), .int (nI fc), .int (nI sn), .int (nI ob), .ref (bd 3), .ref (bd 4), .ref (bd 5), .int (nI s), .ref (bd 6), .ref (bd 7), .ref (bd 8), .int (nI ((ds_at t n s).1)), .int (nI ((ds_at t n s).2)), .int 1, .ref (bd 9)])), (bd 1, .inl (cI, 292, .inl f)), (bd 2, .inl (cI, 12, .inl fd)), (bd 3, .inl (cI, 13, .inl S)), (bd 4, .inl (cI, 13, .inl D)), (bd 5, .inl (cI, 13, .inl G)), (bd 6, .inl (cI, 8, .inl Y)), (bd 7, .inl (cI, 8, .inl Z)), (bd 8, .inl (cZ, 8, .inl X)), (bd 9, .inl (cI, 40, .inl g))] H := by rw [show (ds_at t n s).2 = 1 by omega]; exact hP
        have hD : va_D A [(bd 0, .inr (5, [.ref (bd 1), .int (nI clk), .int pw, .int lf, .ref (bd 2), .int (nI fc), .int (nI sn), .int (nI ob), .ref (bd 3), .ref (bd 4), .ref (bd 5), .int (nI s), .ref (bd 6), .ref (bd 7), .ref (bd 8), .int (nI ((ds_at t n s).1)), .int (nI ((ds_at t n s).2)), .int 1, .ref (bd 9)])), (bd 1, .inl (cI, 292, .inl f)), (bd 2, .inl (cI, 12, .inl fd)), (bd 3, .inl (cI, 13, .inl S)), (bd 4, .inl (cI, 13, .inl D)), (bd 5, .inl (cI, 13, .inl G)), (bd 6, .inl (cI, 8, .inl Y)), (bd 7, .inl (cI, 8, .inl Z)), (bd 8, .inl (cZ, 8, .inl X)), (bd 9, .inl (cI, 40, .inl g))] := by rw [show (ds_at t n s).2 = 1 by omega]; exact hD
        exact hret (X, Y, Z, s) _ _ _ _ ⟨⟨hrun, (Or.inl h13)⟩, har⟩ hP hD hS dn_M_wayToLeaf_90
      · skip
        have hne : ¬ ds_end false t n s := fun q => q.elim (fun q => by omega) (fun q => by first | exact absurd q.1 (by decide) | omega)
        have hrun2 : ds_run false t n (s + 1) := fun i hi => by rcases Nat.lt_or_ge i s with q | q; exact hrun i q; exact (show i = s by omega) ▸ hne
        have hs6 := ds_le6 ht hn hrun2
        obtain ⟨hb1, hb2, hb3⟩ := ds_hb_in (c := (ds_at t n s).2) (by omega) (by omega)
        refine lv_iload hx hb dn_M_wayToLeaf_16 (lv_at hl 4 rfl) ?_
        refine gc_s0 (v := (nI (ds_hb ((ds_at t n s).2)))) (As := [.int (nI ((ds_at t n s).2))]) (rest := []) ⟨hx, hb, hml, hown, hw⟩ (c_M_half l dC dI cI cZ ((ds_at t n s).2) (by omega) (by omega)) (gw_cS 1 hw mw_628 mw_629 mw_6 mw_630 hd_M_half ⟨Nat.le_of_ble_eq_true rfl, Nat.le_of_ble_eq_true rfl⟩) hK hP hD hS hA rfl hl.1 rfl (Nat.le_of_ble_eq_true rfl) dn_M_wayToLeaf_18 ⟨Nat.zero_le _, Nat.zero_le _⟩ (fun H locs hP hD hS => ?_)
        refine lv_istore (lv' := [(5, .int (nI (ds_hb ((ds_at t n s).2)))), (0, .ref (bd 0)), (1, .int (nI t)), (2, .int (nI n)), (3, .int (nI ((ds_at t n s).1))), (4, .int (nI ((ds_at t n s).2)))]) hx hb dn_M_wayToLeaf_21 hl (by decide) rfl (fun ls hl => ?_)
        refine lv_iload_n hx hb dn_M_wayToLeaf_23 rfl (lv_at hl 2 rfl) ?_
        refine lv_iload_n hx hb dn_M_wayToLeaf_24 rfl (lv_at hl 4 rfl) ?_
        refine lv_iload hx hb dn_M_wayToLeaf_25 (lv_at hl 0 rfl) ?_
        refine gr_addN hx hb ((ds_at t n s).1) (ds_hb ((ds_at t n s).2)) rfl rfl dn_M_wayToLeaf_27 ?_
        refine gr_cge (tgt := 52) hx hb t (((ds_at t n s).1) + (ds_hb ((ds_at t n s).2))) rfl rfl (by omega) (by omega) dn_M_wayToLeaf_28 (by decide) (fun h28 => ?_) (fun h28 => ?_)
        · skip
          refine lv_aload_n hx hb dn_M_wayToLeaf_52 rfl (lv_at hl 1 rfl) ?_
          refine lv_iload_n hx hb dn_M_wayToLeaf_53 rfl (lv_at hl 4 rfl) ?_
          refine lv_iload hx hb dn_M_wayToLeaf_54 (lv_at hl 0 rfl) ?_
          refine lv_iconst (v := 1) hx hb dn_M_wayToLeaf_56 (by decide) ?_
          refine gc_vv (pre := []) (wc := [(bd 0, .inr (5, [.ref (bd 1), .int (nI clk), .int pw, .int lf, .ref (bd 2), .int (nI fc), .int (nI sn), .int (nI ob), .ref (bd 3), .ref (bd 4), .ref (bd 5), .int (nI s), .ref (bd 6), .ref (bd 7), .ref (bd 8), .int (nI ef), .int (nI ec), .int (nI fu), .ref (bd 9)])), (bd 1, .inl (cI, 292, .inl f)), (bd 2, .inl (cI, 12, .inl fd)), (bd 3, .inl (cI, 13, .inl S)), (bd 4, .inl (cI, 13, .inl D)), (bd 5, .inl (cI, 13, .inl G)), (bd 6, .inl (cI, 8, .inl Y)), (bd 7, .inl (cI, 8, .inl Z)), (bd 8, .inl (cZ, 8, .inl X)), (bd 9, .inl (cI, 40, .inl g))]) (po := []) (As := [.int (nI ((ds_at t n s).1)), .int (nI (ds_hb ((ds_at t n s).2))), .int 1]) (rest := []) ⟨hx, hb, hml, hown, hw⟩ (c_M_step1 l dC dI cI cZ bd clk pw lf f fd fc sn ob S D G s Y Z X ef ec fu g ((ds_at t n s).1) (ds_hb ((ds_at t n s).2)) (by omega)) (gw_cV 3 hw mw_631 mw_633 mv_32 mw_6 mw_634 hd_M_step ⟨Nat.le_of_ble_eq_true rfl, Nat.le_of_ble_eq_true rfl⟩) (ci := 5) rfl rfl rfl hK hP hD hS hA rfl hl.1 rfl (Nat.le_of_ble_eq_true rfl) dn_M_wayToLeaf_57 ⟨Nat.zero_le _, Nat.zero_le _⟩ (fun u57 H locs hc57 hP hD hS => ?_)
          have hP : va_P (dC, dI) vwCl [(bd 0, .inr (5, [.ref (bd 1), .int (nI clk), .int pw, .int lf, .ref (bd 2), .int (nI fc), .int (nI sn), .int (nI ob), .ref (bd 3), .ref (bd 4), .ref (bd 5), .int (nI (s + 1)), .ref (bd 6), .ref (bd 7), .ref (bd 8), .int (nI ef), .int (nI ec), .int (nI fu), .ref (bd 9)])), (bd 1, .inl (cI, 292, .inl f)), (bd 2, .inl (cI, 12, .inl fd)), (bd 3, .inl (cI, 13, .inl S)), (bd 4, .inl (cI, 13, .inl D)), (bd 5, .inl (cI, 13, .inl G)), (bd 6, .inl (cI, 8, .inl (upd Y s (nI ((ds_at t n s).1))))), (bd 7, .inl (cI, 8, .inl (upd Z s (nI (ds_hb ((ds_at t n s).2)))))), (bd 8, .inl (cZ, 8, .inl (upd X s 1))), (bd 9, .inl (cI, 40, .inl g))] H := hP
          have hD : va_D A [(bd 0, .inr (5, [.ref (bd 1), .int (nI clk), .int pw, .int lf, .ref (bd 2), .int (nI fc), .int (nI sn), .int (nI ob), .ref (bd 3), .ref (bd 4), .ref (bd 5), .int (nI (s + 1)), .ref (bd 6), .ref (bd 7), .ref (bd 8), .int (nI ef), .int (nI ec), .int (nI fu), .ref (bd 9)])), (bd 1, .inl (cI, 292, .inl f)), (bd 2, .inl (cI, 12, .inl fd)), (bd 3, .inl (cI, 13, .inl S)), (bd 4, .inl (cI, 13, .inl D)), (bd 5, .inl (cI, 13, .inl G)), (bd 6, .inl (cI, 8, .inl (upd Y s (nI ((ds_at t n s).1))))), (bd 7, .inl (cI, 8, .inl (upd Z s (nI (ds_hb ((ds_at t n s).2)))))), (bd 8, .inl (cZ, 8, .inl (upd X s 1))), (bd 9, .inl (cI, 40, .inl g))] := hD
          refine lv_iload_n hx hb dn_M_wayToLeaf_60 rfl (lv_at hl 4 rfl) ?_
          refine lv_iload hx hb dn_M_wayToLeaf_61 (lv_at hl 0 rfl) ?_
          refine gr_addN hx hb ((ds_at t n s).1) (ds_hb ((ds_at t n s).2)) rfl rfl dn_M_wayToLeaf_63 ?_
          refine lv_istore_n (lv' := [(3, .int (nI (((ds_at t n s).1) + (ds_hb ((ds_at t n s).2))))), (5, .int (nI (ds_hb ((ds_at t n s).2)))), (0, .ref (bd 0)), (1, .int (nI t)), (2, .int (nI n)), (4, .int (nI ((ds_at t n s).2)))]) hx hb dn_M_wayToLeaf_64 rfl hl (by decide) rfl (fun ls hl => ?_)
          refine lv_iload hx hb dn_M_wayToLeaf_65 (lv_at hl 5 rfl) ?_
          refine lv_iload hx hb dn_M_wayToLeaf_67 (lv_at hl 1 rfl) ?_
          refine gr_subN hx hb ((ds_at t n s).2) (ds_hb ((ds_at t n s).2)) rfl rfl (by omega) dn_M_wayToLeaf_69 ?_
          refine lv_istore (lv' := [(4, .int (nI (((ds_at t n s).2) - (ds_hb ((ds_at t n s).2))))), (3, .int (nI (((ds_at t n s).1) + (ds_hb ((ds_at t n s).2))))), (5, .int (nI (ds_hb ((ds_at t n s).2)))), (0, .ref (bd 0)), (1, .int (nI t)), (2, .int (nI n))]) hx hb dn_M_wayToLeaf_70 hl (by decide) rfl (fun ls hl => ?_)
          refine lv_goto (tgt := 10) hx hb dn_M_wayToLeaf_72 (by decide) ?_
          have hx_s : ds_at t n (s + 1) = _ := ds_rx (show (ds_at t n s).1 + ds_hb (ds_at t n s).2 ≤ t by omega)
          have hr_s : ds_rt t n s = _ := ds_rr (show (ds_at t n s).1 + ds_hb (ds_at t n s).2 ≤ t by omega)
          have hf_s : ds_sf t n s = _ := ds_rf (show (ds_at t n s).1 + ds_hb (ds_at t n s).2 ≤ t by omega)
          have hc_s : ds_sc t n s = _ := ds_rc (show (ds_at t n s).1 + ds_hb (ds_at t n s).2 ≤ t by omega)
          exact ih10 (7 - (s + 1)) (by omega) (s + 1) (upd X s (ds_rt t n s)) (upd Y s (nI (ds_sf t n s))) (upd Z s (nI (ds_sc t n s))) ls H locs rfl (by rw [hx_s]; exact lv_sub hl [3, 4, 5, 1, 0] rfl) (by rw [hr_s, hf_s, hc_s]; exact hP) (by rw [hr_s, hf_s, hc_s]; exact hD) hS (by omega) hrun2 (de_ar_s har)
        · skip
          refine lv_aload_n hx hb dn_M_wayToLeaf_31 rfl (lv_at hl 1 rfl) ?_
          refine lv_iload_n hx hb dn_M_wayToLeaf_32 rfl (lv_at hl 4 rfl) ?_
          refine lv_iload hx hb dn_M_wayToLeaf_33 (lv_at hl 0 rfl) ?_
          refine gr_addN hx hb ((ds_at t n s).1) (ds_hb ((ds_at t n s).2)) rfl rfl dn_M_wayToLeaf_35 ?_
          refine lv_iload hx hb dn_M_wayToLeaf_36 (lv_at hl 5 rfl) ?_
          refine lv_iload hx hb dn_M_wayToLeaf_38 (lv_at hl 0 rfl) ?_
          refine gr_subN hx hb ((ds_at t n s).2) (ds_hb ((ds_at t n s).2)) rfl rfl (by omega) dn_M_wayToLeaf_40 ?_
          refine lv_iconst (v := 0) hx hb dn_M_wayToLeaf_41 (by decide) ?_
          refine gc_vv (pre := []) (wc := [(bd 0, .inr (5, [.ref (bd 1), .int (nI clk), .int pw, .int lf, .ref (bd 2), .int (nI fc), .int (nI sn), .int (nI ob), .ref (bd 3), .ref (bd 4), .ref (bd 5), .int (nI s), .ref (bd 6), .ref (bd 7), .ref (bd 8), .int (nI ef), .int (nI ec), .int (nI fu), .ref (bd 9)])), (bd 1, .inl (cI, 292, .inl f)), (bd 2, .inl (cI, 12, .inl fd)), (bd 3, .inl (cI, 13, .inl S)), (bd 4, .inl (cI, 13, .inl D)), (bd 5, .inl (cI, 13, .inl G)), (bd 6, .inl (cI, 8, .inl Y)), (bd 7, .inl (cI, 8, .inl Z)), (bd 8, .inl (cZ, 8, .inl X)), (bd 9, .inl (cI, 40, .inl g))]) (po := []) (As := [.int (nI (((ds_at t n s).1) + (ds_hb ((ds_at t n s).2)))), .int (nI (((ds_at t n s).2) - (ds_hb ((ds_at t n s).2)))), .int 0]) (rest := []) ⟨hx, hb, hml, hown, hw⟩ (c_M_step0 l dC dI cI cZ bd clk pw lf f fd fc sn ob S D G s Y Z X ef ec fu g (((ds_at t n s).1) + (ds_hb ((ds_at t n s).2))) (((ds_at t n s).2) - (ds_hb ((ds_at t n s).2))) (by omega)) (gw_cV 3 hw mw_631 mw_633 mv_32 mw_6 mw_634 hd_M_step ⟨Nat.le_of_ble_eq_true rfl, Nat.le_of_ble_eq_true rfl⟩) (ci := 5) rfl rfl rfl hK hP hD hS hA rfl hl.1 rfl (Nat.le_of_ble_eq_true rfl) dn_M_wayToLeaf_42 ⟨Nat.zero_le _, Nat.zero_le _⟩ (fun u42 H locs hc42 hP hD hS => ?_)
          have hP : va_P (dC, dI) vwCl [(bd 0, .inr (5, [.ref (bd 1), .int (nI clk), .int pw, .int lf, .ref (bd 2), .int (nI fc), .int (nI sn), .int (nI ob), .ref (bd 3), .ref (bd 4), .ref (bd 5), .int (nI (s + 1)), .ref (bd 6), .ref (bd 7), .ref (bd 8), .int (nI ef), .int (nI ec), .int (nI fu), .ref (bd 9)])), (bd 1, .inl (cI, 292, .inl f)), (bd 2, .inl (cI, 12, .inl fd)), (bd 3, .inl (cI, 13, .inl S)), (bd 4, .inl (cI, 13, .inl D)), (bd 5, .inl (cI, 13, .inl G)), (bd 6, .inl (cI, 8, .inl (upd Y s (nI (((ds_at t n s).1) + (ds_hb ((ds_at t n s).2))))))), (bd 7, .inl (cI, 8, .inl (upd Z s (nI (((ds_at t n s).2) - (ds_hb ((ds_at t n s).2))))))), (bd 8, .inl (cZ, 8, .inl (upd X s 0))), (bd 9, .inl (cI, 40, .inl g))] H := hP
          have hD : va_D A [(bd 0, .inr (5, [.ref (bd 1), .int (nI clk), .int pw, .int lf, .ref (bd 2), .int (nI fc), .int (nI sn), .int (nI ob), .ref (bd 3), .ref (bd 4), .ref (bd 5), .int (nI (s + 1)), .ref (bd 6), .ref (bd 7), .ref (bd 8), .int (nI ef), .int (nI ec), .int (nI fu), .ref (bd 9)])), (bd 1, .inl (cI, 292, .inl f)), (bd 2, .inl (cI, 12, .inl fd)), (bd 3, .inl (cI, 13, .inl S)), (bd 4, .inl (cI, 13, .inl D)), (bd 5, .inl (cI, 13, .inl G)), (bd 6, .inl (cI, 8, .inl (upd Y s (nI (((ds_at t n s).1) + (ds_hb ((ds_at t n s).2))))))), (bd 7, .inl (cI, 8, .inl (upd Z s (nI (((ds_at t n s).2) - (ds_hb ((ds_at t n s).2))))))), (bd 8, .inl (cZ, 8, .inl (upd X s 0))), (bd 9, .inl (cI, 40, .inl g))] := hD
          refine lv_iload hx hb dn_M_wayToLeaf_45 (lv_at hl 0 rfl) ?_
          refine lv_istore (lv' := [(4, .int (nI (ds_hb ((ds_at t n s).2)))), (5, .int (nI (ds_hb ((ds_at t n s).2)))), (0, .ref (bd 0)), (1, .int (nI t)), (2, .int (nI n)), (3, .int (nI ((ds_at t n s).1)))]) hx hb dn_M_wayToLeaf_47 hl (by decide) rfl (fun ls hl => ?_)
          refine lv_goto (tgt := 72) hx hb dn_M_wayToLeaf_49 (by decide) ?_
          refine lv_goto (tgt := 10) hx hb dn_M_wayToLeaf_72 (by decide) ?_
          have hx_s : ds_at t n (s + 1) = _ := ds_lx (show t < (ds_at t n s).1 + ds_hb (ds_at t n s).2 by omega)
          have hr_s : ds_rt t n s = _ := ds_lr (show t < (ds_at t n s).1 + ds_hb (ds_at t n s).2 by omega)
          have hf_s : ds_sf t n s = _ := ds_lf (show t < (ds_at t n s).1 + ds_hb (ds_at t n s).2 by omega)
          have hc_s : ds_sc t n s = _ := ds_lc (show t < (ds_at t n s).1 + ds_hb (ds_at t n s).2 by omega)
          exact ih10 (7 - (s + 1)) (by omega) (s + 1) (upd X s (ds_rt t n s)) (upd Y s (nI (ds_sf t n s))) (upd Z s (nI (ds_sc t n s))) ls H locs rfl (by rw [hx_s]; exact lv_sub hl [2, 3, 4, 5, 0] rfl) (by rw [hr_s, hf_s, hc_s]; exact hP) (by rw [hr_s, hf_s, hc_s]; exact hD) hS (by omega) hrun2 (de_ar_s har)
  exact lp10 _ 0 X Y Z ls H locs rfl (lv_sub hl [2, 3, 4, 1, 0] rfl) hP hD hS (Nat.zero_le _) (fun i h => absurd h (Nat.not_lt_zero i)) (⟨fun i h => absurd h (Nat.not_lt_zero i), fun i h => absurd h (Nat.not_lt_zero i), fun i h => absurd h (Nat.not_lt_zero i)⟩)

set_option maxRecDepth 100000 in
set_option maxHeartbeats 4000000 in
theorem c_M_wayToEnd (l : Launch) (dC : Nat → ClassId) (dI : Nat → Nat → Nat) (cI cZ : ClassId) (bd : Nat → Nat) (clk : Nat) (pw lf : Int32) (f fd : Nat → Int32) (fc sn ob : Nat) (S D G : Nat → Int32) (st : Nat) (Y Z X : Nat → Int32) (ef ec fu : Nat) (g : Nat → Int32) (m n : Nat) (hm : 1 ≤ m) (hmn : m ≤ n) (hn : n ≤ 40) : gc_V l yn_M_wayToEnd (gw yn_M_wayToEnd cn_M_wayToEnd 6 none) (rm_ 1 23) (dC, dI) vwCl (gT cI cZ) [.ref (bd 0), .int (nI m), .int (nI n)] [(bd 0, .inr (5, [.ref (bd 1), .int (nI clk), .int pw, .int lf, .ref (bd 2), .int (nI fc), .int (nI sn), .int (nI ob), .ref (bd 3), .ref (bd 4), .ref (bd 5), .int (nI st), .ref (bd 6), .ref (bd 7), .ref (bd 8), .int (nI ef), .int (nI ec), .int (nI fu), .ref (bd 9)])), (bd 1, .inl (cI, 292, .inl f)), (bd 2, .inl (cI, 12, .inl fd)), (bd 3, .inl (cI, 13, .inl S)), (bd 4, .inl (cI, 13, .inl D)), (bd 5, .inl (cI, 13, .inl G)), (bd 6, .inl (cI, 8, .inl Y)), (bd 7, .inl (cI, 8, .inl Z)), (bd 8, .inl (cZ, 8, .inl X)), (bd 9, .inl (cI, 40, .inl g))] (fun (u : (Nat → Int32) × (Nat → Int32) × (Nat → Int32) × Nat) => ds_is true (m - 1) n u.2.2.2 ∧ de_ar (m - 1) n u.2.2.2 u.1 u.2.1 u.2.2.1) (fun u => [(bd 0, .inr (5, [.ref (bd 1), .int (nI clk), .int pw, .int lf, .ref (bd 2), .int (nI fc), .int (nI sn), .int (nI ob), .ref (bd 3), .ref (bd 4), .ref (bd 5), .int (nI u.2.2.2), .ref (bd 6), .ref (bd 7), .ref (bd 8), .int (nI ((ds_at (m - 1) n u.2.2.2).1)), .int (nI ((ds_at (m - 1) n u.2.2.2).2)), .int (nI (ds_b (ds_at (m - 1) n u.2.2.2).1)), .ref (bd 9)])), (bd 1, .inl (cI, 292, .inl f)), (bd 2, .inl (cI, 12, .inl fd)), (bd 3, .inl (cI, 13, .inl S)), (bd 4, .inl (cI, 13, .inl D)), (bd 5, .inl (cI, 13, .inl G)), (bd 6, .inl (cI, 8, .inl u.2.1)), (bd 7, .inl (cI, 8, .inl u.2.2.1)), (bd 8, .inl (cZ, 8, .inl u.1)), (bd 9, .inl (cI, 40, .inl g))]) := by
  refine gc_V_of (cc := cn_M_wayToEnd) (maxL := 6) (by decide) rfl (Nat.le_of_ble_eq_true rfl) ?_
  intro pp ee ss mm ar be me cd A Q ls H0 H locs hx hb hml hown hts hK hP hD hS hA hl hret
  have hw : ∀ w ∈ gw_T, w.before ar ss = true := fun w h => hts w (List.mem_cons_of_mem _ h)
  have hl : lv_has ls 6 [(0, .ref (bd 0)), (1, .int (nI m)), (2, .int (nI n))] := hl
  refine lv_aload_n hx hb dn_M_wayToEnd_0 rfl (lv_at hl 0 rfl) ?_
  refine lv_iconst (v := 0) hx hb dn_M_wayToEnd_1 (by decide) ?_
  refine va_put (D := (dC, dI)) (ci := 5) (v := .int 0) (ty := .int) (C := rn_M) (T := tn_M) (N := 19) hx hb hw ml_M tt_M to_M nd_M hown hK hP hD hS 0 rfl rfl 11 (by decide) (hw _ mw_484) (fun _ h9 => h9) rfl (by decide +kernel) rfl rfl (Nat.le_of_ble_eq_true rfl) dn_M_wayToEnd_2 (fun H locs hP hD hS => ?_)
  have hP : va_P (dC, dI) vwCl [(bd 0, .inr (5, [.ref (bd 1), .int (nI clk), .int pw, .int lf, .ref (bd 2), .int (nI fc), .int (nI sn), .int (nI ob), .ref (bd 3), .ref (bd 4), .ref (bd 5), .int 0, .ref (bd 6), .ref (bd 7), .ref (bd 8), .int (nI ef), .int (nI ec), .int (nI fu), .ref (bd 9)])), (bd 1, .inl (cI, 292, .inl f)), (bd 2, .inl (cI, 12, .inl fd)), (bd 3, .inl (cI, 13, .inl S)), (bd 4, .inl (cI, 13, .inl D)), (bd 5, .inl (cI, 13, .inl G)), (bd 6, .inl (cI, 8, .inl Y)), (bd 7, .inl (cI, 8, .inl Z)), (bd 8, .inl (cZ, 8, .inl X)), (bd 9, .inl (cI, 40, .inl g))] H := hP
  have hD : va_D A [(bd 0, .inr (5, [.ref (bd 1), .int (nI clk), .int pw, .int lf, .ref (bd 2), .int (nI fc), .int (nI sn), .int (nI ob), .ref (bd 3), .ref (bd 4), .ref (bd 5), .int 0, .ref (bd 6), .ref (bd 7), .ref (bd 8), .int (nI ef), .int (nI ec), .int (nI fu), .ref (bd 9)])), (bd 1, .inl (cI, 292, .inl f)), (bd 2, .inl (cI, 12, .inl fd)), (bd 3, .inl (cI, 13, .inl S)), (bd 4, .inl (cI, 13, .inl D)), (bd 5, .inl (cI, 13, .inl G)), (bd 6, .inl (cI, 8, .inl Y)), (bd 7, .inl (cI, 8, .inl Z)), (bd 8, .inl (cZ, 8, .inl X)), (bd 9, .inl (cI, 40, .inl g))] := hD
  refine lv_aload_n hx hb dn_M_wayToEnd_5 rfl (lv_at hl 0 rfl) ?_
  refine lv_iconst (v := 0) hx hb dn_M_wayToEnd_6 (by decide) ?_
  refine va_put (D := (dC, dI)) (ci := 5) (v := .int 0) (ty := .boolean) (C := rn_M) (T := tn_M) (N := 19) hx hb hw ml_M tt_M to_M nd_M hown hK hP hD hS 0 rfl rfl 17 (by decide) (hw _ mw_490) (fun _ h9 => h9) rfl (by decide +kernel) rfl rfl (Nat.le_of_ble_eq_true rfl) dn_M_wayToEnd_7 (fun H locs hP hD hS => ?_)
  have hP : va_P (dC, dI) vwCl [(bd 0, .inr (5, [.ref (bd 1), .int (nI clk), .int pw, .int lf, .ref (bd 2), .int (nI fc), .int (nI sn), .int (nI ob), .ref (bd 3), .ref (bd 4), .ref (bd 5), .int 0, .ref (bd 6), .ref (bd 7), .ref (bd 8), .int (nI ef), .int (nI ec), .int 0, .ref (bd 9)])), (bd 1, .inl (cI, 292, .inl f)), (bd 2, .inl (cI, 12, .inl fd)), (bd 3, .inl (cI, 13, .inl S)), (bd 4, .inl (cI, 13, .inl D)), (bd 5, .inl (cI, 13, .inl G)), (bd 6, .inl (cI, 8, .inl Y)), (bd 7, .inl (cI, 8, .inl Z)), (bd 8, .inl (cZ, 8, .inl X)), (bd 9, .inl (cI, 40, .inl g))] H := hP
  have hD : va_D A [(bd 0, .inr (5, [.ref (bd 1), .int (nI clk), .int pw, .int lf, .ref (bd 2), .int (nI fc), .int (nI sn), .int (nI ob), .ref (bd 3), .ref (bd 4), .ref (bd 5), .int 0, .ref (bd 6), .ref (bd 7), .ref (bd 8), .int (nI ef), .int (nI ec), .int 0, .ref (bd 9)])), (bd 1, .inl (cI, 292, .inl f)), (bd 2, .inl (cI, 12, .inl fd)), (bd 3, .inl (cI, 13, .inl S)), (bd 4, .inl (cI, 13, .inl D)), (bd 5, .inl (cI, 13, .inl G)), (bd 6, .inl (cI, 8, .inl Y)), (bd 7, .inl (cI, 8, .inl Z)), (bd 8, .inl (cZ, 8, .inl X)), (bd 9, .inl (cI, 40, .inl g))] := hD
  refine lv_iconst (v := 0) hx hb dn_M_wayToEnd_10 (by decide) ?_
  refine lv_istore_n (lv' := [(3, .int 0), (0, .ref (bd 0)), (1, .int (nI m)), (2, .int (nI n))]) hx hb dn_M_wayToEnd_11 rfl hl (by decide) rfl (fun ls hl => ?_)
  refine lv_iload_n hx hb dn_M_wayToEnd_12 rfl (lv_at hl 3 rfl) ?_
  refine lv_istore (lv' := [(4, .int (nI n)), (3, .int 0), (0, .ref (bd 0)), (1, .int (nI m)), (2, .int (nI n))]) hx hb dn_M_wayToEnd_13 hl (by decide) rfl (fun ls hl => ?_)
  have lp15 : ∀ (n15_ : Nat) (s : Nat) (X : Nat → Int32) (Y : Nat → Int32) (Z : Nat → Int32) (ls : Array Slot) (H : Heap) (locs : List Loc), 7 - s = n15_ → lv_has ls 6 [(0, .ref (bd 0)), (1, .int (nI m)), (2, .int (nI n)), (3, .int (nI ((ds_at (m - 1) n s).1))), (4, .int (nI ((ds_at (m - 1) n s).2)))] → va_P (dC, dI) vwCl [(bd 0, .inr (5, [.ref (bd 1), .int (nI clk), .int pw, .int lf, .ref (bd 2), .int (nI fc), .int (nI sn), .int (nI ob), .ref (bd 3), .ref (bd 4), .ref (bd 5), .int (nI s), .ref (bd 6), .ref (bd 7), .ref (bd 8), .int (nI ef), .int (nI ec), .int (nI (ds_b (ds_at (m - 1) n s).1)), .ref (bd 9)])), (bd 1, .inl (cI, 292, .inl f)), (bd 2, .inl (cI, 12, .inl fd)), (bd 3, .inl (cI, 13, .inl S)), (bd 4, .inl (cI, 13, .inl D)), (bd 5, .inl (cI, 13, .inl G)), (bd 6, .inl (cI, 8, .inl Y)), (bd 7, .inl (cI, 8, .inl Z)), (bd 8, .inl (cZ, 8, .inl X)), (bd 9, .inl (cI, 40, .inl g))] H → va_D A [(bd 0, .inr (5, [.ref (bd 1), .int (nI clk), .int pw, .int lf, .ref (bd 2), .int (nI fc), .int (nI sn), .int (nI ob), .ref (bd 3), .ref (bd 4), .ref (bd 5), .int (nI s), .ref (bd 6), .ref (bd 7), .ref (bd 8), .int (nI ef), .int (nI ec), .int (nI (ds_b (ds_at (m - 1) n s).1)), .ref (bd 9)])), (bd 1, .inl (cI, 292, .inl f)), (bd 2, .inl (cI, 12, .inl fd)), (bd 3, .inl (cI, 13, .inl S)), (bd 4, .inl (cI, 13, .inl D)), (bd 5, .inl (cI, 13, .inl G)), (bd 6, .inl (cI, 8, .inl Y)), (bd 7, .inl (cI, 8, .inl Z)), (bd 8, .inl (cZ, 8, .inl X)), (bd 9, .inl (cI, 40, .inl g))] → va_S A H0 H locs → (s ≤ 6) → (ds_run true (m - 1) n s) → (de_ar (m - 1) n s X Y Z) → W pp l ee (headSpec (gw yn_M_wayToEnd cn_M_wayToEnd 6 none) (rm_ 1 23)).room ss mm ar be me cd H locs 0 0 Q (F0 mm 15 ls []) := by
    intro n15_
    induction n15_ using Nat.strongRecOn with
    | ind n15_ ih15 =>
      intro s X Y Z ls H locs hn15_ hl hP hD hS hs hrun har
      obtain ⟨d1, d2, d3, -⟩ := ds_iv (show m - 1 < n by omega) hn s hrun
      refine lv_iload_n hx hb dn_M_wayToEnd_15 rfl (lv_at hl 3 rfl) ?_
      refine lv_iload hx hb dn_M_wayToEnd_16 (lv_at hl 4 rfl) ?_
      refine gr_addN hx hb ((ds_at (m - 1) n s).1) ((ds_at (m - 1) n s).2) rfl rfl dn_M_wayToEnd_18 ?_
      refine lv_iload_n hx hb dn_M_wayToEnd_19 rfl (lv_at hl 1 rfl) ?_
      refine gr_ceq (tgt := 87) hx hb (((ds_at (m - 1) n s).1) + ((ds_at (m - 1) n s).2)) m rfl rfl (by omega) (by omega) dn_M_wayToEnd_20 (by decide) (fun h20 => ?_) (fun h20 => ?_)
      · skip
        refine lv_aload_n hx hb dn_M_wayToEnd_87 rfl (lv_at hl 0 rfl) ?_
        refine lv_iload_n hx hb dn_M_wayToEnd_88 rfl (lv_at hl 3 rfl) ?_
        refine va_put (D := (dC, dI)) (ci := 5) (v := .int (nI ((ds_at (m - 1) n s).1))) (ty := .int) (C := rn_M) (T := tn_M) (N := 19) hx hb hw ml_M tt_M to_M nd_M hown hK hP hD hS 0 rfl rfl 15 (by decide) (hw _ mw_488) (fun _ h9 => h9) rfl (by decide +kernel) rfl rfl (Nat.le_of_ble_eq_true rfl) dn_M_wayToEnd_89 (fun H locs hP hD hS => ?_)
        have hP : va_P (dC, dI) vwCl [(bd 0, .inr (5, [.ref (bd 1), .int (nI clk), .int pw, .int lf, .ref (bd 2), .int (nI fc), .int (nI sn), .int (nI ob), .ref (bd 3), .ref (bd 4), .ref (bd 5), .int (nI s), .ref (bd 6), .ref (bd 7), .ref (bd 8), .int (nI ((ds_at (m - 1) n s).1)), .int (nI ec), .int (nI (ds_b (ds_at (m - 1) n s).1)), .ref (bd 9)])), (bd 1, .inl (cI, 292, .inl f)), (bd 2, .inl (cI, 12, .inl fd)), (bd 3, .inl (cI, 13, .inl S)), (bd 4, .inl (cI, 13, .inl D)), (bd 5, .inl (cI, 13, .inl G)), (bd 6, .inl (cI, 8, .inl Y)), (bd 7, .inl (cI, 8, .inl Z)), (bd 8, .inl (cZ, 8, .inl X)), (bd 9, .inl (cI, 40, .inl g))] H := hP
        have hD : va_D A [(bd 0, .inr (5, [.ref (bd 1), .int (nI clk), .int pw, .int lf, .ref (bd 2), .int (nI fc), .int (nI sn), .int (nI ob), .ref (bd 3), .ref (bd 4), .ref (bd 5), .int (nI s), .ref (bd 6), .ref (bd 7), .ref (bd 8), .int (nI ((ds_at (m - 1) n s).1)), .int (nI ec), .int (nI (ds_b (ds_at (m - 1) n s).1)), .ref (bd 9)])), (bd 1, .inl (cI, 292, .inl f)), (bd 2, .inl (cI, 12, .inl fd)), (bd 3, .inl (cI, 13, .inl S)), (bd 4, .inl (cI, 13, .inl D)), (bd 5, .inl (cI, 13, .inl G)), (bd 6, .inl (cI, 8, .inl Y)), (bd 7, .inl (cI, 8, .inl Z)), (bd 8, .inl (cZ, 8, .inl X)), (bd 9, .inl (cI, 40, .inl g))] := hD
        refine lv_aload_n hx hb dn_M_wayToEnd_92 rfl (lv_at hl 0 rfl) ?_
        refine lv_iload hx hb dn_M_wayToEnd_93 (lv_at hl 4 rfl) ?_
        refine va_put (D := (dC, dI)) (ci := 5) (v := .int (nI ((ds_at (m - 1) n s).2))) (ty := .int) (C := rn_M) (T := tn_M) (N := 19) hx hb hw ml_M tt_M to_M nd_M hown hK hP hD hS 0 rfl rfl 16 (by decide) (hw _ mw_489) (fun _ h9 => h9) rfl (by decide +kernel) rfl rfl (Nat.le_of_ble_eq_true rfl) dn_M_wayToEnd_95 (fun H locs hP hD hS => ?_)
        have hP : va_P (dC, dI) vwCl [(bd 0, .inr (5, [.ref (bd 1), .int (nI clk), .int pw, .int lf, .ref (bd 2), .int (nI fc), .int (nI sn), .int (nI ob), .ref (bd 3), .ref (bd 4), .ref (bd 5), .int (nI s), .ref (bd 6), .ref (bd 7), .ref (bd 8), .int (nI ((ds_at (m - 1) n s).1)), .int (nI ((ds_at (m - 1) n s).2)), .int (nI (ds_b (ds_at (m - 1) n s).1)), .ref (bd 9)])), (bd 1, .inl (cI, 292, .inl f)), (bd 2, .inl (cI, 12, .inl fd)), (bd 3, .inl (cI, 13, .inl S)), (bd 4, .inl (cI, 13, .inl D)), (bd 5, .inl (cI, 13, .inl G)), (bd 6, .inl (cI, 8, .inl Y)), (bd 7, .inl (cI, 8, .inl Z)), (bd 8, .inl (cZ, 8, .inl X)), (bd 9, .inl (cI, 40, .inl g))] H := hP
        have hD : va_D A [(bd 0, .inr (5, [.ref (bd 1), .int (nI clk), .int pw, .int lf, .ref (bd 2), .int (nI fc), .int (nI sn), .int (nI ob), .ref (bd 3), .ref (bd 4), .ref (bd 5), .int (nI s), .ref (bd 6), .ref (bd 7), .ref (bd 8), .int (nI ((ds_at (m - 1) n s).1)), .int (nI ((ds_at (m - 1) n s).2)), .int (nI (ds_b (ds_at (m - 1) n s).1)), .ref (bd 9)])), (bd 1, .inl (cI, 292, .inl f)), (bd 2, .inl (cI, 12, .inl fd)), (bd 3, .inl (cI, 13, .inl S)), (bd 4, .inl (cI, 13, .inl D)), (bd 5, .inl (cI, 13, .inl G)), (bd 6, .inl (cI, 8, .inl Y)), (bd 7, .inl (cI, 8, .inl Z)), (bd 8, .inl (cZ, 8, .inl X)), (bd 9, .inl (cI, 40, .inl g))] := hD
        exact hret (X, Y, Z, s) _ _ _ _ ⟨⟨hrun, (Or.inr ⟨rfl, by show (m - 1) + 1 = (ds_at (m - 1) n s).1 + (ds_at (m - 1) n s).2; omega⟩)⟩, har⟩ hP hD hS dn_M_wayToEnd_98
      · skip
        have hne : ¬ ds_end true (m - 1) n s := fun q => q.elim (fun q => by omega) (fun q => by first | exact absurd q.1 (by decide) | omega)
        have hrun2 : ds_run true (m - 1) n (s + 1) := fun i hi => by rcases Nat.lt_or_ge i s with q | q; exact hrun i q; exact (show i = s by omega) ▸ hne
        have hs6 := ds_le6 (show m - 1 < n by omega) hn hrun2
        obtain ⟨hb1, hb2, hb3⟩ := ds_hb_in (c := (ds_at (m - 1) n s).2) (by omega) (by omega)
        refine lv_iload hx hb dn_M_wayToEnd_23 (lv_at hl 4 rfl) ?_
        refine gc_s0 (v := (nI (ds_hb ((ds_at (m - 1) n s).2)))) (As := [.int (nI ((ds_at (m - 1) n s).2))]) (rest := []) ⟨hx, hb, hml, hown, hw⟩ (c_M_half l dC dI cI cZ ((ds_at (m - 1) n s).2) (by omega) (by omega)) (gw_cS 1 hw mw_628 mw_629 mw_6 mw_630 hd_M_half ⟨Nat.le_of_ble_eq_true rfl, Nat.le_of_ble_eq_true rfl⟩) hK hP hD hS hA rfl hl.1 rfl (Nat.le_of_ble_eq_true rfl) dn_M_wayToEnd_25 ⟨Nat.zero_le _, Nat.zero_le _⟩ (fun H locs hP hD hS => ?_)
        refine lv_istore (lv' := [(5, .int (nI (ds_hb ((ds_at (m - 1) n s).2)))), (0, .ref (bd 0)), (1, .int (nI m)), (2, .int (nI n)), (3, .int (nI ((ds_at (m - 1) n s).1))), (4, .int (nI ((ds_at (m - 1) n s).2)))]) hx hb dn_M_wayToEnd_28 hl (by decide) rfl (fun ls hl => ?_)
        refine lv_iload_n hx hb dn_M_wayToEnd_30 rfl (lv_at hl 2 rfl) ?_
        refine lv_iload_n hx hb dn_M_wayToEnd_31 rfl (lv_at hl 4 rfl) ?_
        refine lv_iload hx hb dn_M_wayToEnd_32 (lv_at hl 0 rfl) ?_
        refine gr_addN hx hb ((ds_at (m - 1) n s).1) (ds_hb ((ds_at (m - 1) n s).2)) rfl rfl dn_M_wayToEnd_34 ?_
        refine gr_cgt (tgt := 59) hx hb m (((ds_at (m - 1) n s).1) + (ds_hb ((ds_at (m - 1) n s).2))) rfl rfl (by omega) (by omega) dn_M_wayToEnd_35 (by decide) (fun h35 => ?_) (fun h35 => ?_)
        · skip
          refine lv_aload_n hx hb dn_M_wayToEnd_59 rfl (lv_at hl 1 rfl) ?_
          refine lv_iload_n hx hb dn_M_wayToEnd_60 rfl (lv_at hl 4 rfl) ?_
          refine lv_iload hx hb dn_M_wayToEnd_61 (lv_at hl 0 rfl) ?_
          refine lv_iconst (v := 1) hx hb dn_M_wayToEnd_63 (by decide) ?_
          refine gc_vv (pre := []) (wc := [(bd 0, .inr (5, [.ref (bd 1), .int (nI clk), .int pw, .int lf, .ref (bd 2), .int (nI fc), .int (nI sn), .int (nI ob), .ref (bd 3), .ref (bd 4), .ref (bd 5), .int (nI s), .ref (bd 6), .ref (bd 7), .ref (bd 8), .int (nI ef), .int (nI ec), .int (nI (ds_b (ds_at (m - 1) n s).1)), .ref (bd 9)])), (bd 1, .inl (cI, 292, .inl f)), (bd 2, .inl (cI, 12, .inl fd)), (bd 3, .inl (cI, 13, .inl S)), (bd 4, .inl (cI, 13, .inl D)), (bd 5, .inl (cI, 13, .inl G)), (bd 6, .inl (cI, 8, .inl Y)), (bd 7, .inl (cI, 8, .inl Z)), (bd 8, .inl (cZ, 8, .inl X)), (bd 9, .inl (cI, 40, .inl g))]) (po := []) (As := [.int (nI ((ds_at (m - 1) n s).1)), .int (nI (ds_hb ((ds_at (m - 1) n s).2))), .int 1]) (rest := []) ⟨hx, hb, hml, hown, hw⟩ (c_M_step1 l dC dI cI cZ bd clk pw lf f fd fc sn ob S D G s Y Z X ef ec (ds_b (ds_at (m - 1) n s).1) g ((ds_at (m - 1) n s).1) (ds_hb ((ds_at (m - 1) n s).2)) (by omega)) (gw_cV 3 hw mw_631 mw_633 mv_32 mw_6 mw_634 hd_M_step ⟨Nat.le_of_ble_eq_true rfl, Nat.le_of_ble_eq_true rfl⟩) (ci := 5) rfl rfl rfl hK hP hD hS hA rfl hl.1 rfl (Nat.le_of_ble_eq_true rfl) dn_M_wayToEnd_64 ⟨Nat.zero_le _, Nat.zero_le _⟩ (fun u64 H locs hc64 hP hD hS => ?_)
          have hP : va_P (dC, dI) vwCl [(bd 0, .inr (5, [.ref (bd 1), .int (nI clk), .int pw, .int lf, .ref (bd 2), .int (nI fc), .int (nI sn), .int (nI ob), .ref (bd 3), .ref (bd 4), .ref (bd 5), .int (nI (s + 1)), .ref (bd 6), .ref (bd 7), .ref (bd 8), .int (nI ef), .int (nI ec), .int (nI (ds_b (ds_at (m - 1) n s).1)), .ref (bd 9)])), (bd 1, .inl (cI, 292, .inl f)), (bd 2, .inl (cI, 12, .inl fd)), (bd 3, .inl (cI, 13, .inl S)), (bd 4, .inl (cI, 13, .inl D)), (bd 5, .inl (cI, 13, .inl G)), (bd 6, .inl (cI, 8, .inl (upd Y s (nI ((ds_at (m - 1) n s).1))))), (bd 7, .inl (cI, 8, .inl (upd Z s (nI (ds_hb ((ds_at (m - 1) n s).2)))))), (bd 8, .inl (cZ, 8, .inl (upd X s 1))), (bd 9, .inl (cI, 40, .inl g))] H := hP
          have hD : va_D A [(bd 0, .inr (5, [.ref (bd 1), .int (nI clk), .int pw, .int lf, .ref (bd 2), .int (nI fc), .int (nI sn), .int (nI ob), .ref (bd 3), .ref (bd 4), .ref (bd 5), .int (nI (s + 1)), .ref (bd 6), .ref (bd 7), .ref (bd 8), .int (nI ef), .int (nI ec), .int (nI (ds_b (ds_at (m - 1) n s).1)), .ref (bd 9)])), (bd 1, .inl (cI, 292, .inl f)), (bd 2, .inl (cI, 12, .inl fd)), (bd 3, .inl (cI, 13, .inl S)), (bd 4, .inl (cI, 13, .inl D)), (bd 5, .inl (cI, 13, .inl G)), (bd 6, .inl (cI, 8, .inl (upd Y s (nI ((ds_at (m - 1) n s).1))))), (bd 7, .inl (cI, 8, .inl (upd Z s (nI (ds_hb ((ds_at (m - 1) n s).2)))))), (bd 8, .inl (cZ, 8, .inl (upd X s 1))), (bd 9, .inl (cI, 40, .inl g))] := hD
          refine lv_iload_n hx hb dn_M_wayToEnd_67 rfl (lv_at hl 4 rfl) ?_
          refine lv_iload hx hb dn_M_wayToEnd_68 (lv_at hl 0 rfl) ?_
          refine gr_addN hx hb ((ds_at (m - 1) n s).1) (ds_hb ((ds_at (m - 1) n s).2)) rfl rfl dn_M_wayToEnd_70 ?_
          refine lv_istore_n (lv' := [(3, .int (nI (((ds_at (m - 1) n s).1) + (ds_hb ((ds_at (m - 1) n s).2))))), (5, .int (nI (ds_hb ((ds_at (m - 1) n s).2)))), (0, .ref (bd 0)), (1, .int (nI m)), (2, .int (nI n)), (4, .int (nI ((ds_at (m - 1) n s).2)))]) hx hb dn_M_wayToEnd_71 rfl hl (by decide) rfl (fun ls hl => ?_)
          refine lv_iload hx hb dn_M_wayToEnd_72 (lv_at hl 5 rfl) ?_
          refine lv_iload hx hb dn_M_wayToEnd_74 (lv_at hl 1 rfl) ?_
          refine gr_subN hx hb ((ds_at (m - 1) n s).2) (ds_hb ((ds_at (m - 1) n s).2)) rfl rfl (by omega) dn_M_wayToEnd_76 ?_
          refine lv_istore (lv' := [(4, .int (nI (((ds_at (m - 1) n s).2) - (ds_hb ((ds_at (m - 1) n s).2))))), (3, .int (nI (((ds_at (m - 1) n s).1) + (ds_hb ((ds_at (m - 1) n s).2))))), (5, .int (nI (ds_hb ((ds_at (m - 1) n s).2)))), (0, .ref (bd 0)), (1, .int (nI m)), (2, .int (nI n))]) hx hb dn_M_wayToEnd_77 hl (by decide) rfl (fun ls hl => ?_)
          refine lv_aload_n hx hb dn_M_wayToEnd_79 rfl (lv_at hl 3 rfl) ?_
          refine lv_iconst (v := 1) hx hb dn_M_wayToEnd_80 (by decide) ?_
          refine va_put (D := (dC, dI)) (ci := 5) (v := .int 1) (ty := .boolean) (C := rn_M) (T := tn_M) (N := 19) hx hb hw ml_M tt_M to_M nd_M hown hK hP hD hS 0 rfl rfl 17 (by decide) (hw _ mw_490) (fun _ h9 => h9) rfl (by decide +kernel) rfl rfl (Nat.le_of_ble_eq_true rfl) dn_M_wayToEnd_81 (fun H locs hP hD hS => ?_)
          have hP : va_P (dC, dI) vwCl [(bd 0, .inr (5, [.ref (bd 1), .int (nI clk), .int pw, .int lf, .ref (bd 2), .int (nI fc), .int (nI sn), .int (nI ob), .ref (bd 3), .ref (bd 4), .ref (bd 5), .int (nI (s + 1)), .ref (bd 6), .ref (bd 7), .ref (bd 8), .int (nI ef), .int (nI ec), .int 1, .ref (bd 9)])), (bd 1, .inl (cI, 292, .inl f)), (bd 2, .inl (cI, 12, .inl fd)), (bd 3, .inl (cI, 13, .inl S)), (bd 4, .inl (cI, 13, .inl D)), (bd 5, .inl (cI, 13, .inl G)), (bd 6, .inl (cI, 8, .inl (upd Y s (nI ((ds_at (m - 1) n s).1))))), (bd 7, .inl (cI, 8, .inl (upd Z s (nI (ds_hb ((ds_at (m - 1) n s).2)))))), (bd 8, .inl (cZ, 8, .inl (upd X s 1))), (bd 9, .inl (cI, 40, .inl g))] H := hP
          have hD : va_D A [(bd 0, .inr (5, [.ref (bd 1), .int (nI clk), .int pw, .int lf, .ref (bd 2), .int (nI fc), .int (nI sn), .int (nI ob), .ref (bd 3), .ref (bd 4), .ref (bd 5), .int (nI (s + 1)), .ref (bd 6), .ref (bd 7), .ref (bd 8), .int (nI ef), .int (nI ec), .int 1, .ref (bd 9)])), (bd 1, .inl (cI, 292, .inl f)), (bd 2, .inl (cI, 12, .inl fd)), (bd 3, .inl (cI, 13, .inl S)), (bd 4, .inl (cI, 13, .inl D)), (bd 5, .inl (cI, 13, .inl G)), (bd 6, .inl (cI, 8, .inl (upd Y s (nI ((ds_at (m - 1) n s).1))))), (bd 7, .inl (cI, 8, .inl (upd Z s (nI (ds_hb ((ds_at (m - 1) n s).2)))))), (bd 8, .inl (cZ, 8, .inl (upd X s 1))), (bd 9, .inl (cI, 40, .inl g))] := hD
          refine lv_goto (tgt := 15) hx hb dn_M_wayToEnd_84 (by decide) ?_
          have hx_s : ds_at (m - 1) n (s + 1) = _ := ds_rx (show (ds_at (m - 1) n s).1 + ds_hb (ds_at (m - 1) n s).2 ≤ (m - 1) by omega)
          have hr_s : ds_rt (m - 1) n s = _ := ds_rr (show (ds_at (m - 1) n s).1 + ds_hb (ds_at (m - 1) n s).2 ≤ (m - 1) by omega)
          have hf_s : ds_sf (m - 1) n s = _ := ds_rf (show (ds_at (m - 1) n s).1 + ds_hb (ds_at (m - 1) n s).2 ≤ (m - 1) by omega)
          have hc_s : ds_sc (m - 1) n s = _ := ds_rc (show (ds_at (m - 1) n s).1 + ds_hb (ds_at (m - 1) n s).2 ≤ (m - 1) by omega)
          have hb_s : ds_b (ds_at (m - 1) n (s + 1)).1 = 1 := by rw [hx_s]; unfold ds_b; rw [if_neg (by show ¬ (ds_at (m - 1) n s).1 + ds_hb (ds_at (m - 1) n s).2 = 0; omega)]
          exact ih15 (7 - (s + 1)) (by omega) (s + 1) (upd X s (ds_rt (m - 1) n s)) (upd Y s (nI (ds_sf (m - 1) n s))) (upd Z s (nI (ds_sc (m - 1) n s))) ls H locs rfl (by rw [hx_s]; exact lv_sub hl [3, 4, 5, 1, 0] rfl) (by rw [hr_s, hf_s, hc_s, hb_s]; exact hP) (by rw [hr_s, hf_s, hc_s, hb_s]; exact hD) hS (by omega) hrun2 (de_ar_s har)
        · skip
          refine lv_aload_n hx hb dn_M_wayToEnd_38 rfl (lv_at hl 1 rfl) ?_
          refine lv_iload_n hx hb dn_M_wayToEnd_39 rfl (lv_at hl 4 rfl) ?_
          refine lv_iload hx hb dn_M_wayToEnd_40 (lv_at hl 0 rfl) ?_
          refine gr_addN hx hb ((ds_at (m - 1) n s).1) (ds_hb ((ds_at (m - 1) n s).2)) rfl rfl dn_M_wayToEnd_42 ?_
          refine lv_iload hx hb dn_M_wayToEnd_43 (lv_at hl 5 rfl) ?_
          refine lv_iload hx hb dn_M_wayToEnd_45 (lv_at hl 0 rfl) ?_
          refine gr_subN hx hb ((ds_at (m - 1) n s).2) (ds_hb ((ds_at (m - 1) n s).2)) rfl rfl (by omega) dn_M_wayToEnd_47 ?_
          refine lv_iconst (v := 0) hx hb dn_M_wayToEnd_48 (by decide) ?_
          refine gc_vv (pre := []) (wc := [(bd 0, .inr (5, [.ref (bd 1), .int (nI clk), .int pw, .int lf, .ref (bd 2), .int (nI fc), .int (nI sn), .int (nI ob), .ref (bd 3), .ref (bd 4), .ref (bd 5), .int (nI s), .ref (bd 6), .ref (bd 7), .ref (bd 8), .int (nI ef), .int (nI ec), .int (nI (ds_b (ds_at (m - 1) n s).1)), .ref (bd 9)])), (bd 1, .inl (cI, 292, .inl f)), (bd 2, .inl (cI, 12, .inl fd)), (bd 3, .inl (cI, 13, .inl S)), (bd 4, .inl (cI, 13, .inl D)), (bd 5, .inl (cI, 13, .inl G)), (bd 6, .inl (cI, 8, .inl Y)), (bd 7, .inl (cI, 8, .inl Z)), (bd 8, .inl (cZ, 8, .inl X)), (bd 9, .inl (cI, 40, .inl g))]) (po := []) (As := [.int (nI (((ds_at (m - 1) n s).1) + (ds_hb ((ds_at (m - 1) n s).2)))), .int (nI (((ds_at (m - 1) n s).2) - (ds_hb ((ds_at (m - 1) n s).2)))), .int 0]) (rest := []) ⟨hx, hb, hml, hown, hw⟩ (c_M_step0 l dC dI cI cZ bd clk pw lf f fd fc sn ob S D G s Y Z X ef ec (ds_b (ds_at (m - 1) n s).1) g (((ds_at (m - 1) n s).1) + (ds_hb ((ds_at (m - 1) n s).2))) (((ds_at (m - 1) n s).2) - (ds_hb ((ds_at (m - 1) n s).2))) (by omega)) (gw_cV 3 hw mw_631 mw_633 mv_32 mw_6 mw_634 hd_M_step ⟨Nat.le_of_ble_eq_true rfl, Nat.le_of_ble_eq_true rfl⟩) (ci := 5) rfl rfl rfl hK hP hD hS hA rfl hl.1 rfl (Nat.le_of_ble_eq_true rfl) dn_M_wayToEnd_49 ⟨Nat.zero_le _, Nat.zero_le _⟩ (fun u49 H locs hc49 hP hD hS => ?_)
          have hP : va_P (dC, dI) vwCl [(bd 0, .inr (5, [.ref (bd 1), .int (nI clk), .int pw, .int lf, .ref (bd 2), .int (nI fc), .int (nI sn), .int (nI ob), .ref (bd 3), .ref (bd 4), .ref (bd 5), .int (nI (s + 1)), .ref (bd 6), .ref (bd 7), .ref (bd 8), .int (nI ef), .int (nI ec), .int (nI (ds_b (ds_at (m - 1) n s).1)), .ref (bd 9)])), (bd 1, .inl (cI, 292, .inl f)), (bd 2, .inl (cI, 12, .inl fd)), (bd 3, .inl (cI, 13, .inl S)), (bd 4, .inl (cI, 13, .inl D)), (bd 5, .inl (cI, 13, .inl G)), (bd 6, .inl (cI, 8, .inl (upd Y s (nI (((ds_at (m - 1) n s).1) + (ds_hb ((ds_at (m - 1) n s).2))))))), (bd 7, .inl (cI, 8, .inl (upd Z s (nI (((ds_at (m - 1) n s).2) - (ds_hb ((ds_at (m - 1) n s).2))))))), (bd 8, .inl (cZ, 8, .inl (upd X s 0))), (bd 9, .inl (cI, 40, .inl g))] H := hP
          have hD : va_D A [(bd 0, .inr (5, [.ref (bd 1), .int (nI clk), .int pw, .int lf, .ref (bd 2), .int (nI fc), .int (nI sn), .int (nI ob), .ref (bd 3), .ref (bd 4), .ref (bd 5), .int (nI (s + 1)), .ref (bd 6), .ref (bd 7), .ref (bd 8), .int (nI ef), .int (nI ec), .int (nI (ds_b (ds_at (m - 1) n s).1)), .ref (bd 9)])), (bd 1, .inl (cI, 292, .inl f)), (bd 2, .inl (cI, 12, .inl fd)), (bd 3, .inl (cI, 13, .inl S)), (bd 4, .inl (cI, 13, .inl D)), (bd 5, .inl (cI, 13, .inl G)), (bd 6, .inl (cI, 8, .inl (upd Y s (nI (((ds_at (m - 1) n s).1) + (ds_hb ((ds_at (m - 1) n s).2))))))), (bd 7, .inl (cI, 8, .inl (upd Z s (nI (((ds_at (m - 1) n s).2) - (ds_hb ((ds_at (m - 1) n s).2))))))), (bd 8, .inl (cZ, 8, .inl (upd X s 0))), (bd 9, .inl (cI, 40, .inl g))] := hD
          refine lv_iload hx hb dn_M_wayToEnd_52 (lv_at hl 0 rfl) ?_
          refine lv_istore (lv' := [(4, .int (nI (ds_hb ((ds_at (m - 1) n s).2)))), (5, .int (nI (ds_hb ((ds_at (m - 1) n s).2)))), (0, .ref (bd 0)), (1, .int (nI m)), (2, .int (nI n)), (3, .int (nI ((ds_at (m - 1) n s).1)))]) hx hb dn_M_wayToEnd_54 hl (by decide) rfl (fun ls hl => ?_)
          refine lv_goto (tgt := 84) hx hb dn_M_wayToEnd_56 (by decide) ?_
          refine lv_goto (tgt := 15) hx hb dn_M_wayToEnd_84 (by decide) ?_
          have hx_s : ds_at (m - 1) n (s + 1) = _ := ds_lx (show (m - 1) < (ds_at (m - 1) n s).1 + ds_hb (ds_at (m - 1) n s).2 by omega)
          have hr_s : ds_rt (m - 1) n s = _ := ds_lr (show (m - 1) < (ds_at (m - 1) n s).1 + ds_hb (ds_at (m - 1) n s).2 by omega)
          have hf_s : ds_sf (m - 1) n s = _ := ds_lf (show (m - 1) < (ds_at (m - 1) n s).1 + ds_hb (ds_at (m - 1) n s).2 by omega)
          have hc_s : ds_sc (m - 1) n s = _ := ds_lc (show (m - 1) < (ds_at (m - 1) n s).1 + ds_hb (ds_at (m - 1) n s).2 by omega)
          exact ih15 (7 - (s + 1)) (by omega) (s + 1) (upd X s (ds_rt (m - 1) n s)) (upd Y s (nI (ds_sf (m - 1) n s))) (upd Z s (nI (ds_sc (m - 1) n s))) ls H locs rfl (by rw [hx_s]; exact lv_sub hl [2, 3, 4, 5, 0] rfl) (by rw [hr_s, hf_s, hc_s, hx_s]; exact hP) (by rw [hr_s, hf_s, hc_s, hx_s]; exact hD) hS (by omega) hrun2 (de_ar_s har)
  exact lp15 _ 0 X Y Z ls H locs rfl (lv_sub hl [2, 3, 4, 1, 0] rfl) hP hD hS (Nat.zero_le _) (fun i h => absurd h (Nat.not_lt_zero i)) (⟨fun i h => absurd h (Nat.not_lt_zero i), fun i h => absurd h (Nat.not_lt_zero i), fun i h => absurd h (Nat.not_lt_zero i)⟩)

set_option maxRecDepth 100000 in
set_option maxHeartbeats 4000000 in
theorem c_M_digest (l : Launch) (dC : Nat → ClassId) (dI : Nat → Nat → Nat) (cI cZ : ClassId) (bd : Nat → Nat) (clk : Nat) (pw lf : Int32) (f fd : Nat → Int32) (fc sn ob : Nat) (S D G : Nat → Int32) (st : Nat) (Y Z X : Nat → Int32) (b : Nat) (g : Nat → Int32) (e : Bool) (t n : Nat) (hs_ : ds_S e t n = st) (hB_ : ds_B e t n = b) (hst : st ≤ 6) (hb1 : b ≤ 1) (har : de_ar t n st X Y Z) (hin_ : ∀ k, 1 ≤ du_c t n st b k ∧ du_f t n st b k + du_c t n st b k ≤ 40) (k : Int32) : gc_L l yn_M_digest (gw yn_M_digest cn_M_digest 4 (some .long)) (rm_ 3 70) (dC, dI) vwCl (gT cI cZ) [.ref (bd 0), .int k] [(bd 0, .inr (5, [.ref (bd 1), .int (nI clk), .int pw, .int lf, .ref (bd 2), .int (nI fc), .int (nI sn), .int (nI ob), .ref (bd 3), .ref (bd 4), .ref (bd 5), .int (nI st), .ref (bd 6), .ref (bd 7), .ref (bd 8), .int (nI ((ds_at t n st).1)), .int (nI ((ds_at t n st).2)), .int (nI b), .ref (bd 9)])), (bd 1, .inl (cI, 292, .inl f)), (bd 2, .inl (cI, 12, .inl fd)), (bd 3, .inl (cI, 13, .inl S)), (bd 4, .inl (cI, 13, .inl D)), (bd 5, .inl (cI, 13, .inl G)), (bd 6, .inl (cI, 8, .inl Y)), (bd 7, .inl (cI, 8, .inl Z)), (bd 8, .inl (cZ, 8, .inl X)), (bd 9, .inl (cI, 40, .inl g))] (fun r (_ : Unit) => r = an_dg e f g t n k) (fun _ => [(bd 0, .inr (5, [.ref (bd 1), .int (nI clk), .int pw, .int lf, .ref (bd 2), .int (nI fc), .int (nI sn), .int (nI ob), .ref (bd 3), .ref (bd 4), .ref (bd 5), .int (nI st), .ref (bd 6), .ref (bd 7), .ref (bd 8), .int (nI ((ds_at t n st).1)), .int (nI ((ds_at t n st).2)), .int (nI b), .ref (bd 9)])), (bd 1, .inl (cI, 292, .inl f)), (bd 2, .inl (cI, 12, .inl fd)), (bd 3, .inl (cI, 13, .inl S)), (bd 4, .inl (cI, 13, .inl D)), (bd 5, .inl (cI, 13, .inl G)), (bd 6, .inl (cI, 8, .inl Y)), (bd 7, .inl (cI, 8, .inl Z)), (bd 8, .inl (cZ, 8, .inl X)), (bd 9, .inl (cI, 40, .inl (nx_dg e f g t n k)))]) := by
  refine gc_L_of (cc := cn_M_digest) (maxL := 4) (by decide) rfl (Nat.le_of_ble_eq_true rfl) ?_
  intro pp ee ss mm ar be me cd A Q ls H0 H locs hx hb hml hown hts hK hP hD hS hA hl hret
  have hw : ∀ w ∈ gw_T, w.before ar ss = true := fun w h => hts w (List.mem_cons_of_mem _ h)
  have hl : lv_has ls 4 [(0, .ref (bd 0)), (1, .int k)] := hl
  refine lv_aload_n hx hb dn_M_digest_0 rfl (lv_at hl 0 rfl) ?_
  refine va_get (D := (dC, dI)) (ci := 5) (v := .int (nI b)) (C := rn_M) (T := tn_M) (N := 19) hx hb hw ml_M hown hK hP 0 rfl rfl 17 (by decide) (hw _ mw_490) (fun _ h9 => h9) rfl dn_M_digest_1 ?_
  refine gr_zeq (tgt := 11) hx hb b rfl (by omega) dn_M_digest_4 (by decide) (fun h4 => ?_) (fun h4 => ?_)
  · skip
    obtain rfl : 0 = b := by omega
    refine lv_iconst (v := 0) hx hb dn_M_digest_11 (by decide) ?_
    refine lv_istore_n (lv' := [(2, .int 0), (0, .ref (bd 0)), (1, .int k)]) hx hb dn_M_digest_12 rfl hl (by decide) rfl (fun ls hl => ?_)
    refine lv_iload_n hx hb dn_M_digest_13 rfl (lv_at hl 2 rfl) ?_
    refine lv_if_lt (tgt := 27) hx hb dn_M_digest_14 (by decide) (fun h14 => ?_) (fun h14 => ?_)
    · skip
      refine lv_ldc2 (v := 1099511627776) hx hb hown (hw _ mw_600) dn_M_digest_27 ?_
      have hb_ : k < 0 ∨ nI (st + 0) ≤ k := by first | exact Or.inl h14 | exact Or.inr (Int32.not_lt.mp h24)
      have hP : va_P (dC, dI) vwCl [(bd 0, .inr (5, [.ref (bd 1), .int (nI clk), .int pw, .int lf, .ref (bd 2), .int (nI fc), .int (nI sn), .int (nI ob), .ref (bd 3), .ref (bd 4), .ref (bd 5), .int (nI st), .ref (bd 6), .ref (bd 7), .ref (bd 8), .int (nI ((ds_at t n st).1)), .int (nI ((ds_at t n st).2)), .int 0, .ref (bd 9)])), (bd 1, .inl (cI, 292, .inl f)), (bd 2, .inl (cI, 12, .inl fd)), (bd 3, .inl (cI, 13, .inl S)), (bd 4, .inl (cI, 13, .inl D)), (bd 5, .inl (cI, 13, .inl G)), (bd 6, .inl (cI, 8, .inl Y)), (bd 7, .inl (cI, 8, .inl Z)), (bd 8, .inl (cZ, 8, .inl X)), (bd 9, .inl (cI, 40, .inl (nx_dg e f g t n k)))] H := by rw [← (dg_no (f := f) (g := g) hs_ hB_ hb_).2]; exact hP
      have hD : va_D A [(bd 0, .inr (5, [.ref (bd 1), .int (nI clk), .int pw, .int lf, .ref (bd 2), .int (nI fc), .int (nI sn), .int (nI ob), .ref (bd 3), .ref (bd 4), .ref (bd 5), .int (nI st), .ref (bd 6), .ref (bd 7), .ref (bd 8), .int (nI ((ds_at t n st).1)), .int (nI ((ds_at t n st).2)), .int 0, .ref (bd 9)])), (bd 1, .inl (cI, 292, .inl f)), (bd 2, .inl (cI, 12, .inl fd)), (bd 3, .inl (cI, 13, .inl S)), (bd 4, .inl (cI, 13, .inl D)), (bd 5, .inl (cI, 13, .inl G)), (bd 6, .inl (cI, 8, .inl Y)), (bd 7, .inl (cI, 8, .inl Z)), (bd 8, .inl (cZ, 8, .inl X)), (bd 9, .inl (cI, 40, .inl (nx_dg e f g t n k)))] := by rw [← (dg_no (f := f) (g := g) hs_ hB_ hb_).2]; exact hD
      exact hret 1099511627776 () _ _ _ _ (dg_no (f := f) (g := g) hs_ hB_ hb_).1 hP hD hS dn_M_digest_30
    · skip
      refine lv_iload_n hx hb dn_M_digest_17 rfl (lv_at hl 2 rfl) ?_
      refine lv_iload_n hx hb dn_M_digest_18 rfl (lv_at hl 0 rfl) ?_
      refine lv_aload_n hx hb dn_M_digest_19 rfl (lv_at hl 1 rfl) ?_
      refine va_get (D := (dC, dI)) (ci := 5) (v := .int (nI st)) (C := rn_M) (T := tn_M) (N := 19) hx hb hw ml_M hown hK hP 0 rfl rfl 11 (by decide) (hw _ mw_484) (fun _ h9 => h9) rfl dn_M_digest_20 ?_
      refine gr_addN hx hb 0 st rfl rfl dn_M_digest_23 ?_
      refine gr_top (y := (nI (st + 0))) (congrArg nI (by omega)) ?_
      refine lv_icmp_lt (tgt := 31) hx hb dn_M_digest_24 (by decide) (fun h24 => ?_) (fun h24 => ?_)
      · skip
        obtain ⟨kk, hkk, rfl⟩ := gp_in (st + 0) (by omega) h14 (Int32.not_le.mpr h24)
        obtain ⟨q1, q2⟩ := hin_ kk
        refine lv_iload_n hx hb dn_M_digest_31 rfl (lv_at hl 2 rfl) ?_
        refine lv_iload_n hx hb dn_M_digest_32 rfl (lv_at hl 0 rfl) ?_
        refine gr_cge (tgt := 50) hx hb kk 0 rfl rfl (by omega) (by decide) dn_M_digest_33 (by decide) (fun h33 => ?_) (fun h33 => absurd h33 (by omega))
        refine lv_aload_n hx hb dn_M_digest_50 rfl (lv_at hl 1 rfl) ?_
        refine va_get (D := (dC, dI)) (ci := 5) (v := .int (nI st)) (C := rn_M) (T := tn_M) (N := 19) hx hb hw ml_M hown hK hP 0 rfl rfl 11 (by decide) (hw _ mw_484) (fun _ h9 => h9) rfl dn_M_digest_51 ?_
        refine lv_iconst (v := 1) hx hb dn_M_digest_54 (by decide) ?_
        refine gr_subN hx hb st 1 rfl rfl (by omega) dn_M_digest_55 ?_
        refine lv_iload_n hx hb dn_M_digest_56 rfl (lv_at hl 2 rfl) ?_
        refine lv_iload_n hx hb dn_M_digest_57 rfl (lv_at hl 0 rfl) ?_
        refine gr_subN hx hb kk 0 rfl rfl (by omega) dn_M_digest_58 ?_
        refine gr_subN hx hb (st - 1) (kk - 0) rfl rfl (by omega) dn_M_digest_59 ?_
        obtain ⟨s, hs⟩ : ∃ s, s + 1 + kk = st + 0 := ⟨st + 0 - 1 - kk, by omega⟩
        have hss : s < st := by omega
        rw [du_fs hs hss, du_cs hs hss] at q2
        rw [du_cs hs hss] at q1
        refine gr_top (y := nI s) (congrArg nI (by omega)) ?_
        refine lv_istore_n (lv' := [(3, .int (nI s)), (2, .int 0), (0, .ref (bd 0)), (1, .int (nI kk))]) hx hb dn_M_digest_60 rfl hl (by decide) rfl (fun ls hl => ?_)
        refine lv_aload_n hx hb dn_M_digest_61 rfl (lv_at hl 2 rfl) ?_
        refine lv_aload_n hx hb dn_M_digest_62 rfl (lv_at hl 2 rfl) ?_
        refine va_get (D := (dC, dI)) (ci := 5) (v := .ref (bd 6)) (C := rn_M) (T := tn_M) (N := 19) hx hb hw ml_M hown hK hP 0 rfl rfl 12 (by decide) (hw _ mw_485) (fun _ h9 => h9) rfl dn_M_digest_63 ?_
        refine lv_iload_n hx hb dn_M_digest_66 rfl (lv_at hl 0 rfl) ?_
        refine gr_iald hx hb hK hP 6 0 rfl rfl s rfl (by omega) (by decide) dn_M_digest_67 ?_
        refine gr_top (y := (nI (ds_sf t n s))) (har.2.1 _ hss) ?_
        refine lv_aload_n hx hb dn_M_digest_68 rfl (lv_at hl 2 rfl) ?_
        refine va_get (D := (dC, dI)) (ci := 5) (v := .ref (bd 7)) (C := rn_M) (T := tn_M) (N := 19) hx hb hw ml_M hown hK hP 0 rfl rfl 13 (by decide) (hw _ mw_486) (fun _ h9 => h9) rfl dn_M_digest_69 ?_
        refine lv_iload_n hx hb dn_M_digest_72 rfl (lv_at hl 0 rfl) ?_
        refine gr_iald hx hb hK hP 7 0 rfl rfl s rfl (by omega) (by decide) dn_M_digest_73 ?_
        refine gr_top (y := (nI (ds_sc t n s))) (har.2.2 _ hss) ?_
        refine gc_vi (pre := []) (wc := [(bd 0, .inr (5, [.ref (bd 1), .int (nI clk), .int pw, .int lf, .ref (bd 2), .int (nI fc), .int (nI sn), .int (nI ob), .ref (bd 3), .ref (bd 4), .ref (bd 5), .int (nI st), .ref (bd 6), .ref (bd 7), .ref (bd 8), .int (nI ((ds_at t n st).1)), .int (nI ((ds_at t n st).2)), .int 0, .ref (bd 9)])), (bd 1, .inl (cI, 292, .inl f)), (bd 2, .inl (cI, 12, .inl fd)), (bd 3, .inl (cI, 13, .inl S)), (bd 4, .inl (cI, 13, .inl D)), (bd 5, .inl (cI, 13, .inl G)), (bd 6, .inl (cI, 8, .inl Y)), (bd 7, .inl (cI, 8, .inl Z)), (bd 8, .inl (cZ, 8, .inl X)), (bd 9, .inl (cI, 40, .inl g))]) (po := []) (As := [.int (nI (ds_sf t n s)), .int (nI (ds_sc t n s))]) (rest := []) ⟨hx, hb, hml, hown, hw⟩ (c_M_tree l dC dI cI cZ bd clk pw lf f fd fc sn ob S D G st Y Z X ((ds_at t n st).1) ((ds_at t n st).2) 0 g (ds_sf t n s) (ds_sc t n s) (by omega) (by omega)) (gw_cV 2 hw mw_613 mw_615 mv_30 mw_6 mw_616 hd_M_tree ⟨Nat.le_of_ble_eq_true rfl, Nat.le_of_ble_eq_true rfl⟩) (ci := 5) rfl rfl rfl hK hP hD hS hA rfl hl.1 rfl (Nat.le_of_ble_eq_true rfl) dn_M_digest_74 ⟨Nat.zero_le _, Nat.zero_le _⟩ (fun r74 u74 H locs hc74 hP hD hS => ?_)
        subst hc74
        have hP : va_P (dC, dI) vwCl [(bd 0, .inr (5, [.ref (bd 1), .int (nI clk), .int pw, .int lf, .ref (bd 2), .int (nI fc), .int (nI sn), .int (nI ob), .ref (bd 3), .ref (bd 4), .ref (bd 5), .int (nI st), .ref (bd 6), .ref (bd 7), .ref (bd 8), .int (nI ((ds_at t n st).1)), .int (nI ((ds_at t n st).2)), .int 0, .ref (bd 9)])), (bd 1, .inl (cI, 292, .inl f)), (bd 2, .inl (cI, 12, .inl fd)), (bd 3, .inl (cI, 13, .inl S)), (bd 4, .inl (cI, 13, .inl D)), (bd 5, .inl (cI, 13, .inl G)), (bd 6, .inl (cI, 8, .inl Y)), (bd 7, .inl (cI, 8, .inl Z)), (bd 8, .inl (cZ, 8, .inl X)), (bd 9, .inl (cI, 40, .inl (tr_of f g (ds_sf t n s) (ds_sc t n s))))] H := hP
        have hD : va_D A [(bd 0, .inr (5, [.ref (bd 1), .int (nI clk), .int pw, .int lf, .ref (bd 2), .int (nI fc), .int (nI sn), .int (nI ob), .ref (bd 3), .ref (bd 4), .ref (bd 5), .int (nI st), .ref (bd 6), .ref (bd 7), .ref (bd 8), .int (nI ((ds_at t n st).1)), .int (nI ((ds_at t n st).2)), .int 0, .ref (bd 9)])), (bd 1, .inl (cI, 292, .inl f)), (bd 2, .inl (cI, 12, .inl fd)), (bd 3, .inl (cI, 13, .inl S)), (bd 4, .inl (cI, 13, .inl D)), (bd 5, .inl (cI, 13, .inl G)), (bd 6, .inl (cI, 8, .inl Y)), (bd 7, .inl (cI, 8, .inl Z)), (bd 8, .inl (cZ, 8, .inl X)), (bd 9, .inl (cI, 40, .inl (tr_of f g (ds_sf t n s) (ds_sc t n s))))] := hD
        refine lv_i2l hx hb dn_M_digest_77 rfl ?_
        have hd_ := dg_ok (f := f) (g := g) (k := kk) hs_ hB_ hkk (by omega)
        rw [du_fs hs hss, du_cs hs hss] at hd_
        have hP : va_P (dC, dI) vwCl [(bd 0, .inr (5, [.ref (bd 1), .int (nI clk), .int pw, .int lf, .ref (bd 2), .int (nI fc), .int (nI sn), .int (nI ob), .ref (bd 3), .ref (bd 4), .ref (bd 5), .int (nI st), .ref (bd 6), .ref (bd 7), .ref (bd 8), .int (nI ((ds_at t n st).1)), .int (nI ((ds_at t n st).2)), .int 0, .ref (bd 9)])), (bd 1, .inl (cI, 292, .inl f)), (bd 2, .inl (cI, 12, .inl fd)), (bd 3, .inl (cI, 13, .inl S)), (bd 4, .inl (cI, 13, .inl D)), (bd 5, .inl (cI, 13, .inl G)), (bd 6, .inl (cI, 8, .inl Y)), (bd 7, .inl (cI, 8, .inl Z)), (bd 8, .inl (cZ, 8, .inl X)), (bd 9, .inl (cI, 40, .inl (nx_dg e f g t n (nI kk))))] H := by rw [← hd_.2]; exact hP
        have hD : va_D A [(bd 0, .inr (5, [.ref (bd 1), .int (nI clk), .int pw, .int lf, .ref (bd 2), .int (nI fc), .int (nI sn), .int (nI ob), .ref (bd 3), .ref (bd 4), .ref (bd 5), .int (nI st), .ref (bd 6), .ref (bd 7), .ref (bd 8), .int (nI ((ds_at t n st).1)), .int (nI ((ds_at t n st).2)), .int 0, .ref (bd 9)])), (bd 1, .inl (cI, 292, .inl f)), (bd 2, .inl (cI, 12, .inl fd)), (bd 3, .inl (cI, 13, .inl S)), (bd 4, .inl (cI, 13, .inl D)), (bd 5, .inl (cI, 13, .inl G)), (bd 6, .inl (cI, 8, .inl Y)), (bd 7, .inl (cI, 8, .inl Z)), (bd 8, .inl (cZ, 8, .inl X)), (bd 9, .inl (cI, 40, .inl (nx_dg e f g t n (nI kk))))] := by rw [← hd_.2]; exact hD
        exact hret ((tr_of f g (ds_sf t n s) (ds_sc t n s) 0).toInt64) () _ _ _ _ hd_.1 hP hD hS dn_M_digest_78
      · skip
        refine lv_ldc2 (v := 1099511627776) hx hb hown (hw _ mw_600) dn_M_digest_27 ?_
        have hb_ : k < 0 ∨ nI (st + 0) ≤ k := by first | exact Or.inl h14 | exact Or.inr (Int32.not_lt.mp h24)
        have hP : va_P (dC, dI) vwCl [(bd 0, .inr (5, [.ref (bd 1), .int (nI clk), .int pw, .int lf, .ref (bd 2), .int (nI fc), .int (nI sn), .int (nI ob), .ref (bd 3), .ref (bd 4), .ref (bd 5), .int (nI st), .ref (bd 6), .ref (bd 7), .ref (bd 8), .int (nI ((ds_at t n st).1)), .int (nI ((ds_at t n st).2)), .int 0, .ref (bd 9)])), (bd 1, .inl (cI, 292, .inl f)), (bd 2, .inl (cI, 12, .inl fd)), (bd 3, .inl (cI, 13, .inl S)), (bd 4, .inl (cI, 13, .inl D)), (bd 5, .inl (cI, 13, .inl G)), (bd 6, .inl (cI, 8, .inl Y)), (bd 7, .inl (cI, 8, .inl Z)), (bd 8, .inl (cZ, 8, .inl X)), (bd 9, .inl (cI, 40, .inl (nx_dg e f g t n k)))] H := by rw [← (dg_no (f := f) (g := g) hs_ hB_ hb_).2]; exact hP
        have hD : va_D A [(bd 0, .inr (5, [.ref (bd 1), .int (nI clk), .int pw, .int lf, .ref (bd 2), .int (nI fc), .int (nI sn), .int (nI ob), .ref (bd 3), .ref (bd 4), .ref (bd 5), .int (nI st), .ref (bd 6), .ref (bd 7), .ref (bd 8), .int (nI ((ds_at t n st).1)), .int (nI ((ds_at t n st).2)), .int 0, .ref (bd 9)])), (bd 1, .inl (cI, 292, .inl f)), (bd 2, .inl (cI, 12, .inl fd)), (bd 3, .inl (cI, 13, .inl S)), (bd 4, .inl (cI, 13, .inl D)), (bd 5, .inl (cI, 13, .inl G)), (bd 6, .inl (cI, 8, .inl Y)), (bd 7, .inl (cI, 8, .inl Z)), (bd 8, .inl (cZ, 8, .inl X)), (bd 9, .inl (cI, 40, .inl (nx_dg e f g t n k)))] := by rw [← (dg_no (f := f) (g := g) hs_ hB_ hb_).2]; exact hD
        exact hret 1099511627776 () _ _ _ _ (dg_no (f := f) (g := g) hs_ hB_ hb_).1 hP hD hS dn_M_digest_30
  · skip
    obtain rfl : 1 = b := by omega
    refine lv_iconst (v := 1) hx hb dn_M_digest_7 (by decide) ?_
    refine lv_goto (tgt := 12) hx hb dn_M_digest_8 (by decide) ?_
    refine lv_istore_n (lv' := [(2, .int 1), (0, .ref (bd 0)), (1, .int k)]) hx hb dn_M_digest_12 rfl hl (by decide) rfl (fun ls hl => ?_)
    refine lv_iload_n hx hb dn_M_digest_13 rfl (lv_at hl 2 rfl) ?_
    refine lv_if_lt (tgt := 27) hx hb dn_M_digest_14 (by decide) (fun h14 => ?_) (fun h14 => ?_)
    · skip
      refine lv_ldc2 (v := 1099511627776) hx hb hown (hw _ mw_600) dn_M_digest_27 ?_
      have hb_ : k < 0 ∨ nI (st + 1) ≤ k := by first | exact Or.inl h14 | exact Or.inr (Int32.not_lt.mp h24)
      have hP : va_P (dC, dI) vwCl [(bd 0, .inr (5, [.ref (bd 1), .int (nI clk), .int pw, .int lf, .ref (bd 2), .int (nI fc), .int (nI sn), .int (nI ob), .ref (bd 3), .ref (bd 4), .ref (bd 5), .int (nI st), .ref (bd 6), .ref (bd 7), .ref (bd 8), .int (nI ((ds_at t n st).1)), .int (nI ((ds_at t n st).2)), .int 1, .ref (bd 9)])), (bd 1, .inl (cI, 292, .inl f)), (bd 2, .inl (cI, 12, .inl fd)), (bd 3, .inl (cI, 13, .inl S)), (bd 4, .inl (cI, 13, .inl D)), (bd 5, .inl (cI, 13, .inl G)), (bd 6, .inl (cI, 8, .inl Y)), (bd 7, .inl (cI, 8, .inl Z)), (bd 8, .inl (cZ, 8, .inl X)), (bd 9, .inl (cI, 40, .inl (nx_dg e f g t n k)))] H := by rw [← (dg_no (f := f) (g := g) hs_ hB_ hb_).2]; exact hP
      have hD : va_D A [(bd 0, .inr (5, [.ref (bd 1), .int (nI clk), .int pw, .int lf, .ref (bd 2), .int (nI fc), .int (nI sn), .int (nI ob), .ref (bd 3), .ref (bd 4), .ref (bd 5), .int (nI st), .ref (bd 6), .ref (bd 7), .ref (bd 8), .int (nI ((ds_at t n st).1)), .int (nI ((ds_at t n st).2)), .int 1, .ref (bd 9)])), (bd 1, .inl (cI, 292, .inl f)), (bd 2, .inl (cI, 12, .inl fd)), (bd 3, .inl (cI, 13, .inl S)), (bd 4, .inl (cI, 13, .inl D)), (bd 5, .inl (cI, 13, .inl G)), (bd 6, .inl (cI, 8, .inl Y)), (bd 7, .inl (cI, 8, .inl Z)), (bd 8, .inl (cZ, 8, .inl X)), (bd 9, .inl (cI, 40, .inl (nx_dg e f g t n k)))] := by rw [← (dg_no (f := f) (g := g) hs_ hB_ hb_).2]; exact hD
      exact hret 1099511627776 () _ _ _ _ (dg_no (f := f) (g := g) hs_ hB_ hb_).1 hP hD hS dn_M_digest_30
    · skip
      refine lv_iload_n hx hb dn_M_digest_17 rfl (lv_at hl 2 rfl) ?_
      refine lv_iload_n hx hb dn_M_digest_18 rfl (lv_at hl 0 rfl) ?_
      refine lv_aload_n hx hb dn_M_digest_19 rfl (lv_at hl 1 rfl) ?_
      refine va_get (D := (dC, dI)) (ci := 5) (v := .int (nI st)) (C := rn_M) (T := tn_M) (N := 19) hx hb hw ml_M hown hK hP 0 rfl rfl 11 (by decide) (hw _ mw_484) (fun _ h9 => h9) rfl dn_M_digest_20 ?_
      refine gr_addN hx hb 1 st rfl rfl dn_M_digest_23 ?_
      refine gr_top (y := (nI (st + 1))) (congrArg nI (by omega)) ?_
      refine lv_icmp_lt (tgt := 31) hx hb dn_M_digest_24 (by decide) (fun h24 => ?_) (fun h24 => ?_)
      · skip
        obtain ⟨kk, hkk, rfl⟩ := gp_in (st + 1) (by omega) h14 (Int32.not_le.mpr h24)
        obtain ⟨q1, q2⟩ := hin_ kk
        refine lv_iload_n hx hb dn_M_digest_31 rfl (lv_at hl 2 rfl) ?_
        refine lv_iload_n hx hb dn_M_digest_32 rfl (lv_at hl 0 rfl) ?_
        refine gr_cge (tgt := 50) hx hb kk 1 rfl rfl (by omega) (by decide) dn_M_digest_33 (by decide) (fun h33 => ?_) (fun h33 => ?_)
        · skip
          refine lv_aload_n hx hb dn_M_digest_50 rfl (lv_at hl 1 rfl) ?_
          refine va_get (D := (dC, dI)) (ci := 5) (v := .int (nI st)) (C := rn_M) (T := tn_M) (N := 19) hx hb hw ml_M hown hK hP 0 rfl rfl 11 (by decide) (hw _ mw_484) (fun _ h9 => h9) rfl dn_M_digest_51 ?_
          refine lv_iconst (v := 1) hx hb dn_M_digest_54 (by decide) ?_
          refine gr_subN hx hb st 1 rfl rfl (by omega) dn_M_digest_55 ?_
          refine lv_iload_n hx hb dn_M_digest_56 rfl (lv_at hl 2 rfl) ?_
          refine lv_iload_n hx hb dn_M_digest_57 rfl (lv_at hl 0 rfl) ?_
          refine gr_subN hx hb kk 1 rfl rfl (by omega) dn_M_digest_58 ?_
          refine gr_subN hx hb (st - 1) (kk - 1) rfl rfl (by omega) dn_M_digest_59 ?_
          obtain ⟨s, hs⟩ : ∃ s, s + 1 + kk = st + 1 := ⟨st + 1 - 1 - kk, by omega⟩
          have hss : s < st := by omega
          rw [du_fs hs hss, du_cs hs hss] at q2
          rw [du_cs hs hss] at q1
          refine gr_top (y := nI s) (congrArg nI (by omega)) ?_
          refine lv_istore_n (lv' := [(3, .int (nI s)), (2, .int 1), (0, .ref (bd 0)), (1, .int (nI kk))]) hx hb dn_M_digest_60 rfl hl (by decide) rfl (fun ls hl => ?_)
          refine lv_aload_n hx hb dn_M_digest_61 rfl (lv_at hl 2 rfl) ?_
          refine lv_aload_n hx hb dn_M_digest_62 rfl (lv_at hl 2 rfl) ?_
          refine va_get (D := (dC, dI)) (ci := 5) (v := .ref (bd 6)) (C := rn_M) (T := tn_M) (N := 19) hx hb hw ml_M hown hK hP 0 rfl rfl 12 (by decide) (hw _ mw_485) (fun _ h9 => h9) rfl dn_M_digest_63 ?_
          refine lv_iload_n hx hb dn_M_digest_66 rfl (lv_at hl 0 rfl) ?_
          refine gr_iald hx hb hK hP 6 0 rfl rfl s rfl (by omega) (by decide) dn_M_digest_67 ?_
          refine gr_top (y := (nI (ds_sf t n s))) (har.2.1 _ hss) ?_
          refine lv_aload_n hx hb dn_M_digest_68 rfl (lv_at hl 2 rfl) ?_
          refine va_get (D := (dC, dI)) (ci := 5) (v := .ref (bd 7)) (C := rn_M) (T := tn_M) (N := 19) hx hb hw ml_M hown hK hP 0 rfl rfl 13 (by decide) (hw _ mw_486) (fun _ h9 => h9) rfl dn_M_digest_69 ?_
          refine lv_iload_n hx hb dn_M_digest_72 rfl (lv_at hl 0 rfl) ?_
          refine gr_iald hx hb hK hP 7 0 rfl rfl s rfl (by omega) (by decide) dn_M_digest_73 ?_
          refine gr_top (y := (nI (ds_sc t n s))) (har.2.2 _ hss) ?_
          refine gc_vi (pre := []) (wc := [(bd 0, .inr (5, [.ref (bd 1), .int (nI clk), .int pw, .int lf, .ref (bd 2), .int (nI fc), .int (nI sn), .int (nI ob), .ref (bd 3), .ref (bd 4), .ref (bd 5), .int (nI st), .ref (bd 6), .ref (bd 7), .ref (bd 8), .int (nI ((ds_at t n st).1)), .int (nI ((ds_at t n st).2)), .int 1, .ref (bd 9)])), (bd 1, .inl (cI, 292, .inl f)), (bd 2, .inl (cI, 12, .inl fd)), (bd 3, .inl (cI, 13, .inl S)), (bd 4, .inl (cI, 13, .inl D)), (bd 5, .inl (cI, 13, .inl G)), (bd 6, .inl (cI, 8, .inl Y)), (bd 7, .inl (cI, 8, .inl Z)), (bd 8, .inl (cZ, 8, .inl X)), (bd 9, .inl (cI, 40, .inl g))]) (po := []) (As := [.int (nI (ds_sf t n s)), .int (nI (ds_sc t n s))]) (rest := []) ⟨hx, hb, hml, hown, hw⟩ (c_M_tree l dC dI cI cZ bd clk pw lf f fd fc sn ob S D G st Y Z X ((ds_at t n st).1) ((ds_at t n st).2) 1 g (ds_sf t n s) (ds_sc t n s) (by omega) (by omega)) (gw_cV 2 hw mw_613 mw_615 mv_30 mw_6 mw_616 hd_M_tree ⟨Nat.le_of_ble_eq_true rfl, Nat.le_of_ble_eq_true rfl⟩) (ci := 5) rfl rfl rfl hK hP hD hS hA rfl hl.1 rfl (Nat.le_of_ble_eq_true rfl) dn_M_digest_74 ⟨Nat.zero_le _, Nat.zero_le _⟩ (fun r74 u74 H locs hc74 hP hD hS => ?_)
          subst hc74
          have hP : va_P (dC, dI) vwCl [(bd 0, .inr (5, [.ref (bd 1), .int (nI clk), .int pw, .int lf, .ref (bd 2), .int (nI fc), .int (nI sn), .int (nI ob), .ref (bd 3), .ref (bd 4), .ref (bd 5), .int (nI st), .ref (bd 6), .ref (bd 7), .ref (bd 8), .int (nI ((ds_at t n st).1)), .int (nI ((ds_at t n st).2)), .int 1, .ref (bd 9)])), (bd 1, .inl (cI, 292, .inl f)), (bd 2, .inl (cI, 12, .inl fd)), (bd 3, .inl (cI, 13, .inl S)), (bd 4, .inl (cI, 13, .inl D)), (bd 5, .inl (cI, 13, .inl G)), (bd 6, .inl (cI, 8, .inl Y)), (bd 7, .inl (cI, 8, .inl Z)), (bd 8, .inl (cZ, 8, .inl X)), (bd 9, .inl (cI, 40, .inl (tr_of f g (ds_sf t n s) (ds_sc t n s))))] H := hP
          have hD : va_D A [(bd 0, .inr (5, [.ref (bd 1), .int (nI clk), .int pw, .int lf, .ref (bd 2), .int (nI fc), .int (nI sn), .int (nI ob), .ref (bd 3), .ref (bd 4), .ref (bd 5), .int (nI st), .ref (bd 6), .ref (bd 7), .ref (bd 8), .int (nI ((ds_at t n st).1)), .int (nI ((ds_at t n st).2)), .int 1, .ref (bd 9)])), (bd 1, .inl (cI, 292, .inl f)), (bd 2, .inl (cI, 12, .inl fd)), (bd 3, .inl (cI, 13, .inl S)), (bd 4, .inl (cI, 13, .inl D)), (bd 5, .inl (cI, 13, .inl G)), (bd 6, .inl (cI, 8, .inl Y)), (bd 7, .inl (cI, 8, .inl Z)), (bd 8, .inl (cZ, 8, .inl X)), (bd 9, .inl (cI, 40, .inl (tr_of f g (ds_sf t n s) (ds_sc t n s))))] := hD
          refine lv_i2l hx hb dn_M_digest_77 rfl ?_
          have hd_ := dg_ok (f := f) (g := g) (k := kk) hs_ hB_ hkk (by omega)
          rw [du_fs hs hss, du_cs hs hss] at hd_
          have hP : va_P (dC, dI) vwCl [(bd 0, .inr (5, [.ref (bd 1), .int (nI clk), .int pw, .int lf, .ref (bd 2), .int (nI fc), .int (nI sn), .int (nI ob), .ref (bd 3), .ref (bd 4), .ref (bd 5), .int (nI st), .ref (bd 6), .ref (bd 7), .ref (bd 8), .int (nI ((ds_at t n st).1)), .int (nI ((ds_at t n st).2)), .int 1, .ref (bd 9)])), (bd 1, .inl (cI, 292, .inl f)), (bd 2, .inl (cI, 12, .inl fd)), (bd 3, .inl (cI, 13, .inl S)), (bd 4, .inl (cI, 13, .inl D)), (bd 5, .inl (cI, 13, .inl G)), (bd 6, .inl (cI, 8, .inl Y)), (bd 7, .inl (cI, 8, .inl Z)), (bd 8, .inl (cZ, 8, .inl X)), (bd 9, .inl (cI, 40, .inl (nx_dg e f g t n (nI kk))))] H := by rw [← hd_.2]; exact hP
          have hD : va_D A [(bd 0, .inr (5, [.ref (bd 1), .int (nI clk), .int pw, .int lf, .ref (bd 2), .int (nI fc), .int (nI sn), .int (nI ob), .ref (bd 3), .ref (bd 4), .ref (bd 5), .int (nI st), .ref (bd 6), .ref (bd 7), .ref (bd 8), .int (nI ((ds_at t n st).1)), .int (nI ((ds_at t n st).2)), .int 1, .ref (bd 9)])), (bd 1, .inl (cI, 292, .inl f)), (bd 2, .inl (cI, 12, .inl fd)), (bd 3, .inl (cI, 13, .inl S)), (bd 4, .inl (cI, 13, .inl D)), (bd 5, .inl (cI, 13, .inl G)), (bd 6, .inl (cI, 8, .inl Y)), (bd 7, .inl (cI, 8, .inl Z)), (bd 8, .inl (cZ, 8, .inl X)), (bd 9, .inl (cI, 40, .inl (nx_dg e f g t n (nI kk))))] := by rw [← hd_.2]; exact hD
          exact hret ((tr_of f g (ds_sf t n s) (ds_sc t n s) 0).toInt64) () _ _ _ _ hd_.1 hP hD hS dn_M_digest_78
        · skip
          obtain rfl : 0 = kk := by omega
          rw [du_f0, du_c0] at q2
          rw [du_c0] at q1
          refine lv_aload_n hx hb dn_M_digest_36 rfl (lv_at hl 1 rfl) ?_
          refine lv_aload_n hx hb dn_M_digest_37 rfl (lv_at hl 1 rfl) ?_
          refine va_get (D := (dC, dI)) (ci := 5) (v := .int (nI ((ds_at t n st).1))) (C := rn_M) (T := tn_M) (N := 19) hx hb hw ml_M hown hK hP 0 rfl rfl 15 (by decide) (hw _ mw_488) (fun _ h9 => h9) rfl dn_M_digest_38 ?_
          refine lv_aload_n hx hb dn_M_digest_41 rfl (lv_at hl 1 rfl) ?_
          refine va_get (D := (dC, dI)) (ci := 5) (v := .int (nI ((ds_at t n st).2))) (C := rn_M) (T := tn_M) (N := 19) hx hb hw ml_M hown hK hP 0 rfl rfl 16 (by decide) (hw _ mw_489) (fun _ h9 => h9) rfl dn_M_digest_42 ?_
          refine gc_vi (pre := []) (wc := [(bd 0, .inr (5, [.ref (bd 1), .int (nI clk), .int pw, .int lf, .ref (bd 2), .int (nI fc), .int (nI sn), .int (nI ob), .ref (bd 3), .ref (bd 4), .ref (bd 5), .int (nI st), .ref (bd 6), .ref (bd 7), .ref (bd 8), .int (nI ((ds_at t n st).1)), .int (nI ((ds_at t n st).2)), .int 1, .ref (bd 9)])), (bd 1, .inl (cI, 292, .inl f)), (bd 2, .inl (cI, 12, .inl fd)), (bd 3, .inl (cI, 13, .inl S)), (bd 4, .inl (cI, 13, .inl D)), (bd 5, .inl (cI, 13, .inl G)), (bd 6, .inl (cI, 8, .inl Y)), (bd 7, .inl (cI, 8, .inl Z)), (bd 8, .inl (cZ, 8, .inl X)), (bd 9, .inl (cI, 40, .inl g))]) (po := []) (As := [.int (nI ((ds_at t n st).1)), .int (nI ((ds_at t n st).2))]) (rest := []) ⟨hx, hb, hml, hown, hw⟩ (c_M_tree l dC dI cI cZ bd clk pw lf f fd fc sn ob S D G st Y Z X ((ds_at t n st).1) ((ds_at t n st).2) 1 g ((ds_at t n st).1) ((ds_at t n st).2) (by omega) (by omega)) (gw_cV 2 hw mw_613 mw_615 mv_30 mw_6 mw_616 hd_M_tree ⟨Nat.le_of_ble_eq_true rfl, Nat.le_of_ble_eq_true rfl⟩) (ci := 5) rfl rfl rfl hK hP hD hS hA rfl hl.1 rfl (Nat.le_of_ble_eq_true rfl) dn_M_digest_45 ⟨Nat.zero_le _, Nat.zero_le _⟩ (fun r45 u45 H locs hc45 hP hD hS => ?_)
          subst hc45
          have hP : va_P (dC, dI) vwCl [(bd 0, .inr (5, [.ref (bd 1), .int (nI clk), .int pw, .int lf, .ref (bd 2), .int (nI fc), .int (nI sn), .int (nI ob), .ref (bd 3), .ref (bd 4), .ref (bd 5), .int (nI st), .ref (bd 6), .ref (bd 7), .ref (bd 8), .int (nI ((ds_at t n st).1)), .int (nI ((ds_at t n st).2)), .int 1, .ref (bd 9)])), (bd 1, .inl (cI, 292, .inl f)), (bd 2, .inl (cI, 12, .inl fd)), (bd 3, .inl (cI, 13, .inl S)), (bd 4, .inl (cI, 13, .inl D)), (bd 5, .inl (cI, 13, .inl G)), (bd 6, .inl (cI, 8, .inl Y)), (bd 7, .inl (cI, 8, .inl Z)), (bd 8, .inl (cZ, 8, .inl X)), (bd 9, .inl (cI, 40, .inl (tr_of f g ((ds_at t n st).1) ((ds_at t n st).2))))] H := hP
          have hD : va_D A [(bd 0, .inr (5, [.ref (bd 1), .int (nI clk), .int pw, .int lf, .ref (bd 2), .int (nI fc), .int (nI sn), .int (nI ob), .ref (bd 3), .ref (bd 4), .ref (bd 5), .int (nI st), .ref (bd 6), .ref (bd 7), .ref (bd 8), .int (nI ((ds_at t n st).1)), .int (nI ((ds_at t n st).2)), .int 1, .ref (bd 9)])), (bd 1, .inl (cI, 292, .inl f)), (bd 2, .inl (cI, 12, .inl fd)), (bd 3, .inl (cI, 13, .inl S)), (bd 4, .inl (cI, 13, .inl D)), (bd 5, .inl (cI, 13, .inl G)), (bd 6, .inl (cI, 8, .inl Y)), (bd 7, .inl (cI, 8, .inl Z)), (bd 8, .inl (cZ, 8, .inl X)), (bd 9, .inl (cI, 40, .inl (tr_of f g ((ds_at t n st).1) ((ds_at t n st).2))))] := hD
          refine lv_i2l hx hb dn_M_digest_48 rfl ?_
          have hd_ := dg_ok (f := f) (g := g) (k := 0) hs_ hB_ (by omega) (by omega)
          rw [du_f0, du_c0] at hd_
          have hP : va_P (dC, dI) vwCl [(bd 0, .inr (5, [.ref (bd 1), .int (nI clk), .int pw, .int lf, .ref (bd 2), .int (nI fc), .int (nI sn), .int (nI ob), .ref (bd 3), .ref (bd 4), .ref (bd 5), .int (nI st), .ref (bd 6), .ref (bd 7), .ref (bd 8), .int (nI ((ds_at t n st).1)), .int (nI ((ds_at t n st).2)), .int 1, .ref (bd 9)])), (bd 1, .inl (cI, 292, .inl f)), (bd 2, .inl (cI, 12, .inl fd)), (bd 3, .inl (cI, 13, .inl S)), (bd 4, .inl (cI, 13, .inl D)), (bd 5, .inl (cI, 13, .inl G)), (bd 6, .inl (cI, 8, .inl Y)), (bd 7, .inl (cI, 8, .inl Z)), (bd 8, .inl (cZ, 8, .inl X)), (bd 9, .inl (cI, 40, .inl (nx_dg e f g t n (nI 0))))] H := by rw [← hd_.2]; exact hP
          have hD : va_D A [(bd 0, .inr (5, [.ref (bd 1), .int (nI clk), .int pw, .int lf, .ref (bd 2), .int (nI fc), .int (nI sn), .int (nI ob), .ref (bd 3), .ref (bd 4), .ref (bd 5), .int (nI st), .ref (bd 6), .ref (bd 7), .ref (bd 8), .int (nI ((ds_at t n st).1)), .int (nI ((ds_at t n st).2)), .int 1, .ref (bd 9)])), (bd 1, .inl (cI, 292, .inl f)), (bd 2, .inl (cI, 12, .inl fd)), (bd 3, .inl (cI, 13, .inl S)), (bd 4, .inl (cI, 13, .inl D)), (bd 5, .inl (cI, 13, .inl G)), (bd 6, .inl (cI, 8, .inl Y)), (bd 7, .inl (cI, 8, .inl Z)), (bd 8, .inl (cZ, 8, .inl X)), (bd 9, .inl (cI, 40, .inl (nx_dg e f g t n (nI 0))))] := by rw [← hd_.2]; exact hD
          exact hret ((tr_of f g ((ds_at t n st).1) ((ds_at t n st).2) 0).toInt64) () _ _ _ _ hd_.1 hP hD hS dn_M_digest_49
      · skip
        refine lv_ldc2 (v := 1099511627776) hx hb hown (hw _ mw_600) dn_M_digest_27 ?_
        have hb_ : k < 0 ∨ nI (st + 1) ≤ k := by first | exact Or.inl h14 | exact Or.inr (Int32.not_lt.mp h24)
        have hP : va_P (dC, dI) vwCl [(bd 0, .inr (5, [.ref (bd 1), .int (nI clk), .int pw, .int lf, .ref (bd 2), .int (nI fc), .int (nI sn), .int (nI ob), .ref (bd 3), .ref (bd 4), .ref (bd 5), .int (nI st), .ref (bd 6), .ref (bd 7), .ref (bd 8), .int (nI ((ds_at t n st).1)), .int (nI ((ds_at t n st).2)), .int 1, .ref (bd 9)])), (bd 1, .inl (cI, 292, .inl f)), (bd 2, .inl (cI, 12, .inl fd)), (bd 3, .inl (cI, 13, .inl S)), (bd 4, .inl (cI, 13, .inl D)), (bd 5, .inl (cI, 13, .inl G)), (bd 6, .inl (cI, 8, .inl Y)), (bd 7, .inl (cI, 8, .inl Z)), (bd 8, .inl (cZ, 8, .inl X)), (bd 9, .inl (cI, 40, .inl (nx_dg e f g t n k)))] H := by rw [← (dg_no (f := f) (g := g) hs_ hB_ hb_).2]; exact hP
        have hD : va_D A [(bd 0, .inr (5, [.ref (bd 1), .int (nI clk), .int pw, .int lf, .ref (bd 2), .int (nI fc), .int (nI sn), .int (nI ob), .ref (bd 3), .ref (bd 4), .ref (bd 5), .int (nI st), .ref (bd 6), .ref (bd 7), .ref (bd 8), .int (nI ((ds_at t n st).1)), .int (nI ((ds_at t n st).2)), .int 1, .ref (bd 9)])), (bd 1, .inl (cI, 292, .inl f)), (bd 2, .inl (cI, 12, .inl fd)), (bd 3, .inl (cI, 13, .inl S)), (bd 4, .inl (cI, 13, .inl D)), (bd 5, .inl (cI, 13, .inl G)), (bd 6, .inl (cI, 8, .inl Y)), (bd 7, .inl (cI, 8, .inl Z)), (bd 8, .inl (cZ, 8, .inl X)), (bd 9, .inl (cI, 40, .inl (nx_dg e f g t n k)))] := by rw [← (dg_no (f := f) (g := g) hs_ hB_ hb_).2]; exact hD
        exact hret 1099511627776 () _ _ _ _ (dg_no (f := f) (g := g) hs_ hB_ hb_).1 hP hD hS dn_M_digest_30
