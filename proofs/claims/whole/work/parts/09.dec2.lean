/-! decode rows, by program -/
theorem d_Ea_init_0 : decode b_Ea_init 0 = .ok (.aload_n 0, 1) := by decide +kernel
theorem d_Ea_init_1 : decode b_Ea_init 1 = .ok (.invokespecial 1, 3) := by decide +kernel
theorem d_Ea_init_4 : decode b_Ea_init 4 = .ok (.aload_n 0, 1) := by decide +kernel
theorem d_Ea_init_5 : decode b_Ea_init 5 = .ok (.bipush 14, 2) := by decide +kernel
theorem d_Ea_init_7 : decode b_Ea_init 7 = .ok (.anewarray 9, 3) := by decide +kernel
theorem d_Ea_init_10 : decode b_Ea_init 10 = .ok (.putfield 11, 3) := by decide +kernel
theorem d_Ea_init_13 : decode b_Ea_init 13 = .ok (.aload_n 0, 1) := by decide +kernel
theorem d_Ea_init_14 : decode b_Ea_init 14 = .ok (.sipush 192, 3) := by decide +kernel
theorem d_Ea_init_17 : decode b_Ea_init 17 = .ok (.newarray .int, 2) := by decide +kernel
theorem d_Ea_init_19 : decode b_Ea_init 19 = .ok (.putfield 15, 3) := by decide +kernel
theorem d_Ea_init_22 : decode b_Ea_init 22 = .ok (.aload_n 0, 1) := by decide +kernel
theorem d_Ea_init_23 : decode b_Ea_init 23 = .ok (.new 9, 3) := by decide +kernel
theorem d_Ea_init_26 : decode b_Ea_init 26 = .ok (.dup, 1) := by decide +kernel
theorem d_Ea_init_27 : decode b_Ea_init 27 = .ok (.iconst 0, 1) := by decide +kernel
theorem d_Ea_init_28 : decode b_Ea_init 28 = .ok (.iconst 0, 1) := by decide +kernel
theorem d_Ea_init_29 : decode b_Ea_init 29 = .ok (.iconst 1, 1) := by decide +kernel
theorem d_Ea_init_30 : decode b_Ea_init 30 = .ok (.invokespecial 19, 3) := by decide +kernel
theorem d_Ea_init_33 : decode b_Ea_init 33 = .ok (.putfield 22, 3) := by decide +kernel
theorem d_Ea_init_36 : decode b_Ea_init 36 = .ok (.aload_n 0, 1) := by decide +kernel
theorem d_Ea_init_37 : decode b_Ea_init 37 = .ok (.getfield 11, 3) := by decide +kernel
theorem d_Ea_init_40 : decode b_Ea_init 40 = .ok (.iconst 0, 1) := by decide +kernel
theorem d_Ea_init_41 : decode b_Ea_init 41 = .ok (.aload_n 0, 1) := by decide +kernel
theorem d_Ea_init_42 : decode b_Ea_init 42 = .ok (.getfield 22, 3) := by decide +kernel
theorem d_Ea_init_45 : decode b_Ea_init 45 = .ok (.aastore, 1) := by decide +kernel
theorem d_Ea_init_46 : decode b_Ea_init 46 = .ok (.return_, 1) := by decide +kernel
theorem d_Ea_count_0 : decode b_Ea_count 0 = .ok (.iload_n 1, 1) := by decide +kernel
theorem d_Ea_count_1 : decode b_Ea_count 1 = .ok (.tableswitch 55 0 3 #[31, 36, 41, 46], 31) := by decide +kernel
theorem d_Ea_count_32 : decode b_Ea_count 32 = .ok (.aload_n 0, 1) := by decide +kernel
theorem d_Ea_count_33 : decode b_Ea_count 33 = .ok (.invokevirtual 210, 3) := by decide +kernel
theorem d_Ea_count_36 : decode b_Ea_count 36 = .ok (.ireturn, 1) := by decide +kernel
theorem d_Ea_count_37 : decode b_Ea_count 37 = .ok (.aload_n 0, 1) := by decide +kernel
theorem d_Ea_count_38 : decode b_Ea_count 38 = .ok (.invokevirtual 213, 3) := by decide +kernel
theorem d_Ea_count_41 : decode b_Ea_count 41 = .ok (.ireturn, 1) := by decide +kernel
theorem d_Ea_count_42 : decode b_Ea_count 42 = .ok (.aload_n 0, 1) := by decide +kernel
theorem d_Ea_count_43 : decode b_Ea_count 43 = .ok (.getfield 154, 3) := by decide +kernel
theorem d_Ea_count_46 : decode b_Ea_count 46 = .ok (.ireturn, 1) := by decide +kernel
theorem d_Ea_count_47 : decode b_Ea_count 47 = .ok (.aload_n 0, 1) := by decide +kernel
theorem d_Ea_count_48 : decode b_Ea_count 48 = .ok (.aload_n 0, 1) := by decide +kernel
theorem d_Ea_count_49 : decode b_Ea_count 49 = .ok (.getfield 22, 3) := by decide +kernel
theorem d_Ea_count_52 : decode b_Ea_count 52 = .ok (.invokevirtual 216, 3) := by decide +kernel
theorem d_Ea_count_55 : decode b_Ea_count 55 = .ok (.ireturn, 1) := by decide +kernel
theorem d_Ea_count_56 : decode b_Ea_count 56 = .ok (.iconst (-1), 1) := by decide +kernel
theorem d_Ea_count_57 : decode b_Ea_count 57 = .ok (.ireturn, 1) := by decide +kernel
theorem d_Ea_nodesThere_0 : decode b_Ea_nodesThere 0 = .ok (.iconst 0, 1) := by decide +kernel
theorem d_Ea_nodesThere_1 : decode b_Ea_nodesThere 1 = .ok (.istore_n 1, 1) := by decide +kernel
theorem d_Ea_nodesThere_2 : decode b_Ea_nodesThere 2 = .ok (.iconst 0, 1) := by decide +kernel
theorem d_Ea_nodesThere_3 : decode b_Ea_nodesThere 3 = .ok (.istore_n 2, 1) := by decide +kernel
theorem d_Ea_nodesThere_4 : decode b_Ea_nodesThere 4 = .ok (.iload_n 2, 1) := by decide +kernel
theorem d_Ea_nodesThere_5 : decode b_Ea_nodesThere 5 = .ok (.bipush 14, 2) := by decide +kernel
theorem d_Ea_nodesThere_7 : decode b_Ea_nodesThere 7 = .ok (.if_icmp .ge 26, 3) := by decide +kernel
theorem d_Ea_nodesThere_10 : decode b_Ea_nodesThere 10 = .ok (.iload_n 1, 1) := by decide +kernel
theorem d_Ea_nodesThere_11 : decode b_Ea_nodesThere 11 = .ok (.aload_n 0, 1) := by decide +kernel
theorem d_Ea_nodesThere_12 : decode b_Ea_nodesThere 12 = .ok (.getfield 11, 3) := by decide +kernel
theorem d_Ea_nodesThere_15 : decode b_Ea_nodesThere 15 = .ok (.iload_n 2, 1) := by decide +kernel
theorem d_Ea_nodesThere_16 : decode b_Ea_nodesThere 16 = .ok (.aaload, 1) := by decide +kernel
theorem d_Ea_nodesThere_17 : decode b_Ea_nodesThere 17 = .ok (.ifnonnull 7, 3) := by decide +kernel
theorem d_Ea_nodesThere_20 : decode b_Ea_nodesThere 20 = .ok (.iconst 0, 1) := by decide +kernel
theorem d_Ea_nodesThere_21 : decode b_Ea_nodesThere 21 = .ok (.goto 4, 3) := by decide +kernel
theorem d_Ea_nodesThere_24 : decode b_Ea_nodesThere 24 = .ok (.iconst 1, 1) := by decide +kernel
theorem d_Ea_nodesThere_25 : decode b_Ea_nodesThere 25 = .ok (.iadd, 1) := by decide +kernel
theorem d_Ea_nodesThere_26 : decode b_Ea_nodesThere 26 = .ok (.istore_n 1, 1) := by decide +kernel
theorem d_Ea_nodesThere_27 : decode b_Ea_nodesThere 27 = .ok (.iinc 2 1, 3) := by decide +kernel
theorem d_Ea_nodesThere_30 : decode b_Ea_nodesThere 30 = .ok (.goto (-26), 3) := by decide +kernel
theorem d_Ea_nodesThere_33 : decode b_Ea_nodesThere 33 = .ok (.iload_n 1, 1) := by decide +kernel
theorem d_Ea_nodesThere_34 : decode b_Ea_nodesThere 34 = .ok (.ireturn, 1) := by decide +kernel
theorem d_Ea_framesThere_0 : decode b_Ea_framesThere 0 = .ok (.iconst 0, 1) := by decide +kernel
theorem d_Ea_framesThere_1 : decode b_Ea_framesThere 1 = .ok (.istore_n 1, 1) := by decide +kernel
theorem d_Ea_framesThere_2 : decode b_Ea_framesThere 2 = .ok (.iconst 0, 1) := by decide +kernel
theorem d_Ea_framesThere_3 : decode b_Ea_framesThere 3 = .ok (.istore_n 2, 1) := by decide +kernel
theorem d_Ea_framesThere_4 : decode b_Ea_framesThere 4 = .ok (.iload_n 2, 1) := by decide +kernel
theorem d_Ea_framesThere_5 : decode b_Ea_framesThere 5 = .ok (.bipush 14, 2) := by decide +kernel
theorem d_Ea_framesThere_7 : decode b_Ea_framesThere 7 = .ok (.if_icmp .ge 34, 3) := by decide +kernel
theorem d_Ea_framesThere_10 : decode b_Ea_framesThere 10 = .ok (.iload_n 1, 1) := by decide +kernel
theorem d_Ea_framesThere_11 : decode b_Ea_framesThere 11 = .ok (.aload_n 0, 1) := by decide +kernel
theorem d_Ea_framesThere_12 : decode b_Ea_framesThere 12 = .ok (.getfield 11, 3) := by decide +kernel
theorem d_Ea_framesThere_15 : decode b_Ea_framesThere 15 = .ok (.iload_n 2, 1) := by decide +kernel
theorem d_Ea_framesThere_16 : decode b_Ea_framesThere 16 = .ok (.aaload, 1) := by decide +kernel
theorem d_Ea_framesThere_17 : decode b_Ea_framesThere 17 = .ok (.ifnonnull 7, 3) := by decide +kernel
theorem d_Ea_framesThere_20 : decode b_Ea_framesThere 20 = .ok (.iconst 0, 1) := by decide +kernel
theorem d_Ea_framesThere_21 : decode b_Ea_framesThere 21 = .ok (.goto 12, 3) := by decide +kernel
theorem d_Ea_framesThere_24 : decode b_Ea_framesThere 24 = .ok (.aload_n 0, 1) := by decide +kernel
theorem d_Ea_framesThere_25 : decode b_Ea_framesThere 25 = .ok (.getfield 11, 3) := by decide +kernel
theorem d_Ea_framesThere_28 : decode b_Ea_framesThere 28 = .ok (.iload_n 2, 1) := by decide +kernel
theorem d_Ea_framesThere_29 : decode b_Ea_framesThere 29 = .ok (.aaload, 1) := by decide +kernel
theorem d_Ea_framesThere_30 : decode b_Ea_framesThere 30 = .ok (.invokevirtual 207, 3) := by decide +kernel
theorem d_Ea_framesThere_33 : decode b_Ea_framesThere 33 = .ok (.iadd, 1) := by decide +kernel
theorem d_Ea_framesThere_34 : decode b_Ea_framesThere 34 = .ok (.istore_n 1, 1) := by decide +kernel
theorem d_Ea_framesThere_35 : decode b_Ea_framesThere 35 = .ok (.iinc 2 1, 3) := by decide +kernel
theorem d_Ea_framesThere_38 : decode b_Ea_framesThere 38 = .ok (.goto (-34), 3) := by decide +kernel
theorem d_Ea_framesThere_41 : decode b_Ea_framesThere 41 = .ok (.iload_n 1, 1) := by decide +kernel
theorem d_Ea_framesThere_42 : decode b_Ea_framesThere 42 = .ok (.ireturn, 1) := by decide +kernel
theorem d_Ea_deepestIn_0 : decode b_Ea_deepestIn 0 = .ok (.iconst 0, 1) := by decide +kernel
theorem d_Ea_deepestIn_1 : decode b_Ea_deepestIn 1 = .ok (.istore_n 2, 1) := by decide +kernel
theorem d_Ea_deepestIn_2 : decode b_Ea_deepestIn 2 = .ok (.iconst 0, 1) := by decide +kernel
theorem d_Ea_deepestIn_3 : decode b_Ea_deepestIn 3 = .ok (.istore_n 3, 1) := by decide +kernel
theorem d_Ea_deepestIn_4 : decode b_Ea_deepestIn 4 = .ok (.iload_n 3, 1) := by decide +kernel
theorem d_Ea_deepestIn_5 : decode b_Ea_deepestIn 5 = .ok (.bipush 14, 2) := by decide +kernel
theorem d_Ea_deepestIn_7 : decode b_Ea_deepestIn 7 = .ok (.if_icmp .ge 45, 3) := by decide +kernel
theorem d_Ea_deepestIn_10 : decode b_Ea_deepestIn 10 = .ok (.aload_n 0, 1) := by decide +kernel
theorem d_Ea_deepestIn_11 : decode b_Ea_deepestIn 11 = .ok (.getfield 11, 3) := by decide +kernel
theorem d_Ea_deepestIn_14 : decode b_Ea_deepestIn 14 = .ok (.iload_n 3, 1) := by decide +kernel
theorem d_Ea_deepestIn_15 : decode b_Ea_deepestIn 15 = .ok (.aaload, 1) := by decide +kernel
theorem d_Ea_deepestIn_16 : decode b_Ea_deepestIn 16 = .ok (.ifnull 30, 3) := by decide +kernel
theorem d_Ea_deepestIn_19 : decode b_Ea_deepestIn 19 = .ok (.aload_n 0, 1) := by decide +kernel
theorem d_Ea_deepestIn_20 : decode b_Ea_deepestIn 20 = .ok (.getfield 11, 3) := by decide +kernel
theorem d_Ea_deepestIn_23 : decode b_Ea_deepestIn 23 = .ok (.iload_n 3, 1) := by decide +kernel
theorem d_Ea_deepestIn_24 : decode b_Ea_deepestIn 24 = .ok (.aaload, 1) := by decide +kernel
theorem d_Ea_deepestIn_25 : decode b_Ea_deepestIn 25 = .ok (.aload_n 1, 1) := by decide +kernel
theorem d_Ea_deepestIn_26 : decode b_Ea_deepestIn 26 = .ok (.invokevirtual 129, 3) := by decide +kernel
theorem d_Ea_deepestIn_29 : decode b_Ea_deepestIn 29 = .ok (.ifCond .eq 17, 3) := by decide +kernel
theorem d_Ea_deepestIn_32 : decode b_Ea_deepestIn 32 = .ok (.iload_n 2, 1) := by decide +kernel
theorem d_Ea_deepestIn_33 : decode b_Ea_deepestIn 33 = .ok (.aload_n 0, 1) := by decide +kernel
theorem d_Ea_deepestIn_34 : decode b_Ea_deepestIn 34 = .ok (.getfield 11, 3) := by decide +kernel
theorem d_Ea_deepestIn_37 : decode b_Ea_deepestIn 37 = .ok (.iload_n 3, 1) := by decide +kernel
theorem d_Ea_deepestIn_38 : decode b_Ea_deepestIn 38 = .ok (.aaload, 1) := by decide +kernel
theorem d_Ea_deepestIn_39 : decode b_Ea_deepestIn 39 = .ok (.invokevirtual 44, 3) := by decide +kernel
theorem d_Ea_deepestIn_42 : decode b_Ea_deepestIn 42 = .ok (.invokestatic 250, 3) := by decide +kernel
theorem d_Ea_deepestIn_45 : decode b_Ea_deepestIn 45 = .ok (.istore_n 2, 1) := by decide +kernel
theorem d_Ea_deepestIn_46 : decode b_Ea_deepestIn 46 = .ok (.iinc 3 1, 3) := by decide +kernel
theorem d_Ea_deepestIn_49 : decode b_Ea_deepestIn 49 = .ok (.goto (-45), 3) := by decide +kernel
theorem d_Ea_deepestIn_52 : decode b_Ea_deepestIn 52 = .ok (.iload_n 2, 1) := by decide +kernel
theorem d_Ea_deepestIn_53 : decode b_Ea_deepestIn 53 = .ok (.ireturn, 1) := by decide +kernel
theorem d_Ea_node_0 : decode b_Ea_node 0 = .ok (.aload_n 0, 1) := by decide +kernel
theorem d_Ea_node_1 : decode b_Ea_node 1 = .ok (.iload_n 1, 1) := by decide +kernel
theorem d_Ea_node_2 : decode b_Ea_node 2 = .ok (.invokevirtual 26, 3) := by decide +kernel
theorem d_Ea_node_5 : decode b_Ea_node 5 = .ok (.astore 4, 2) := by decide +kernel
theorem d_Ea_node_7 : decode b_Ea_node 7 = .ok (.iload_n 2, 1) := by decide +kernel
theorem d_Ea_node_8 : decode b_Ea_node 8 = .ok (.iconst 0, 1) := by decide +kernel
theorem d_Ea_node_9 : decode b_Ea_node 9 = .ok (.iconst 3, 1) := by decide +kernel
theorem d_Ea_node_10 : decode b_Ea_node 10 = .ok (.invokestatic 30, 3) := by decide +kernel
theorem d_Ea_node_13 : decode b_Ea_node 13 = .ok (.iload_n 3, 1) := by decide +kernel
theorem d_Ea_node_14 : decode b_Ea_node 14 = .ok (.iconst 1, 1) := by decide +kernel
theorem d_Ea_node_15 : decode b_Ea_node 15 = .ok (.bipush 15, 2) := by decide +kernel
theorem d_Ea_node_17 : decode b_Ea_node 17 = .ok (.invokestatic 30, 3) := by decide +kernel
theorem d_Ea_node_20 : decode b_Ea_node 20 = .ok (.aload_n 0, 1) := by decide +kernel
theorem d_Ea_node_21 : decode b_Ea_node 21 = .ok (.invokevirtual 33, 3) := by decide +kernel
theorem d_Ea_node_24 : decode b_Ea_node 24 = .ok (.istore 5, 2) := by decide +kernel
theorem d_Ea_node_26 : decode b_Ea_node 26 = .ok (.iload 5, 2) := by decide +kernel
theorem d_Ea_node_28 : decode b_Ea_node 28 = .ok (.bipush 14, 2) := by decide +kernel
theorem d_Ea_node_30 : decode b_Ea_node 30 = .ok (.if_icmp .ne 13, 3) := by decide +kernel
theorem d_Ea_node_33 : decode b_Ea_node 33 = .ok (.new 37, 3) := by decide +kernel
theorem d_Ea_node_36 : decode b_Ea_node 36 = .ok (.dup, 1) := by decide +kernel
theorem d_Ea_node_37 : decode b_Ea_node 37 = .ok (.ldc 39, 2) := by decide +kernel
theorem d_Ea_node_39 : decode b_Ea_node 39 = .ok (.invokespecial 41, 3) := by decide +kernel
theorem d_Ea_node_42 : decode b_Ea_node 42 = .ok (.athrow, 1) := by decide +kernel
theorem d_Ea_node_43 : decode b_Ea_node 43 = .ok (.aload 4, 2) := by decide +kernel
theorem d_Ea_node_45 : decode b_Ea_node 45 = .ok (.invokevirtual 44, 3) := by decide +kernel
theorem d_Ea_node_48 : decode b_Ea_node 48 = .ok (.iconst 5, 1) := by decide +kernel
theorem d_Ea_node_49 : decode b_Ea_node 49 = .ok (.if_icmp .lt 13, 3) := by decide +kernel
theorem d_Ea_node_52 : decode b_Ea_node 52 = .ok (.new 37, 3) := by decide +kernel
theorem d_Ea_node_55 : decode b_Ea_node 55 = .ok (.dup, 1) := by decide +kernel
theorem d_Ea_node_56 : decode b_Ea_node 56 = .ok (.ldc 47, 2) := by decide +kernel
theorem d_Ea_node_58 : decode b_Ea_node 58 = .ok (.invokespecial 41, 3) := by decide +kernel
theorem d_Ea_node_61 : decode b_Ea_node 61 = .ok (.athrow, 1) := by decide +kernel
theorem d_Ea_node_62 : decode b_Ea_node 62 = .ok (.new 9, 3) := by decide +kernel
theorem d_Ea_node_65 : decode b_Ea_node 65 = .ok (.dup, 1) := by decide +kernel
theorem d_Ea_node_66 : decode b_Ea_node 66 = .ok (.iload 5, 2) := by decide +kernel
theorem d_Ea_node_68 : decode b_Ea_node 68 = .ok (.iload_n 2, 1) := by decide +kernel
theorem d_Ea_node_69 : decode b_Ea_node 69 = .ok (.iload_n 3, 1) := by decide +kernel
theorem d_Ea_node_70 : decode b_Ea_node 70 = .ok (.invokespecial 19, 3) := by decide +kernel
theorem d_Ea_node_73 : decode b_Ea_node 73 = .ok (.astore 6, 2) := by decide +kernel
theorem d_Ea_node_75 : decode b_Ea_node 75 = .ok (.aload_n 0, 1) := by decide +kernel
theorem d_Ea_node_76 : decode b_Ea_node 76 = .ok (.getfield 11, 3) := by decide +kernel
theorem d_Ea_node_79 : decode b_Ea_node 79 = .ok (.iload 5, 2) := by decide +kernel
theorem d_Ea_node_81 : decode b_Ea_node 81 = .ok (.aload 6, 2) := by decide +kernel
theorem d_Ea_node_83 : decode b_Ea_node 83 = .ok (.aastore, 1) := by decide +kernel
theorem d_Ea_node_84 : decode b_Ea_node 84 = .ok (.aload 6, 2) := by decide +kernel
theorem d_Ea_node_86 : decode b_Ea_node 86 = .ok (.aload 4, 2) := by decide +kernel
theorem d_Ea_node_88 : decode b_Ea_node 88 = .ok (.invokevirtual 49, 3) := by decide +kernel
theorem d_Ea_node_91 : decode b_Ea_node 91 = .ok (.iload 5, 2) := by decide +kernel
theorem d_Ea_node_93 : decode b_Ea_node 93 = .ok (.ireturn, 1) := by decide +kernel
theorem d_Ea_requireGroup_0 : decode b_Ea_requireGroup 0 = .ok (.aload_n 0, 1) := by decide +kernel
theorem d_Ea_requireGroup_1 : decode b_Ea_requireGroup 1 = .ok (.iload_n 1, 1) := by decide +kernel
theorem d_Ea_requireGroup_2 : decode b_Ea_requireGroup 2 = .ok (.invokevirtual 166, 3) := by decide +kernel
theorem d_Ea_requireGroup_5 : decode b_Ea_requireGroup 5 = .ok (.astore_n 2, 1) := by decide +kernel
theorem d_Ea_requireGroup_6 : decode b_Ea_requireGroup 6 = .ok (.aload_n 2, 1) := by decide +kernel
theorem d_Ea_requireGroup_7 : decode b_Ea_requireGroup 7 = .ok (.getfield 190, 3) := by decide +kernel
theorem d_Ea_requireGroup_10 : decode b_Ea_requireGroup 10 = .ok (.ifCond .eq 13, 3) := by decide +kernel
theorem d_Ea_requireGroup_13 : decode b_Ea_requireGroup 13 = .ok (.new 219, 3) := by decide +kernel
theorem d_Ea_requireGroup_16 : decode b_Ea_requireGroup 16 = .ok (.dup, 1) := by decide +kernel
theorem d_Ea_requireGroup_17 : decode b_Ea_requireGroup 17 = .ok (.ldc 226, 2) := by decide +kernel
theorem d_Ea_requireGroup_19 : decode b_Ea_requireGroup 19 = .ok (.invokespecial 223, 3) := by decide +kernel
theorem d_Ea_requireGroup_22 : decode b_Ea_requireGroup 22 = .ok (.athrow, 1) := by decide +kernel
theorem d_Ea_requireGroup_23 : decode b_Ea_requireGroup 23 = .ok (.aload_n 2, 1) := by decide +kernel
theorem d_Ea_requireGroup_24 : decode b_Ea_requireGroup 24 = .ok (.areturn, 1) := by decide +kernel
theorem d_Ea_requireNode_0 : decode b_Ea_requireNode 0 = .ok (.iload_n 1, 1) := by decide +kernel
theorem d_Ea_requireNode_1 : decode b_Ea_requireNode 1 = .ok (.ifCond .lt 18, 3) := by decide +kernel
theorem d_Ea_requireNode_4 : decode b_Ea_requireNode 4 = .ok (.iload_n 1, 1) := by decide +kernel
theorem d_Ea_requireNode_5 : decode b_Ea_requireNode 5 = .ok (.bipush 14, 2) := by decide +kernel
theorem d_Ea_requireNode_7 : decode b_Ea_requireNode 7 = .ok (.if_icmp .ge 12, 3) := by decide +kernel
theorem d_Ea_requireNode_10 : decode b_Ea_requireNode 10 = .ok (.aload_n 0, 1) := by decide +kernel
theorem d_Ea_requireNode_11 : decode b_Ea_requireNode 11 = .ok (.getfield 11, 3) := by decide +kernel
theorem d_Ea_requireNode_14 : decode b_Ea_requireNode 14 = .ok (.iload_n 1, 1) := by decide +kernel
theorem d_Ea_requireNode_15 : decode b_Ea_requireNode 15 = .ok (.aaload, 1) := by decide +kernel
theorem d_Ea_requireNode_16 : decode b_Ea_requireNode 16 = .ok (.ifnonnull 13, 3) := by decide +kernel
theorem d_Ea_requireNode_19 : decode b_Ea_requireNode 19 = .ok (.new 219, 3) := by decide +kernel
theorem d_Ea_requireNode_22 : decode b_Ea_requireNode 22 = .ok (.dup, 1) := by decide +kernel
theorem d_Ea_requireNode_23 : decode b_Ea_requireNode 23 = .ok (.ldc 221, 2) := by decide +kernel
theorem d_Ea_requireNode_25 : decode b_Ea_requireNode 25 = .ok (.invokespecial 223, 3) := by decide +kernel
theorem d_Ea_requireNode_28 : decode b_Ea_requireNode 28 = .ok (.athrow, 1) := by decide +kernel
theorem d_Ea_requireNode_29 : decode b_Ea_requireNode 29 = .ok (.aload_n 0, 1) := by decide +kernel
theorem d_Ea_requireNode_30 : decode b_Ea_requireNode 30 = .ok (.getfield 11, 3) := by decide +kernel
theorem d_Ea_requireNode_33 : decode b_Ea_requireNode 33 = .ok (.iload_n 1, 1) := by decide +kernel
theorem d_Ea_requireNode_34 : decode b_Ea_requireNode 34 = .ok (.aaload, 1) := by decide +kernel
theorem d_Ea_requireNode_35 : decode b_Ea_requireNode 35 = .ok (.areturn, 1) := by decide +kernel
theorem d_Ea_requireWithin_0 : decode b_Ea_requireWithin 0 = .ok (.iload_n 0, 1) := by decide +kernel
theorem d_Ea_requireWithin_1 : decode b_Ea_requireWithin 1 = .ok (.iload_n 1, 1) := by decide +kernel
theorem d_Ea_requireWithin_2 : decode b_Ea_requireWithin 2 = .ok (.if_icmp .lt 8, 3) := by decide +kernel
theorem d_Ea_requireWithin_5 : decode b_Ea_requireWithin 5 = .ok (.iload_n 0, 1) := by decide +kernel
theorem d_Ea_requireWithin_6 : decode b_Ea_requireWithin 6 = .ok (.iload_n 2, 1) := by decide +kernel
theorem d_Ea_requireWithin_7 : decode b_Ea_requireWithin 7 = .ok (.if_icmp .le 13, 3) := by decide +kernel
theorem d_Ea_requireWithin_10 : decode b_Ea_requireWithin 10 = .ok (.new 219, 3) := by decide +kernel
theorem d_Ea_requireWithin_13 : decode b_Ea_requireWithin 13 = .ok (.dup, 1) := by decide +kernel
theorem d_Ea_requireWithin_14 : decode b_Ea_requireWithin 14 = .ok (.ldc 230, 2) := by decide +kernel
theorem d_Ea_requireWithin_16 : decode b_Ea_requireWithin 16 = .ok (.invokespecial 223, 3) := by decide +kernel
theorem d_Ea_requireWithin_19 : decode b_Ea_requireWithin 19 = .ok (.athrow, 1) := by decide +kernel
theorem d_Ea_requireWithin_20 : decode b_Ea_requireWithin 20 = .ok (.return_, 1) := by decide +kernel
theorem d_Ea_leastFreeNumber_0 : decode b_Ea_leastFreeNumber 0 = .ok (.iconst 0, 1) := by decide +kernel
theorem d_Ea_leastFreeNumber_1 : decode b_Ea_leastFreeNumber 1 = .ok (.istore_n 1, 1) := by decide +kernel
theorem d_Ea_leastFreeNumber_2 : decode b_Ea_leastFreeNumber 2 = .ok (.iload_n 1, 1) := by decide +kernel
theorem d_Ea_leastFreeNumber_3 : decode b_Ea_leastFreeNumber 3 = .ok (.bipush 14, 2) := by decide +kernel
theorem d_Ea_leastFreeNumber_5 : decode b_Ea_leastFreeNumber 5 = .ok (.if_icmp .ge 18, 3) := by decide +kernel
theorem d_Ea_leastFreeNumber_8 : decode b_Ea_leastFreeNumber 8 = .ok (.aload_n 0, 1) := by decide +kernel
theorem d_Ea_leastFreeNumber_9 : decode b_Ea_leastFreeNumber 9 = .ok (.getfield 11, 3) := by decide +kernel
theorem d_Ea_leastFreeNumber_12 : decode b_Ea_leastFreeNumber 12 = .ok (.iload_n 1, 1) := by decide +kernel
theorem d_Ea_leastFreeNumber_13 : decode b_Ea_leastFreeNumber 13 = .ok (.aaload, 1) := by decide +kernel
theorem d_Ea_leastFreeNumber_14 : decode b_Ea_leastFreeNumber 14 = .ok (.ifnull 9, 3) := by decide +kernel
theorem d_Ea_leastFreeNumber_17 : decode b_Ea_leastFreeNumber 17 = .ok (.iinc 1 1, 3) := by decide +kernel
theorem d_Ea_leastFreeNumber_20 : decode b_Ea_leastFreeNumber 20 = .ok (.goto (-18), 3) := by decide +kernel
theorem d_Ea_leastFreeNumber_23 : decode b_Ea_leastFreeNumber 23 = .ok (.iload_n 1, 1) := by decide +kernel
theorem d_Ea_leastFreeNumber_24 : decode b_Ea_leastFreeNumber 24 = .ok (.ireturn, 1) := by decide +kernel
theorem d_Ea_lengths_0 : decode b_Ea_lengths 0 = .ok (.aload_n 0, 1) := by decide +kernel
theorem d_Ea_lengths_1 : decode b_Ea_lengths 1 = .ok (.iload_n 1, 1) := by decide +kernel
theorem d_Ea_lengths_2 : decode b_Ea_lengths 2 = .ok (.invokevirtual 53, 3) := by decide +kernel
theorem d_Ea_lengths_5 : decode b_Ea_lengths 5 = .ok (.astore 6, 2) := by decide +kernel
theorem d_Ea_lengths_7 : decode b_Ea_lengths 7 = .ok (.dload_n 2, 1) := by decide +kernel
theorem d_Ea_lengths_8 : decode b_Ea_lengths 8 = .ok (.invokestatic 56, 3) := by decide +kernel
theorem d_Ea_lengths_11 : decode b_Ea_lengths 11 = .ok (.dload 4, 2) := by decide +kernel
theorem d_Ea_lengths_13 : decode b_Ea_lengths 13 = .ok (.invokestatic 56, 3) := by decide +kernel
theorem d_Ea_lengths_16 : decode b_Ea_lengths 16 = .ok (.aload 6, 2) := by decide +kernel
theorem d_Ea_lengths_18 : decode b_Ea_lengths 18 = .ok (.dload_n 2, 1) := by decide +kernel
theorem d_Ea_lengths_19 : decode b_Ea_lengths 19 = .ok (.putfield 60, 3) := by decide +kernel
theorem d_Ea_lengths_22 : decode b_Ea_lengths 22 = .ok (.aload 6, 2) := by decide +kernel
theorem d_Ea_lengths_24 : decode b_Ea_lengths 24 = .ok (.dload 4, 2) := by decide +kernel
theorem d_Ea_lengths_26 : decode b_Ea_lengths 26 = .ok (.putfield 64, 3) := by decide +kernel
theorem d_Ea_lengths_29 : decode b_Ea_lengths 29 = .ok (.return_, 1) := by decide +kernel
theorem d_Ea_requireShape_0 : decode b_Ea_requireShape 0 = .ok (.aload_n 0, 1) := by decide +kernel
theorem d_Ea_requireShape_1 : decode b_Ea_requireShape 1 = .ok (.iload_n 1, 1) := by decide +kernel
theorem d_Ea_requireShape_2 : decode b_Ea_requireShape 2 = .ok (.invokevirtual 166, 3) := by decide +kernel
theorem d_Ea_requireShape_5 : decode b_Ea_requireShape 5 = .ok (.astore_n 2, 1) := by decide +kernel
theorem d_Ea_requireShape_6 : decode b_Ea_requireShape 6 = .ok (.aload_n 2, 1) := by decide +kernel
theorem d_Ea_requireShape_7 : decode b_Ea_requireShape 7 = .ok (.getfield 190, 3) := by decide +kernel
theorem d_Ea_requireShape_10 : decode b_Ea_requireShape 10 = .ok (.ifCond .ne 13, 3) := by decide +kernel
theorem d_Ea_requireShape_13 : decode b_Ea_requireShape 13 = .ok (.new 219, 3) := by decide +kernel
theorem d_Ea_requireShape_16 : decode b_Ea_requireShape 16 = .ok (.dup, 1) := by decide +kernel
theorem d_Ea_requireShape_17 : decode b_Ea_requireShape 17 = .ok (.ldc 228, 2) := by decide +kernel
theorem d_Ea_requireShape_19 : decode b_Ea_requireShape 19 = .ok (.invokespecial 223, 3) := by decide +kernel
theorem d_Ea_requireShape_22 : decode b_Ea_requireShape 22 = .ok (.athrow, 1) := by decide +kernel
theorem d_Ea_requireShape_23 : decode b_Ea_requireShape 23 = .ok (.aload_n 2, 1) := by decide +kernel
theorem d_Ea_requireShape_24 : decode b_Ea_requireShape 24 = .ok (.areturn, 1) := by decide +kernel
theorem d_Ea_requireLength_0 : decode b_Ea_requireLength 0 = .ok (.dload_n 0, 1) := by decide +kernel
theorem d_Ea_requireLength_1 : decode b_Ea_requireLength 1 = .ok (.ldc2_w 232, 3) := by decide +kernel
theorem d_Ea_requireLength_4 : decode b_Ea_requireLength 4 = .ok (.ldc2_w 234, 3) := by decide +kernel
theorem d_Ea_requireLength_7 : decode b_Ea_requireLength 7 = .ok (.invokestatic 88, 3) := by decide +kernel
theorem d_Ea_requireLength_10 : decode b_Ea_requireLength 10 = .ok (.dload_n 0, 1) := by decide +kernel
theorem d_Ea_requireLength_11 : decode b_Ea_requireLength 11 = .ok (.bipush 8, 2) := by decide +kernel
theorem d_Ea_requireLength_13 : decode b_Ea_requireLength 13 = .ok (.invokestatic 236, 3) := by decide +kernel
theorem d_Ea_requireLength_16 : decode b_Ea_requireLength 16 = .ok (.return_, 1) := by decide +kernel
theorem d_Ea_requireBetween_0 : decode b_Ea_requireBetween 0 = .ok (.dload_n 0, 1) := by decide +kernel
theorem d_Ea_requireBetween_1 : decode b_Ea_requireBetween 1 = .ok (.dload_n 2, 1) := by decide +kernel
theorem d_Ea_requireBetween_2 : decode b_Ea_requireBetween 2 = .ok (.dcmp .l, 1) := by decide +kernel
theorem d_Ea_requireBetween_3 : decode b_Ea_requireBetween 3 = .ok (.ifCond .lt 10, 3) := by decide +kernel
theorem d_Ea_requireBetween_6 : decode b_Ea_requireBetween 6 = .ok (.dload_n 0, 1) := by decide +kernel
theorem d_Ea_requireBetween_7 : decode b_Ea_requireBetween 7 = .ok (.dload 4, 2) := by decide +kernel
theorem d_Ea_requireBetween_9 : decode b_Ea_requireBetween 9 = .ok (.dcmp .g, 1) := by decide +kernel
theorem d_Ea_requireBetween_10 : decode b_Ea_requireBetween 10 = .ok (.ifCond .le 13, 3) := by decide +kernel
theorem d_Ea_requireBetween_13 : decode b_Ea_requireBetween 13 = .ok (.new 219, 3) := by decide +kernel
theorem d_Ea_requireBetween_16 : decode b_Ea_requireBetween 16 = .ok (.dup, 1) := by decide +kernel
theorem d_Ea_requireBetween_17 : decode b_Ea_requireBetween 17 = .ok (.ldc 230, 2) := by decide +kernel
theorem d_Ea_requireBetween_19 : decode b_Ea_requireBetween 19 = .ok (.invokespecial 223, 3) := by decide +kernel
theorem d_Ea_requireBetween_22 : decode b_Ea_requireBetween 22 = .ok (.athrow, 1) := by decide +kernel
theorem d_Ea_requireBetween_23 : decode b_Ea_requireBetween 23 = .ok (.return_, 1) := by decide +kernel
theorem d_Ea_requireMultiple_0 : decode b_Ea_requireMultiple 0 = .ok (.dload_n 0, 1) := by decide +kernel
theorem d_Ea_requireMultiple_1 : decode b_Ea_requireMultiple 1 = .ok (.iload_n 2, 1) := by decide +kernel
theorem d_Ea_requireMultiple_2 : decode b_Ea_requireMultiple 2 = .ok (.i2d, 1) := by decide +kernel
theorem d_Ea_requireMultiple_3 : decode b_Ea_requireMultiple 3 = .ok (.dmul, 1) := by decide +kernel
theorem d_Ea_requireMultiple_4 : decode b_Ea_requireMultiple 4 = .ok (.dstore_n 3, 1) := by decide +kernel
theorem d_Ea_requireMultiple_5 : decode b_Ea_requireMultiple 5 = .ok (.dload_n 3, 1) := by decide +kernel
theorem d_Ea_requireMultiple_6 : decode b_Ea_requireMultiple 6 = .ok (.dload_n 3, 1) := by decide +kernel
theorem d_Ea_requireMultiple_7 : decode b_Ea_requireMultiple 7 = .ok (.d2i, 1) := by decide +kernel
theorem d_Ea_requireMultiple_8 : decode b_Ea_requireMultiple 8 = .ok (.i2d, 1) := by decide +kernel
theorem d_Ea_requireMultiple_9 : decode b_Ea_requireMultiple 9 = .ok (.dcmp .l, 1) := by decide +kernel
theorem d_Ea_requireMultiple_10 : decode b_Ea_requireMultiple 10 = .ok (.ifCond .eq 13, 3) := by decide +kernel
theorem d_Ea_requireMultiple_13 : decode b_Ea_requireMultiple 13 = .ok (.new 219, 3) := by decide +kernel
theorem d_Ea_requireMultiple_16 : decode b_Ea_requireMultiple 16 = .ok (.dup, 1) := by decide +kernel
theorem d_Ea_requireMultiple_17 : decode b_Ea_requireMultiple 17 = .ok (.ldc 248, 2) := by decide +kernel
theorem d_Ea_requireMultiple_19 : decode b_Ea_requireMultiple 19 = .ok (.invokespecial 223, 3) := by decide +kernel
theorem d_Ea_requireMultiple_22 : decode b_Ea_requireMultiple 22 = .ok (.athrow, 1) := by decide +kernel
theorem d_Ea_requireMultiple_23 : decode b_Ea_requireMultiple 23 = .ok (.return_, 1) := by decide +kernel
theorem d_Ea_place_0 : decode b_Ea_place 0 = .ok (.aload_n 0, 1) := by decide +kernel
theorem d_Ea_place_1 : decode b_Ea_place 1 = .ok (.iload_n 1, 1) := by decide +kernel
theorem d_Ea_place_2 : decode b_Ea_place 2 = .ok (.invokevirtual 67, 3) := by decide +kernel
theorem d_Ea_place_5 : decode b_Ea_place 5 = .ok (.astore 6, 2) := by decide +kernel
theorem d_Ea_place_7 : decode b_Ea_place 7 = .ok (.dload_n 2, 1) := by decide +kernel
theorem d_Ea_place_8 : decode b_Ea_place 8 = .ok (.invokestatic 70, 3) := by decide +kernel
theorem d_Ea_place_11 : decode b_Ea_place 11 = .ok (.dload 4, 2) := by decide +kernel
theorem d_Ea_place_13 : decode b_Ea_place 13 = .ok (.invokestatic 70, 3) := by decide +kernel
theorem d_Ea_place_16 : decode b_Ea_place 16 = .ok (.aload 6, 2) := by decide +kernel
theorem d_Ea_place_18 : decode b_Ea_place 18 = .ok (.dload_n 2, 1) := by decide +kernel
theorem d_Ea_place_19 : decode b_Ea_place 19 = .ok (.putfield 73, 3) := by decide +kernel
theorem d_Ea_place_22 : decode b_Ea_place 22 = .ok (.aload 6, 2) := by decide +kernel
theorem d_Ea_place_24 : decode b_Ea_place 24 = .ok (.dload 4, 2) := by decide +kernel
theorem d_Ea_place_26 : decode b_Ea_place 26 = .ok (.putfield 76, 3) := by decide +kernel
theorem d_Ea_place_29 : decode b_Ea_place 29 = .ok (.return_, 1) := by decide +kernel
theorem d_Ea_requireInner_0 : decode b_Ea_requireInner 0 = .ok (.aload_n 0, 1) := by decide +kernel
theorem d_Ea_requireInner_1 : decode b_Ea_requireInner 1 = .ok (.iload_n 1, 1) := by decide +kernel
theorem d_Ea_requireInner_2 : decode b_Ea_requireInner 2 = .ok (.invokevirtual 166, 3) := by decide +kernel
theorem d_Ea_requireInner_5 : decode b_Ea_requireInner 5 = .ok (.astore_n 2, 1) := by decide +kernel
theorem d_Ea_requireInner_6 : decode b_Ea_requireInner 6 = .ok (.aload_n 2, 1) := by decide +kernel
theorem d_Ea_requireInner_7 : decode b_Ea_requireInner 7 = .ok (.aload_n 0, 1) := by decide +kernel
theorem d_Ea_requireInner_8 : decode b_Ea_requireInner 8 = .ok (.getfield 22, 3) := by decide +kernel
theorem d_Ea_requireInner_11 : decode b_Ea_requireInner 11 = .ok (.if_acmp .ne 13, 3) := by decide +kernel
theorem d_Ea_requireInner_14 : decode b_Ea_requireInner 14 = .ok (.new 219, 3) := by decide +kernel
theorem d_Ea_requireInner_17 : decode b_Ea_requireInner 17 = .ok (.dup, 1) := by decide +kernel
theorem d_Ea_requireInner_18 : decode b_Ea_requireInner 18 = .ok (.ldc 224, 2) := by decide +kernel
theorem d_Ea_requireInner_20 : decode b_Ea_requireInner 20 = .ok (.invokespecial 223, 3) := by decide +kernel
theorem d_Ea_requireInner_23 : decode b_Ea_requireInner 23 = .ok (.athrow, 1) := by decide +kernel
theorem d_Ea_requireInner_24 : decode b_Ea_requireInner 24 = .ok (.aload_n 2, 1) := by decide +kernel
theorem d_Ea_requireInner_25 : decode b_Ea_requireInner 25 = .ok (.areturn, 1) := by decide +kernel
theorem d_Ea_requirePlace_0 : decode b_Ea_requirePlace 0 = .ok (.dload_n 0, 1) := by decide +kernel
theorem d_Ea_requirePlace_1 : decode b_Ea_requirePlace 1 = .ok (.ldc2_w 240, 3) := by decide +kernel
theorem d_Ea_requirePlace_4 : decode b_Ea_requirePlace 4 = .ok (.ldc2_w 234, 3) := by decide +kernel
theorem d_Ea_requirePlace_7 : decode b_Ea_requirePlace 7 = .ok (.invokestatic 88, 3) := by decide +kernel
theorem d_Ea_requirePlace_10 : decode b_Ea_requirePlace 10 = .ok (.dload_n 0, 1) := by decide +kernel
theorem d_Ea_requirePlace_11 : decode b_Ea_requirePlace 11 = .ok (.bipush 8, 2) := by decide +kernel
theorem d_Ea_requirePlace_13 : decode b_Ea_requirePlace 13 = .ok (.invokestatic 236, 3) := by decide +kernel
theorem d_Ea_requirePlace_16 : decode b_Ea_requirePlace 16 = .ok (.return_, 1) := by decide +kernel
theorem d_Ea_lay_0 : decode b_Ea_lay 0 = .ok (.aload_n 0, 1) := by decide +kernel
theorem d_Ea_lay_1 : decode b_Ea_lay 1 = .ok (.iload_n 1, 1) := by decide +kernel
theorem d_Ea_lay_2 : decode b_Ea_lay 2 = .ok (.invokevirtual 67, 3) := by decide +kernel
theorem d_Ea_lay_5 : decode b_Ea_lay 5 = .ok (.astore 4, 2) := by decide +kernel
theorem d_Ea_lay_7 : decode b_Ea_lay 7 = .ok (.iload_n 2, 1) := by decide +kernel
theorem d_Ea_lay_8 : decode b_Ea_lay 8 = .ok (.iconst 0, 1) := by decide +kernel
theorem d_Ea_lay_9 : decode b_Ea_lay 9 = .ok (.iconst 3, 1) := by decide +kernel
theorem d_Ea_lay_10 : decode b_Ea_lay 10 = .ok (.invokestatic 30, 3) := by decide +kernel
theorem d_Ea_lay_13 : decode b_Ea_lay 13 = .ok (.iload_n 3, 1) := by decide +kernel
theorem d_Ea_lay_14 : decode b_Ea_lay 14 = .ok (.bipush (-2), 2) := by decide +kernel
theorem d_Ea_lay_16 : decode b_Ea_lay 16 = .ok (.iconst 2, 1) := by decide +kernel
theorem d_Ea_lay_17 : decode b_Ea_lay 17 = .ok (.invokestatic 30, 3) := by decide +kernel
theorem d_Ea_lay_20 : decode b_Ea_lay 20 = .ok (.aload 4, 2) := by decide +kernel
theorem d_Ea_lay_22 : decode b_Ea_lay 22 = .ok (.iload_n 2, 1) := by decide +kernel
theorem d_Ea_lay_23 : decode b_Ea_lay 23 = .ok (.putfield 79, 3) := by decide +kernel
theorem d_Ea_lay_26 : decode b_Ea_lay 26 = .ok (.aload 4, 2) := by decide +kernel
theorem d_Ea_lay_28 : decode b_Ea_lay 28 = .ok (.iload_n 3, 1) := by decide +kernel
theorem d_Ea_lay_29 : decode b_Ea_lay 29 = .ok (.putfield 83, 3) := by decide +kernel
theorem d_Ea_lay_32 : decode b_Ea_lay 32 = .ok (.return_, 1) := by decide +kernel
theorem d_Ea_mode_0 : decode b_Ea_mode 0 = .ok (.aload_n 0, 1) := by decide +kernel
theorem d_Ea_mode_1 : decode b_Ea_mode 1 = .ok (.iload_n 1, 1) := by decide +kernel
theorem d_Ea_mode_2 : decode b_Ea_mode 2 = .ok (.invokevirtual 26, 3) := by decide +kernel
theorem d_Ea_mode_5 : decode b_Ea_mode 5 = .ok (.astore 5, 2) := by decide +kernel
theorem d_Ea_mode_7 : decode b_Ea_mode 7 = .ok (.iload_n 2, 1) := by decide +kernel
theorem d_Ea_mode_8 : decode b_Ea_mode 8 = .ok (.iconst 0, 1) := by decide +kernel
theorem d_Ea_mode_9 : decode b_Ea_mode 9 = .ok (.iconst 2, 1) := by decide +kernel
theorem d_Ea_mode_10 : decode b_Ea_mode 10 = .ok (.invokestatic 30, 3) := by decide +kernel
theorem d_Ea_mode_13 : decode b_Ea_mode 13 = .ok (.dload_n 3, 1) := by decide +kernel
theorem d_Ea_mode_14 : decode b_Ea_mode 14 = .ok (.dconst 1, 1) := by decide +kernel
theorem d_Ea_mode_15 : decode b_Ea_mode 15 = .ok (.ldc2_w 86, 3) := by decide +kernel
theorem d_Ea_mode_18 : decode b_Ea_mode 18 = .ok (.invokestatic 88, 3) := by decide +kernel
theorem d_Ea_mode_21 : decode b_Ea_mode 21 = .ok (.aload 5, 2) := by decide +kernel
theorem d_Ea_mode_23 : decode b_Ea_mode 23 = .ok (.iload_n 2, 1) := by decide +kernel
theorem d_Ea_mode_24 : decode b_Ea_mode 24 = .ok (.putfield 92, 3) := by decide +kernel
theorem d_Ea_mode_27 : decode b_Ea_mode 27 = .ok (.aload 5, 2) := by decide +kernel
theorem d_Ea_mode_29 : decode b_Ea_mode 29 = .ok (.dload_n 3, 1) := by decide +kernel
theorem d_Ea_mode_30 : decode b_Ea_mode 30 = .ok (.putfield 95, 3) := by decide +kernel
theorem d_Ea_mode_33 : decode b_Ea_mode 33 = .ok (.return_, 1) := by decide +kernel
theorem d_Ea_hide_0 : decode b_Ea_hide 0 = .ok (.aload_n 0, 1) := by decide +kernel
theorem d_Ea_hide_1 : decode b_Ea_hide 1 = .ok (.iload_n 1, 1) := by decide +kernel
theorem d_Ea_hide_2 : decode b_Ea_hide 2 = .ok (.invokevirtual 67, 3) := by decide +kernel
theorem d_Ea_hide_5 : decode b_Ea_hide 5 = .ok (.iload_n 2, 1) := by decide +kernel
theorem d_Ea_hide_6 : decode b_Ea_hide 6 = .ok (.putfield 98, 3) := by decide +kernel
theorem d_Ea_hide_9 : decode b_Ea_hide 9 = .ok (.return_, 1) := by decide +kernel
theorem d_Ea_key_0 : decode b_Ea_key 0 = .ok (.aload_n 0, 1) := by decide +kernel
theorem d_Ea_key_1 : decode b_Ea_key 1 = .ok (.iload_n 1, 1) := by decide +kernel
theorem d_Ea_key_2 : decode b_Ea_key 2 = .ok (.invokevirtual 67, 3) := by decide +kernel
theorem d_Ea_key_5 : decode b_Ea_key 5 = .ok (.astore 7, 2) := by decide +kernel
theorem d_Ea_key_7 : decode b_Ea_key 7 = .ok (.iload_n 2, 1) := by decide +kernel
theorem d_Ea_key_8 : decode b_Ea_key 8 = .ok (.iconst 0, 1) := by decide +kernel
theorem d_Ea_key_9 : decode b_Ea_key 9 = .ok (.iconst 3, 1) := by decide +kernel
theorem d_Ea_key_10 : decode b_Ea_key 10 = .ok (.invokestatic 30, 3) := by decide +kernel
theorem d_Ea_key_13 : decode b_Ea_key 13 = .ok (.dload_n 3, 1) := by decide +kernel
theorem d_Ea_key_14 : decode b_Ea_key 14 = .ok (.invokestatic 102, 3) := by decide +kernel
theorem d_Ea_key_17 : decode b_Ea_key 17 = .ok (.iload_n 2, 1) := by decide +kernel
theorem d_Ea_key_18 : decode b_Ea_key 18 = .ok (.dload 5, 2) := by decide +kernel
theorem d_Ea_key_20 : decode b_Ea_key 20 = .ok (.invokestatic 105, 3) := by decide +kernel
theorem d_Ea_key_23 : decode b_Ea_key 23 = .ok (.aload 7, 2) := by decide +kernel
theorem d_Ea_key_25 : decode b_Ea_key 25 = .ok (.getfield 109, 3) := by decide +kernel
theorem d_Ea_key_28 : decode b_Ea_key 28 = .ok (.iload_n 2, 1) := by decide +kernel
theorem d_Ea_key_29 : decode b_Ea_key 29 = .ok (.aaload, 1) := by decide +kernel
theorem d_Ea_key_30 : decode b_Ea_key 30 = .ok (.astore 8, 2) := by decide +kernel
theorem d_Ea_key_32 : decode b_Ea_key 32 = .ok (.aload 8, 2) := by decide +kernel
theorem d_Ea_key_34 : decode b_Ea_key 34 = .ok (.dload_n 3, 1) := by decide +kernel
theorem d_Ea_key_35 : decode b_Ea_key 35 = .ok (.dload 5, 2) := by decide +kernel
theorem d_Ea_key_37 : decode b_Ea_key 37 = .ok (.invokevirtual 113, 3) := by decide +kernel
theorem d_Ea_key_40 : decode b_Ea_key 40 = .ok (.ifCond .ne 13, 3) := by decide +kernel
theorem d_Ea_key_43 : decode b_Ea_key 43 = .ok (.new 37, 3) := by decide +kernel
theorem d_Ea_key_46 : decode b_Ea_key 46 = .ok (.dup, 1) := by decide +kernel
theorem d_Ea_key_47 : decode b_Ea_key 47 = .ok (.ldc 119, 2) := by decide +kernel
theorem d_Ea_key_49 : decode b_Ea_key 49 = .ok (.invokespecial 41, 3) := by decide +kernel
theorem d_Ea_key_52 : decode b_Ea_key 52 = .ok (.athrow, 1) := by decide +kernel
theorem d_Ea_key_53 : decode b_Ea_key 53 = .ok (.aload 8, 2) := by decide +kernel
theorem d_Ea_key_55 : decode b_Ea_key 55 = .ok (.getfield 121, 3) := by decide +kernel
theorem d_Ea_key_58 : decode b_Ea_key 58 = .ok (.ireturn, 1) := by decide +kernel
theorem d_Ea_requireTime_0 : decode b_Ea_requireTime 0 = .ok (.dload_n 0, 1) := by decide +kernel
theorem d_Ea_requireTime_1 : decode b_Ea_requireTime 1 = .ok (.dconst 0, 1) := by decide +kernel
theorem d_Ea_requireTime_2 : decode b_Ea_requireTime 2 = .ok (.ldc2_w 159, 3) := by decide +kernel
theorem d_Ea_requireTime_5 : decode b_Ea_requireTime 5 = .ok (.invokestatic 88, 3) := by decide +kernel
theorem d_Ea_requireTime_8 : decode b_Ea_requireTime 8 = .ok (.return_, 1) := by decide +kernel
theorem d_Ea_requireValue_0 : decode b_Ea_requireValue 0 = .ok (.iload_n 0, 1) := by decide +kernel
theorem d_Ea_requireValue_1 : decode b_Ea_requireValue 1 = .ok (.iconst 2, 1) := by decide +kernel
theorem d_Ea_requireValue_2 : decode b_Ea_requireValue 2 = .ok (.if_icmp .ne 21, 3) := by decide +kernel
theorem d_Ea_requireValue_5 : decode b_Ea_requireValue 5 = .ok (.dload_n 1, 1) := by decide +kernel
theorem d_Ea_requireValue_6 : decode b_Ea_requireValue 6 = .ok (.ldc2_w 242, 3) := by decide +kernel
theorem d_Ea_requireValue_9 : decode b_Ea_requireValue 9 = .ok (.ldc2_w 244, 3) := by decide +kernel
theorem d_Ea_requireValue_12 : decode b_Ea_requireValue 12 = .ok (.invokestatic 88, 3) := by decide +kernel
theorem d_Ea_requireValue_15 : decode b_Ea_requireValue 15 = .ok (.dload_n 1, 1) := by decide +kernel
theorem d_Ea_requireValue_16 : decode b_Ea_requireValue 16 = .ok (.iconst 1, 1) := by decide +kernel
theorem d_Ea_requireValue_17 : decode b_Ea_requireValue 17 = .ok (.invokestatic 236, 3) := by decide +kernel
theorem d_Ea_requireValue_20 : decode b_Ea_requireValue 20 = .ok (.goto 28, 3) := by decide +kernel
theorem d_Ea_requireValue_23 : decode b_Ea_requireValue 23 = .ok (.iload_n 0, 1) := by decide +kernel
theorem d_Ea_requireValue_24 : decode b_Ea_requireValue 24 = .ok (.iconst 3, 1) := by decide +kernel
theorem d_Ea_requireValue_25 : decode b_Ea_requireValue 25 = .ok (.if_icmp .ne 19, 3) := by decide +kernel
theorem d_Ea_requireValue_28 : decode b_Ea_requireValue 28 = .ok (.dload_n 1, 1) := by decide +kernel
theorem d_Ea_requireValue_29 : decode b_Ea_requireValue 29 = .ok (.dconst 1, 1) := by decide +kernel
theorem d_Ea_requireValue_30 : decode b_Ea_requireValue 30 = .ok (.ldc2_w 246, 3) := by decide +kernel
theorem d_Ea_requireValue_33 : decode b_Ea_requireValue 33 = .ok (.invokestatic 88, 3) := by decide +kernel
theorem d_Ea_requireValue_36 : decode b_Ea_requireValue 36 = .ok (.dload_n 1, 1) := by decide +kernel
theorem d_Ea_requireValue_37 : decode b_Ea_requireValue 37 = .ok (.iconst 1, 1) := by decide +kernel
theorem d_Ea_requireValue_38 : decode b_Ea_requireValue 38 = .ok (.invokestatic 236, 3) := by decide +kernel
theorem d_Ea_requireValue_41 : decode b_Ea_requireValue 41 = .ok (.goto 7, 3) := by decide +kernel
theorem d_Ea_requireValue_44 : decode b_Ea_requireValue 44 = .ok (.dload_n 1, 1) := by decide +kernel
theorem d_Ea_requireValue_45 : decode b_Ea_requireValue 45 = .ok (.invokestatic 70, 3) := by decide +kernel
theorem d_Ea_requireValue_48 : decode b_Ea_requireValue 48 = .ok (.return_, 1) := by decide +kernel
theorem d_Ea_unkey_0 : decode b_Ea_unkey 0 = .ok (.aload_n 0, 1) := by decide +kernel
theorem d_Ea_unkey_1 : decode b_Ea_unkey 1 = .ok (.iload_n 1, 1) := by decide +kernel
theorem d_Ea_unkey_2 : decode b_Ea_unkey 2 = .ok (.invokevirtual 67, 3) := by decide +kernel
theorem d_Ea_unkey_5 : decode b_Ea_unkey 5 = .ok (.astore_n 3, 1) := by decide +kernel
theorem d_Ea_unkey_6 : decode b_Ea_unkey 6 = .ok (.iload_n 2, 1) := by decide +kernel
theorem d_Ea_unkey_7 : decode b_Ea_unkey 7 = .ok (.iconst 0, 1) := by decide +kernel
theorem d_Ea_unkey_8 : decode b_Ea_unkey 8 = .ok (.iconst 3, 1) := by decide +kernel
theorem d_Ea_unkey_9 : decode b_Ea_unkey 9 = .ok (.invokestatic 30, 3) := by decide +kernel
theorem d_Ea_unkey_12 : decode b_Ea_unkey 12 = .ok (.aload_n 3, 1) := by decide +kernel
theorem d_Ea_unkey_13 : decode b_Ea_unkey 13 = .ok (.getfield 109, 3) := by decide +kernel
theorem d_Ea_unkey_16 : decode b_Ea_unkey 16 = .ok (.iload_n 2, 1) := by decide +kernel
theorem d_Ea_unkey_17 : decode b_Ea_unkey 17 = .ok (.aaload, 1) := by decide +kernel
theorem d_Ea_unkey_18 : decode b_Ea_unkey 18 = .ok (.astore 4, 2) := by decide +kernel
theorem d_Ea_unkey_20 : decode b_Ea_unkey 20 = .ok (.aload 4, 2) := by decide +kernel
theorem d_Ea_unkey_22 : decode b_Ea_unkey 22 = .ok (.getfield 121, 3) := by decide +kernel
theorem d_Ea_unkey_25 : decode b_Ea_unkey 25 = .ok (.ifCond .ne 13, 3) := by decide +kernel
theorem d_Ea_unkey_28 : decode b_Ea_unkey 28 = .ok (.new 124, 3) := by decide +kernel
theorem d_Ea_unkey_31 : decode b_Ea_unkey 31 = .ok (.dup, 1) := by decide +kernel
theorem d_Ea_unkey_32 : decode b_Ea_unkey 32 = .ok (.ldc 126, 2) := by decide +kernel
theorem d_Ea_unkey_34 : decode b_Ea_unkey 34 = .ok (.invokespecial 128, 3) := by decide +kernel
theorem d_Ea_unkey_37 : decode b_Ea_unkey 37 = .ok (.athrow, 1) := by decide +kernel
theorem d_Ea_unkey_38 : decode b_Ea_unkey 38 = .ok (.aload 4, 2) := by decide +kernel
theorem d_Ea_unkey_40 : decode b_Ea_unkey 40 = .ok (.iconst 0, 1) := by decide +kernel
theorem d_Ea_unkey_41 : decode b_Ea_unkey 41 = .ok (.putfield 121, 3) := by decide +kernel
theorem d_Ea_unkey_44 : decode b_Ea_unkey 44 = .ok (.return_, 1) := by decide +kernel
theorem d_Ea_into_0 : decode b_Ea_into 0 = .ok (.aload_n 0, 1) := by decide +kernel
theorem d_Ea_into_1 : decode b_Ea_into 1 = .ok (.iload_n 1, 1) := by decide +kernel
theorem d_Ea_into_2 : decode b_Ea_into 2 = .ok (.invokevirtual 67, 3) := by decide +kernel
theorem d_Ea_into_5 : decode b_Ea_into 5 = .ok (.astore_n 3, 1) := by decide +kernel
theorem d_Ea_into_6 : decode b_Ea_into 6 = .ok (.aload_n 0, 1) := by decide +kernel
theorem d_Ea_into_7 : decode b_Ea_into 7 = .ok (.iload_n 2, 1) := by decide +kernel
theorem d_Ea_into_8 : decode b_Ea_into 8 = .ok (.invokevirtual 26, 3) := by decide +kernel
theorem d_Ea_into_11 : decode b_Ea_into 11 = .ok (.astore 4, 2) := by decide +kernel
theorem d_Ea_into_13 : decode b_Ea_into 13 = .ok (.aload 4, 2) := by decide +kernel
theorem d_Ea_into_15 : decode b_Ea_into 15 = .ok (.aload_n 3, 1) := by decide +kernel
theorem d_Ea_into_16 : decode b_Ea_into 16 = .ok (.invokevirtual 129, 3) := by decide +kernel
theorem d_Ea_into_19 : decode b_Ea_into 19 = .ok (.ifCond .eq 13, 3) := by decide +kernel
theorem d_Ea_into_22 : decode b_Ea_into 22 = .ok (.new 37, 3) := by decide +kernel
theorem d_Ea_into_25 : decode b_Ea_into 25 = .ok (.dup, 1) := by decide +kernel
theorem d_Ea_into_26 : decode b_Ea_into 26 = .ok (.ldc 133, 2) := by decide +kernel
theorem d_Ea_into_28 : decode b_Ea_into 28 = .ok (.invokespecial 41, 3) := by decide +kernel
theorem d_Ea_into_31 : decode b_Ea_into 31 = .ok (.athrow, 1) := by decide +kernel
theorem d_Ea_into_32 : decode b_Ea_into 32 = .ok (.aload 4, 2) := by decide +kernel
theorem d_Ea_into_34 : decode b_Ea_into 34 = .ok (.invokevirtual 44, 3) := by decide +kernel
theorem d_Ea_into_37 : decode b_Ea_into 37 = .ok (.aload_n 0, 1) := by decide +kernel
theorem d_Ea_into_38 : decode b_Ea_into 38 = .ok (.aload_n 3, 1) := by decide +kernel
theorem d_Ea_into_39 : decode b_Ea_into 39 = .ok (.invokevirtual 135, 3) := by decide +kernel
theorem d_Ea_into_42 : decode b_Ea_into 42 = .ok (.iadd, 1) := by decide +kernel
theorem d_Ea_into_43 : decode b_Ea_into 43 = .ok (.iconst 5, 1) := by decide +kernel
theorem d_Ea_into_44 : decode b_Ea_into 44 = .ok (.if_icmp .le 13, 3) := by decide +kernel
theorem d_Ea_into_47 : decode b_Ea_into 47 = .ok (.new 37, 3) := by decide +kernel
theorem d_Ea_into_50 : decode b_Ea_into 50 = .ok (.dup, 1) := by decide +kernel
theorem d_Ea_into_51 : decode b_Ea_into 51 = .ok (.ldc 47, 2) := by decide +kernel
theorem d_Ea_into_53 : decode b_Ea_into 53 = .ok (.invokespecial 41, 3) := by decide +kernel
theorem d_Ea_into_56 : decode b_Ea_into 56 = .ok (.athrow, 1) := by decide +kernel
theorem d_Ea_into_57 : decode b_Ea_into 57 = .ok (.aload_n 3, 1) := by decide +kernel
theorem d_Ea_into_58 : decode b_Ea_into 58 = .ok (.invokevirtual 139, 3) := by decide +kernel
theorem d_Ea_into_61 : decode b_Ea_into 61 = .ok (.aload_n 3, 1) := by decide +kernel
theorem d_Ea_into_62 : decode b_Ea_into 62 = .ok (.aload 4, 2) := by decide +kernel
theorem d_Ea_into_64 : decode b_Ea_into 64 = .ok (.invokevirtual 49, 3) := by decide +kernel
theorem d_Ea_into_67 : decode b_Ea_into 67 = .ok (.return_, 1) := by decide +kernel
theorem d_Ea_levelsOf_0 : decode b_Ea_levelsOf 0 = .ok (.aload_n 0, 1) := by decide +kernel
theorem d_Ea_levelsOf_1 : decode b_Ea_levelsOf 1 = .ok (.aload_n 1, 1) := by decide +kernel
theorem d_Ea_levelsOf_2 : decode b_Ea_levelsOf 2 = .ok (.invokevirtual 216, 3) := by decide +kernel
theorem d_Ea_levelsOf_5 : decode b_Ea_levelsOf 5 = .ok (.aload_n 1, 1) := by decide +kernel
theorem d_Ea_levelsOf_6 : decode b_Ea_levelsOf 6 = .ok (.invokevirtual 44, 3) := by decide +kernel
theorem d_Ea_levelsOf_9 : decode b_Ea_levelsOf 9 = .ok (.isub, 1) := by decide +kernel
theorem d_Ea_levelsOf_10 : decode b_Ea_levelsOf 10 = .ok (.iconst 1, 1) := by decide +kernel
theorem d_Ea_levelsOf_11 : decode b_Ea_levelsOf 11 = .ok (.iadd, 1) := by decide +kernel
theorem d_Ea_levelsOf_12 : decode b_Ea_levelsOf 12 = .ok (.ireturn, 1) := by decide +kernel
theorem d_Ea_remove_0 : decode b_Ea_remove 0 = .ok (.aload_n 0, 1) := by decide +kernel
theorem d_Ea_remove_1 : decode b_Ea_remove 1 = .ok (.iload_n 1, 1) := by decide +kernel
theorem d_Ea_remove_2 : decode b_Ea_remove 2 = .ok (.invokevirtual 67, 3) := by decide +kernel
theorem d_Ea_remove_5 : decode b_Ea_remove 5 = .ok (.astore_n 2, 1) := by decide +kernel
theorem d_Ea_remove_6 : decode b_Ea_remove 6 = .ok (.iconst 0, 1) := by decide +kernel
theorem d_Ea_remove_7 : decode b_Ea_remove 7 = .ok (.istore_n 3, 1) := by decide +kernel
theorem d_Ea_remove_8 : decode b_Ea_remove 8 = .ok (.iconst 0, 1) := by decide +kernel
theorem d_Ea_remove_9 : decode b_Ea_remove 9 = .ok (.istore 4, 2) := by decide +kernel
theorem d_Ea_remove_11 : decode b_Ea_remove 11 = .ok (.iload 4, 2) := by decide +kernel
theorem d_Ea_remove_13 : decode b_Ea_remove 13 = .ok (.bipush 14, 2) := by decide +kernel
theorem d_Ea_remove_15 : decode b_Ea_remove 15 = .ok (.if_icmp .ge 44, 3) := by decide +kernel
theorem d_Ea_remove_18 : decode b_Ea_remove 18 = .ok (.aload_n 0, 1) := by decide +kernel
theorem d_Ea_remove_19 : decode b_Ea_remove 19 = .ok (.getfield 11, 3) := by decide +kernel
theorem d_Ea_remove_22 : decode b_Ea_remove 22 = .ok (.iload 4, 2) := by decide +kernel
theorem d_Ea_remove_24 : decode b_Ea_remove 24 = .ok (.aaload, 1) := by decide +kernel
theorem d_Ea_remove_25 : decode b_Ea_remove 25 = .ok (.ifnull 28, 3) := by decide +kernel
theorem d_Ea_remove_28 : decode b_Ea_remove 28 = .ok (.aload_n 0, 1) := by decide +kernel
theorem d_Ea_remove_29 : decode b_Ea_remove 29 = .ok (.getfield 11, 3) := by decide +kernel
theorem d_Ea_remove_32 : decode b_Ea_remove 32 = .ok (.iload 4, 2) := by decide +kernel
theorem d_Ea_remove_34 : decode b_Ea_remove 34 = .ok (.aaload, 1) := by decide +kernel
theorem d_Ea_remove_35 : decode b_Ea_remove 35 = .ok (.aload_n 2, 1) := by decide +kernel
theorem d_Ea_remove_36 : decode b_Ea_remove 36 = .ok (.invokevirtual 129, 3) := by decide +kernel
theorem d_Ea_remove_39 : decode b_Ea_remove 39 = .ok (.ifCond .eq 14, 3) := by decide +kernel
theorem d_Ea_remove_42 : decode b_Ea_remove 42 = .ok (.aload_n 0, 1) := by decide +kernel
theorem d_Ea_remove_43 : decode b_Ea_remove 43 = .ok (.getfield 11, 3) := by decide +kernel
theorem d_Ea_remove_46 : decode b_Ea_remove 46 = .ok (.iload 4, 2) := by decide +kernel
theorem d_Ea_remove_48 : decode b_Ea_remove 48 = .ok (.aconst_null, 1) := by decide +kernel
theorem d_Ea_remove_49 : decode b_Ea_remove 49 = .ok (.aastore, 1) := by decide +kernel
theorem d_Ea_remove_50 : decode b_Ea_remove 50 = .ok (.iinc 3 1, 3) := by decide +kernel
theorem d_Ea_remove_53 : decode b_Ea_remove 53 = .ok (.iinc 4 1, 3) := by decide +kernel
theorem d_Ea_remove_56 : decode b_Ea_remove 56 = .ok (.goto (-45), 3) := by decide +kernel
theorem d_Ea_remove_59 : decode b_Ea_remove 59 = .ok (.aload_n 2, 1) := by decide +kernel
theorem d_Ea_remove_60 : decode b_Ea_remove 60 = .ok (.invokevirtual 139, 3) := by decide +kernel
theorem d_Ea_remove_63 : decode b_Ea_remove 63 = .ok (.iload_n 3, 1) := by decide +kernel
theorem d_Ea_remove_64 : decode b_Ea_remove 64 = .ok (.ireturn, 1) := by decide +kernel
theorem d_Ea_paint_0 : decode b_Ea_paint 0 = .ok (.dload_n 1, 1) := by decide +kernel
theorem d_Ea_paint_1 : decode b_Ea_paint 1 = .ok (.invokestatic 102, 3) := by decide +kernel
theorem d_Ea_paint_4 : decode b_Ea_paint 4 = .ok (.aload_n 0, 1) := by decide +kernel
theorem d_Ea_paint_5 : decode b_Ea_paint 5 = .ok (.dload_n 1, 1) := by decide +kernel
theorem d_Ea_paint_6 : decode b_Ea_paint 6 = .ok (.invokevirtual 142, 3) := by decide +kernel
theorem d_Ea_paint_9 : decode b_Ea_paint 9 = .ok (.iconst 0, 1) := by decide +kernel
theorem d_Ea_paint_10 : decode b_Ea_paint 10 = .ok (.istore_n 3, 1) := by decide +kernel
theorem d_Ea_paint_11 : decode b_Ea_paint 11 = .ok (.iconst 0, 1) := by decide +kernel
theorem d_Ea_paint_12 : decode b_Ea_paint 12 = .ok (.istore 4, 2) := by decide +kernel
theorem d_Ea_paint_14 : decode b_Ea_paint 14 = .ok (.iload 4, 2) := by decide +kernel
theorem d_Ea_paint_16 : decode b_Ea_paint 16 = .ok (.bipush 12, 2) := by decide +kernel
theorem d_Ea_paint_18 : decode b_Ea_paint 18 = .ok (.if_icmp .ge 88, 3) := by decide +kernel
theorem d_Ea_paint_21 : decode b_Ea_paint 21 = .ok (.iconst 0, 1) := by decide +kernel
theorem d_Ea_paint_22 : decode b_Ea_paint 22 = .ok (.istore 5, 2) := by decide +kernel
theorem d_Ea_paint_24 : decode b_Ea_paint 24 = .ok (.iload 5, 2) := by decide +kernel
theorem d_Ea_paint_26 : decode b_Ea_paint 26 = .ok (.bipush 16, 2) := by decide +kernel
theorem d_Ea_paint_28 : decode b_Ea_paint 28 = .ok (.if_icmp .ge 72, 3) := by decide +kernel
theorem d_Ea_paint_31 : decode b_Ea_paint 31 = .ok (.aload_n 0, 1) := by decide +kernel
theorem d_Ea_paint_32 : decode b_Ea_paint 32 = .ok (.getfield 22, 3) := by decide +kernel
theorem d_Ea_paint_35 : decode b_Ea_paint 35 = .ok (.iload 5, 2) := by decide +kernel
theorem d_Ea_paint_37 : decode b_Ea_paint 37 = .ok (.i2d, 1) := by decide +kernel
theorem d_Ea_paint_38 : decode b_Ea_paint 38 = .ok (.ldc2_w 145, 3) := by decide +kernel
theorem d_Ea_paint_41 : decode b_Ea_paint 41 = .ok (.dadd, 1) := by decide +kernel
theorem d_Ea_paint_42 : decode b_Ea_paint 42 = .ok (.iload 4, 2) := by decide +kernel
theorem d_Ea_paint_44 : decode b_Ea_paint 44 = .ok (.i2d, 1) := by decide +kernel
theorem d_Ea_paint_45 : decode b_Ea_paint 45 = .ok (.ldc2_w 145, 3) := by decide +kernel
theorem d_Ea_paint_48 : decode b_Ea_paint 48 = .ok (.dadd, 1) := by decide +kernel
theorem d_Ea_paint_49 : decode b_Ea_paint 49 = .ok (.invokevirtual 147, 3) := by decide +kernel
theorem d_Ea_paint_52 : decode b_Ea_paint 52 = .ok (.astore 6, 2) := by decide +kernel
theorem d_Ea_paint_54 : decode b_Ea_paint 54 = .ok (.aload_n 0, 1) := by decide +kernel
theorem d_Ea_paint_55 : decode b_Ea_paint 55 = .ok (.getfield 15, 3) := by decide +kernel
theorem d_Ea_paint_58 : decode b_Ea_paint 58 = .ok (.iload 4, 2) := by decide +kernel
theorem d_Ea_paint_60 : decode b_Ea_paint 60 = .ok (.bipush 16, 2) := by decide +kernel
theorem d_Ea_paint_62 : decode b_Ea_paint 62 = .ok (.imul, 1) := by decide +kernel
theorem d_Ea_paint_63 : decode b_Ea_paint 63 = .ok (.iload 5, 2) := by decide +kernel
theorem d_Ea_paint_65 : decode b_Ea_paint 65 = .ok (.iadd, 1) := by decide +kernel
theorem d_Ea_paint_66 : decode b_Ea_paint 66 = .ok (.aload 6, 2) := by decide +kernel
theorem d_Ea_paint_68 : decode b_Ea_paint 68 = .ok (.ifnonnull 7, 3) := by decide +kernel
theorem d_Ea_paint_71 : decode b_Ea_paint 71 = .ok (.iconst 0, 1) := by decide +kernel
theorem d_Ea_paint_72 : decode b_Ea_paint 72 = .ok (.goto 8, 3) := by decide +kernel
theorem d_Ea_paint_75 : decode b_Ea_paint 75 = .ok (.aload 6, 2) := by decide +kernel
theorem d_Ea_paint_77 : decode b_Ea_paint 77 = .ok (.getfield 151, 3) := by decide +kernel
theorem d_Ea_paint_80 : decode b_Ea_paint 80 = .ok (.iastore, 1) := by decide +kernel
theorem d_Ea_paint_81 : decode b_Ea_paint 81 = .ok (.iload_n 3, 1) := by decide +kernel
theorem d_Ea_paint_82 : decode b_Ea_paint 82 = .ok (.aload 6, 2) := by decide +kernel
theorem d_Ea_paint_84 : decode b_Ea_paint 84 = .ok (.ifnonnull 7, 3) := by decide +kernel
theorem d_Ea_paint_87 : decode b_Ea_paint 87 = .ok (.iconst 0, 1) := by decide +kernel
theorem d_Ea_paint_88 : decode b_Ea_paint 88 = .ok (.goto 4, 3) := by decide +kernel
theorem d_Ea_paint_91 : decode b_Ea_paint 91 = .ok (.iconst 1, 1) := by decide +kernel
theorem d_Ea_paint_92 : decode b_Ea_paint 92 = .ok (.iadd, 1) := by decide +kernel
theorem d_Ea_paint_93 : decode b_Ea_paint 93 = .ok (.istore_n 3, 1) := by decide +kernel
theorem d_Ea_paint_94 : decode b_Ea_paint 94 = .ok (.iinc 5 1, 3) := by decide +kernel
theorem d_Ea_paint_97 : decode b_Ea_paint 97 = .ok (.goto (-73), 3) := by decide +kernel
theorem d_Ea_paint_100 : decode b_Ea_paint 100 = .ok (.iinc 4 1, 3) := by decide +kernel
theorem d_Ea_paint_103 : decode b_Ea_paint 103 = .ok (.goto (-89), 3) := by decide +kernel
theorem d_Ea_paint_106 : decode b_Ea_paint 106 = .ok (.aload_n 0, 1) := by decide +kernel
theorem d_Ea_paint_107 : decode b_Ea_paint 107 = .ok (.dup, 1) := by decide +kernel
theorem d_Ea_paint_108 : decode b_Ea_paint 108 = .ok (.getfield 154, 3) := by decide +kernel
theorem d_Ea_paint_111 : decode b_Ea_paint 111 = .ok (.iconst 1, 1) := by decide +kernel
theorem d_Ea_paint_112 : decode b_Ea_paint 112 = .ok (.iadd, 1) := by decide +kernel
theorem d_Ea_paint_113 : decode b_Ea_paint 113 = .ok (.putfield 154, 3) := by decide +kernel
theorem d_Ea_paint_116 : decode b_Ea_paint 116 = .ok (.iload_n 3, 1) := by decide +kernel
theorem d_Ea_paint_117 : decode b_Ea_paint 117 = .ok (.ireturn, 1) := by decide +kernel
theorem d_Ea_settle_0 : decode b_Ea_settle 0 = .ok (.iconst 0, 1) := by decide +kernel
theorem d_Ea_settle_1 : decode b_Ea_settle 1 = .ok (.istore_n 3, 1) := by decide +kernel
theorem d_Ea_settle_2 : decode b_Ea_settle 2 = .ok (.iload_n 3, 1) := by decide +kernel
theorem d_Ea_settle_3 : decode b_Ea_settle 3 = .ok (.bipush 14, 2) := by decide +kernel
theorem d_Ea_settle_5 : decode b_Ea_settle 5 = .ok (.if_icmp .ge 28, 3) := by decide +kernel
theorem d_Ea_settle_8 : decode b_Ea_settle 8 = .ok (.aload_n 0, 1) := by decide +kernel
theorem d_Ea_settle_9 : decode b_Ea_settle 9 = .ok (.getfield 11, 3) := by decide +kernel
theorem d_Ea_settle_12 : decode b_Ea_settle 12 = .ok (.iload_n 3, 1) := by decide +kernel
theorem d_Ea_settle_13 : decode b_Ea_settle 13 = .ok (.aaload, 1) := by decide +kernel
theorem d_Ea_settle_14 : decode b_Ea_settle 14 = .ok (.ifnull 13, 3) := by decide +kernel
theorem d_Ea_settle_17 : decode b_Ea_settle 17 = .ok (.aload_n 0, 1) := by decide +kernel
theorem d_Ea_settle_18 : decode b_Ea_settle 18 = .ok (.getfield 11, 3) := by decide +kernel
theorem d_Ea_settle_21 : decode b_Ea_settle 21 = .ok (.iload_n 3, 1) := by decide +kernel
theorem d_Ea_settle_22 : decode b_Ea_settle 22 = .ok (.aaload, 1) := by decide +kernel
theorem d_Ea_settle_23 : decode b_Ea_settle 23 = .ok (.dload_n 1, 1) := by decide +kernel
theorem d_Ea_settle_24 : decode b_Ea_settle 24 = .ok (.invokevirtual 256, 3) := by decide +kernel
theorem d_Ea_settle_27 : decode b_Ea_settle 27 = .ok (.iinc 3 1, 3) := by decide +kernel
theorem d_Ea_settle_30 : decode b_Ea_settle 30 = .ok (.goto (-28), 3) := by decide +kernel
theorem d_Ea_settle_33 : decode b_Ea_settle 33 = .ok (.return_, 1) := by decide +kernel
theorem d_Ea_rounded_0 : decode b_Ea_rounded 0 = .ok (.dload_n 0, 1) := by decide +kernel
theorem d_Ea_rounded_1 : decode b_Ea_rounded 1 = .ok (.ldc2_w 259, 3) := by decide +kernel
theorem d_Ea_rounded_4 : decode b_Ea_rounded 4 = .ok (.dmul, 1) := by decide +kernel
theorem d_Ea_rounded_5 : decode b_Ea_rounded 5 = .ok (.invokestatic 261, 3) := by decide +kernel
theorem d_Ea_rounded_8 : decode b_Ea_rounded 8 = .ok (.ldc2_w 259, 3) := by decide +kernel
theorem d_Ea_rounded_11 : decode b_Ea_rounded 11 = .ok (.ddiv, 1) := by decide +kernel
theorem d_Ea_rounded_12 : decode b_Ea_rounded 12 = .ok (.dreturn, 1) := by decide +kernel
theorem d_Ea_floorOf_0 : decode b_Ea_floorOf 0 = .ok (.dload_n 0, 1) := by decide +kernel
theorem d_Ea_floorOf_1 : decode b_Ea_floorOf 1 = .ok (.d2l, 1) := by decide +kernel
theorem d_Ea_floorOf_2 : decode b_Ea_floorOf 2 = .ok (.l2d, 1) := by decide +kernel
theorem d_Ea_floorOf_3 : decode b_Ea_floorOf 3 = .ok (.dstore_n 2, 1) := by decide +kernel
theorem d_Ea_floorOf_4 : decode b_Ea_floorOf 4 = .ok (.dload_n 2, 1) := by decide +kernel
theorem d_Ea_floorOf_5 : decode b_Ea_floorOf 5 = .ok (.dload_n 0, 1) := by decide +kernel
theorem d_Ea_floorOf_6 : decode b_Ea_floorOf 6 = .ok (.dcmp .l, 1) := by decide +kernel
theorem d_Ea_floorOf_7 : decode b_Ea_floorOf 7 = .ok (.ifCond .le 9, 3) := by decide +kernel
theorem d_Ea_floorOf_10 : decode b_Ea_floorOf 10 = .ok (.dload_n 2, 1) := by decide +kernel
theorem d_Ea_floorOf_11 : decode b_Ea_floorOf 11 = .ok (.dconst 1, 1) := by decide +kernel
theorem d_Ea_floorOf_12 : decode b_Ea_floorOf 12 = .ok (.dsub, 1) := by decide +kernel
theorem d_Ea_floorOf_13 : decode b_Ea_floorOf 13 = .ok (.goto 4, 3) := by decide +kernel
theorem d_Ea_floorOf_16 : decode b_Ea_floorOf 16 = .ok (.dload_n 2, 1) := by decide +kernel
theorem d_Ea_floorOf_17 : decode b_Ea_floorOf 17 = .ok (.dreturn, 1) := by decide +kernel
theorem d_Ea_powerOfTwo_0 : decode b_Ea_powerOfTwo 0 = .ok (.dconst 1, 1) := by decide +kernel
theorem d_Ea_powerOfTwo_1 : decode b_Ea_powerOfTwo 1 = .ok (.dstore_n 1, 1) := by decide +kernel
theorem d_Ea_powerOfTwo_2 : decode b_Ea_powerOfTwo 2 = .ok (.iconst 0, 1) := by decide +kernel
theorem d_Ea_powerOfTwo_3 : decode b_Ea_powerOfTwo 3 = .ok (.istore_n 3, 1) := by decide +kernel
theorem d_Ea_powerOfTwo_4 : decode b_Ea_powerOfTwo 4 = .ok (.iload_n 3, 1) := by decide +kernel
theorem d_Ea_powerOfTwo_5 : decode b_Ea_powerOfTwo 5 = .ok (.iload_n 0, 1) := by decide +kernel
theorem d_Ea_powerOfTwo_6 : decode b_Ea_powerOfTwo 6 = .ok (.if_icmp .ge 15, 3) := by decide +kernel
theorem d_Ea_powerOfTwo_9 : decode b_Ea_powerOfTwo 9 = .ok (.dload_n 1, 1) := by decide +kernel
theorem d_Ea_powerOfTwo_10 : decode b_Ea_powerOfTwo 10 = .ok (.ldc2_w 244, 3) := by decide +kernel
theorem d_Ea_powerOfTwo_13 : decode b_Ea_powerOfTwo 13 = .ok (.dmul, 1) := by decide +kernel
theorem d_Ea_powerOfTwo_14 : decode b_Ea_powerOfTwo 14 = .ok (.dstore_n 1, 1) := by decide +kernel
theorem d_Ea_powerOfTwo_15 : decode b_Ea_powerOfTwo 15 = .ok (.iinc 3 1, 3) := by decide +kernel
theorem d_Ea_powerOfTwo_18 : decode b_Ea_powerOfTwo 18 = .ok (.goto (-14), 3) := by decide +kernel
theorem d_Ea_powerOfTwo_21 : decode b_Ea_powerOfTwo 21 = .ok (.iconst 0, 1) := by decide +kernel
theorem d_Ea_powerOfTwo_22 : decode b_Ea_powerOfTwo 22 = .ok (.istore_n 3, 1) := by decide +kernel
theorem d_Ea_powerOfTwo_23 : decode b_Ea_powerOfTwo 23 = .ok (.iload_n 3, 1) := by decide +kernel
theorem d_Ea_powerOfTwo_24 : decode b_Ea_powerOfTwo 24 = .ok (.iload_n 0, 1) := by decide +kernel
theorem d_Ea_powerOfTwo_25 : decode b_Ea_powerOfTwo 25 = .ok (.if_icmp .le 15, 3) := by decide +kernel
theorem d_Ea_powerOfTwo_28 : decode b_Ea_powerOfTwo 28 = .ok (.dload_n 1, 1) := by decide +kernel
theorem d_Ea_powerOfTwo_29 : decode b_Ea_powerOfTwo 29 = .ok (.ldc2_w 145, 3) := by decide +kernel
theorem d_Ea_powerOfTwo_32 : decode b_Ea_powerOfTwo 32 = .ok (.dmul, 1) := by decide +kernel
theorem d_Ea_powerOfTwo_33 : decode b_Ea_powerOfTwo 33 = .ok (.dstore_n 1, 1) := by decide +kernel
theorem d_Ea_powerOfTwo_34 : decode b_Ea_powerOfTwo 34 = .ok (.iinc 3 (-1), 3) := by decide +kernel
theorem d_Ea_powerOfTwo_37 : decode b_Ea_powerOfTwo 37 = .ok (.goto (-14), 3) := by decide +kernel
theorem d_Ea_powerOfTwo_40 : decode b_Ea_powerOfTwo 40 = .ok (.dload_n 1, 1) := by decide +kernel
theorem d_Ea_powerOfTwo_41 : decode b_Ea_powerOfTwo 41 = .ok (.dreturn, 1) := by decide +kernel
theorem d_Ea_cell_0 : decode b_Ea_cell 0 = .ok (.iload_n 1, 1) := by decide +kernel
theorem d_Ea_cell_1 : decode b_Ea_cell 1 = .ok (.iconst 0, 1) := by decide +kernel
theorem d_Ea_cell_2 : decode b_Ea_cell 2 = .ok (.bipush 15, 2) := by decide +kernel
theorem d_Ea_cell_4 : decode b_Ea_cell 4 = .ok (.invokestatic 30, 3) := by decide +kernel
theorem d_Ea_cell_7 : decode b_Ea_cell 7 = .ok (.iload_n 2, 1) := by decide +kernel
theorem d_Ea_cell_8 : decode b_Ea_cell 8 = .ok (.iconst 0, 1) := by decide +kernel
theorem d_Ea_cell_9 : decode b_Ea_cell 9 = .ok (.bipush 11, 2) := by decide +kernel
theorem d_Ea_cell_11 : decode b_Ea_cell 11 = .ok (.invokestatic 30, 3) := by decide +kernel
theorem d_Ea_cell_14 : decode b_Ea_cell 14 = .ok (.aload_n 0, 1) := by decide +kernel
theorem d_Ea_cell_15 : decode b_Ea_cell 15 = .ok (.getfield 15, 3) := by decide +kernel
theorem d_Ea_cell_18 : decode b_Ea_cell 18 = .ok (.iload_n 2, 1) := by decide +kernel
theorem d_Ea_cell_19 : decode b_Ea_cell 19 = .ok (.bipush 16, 2) := by decide +kernel
theorem d_Ea_cell_21 : decode b_Ea_cell 21 = .ok (.imul, 1) := by decide +kernel
theorem d_Ea_cell_22 : decode b_Ea_cell 22 = .ok (.iload_n 1, 1) := by decide +kernel
theorem d_Ea_cell_23 : decode b_Ea_cell 23 = .ok (.iadd, 1) := by decide +kernel
theorem d_Ea_cell_24 : decode b_Ea_cell 24 = .ok (.iaload, 1) := by decide +kernel
theorem d_Ea_cell_25 : decode b_Ea_cell 25 = .ok (.ireturn, 1) := by decide +kernel
theorem d_Ea_top_0 : decode b_Ea_top 0 = .ok (.dload_n 1, 1) := by decide +kernel
theorem d_Ea_top_1 : decode b_Ea_top 1 = .ok (.ldc2_w 157, 3) := by decide +kernel
theorem d_Ea_top_4 : decode b_Ea_top 4 = .ok (.ldc2_w 159, 3) := by decide +kernel
theorem d_Ea_top_7 : decode b_Ea_top 7 = .ok (.invokestatic 88, 3) := by decide +kernel
theorem d_Ea_top_10 : decode b_Ea_top 10 = .ok (.dload_n 3, 1) := by decide +kernel
theorem d_Ea_top_11 : decode b_Ea_top 11 = .ok (.ldc2_w 157, 3) := by decide +kernel
theorem d_Ea_top_14 : decode b_Ea_top 14 = .ok (.ldc2_w 159, 3) := by decide +kernel
theorem d_Ea_top_17 : decode b_Ea_top 17 = .ok (.invokestatic 88, 3) := by decide +kernel
theorem d_Ea_top_20 : decode b_Ea_top 20 = .ok (.dload 5, 2) := by decide +kernel
theorem d_Ea_top_22 : decode b_Ea_top 22 = .ok (.invokestatic 102, 3) := by decide +kernel
theorem d_Ea_top_25 : decode b_Ea_top 25 = .ok (.aload_n 0, 1) := by decide +kernel
theorem d_Ea_top_26 : decode b_Ea_top 26 = .ok (.dload 5, 2) := by decide +kernel
theorem d_Ea_top_28 : decode b_Ea_top 28 = .ok (.invokevirtual 142, 3) := by decide +kernel
theorem d_Ea_top_31 : decode b_Ea_top 31 = .ok (.aload_n 0, 1) := by decide +kernel
theorem d_Ea_top_32 : decode b_Ea_top 32 = .ok (.getfield 22, 3) := by decide +kernel
theorem d_Ea_top_35 : decode b_Ea_top 35 = .ok (.dload_n 1, 1) := by decide +kernel
theorem d_Ea_top_36 : decode b_Ea_top 36 = .ok (.dload_n 3, 1) := by decide +kernel
theorem d_Ea_top_37 : decode b_Ea_top 37 = .ok (.invokevirtual 147, 3) := by decide +kernel
theorem d_Ea_top_40 : decode b_Ea_top 40 = .ok (.astore 7, 2) := by decide +kernel
theorem d_Ea_top_42 : decode b_Ea_top 42 = .ok (.aload 7, 2) := by decide +kernel
theorem d_Ea_top_44 : decode b_Ea_top 44 = .ok (.ifnonnull 13, 3) := by decide +kernel
theorem d_Ea_top_47 : decode b_Ea_top 47 = .ok (.new 124, 3) := by decide +kernel
theorem d_Ea_top_50 : decode b_Ea_top 50 = .ok (.dup, 1) := by decide +kernel
theorem d_Ea_top_51 : decode b_Ea_top 51 = .ok (.ldc 161, 2) := by decide +kernel
theorem d_Ea_top_53 : decode b_Ea_top 53 = .ok (.invokespecial 128, 3) := by decide +kernel
theorem d_Ea_top_56 : decode b_Ea_top 56 = .ok (.athrow, 1) := by decide +kernel
theorem d_Ea_top_57 : decode b_Ea_top 57 = .ok (.aload 7, 2) := by decide +kernel
theorem d_Ea_top_59 : decode b_Ea_top 59 = .ok (.getfield 163, 3) := by decide +kernel
theorem d_Ea_top_62 : decode b_Ea_top 62 = .ok (.ireturn, 1) := by decide +kernel
theorem d_Ea_around_0 : decode b_Ea_around 0 = .ok (.aload_n 0, 1) := by decide +kernel
theorem d_Ea_around_1 : decode b_Ea_around 1 = .ok (.iload_n 1, 1) := by decide +kernel
theorem d_Ea_around_2 : decode b_Ea_around 2 = .ok (.invokevirtual 166, 3) := by decide +kernel
theorem d_Ea_around_5 : decode b_Ea_around 5 = .ok (.astore 5, 2) := by decide +kernel
theorem d_Ea_around_7 : decode b_Ea_around 7 = .ok (.iload_n 2, 1) := by decide +kernel
theorem d_Ea_around_8 : decode b_Ea_around 8 = .ok (.iconst 0, 1) := by decide +kernel
theorem d_Ea_around_9 : decode b_Ea_around 9 = .ok (.iconst 3, 1) := by decide +kernel
theorem d_Ea_around_10 : decode b_Ea_around 10 = .ok (.invokestatic 30, 3) := by decide +kernel
theorem d_Ea_around_13 : decode b_Ea_around 13 = .ok (.dload_n 3, 1) := by decide +kernel
theorem d_Ea_around_14 : decode b_Ea_around 14 = .ok (.invokestatic 102, 3) := by decide +kernel
theorem d_Ea_around_17 : decode b_Ea_around 17 = .ok (.aload_n 0, 1) := by decide +kernel
theorem d_Ea_around_18 : decode b_Ea_around 18 = .ok (.dload_n 3, 1) := by decide +kernel
theorem d_Ea_around_19 : decode b_Ea_around 19 = .ok (.invokevirtual 142, 3) := by decide +kernel
theorem d_Ea_around_22 : decode b_Ea_around 22 = .ok (.aload 5, 2) := by decide +kernel
theorem d_Ea_around_24 : decode b_Ea_around 24 = .ok (.aload_n 0, 1) := by decide +kernel
theorem d_Ea_around_25 : decode b_Ea_around 25 = .ok (.getfield 22, 3) := by decide +kernel
theorem d_Ea_around_28 : decode b_Ea_around 28 = .ok (.if_acmp .ne 11, 3) := by decide +kernel
theorem d_Ea_around_31 : decode b_Ea_around 31 = .ok (.aload 5, 2) := by decide +kernel
theorem d_Ea_around_33 : decode b_Ea_around 33 = .ok (.invokevirtual 169, 3) := by decide +kernel
theorem d_Ea_around_36 : decode b_Ea_around 36 = .ok (.goto 8, 3) := by decide +kernel
theorem d_Ea_around_39 : decode b_Ea_around 39 = .ok (.aload 5, 2) := by decide +kernel
theorem d_Ea_around_41 : decode b_Ea_around 41 = .ok (.invokevirtual 172, 3) := by decide +kernel
theorem d_Ea_around_44 : decode b_Ea_around 44 = .ok (.aload 5, 2) := by decide +kernel
theorem d_Ea_around_46 : decode b_Ea_around 46 = .ok (.getfield 175, 3) := by decide +kernel
theorem d_Ea_around_49 : decode b_Ea_around 49 = .ok (.getfield 179, 3) := by decide +kernel
theorem d_Ea_around_52 : decode b_Ea_around 52 = .ok (.ifCond .eq 13, 3) := by decide +kernel
theorem d_Ea_around_55 : decode b_Ea_around 55 = .ok (.new 124, 3) := by decide +kernel
theorem d_Ea_around_58 : decode b_Ea_around 58 = .ok (.dup, 1) := by decide +kernel
theorem d_Ea_around_59 : decode b_Ea_around 59 = .ok (.ldc 184, 2) := by decide +kernel
theorem d_Ea_around_61 : decode b_Ea_around 61 = .ok (.invokespecial 128, 3) := by decide +kernel
theorem d_Ea_around_64 : decode b_Ea_around 64 = .ok (.athrow, 1) := by decide +kernel
theorem d_Ea_around_65 : decode b_Ea_around 65 = .ok (.aload 5, 2) := by decide +kernel
theorem d_Ea_around_67 : decode b_Ea_around 67 = .ok (.getfield 175, 3) := by decide +kernel
theorem d_Ea_around_70 : decode b_Ea_around 70 = .ok (.iload_n 2, 1) := by decide +kernel
theorem d_Ea_around_71 : decode b_Ea_around 71 = .ok (.invokevirtual 186, 3) := by decide +kernel
theorem d_Ea_around_74 : decode b_Ea_around 74 = .ok (.dreturn, 1) := by decide +kernel
theorem d_Ea_told_0 : decode b_Ea_told 0 = .ok (.aload_n 0, 1) := by decide +kernel
theorem d_Ea_told_1 : decode b_Ea_told 1 = .ok (.iload_n 1, 1) := by decide +kernel
theorem d_Ea_told_2 : decode b_Ea_told 2 = .ok (.invokevirtual 166, 3) := by decide +kernel
theorem d_Ea_told_5 : decode b_Ea_told 5 = .ok (.astore_n 3, 1) := by decide +kernel
theorem d_Ea_told_6 : decode b_Ea_told 6 = .ok (.iload_n 2, 1) := by decide +kernel
theorem d_Ea_told_7 : decode b_Ea_told 7 = .ok (.iconst 0, 1) := by decide +kernel
theorem d_Ea_told_8 : decode b_Ea_told 8 = .ok (.iconst 4, 1) := by decide +kernel
theorem d_Ea_told_9 : decode b_Ea_told 9 = .ok (.invokestatic 30, 3) := by decide +kernel
theorem d_Ea_told_12 : decode b_Ea_told 12 = .ok (.iload_n 2, 1) := by decide +kernel
theorem d_Ea_told_13 : decode b_Ea_told 13 = .ok (.tableswitch 68 0 3 #[31, 36, 55, 63], 31) := by decide +kernel
theorem d_Ea_told_44 : decode b_Ea_told 44 = .ok (.aload_n 3, 1) := by decide +kernel
theorem d_Ea_told_45 : decode b_Ea_told 45 = .ok (.getfield 190, 3) := by decide +kernel
theorem d_Ea_told_48 : decode b_Ea_told 48 = .ok (.ireturn, 1) := by decide +kernel
theorem d_Ea_told_49 : decode b_Ea_told 49 = .ok (.aload_n 3, 1) := by decide +kernel
theorem d_Ea_told_50 : decode b_Ea_told 50 = .ok (.getfield 193, 3) := by decide +kernel
theorem d_Ea_told_53 : decode b_Ea_told 53 = .ok (.ifnonnull 7, 3) := by decide +kernel
theorem d_Ea_told_56 : decode b_Ea_told 56 = .ok (.iconst (-1), 1) := by decide +kernel
theorem d_Ea_told_57 : decode b_Ea_told 57 = .ok (.goto 10, 3) := by decide +kernel
theorem d_Ea_told_60 : decode b_Ea_told 60 = .ok (.aload_n 3, 1) := by decide +kernel
theorem d_Ea_told_61 : decode b_Ea_told 61 = .ok (.getfield 193, 3) := by decide +kernel
theorem d_Ea_told_64 : decode b_Ea_told 64 = .ok (.getfield 163, 3) := by decide +kernel
theorem d_Ea_told_67 : decode b_Ea_told 67 = .ok (.ireturn, 1) := by decide +kernel
theorem d_Ea_told_68 : decode b_Ea_told 68 = .ok (.aload_n 3, 1) := by decide +kernel
theorem d_Ea_told_69 : decode b_Ea_told 69 = .ok (.getfield 196, 3) := by decide +kernel
theorem d_Ea_told_72 : decode b_Ea_told 72 = .ok (.invokevirtual 200, 3) := by decide +kernel
theorem d_Ea_told_75 : decode b_Ea_told 75 = .ok (.ireturn, 1) := by decide +kernel
theorem d_Ea_told_76 : decode b_Ea_told 76 = .ok (.aload_n 3, 1) := by decide +kernel
theorem d_Ea_told_77 : decode b_Ea_told 77 = .ok (.invokevirtual 204, 3) := by decide +kernel
theorem d_Ea_told_80 : decode b_Ea_told 80 = .ok (.ireturn, 1) := by decide +kernel
theorem d_Ea_told_81 : decode b_Ea_told 81 = .ok (.aload_n 3, 1) := by decide +kernel
theorem d_Ea_told_82 : decode b_Ea_told 82 = .ok (.invokevirtual 207, 3) := by decide +kernel
theorem d_Ea_told_85 : decode b_Ea_told 85 = .ok (.ireturn, 1) := by decide +kernel
