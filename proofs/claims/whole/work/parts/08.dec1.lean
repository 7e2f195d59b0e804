/-! decode rows, by program -/
theorem d_No_init_0 : decode b_No_init 0 = .ok (.aload_n 0, 1) := by decide +kernel
theorem d_No_init_1 : decode b_No_init 1 = .ok (.invokespecial 3, 3) := by decide +kernel
theorem d_No_init_4 : decode b_No_init 4 = .ok (.aload_n 0, 1) := by decide +kernel
theorem d_No_init_5 : decode b_No_init 5 = .ok (.new 9, 3) := by decide +kernel
theorem d_No_init_8 : decode b_No_init 8 = .ok (.dup, 1) := by decide +kernel
theorem d_No_init_9 : decode b_No_init 9 = .ok (.invokespecial 11, 3) := by decide +kernel
theorem d_No_init_12 : decode b_No_init 12 = .ok (.putfield 12, 3) := by decide +kernel
theorem d_No_init_15 : decode b_No_init 15 = .ok (.aload_n 0, 1) := by decide +kernel
theorem d_No_init_16 : decode b_No_init 16 = .ok (.iconst 4, 1) := by decide +kernel
theorem d_No_init_17 : decode b_No_init 17 = .ok (.anewarray 18, 3) := by decide +kernel
theorem d_No_init_20 : decode b_No_init 20 = .ok (.putfield 20, 3) := by decide +kernel
theorem d_No_init_23 : decode b_No_init 23 = .ok (.aload_n 0, 1) := by decide +kernel
theorem d_No_init_24 : decode b_No_init 24 = .ok (.new 24, 3) := by decide +kernel
theorem d_No_init_27 : decode b_No_init 27 = .ok (.dup, 1) := by decide +kernel
theorem d_No_init_28 : decode b_No_init 28 = .ok (.invokespecial 26, 3) := by decide +kernel
theorem d_No_init_31 : decode b_No_init 31 = .ok (.putfield 27, 3) := by decide +kernel
theorem d_No_init_34 : decode b_No_init 34 = .ok (.aload_n 0, 1) := by decide +kernel
theorem d_No_init_35 : decode b_No_init 35 = .ok (.dconst 1, 1) := by decide +kernel
theorem d_No_init_36 : decode b_No_init 36 = .ok (.putfield 31, 3) := by decide +kernel
theorem d_No_init_39 : decode b_No_init 39 = .ok (.aload_n 0, 1) := by decide +kernel
theorem d_No_init_40 : decode b_No_init 40 = .ok (.dconst 1, 1) := by decide +kernel
theorem d_No_init_41 : decode b_No_init 41 = .ok (.putfield 35, 3) := by decide +kernel
theorem d_No_init_44 : decode b_No_init 44 = .ok (.aload_n 0, 1) := by decide +kernel
theorem d_No_init_45 : decode b_No_init 45 = .ok (.dconst 1, 1) := by decide +kernel
theorem d_No_init_46 : decode b_No_init 46 = .ok (.putfield 38, 3) := by decide +kernel
theorem d_No_init_49 : decode b_No_init 49 = .ok (.aload_n 0, 1) := by decide +kernel
theorem d_No_init_50 : decode b_No_init 50 = .ok (.iload_n 1, 1) := by decide +kernel
theorem d_No_init_51 : decode b_No_init 51 = .ok (.putfield 41, 3) := by decide +kernel
theorem d_No_init_54 : decode b_No_init 54 = .ok (.aload_n 0, 1) := by decide +kernel
theorem d_No_init_55 : decode b_No_init 55 = .ok (.iload_n 2, 1) := by decide +kernel
theorem d_No_init_56 : decode b_No_init 56 = .ok (.putfield 45, 3) := by decide +kernel
theorem d_No_init_59 : decode b_No_init 59 = .ok (.aload_n 0, 1) := by decide +kernel
theorem d_No_init_60 : decode b_No_init 60 = .ok (.iload_n 3, 1) := by decide +kernel
theorem d_No_init_61 : decode b_No_init 61 = .ok (.putfield 48, 3) := by decide +kernel
theorem d_No_init_64 : decode b_No_init 64 = .ok (.iconst 0, 1) := by decide +kernel
theorem d_No_init_65 : decode b_No_init 65 = .ok (.istore 4, 2) := by decide +kernel
theorem d_No_init_67 : decode b_No_init 67 = .ok (.iload 4, 2) := by decide +kernel
theorem d_No_init_69 : decode b_No_init 69 = .ok (.iconst 4, 1) := by decide +kernel
theorem d_No_init_70 : decode b_No_init 70 = .ok (.if_icmp .ge 23, 3) := by decide +kernel
theorem d_No_init_73 : decode b_No_init 73 = .ok (.aload_n 0, 1) := by decide +kernel
theorem d_No_init_74 : decode b_No_init 74 = .ok (.getfield 20, 3) := by decide +kernel
theorem d_No_init_77 : decode b_No_init 77 = .ok (.iload 4, 2) := by decide +kernel
theorem d_No_init_79 : decode b_No_init 79 = .ok (.new 18, 3) := by decide +kernel
theorem d_No_init_82 : decode b_No_init 82 = .ok (.dup, 1) := by decide +kernel
theorem d_No_init_83 : decode b_No_init 83 = .ok (.invokespecial 51, 3) := by decide +kernel
theorem d_No_init_86 : decode b_No_init 86 = .ok (.aastore, 1) := by decide +kernel
theorem d_No_init_87 : decode b_No_init 87 = .ok (.iinc 4 1, 3) := by decide +kernel
theorem d_No_init_90 : decode b_No_init 90 = .ok (.goto (-23), 3) := by decide +kernel
theorem d_No_init_93 : decode b_No_init 93 = .ok (.return_, 1) := by decide +kernel
theorem d_Al_init_0 : decode b_Al_init 0 = .ok (.aload_n 0, 1) := by decide +kernel
theorem d_Al_init_1 : decode b_Al_init 1 = .ok (.invokespecial 1, 3) := by decide +kernel
theorem d_Al_init_4 : decode b_Al_init 4 = .ok (.aload_n 0, 1) := by decide +kernel
theorem d_Al_init_5 : decode b_Al_init 5 = .ok (.getstatic 39, 3) := by decide +kernel
theorem d_Al_init_8 : decode b_Al_init 8 = .ok (.putfield 9, 3) := by decide +kernel
theorem d_Al_init_11 : decode b_Al_init 11 = .ok (.return_, 1) := by decide +kernel
theorem d_Ab_init_0 : decode b_Ab_init 0 = .ok (.aload_n 0, 1) := by decide +kernel
theorem d_Ab_init_1 : decode b_Ab_init 1 = .ok (.invokespecial 1, 3) := by decide +kernel
theorem d_Ab_init_4 : decode b_Ab_init 4 = .ok (.aload_n 0, 1) := by decide +kernel
theorem d_Ab_init_5 : decode b_Ab_init 5 = .ok (.iconst 0, 1) := by decide +kernel
theorem d_Ab_init_6 : decode b_Ab_init 6 = .ok (.putfield 7, 3) := by decide +kernel
theorem d_Ab_init_9 : decode b_Ab_init 9 = .ok (.return_, 1) := by decide +kernel
theorem d_Ac_init_0 : decode b_Ac_init 0 = .ok (.aload_n 0, 1) := by decide +kernel
theorem d_Ac_init_1 : decode b_Ac_init 1 = .ok (.invokespecial 1, 3) := by decide +kernel
theorem d_Ac_init_4 : decode b_Ac_init 4 = .ok (.return_, 1) := by decide +kernel
theorem d_Ex_init_0 : decode b_Ex_init 0 = .ok (.aload_n 0, 1) := by decide +kernel
theorem d_Ex_init_1 : decode b_Ex_init 1 = .ok (.invokespecial 1, 3) := by decide +kernel
theorem d_Ex_init_4 : decode b_Ex_init 4 = .ok (.aload_n 0, 1) := by decide +kernel
theorem d_Ex_init_5 : decode b_Ex_init 5 = .ok (.iconst 1, 1) := by decide +kernel
theorem d_Ex_init_6 : decode b_Ex_init 6 = .ok (.putfield 7, 3) := by decide +kernel
theorem d_Ex_init_9 : decode b_Ex_init 9 = .ok (.return_, 1) := by decide +kernel
theorem d_Tr_init_0 : decode b_Tr_init 0 = .ok (.aload_n 0, 1) := by decide +kernel
theorem d_Tr_init_1 : decode b_Tr_init 1 = .ok (.invokespecial 3, 3) := by decide +kernel
theorem d_Tr_init_4 : decode b_Tr_init 4 = .ok (.aload_n 0, 1) := by decide +kernel
theorem d_Tr_init_5 : decode b_Tr_init 5 = .ok (.iconst 4, 1) := by decide +kernel
theorem d_Tr_init_6 : decode b_Tr_init 6 = .ok (.newarray .double, 2) := by decide +kernel
theorem d_Tr_init_8 : decode b_Tr_init 8 = .ok (.putfield 9, 3) := by decide +kernel
theorem d_Tr_init_11 : decode b_Tr_init 11 = .ok (.aload_n 0, 1) := by decide +kernel
theorem d_Tr_init_12 : decode b_Tr_init 12 = .ok (.iconst 4, 1) := by decide +kernel
theorem d_Tr_init_13 : decode b_Tr_init 13 = .ok (.newarray .double, 2) := by decide +kernel
theorem d_Tr_init_15 : decode b_Tr_init 15 = .ok (.putfield 15, 3) := by decide +kernel
theorem d_Tr_init_18 : decode b_Tr_init 18 = .ok (.return_, 1) := by decide +kernel
theorem d_No_frames_0 : decode b_No_frames 0 = .ok (.iconst 0, 1) := by decide +kernel
theorem d_No_frames_1 : decode b_No_frames 1 = .ok (.istore_n 1, 1) := by decide +kernel
theorem d_No_frames_2 : decode b_No_frames 2 = .ok (.iconst 0, 1) := by decide +kernel
theorem d_No_frames_3 : decode b_No_frames 3 = .ok (.istore_n 2, 1) := by decide +kernel
theorem d_No_frames_4 : decode b_No_frames 4 = .ok (.iload_n 2, 1) := by decide +kernel
theorem d_No_frames_5 : decode b_No_frames 5 = .ok (.iconst 4, 1) := by decide +kernel
theorem d_No_frames_6 : decode b_No_frames 6 = .ok (.if_icmp .ge 21, 3) := by decide +kernel
theorem d_No_frames_9 : decode b_No_frames 9 = .ok (.iload_n 1, 1) := by decide +kernel
theorem d_No_frames_10 : decode b_No_frames 10 = .ok (.aload_n 0, 1) := by decide +kernel
theorem d_No_frames_11 : decode b_No_frames 11 = .ok (.getfield 20, 3) := by decide +kernel
theorem d_No_frames_14 : decode b_No_frames 14 = .ok (.iload_n 2, 1) := by decide +kernel
theorem d_No_frames_15 : decode b_No_frames 15 = .ok (.aaload, 1) := by decide +kernel
theorem d_No_frames_16 : decode b_No_frames 16 = .ok (.getfield 74, 3) := by decide +kernel
theorem d_No_frames_19 : decode b_No_frames 19 = .ok (.iadd, 1) := by decide +kernel
theorem d_No_frames_20 : decode b_No_frames 20 = .ok (.istore_n 1, 1) := by decide +kernel
theorem d_No_frames_21 : decode b_No_frames 21 = .ok (.iinc 2 1, 3) := by decide +kernel
theorem d_No_frames_24 : decode b_No_frames 24 = .ok (.goto (-20), 3) := by decide +kernel
theorem d_No_frames_27 : decode b_No_frames 27 = .ok (.iload_n 1, 1) := by decide +kernel
theorem d_No_frames_28 : decode b_No_frames 28 = .ok (.ireturn, 1) := by decide +kernel
theorem d_No_isIn_0 : decode b_No_isIn 0 = .ok (.aload_n 0, 1) := by decide +kernel
theorem d_No_isIn_1 : decode b_No_isIn 1 = .ok (.astore_n 2, 1) := by decide +kernel
theorem d_No_isIn_2 : decode b_No_isIn 2 = .ok (.aload_n 2, 1) := by decide +kernel
theorem d_No_isIn_3 : decode b_No_isIn 3 = .ok (.ifnull 18, 3) := by decide +kernel
theorem d_No_isIn_6 : decode b_No_isIn 6 = .ok (.aload_n 2, 1) := by decide +kernel
theorem d_No_isIn_7 : decode b_No_isIn 7 = .ok (.aload_n 1, 1) := by decide +kernel
theorem d_No_isIn_8 : decode b_No_isIn 8 = .ok (.if_acmp .ne 5, 3) := by decide +kernel
theorem d_No_isIn_11 : decode b_No_isIn 11 = .ok (.iconst 1, 1) := by decide +kernel
theorem d_No_isIn_12 : decode b_No_isIn 12 = .ok (.ireturn, 1) := by decide +kernel
theorem d_No_isIn_13 : decode b_No_isIn 13 = .ok (.aload_n 2, 1) := by decide +kernel
theorem d_No_isIn_14 : decode b_No_isIn 14 = .ok (.getfield 52, 3) := by decide +kernel
theorem d_No_isIn_17 : decode b_No_isIn 17 = .ok (.astore_n 2, 1) := by decide +kernel
theorem d_No_isIn_18 : decode b_No_isIn 18 = .ok (.goto (-16), 3) := by decide +kernel
theorem d_No_isIn_21 : decode b_No_isIn 21 = .ok (.iconst 0, 1) := by decide +kernel
theorem d_No_isIn_22 : decode b_No_isIn 22 = .ok (.ireturn, 1) := by decide +kernel
theorem d_No_depth_0 : decode b_No_depth 0 = .ok (.iconst 0, 1) := by decide +kernel
theorem d_No_depth_1 : decode b_No_depth 1 = .ok (.istore_n 1, 1) := by decide +kernel
theorem d_No_depth_2 : decode b_No_depth 2 = .ok (.aload_n 0, 1) := by decide +kernel
theorem d_No_depth_3 : decode b_No_depth 3 = .ok (.getfield 52, 3) := by decide +kernel
theorem d_No_depth_6 : decode b_No_depth 6 = .ok (.astore_n 2, 1) := by decide +kernel
theorem d_No_depth_7 : decode b_No_depth 7 = .ok (.aload_n 2, 1) := by decide +kernel
theorem d_No_depth_8 : decode b_No_depth 8 = .ok (.ifnull 14, 3) := by decide +kernel
theorem d_No_depth_11 : decode b_No_depth 11 = .ok (.iinc 1 1, 3) := by decide +kernel
theorem d_No_depth_14 : decode b_No_depth 14 = .ok (.aload_n 2, 1) := by decide +kernel
theorem d_No_depth_15 : decode b_No_depth 15 = .ok (.getfield 52, 3) := by decide +kernel
theorem d_No_depth_18 : decode b_No_depth 18 = .ok (.astore_n 2, 1) := by decide +kernel
theorem d_No_depth_19 : decode b_No_depth 19 = .ok (.goto (-12), 3) := by decide +kernel
theorem d_No_depth_22 : decode b_No_depth 22 = .ok (.iload_n 1, 1) := by decide +kernel
theorem d_No_depth_23 : decode b_No_depth 23 = .ok (.ireturn, 1) := by decide +kernel
theorem d_Ma_max_0 : decode b_Ma_max 0 = .ok (.iload_n 0, 1) := by decide +kernel
theorem d_Ma_max_1 : decode b_Ma_max 1 = .ok (.iload_n 1, 1) := by decide +kernel
theorem d_Ma_max_2 : decode b_Ma_max 2 = .ok (.if_icmp .lt 7, 3) := by decide +kernel
theorem d_Ma_max_5 : decode b_Ma_max 5 = .ok (.iload_n 0, 1) := by decide +kernel
theorem d_Ma_max_6 : decode b_Ma_max 6 = .ok (.goto 4, 3) := by decide +kernel
theorem d_Ma_max_9 : decode b_Ma_max 9 = .ok (.iload_n 1, 1) := by decide +kernel
theorem d_Ma_max_10 : decode b_Ma_max 10 = .ok (.ireturn, 1) := by decide +kernel
theorem d_No_hangInto_0 : decode b_No_hangInto 0 = .ok (.aload_n 0, 1) := by decide +kernel
theorem d_No_hangInto_1 : decode b_No_hangInto 1 = .ok (.aload_n 1, 1) := by decide +kernel
theorem d_No_hangInto_2 : decode b_No_hangInto 2 = .ok (.putfield 52, 3) := by decide +kernel
theorem d_No_hangInto_5 : decode b_No_hangInto 5 = .ok (.aload_n 1, 1) := by decide +kernel
theorem d_No_hangInto_6 : decode b_No_hangInto 6 = .ok (.getfield 12, 3) := by decide +kernel
theorem d_No_hangInto_9 : decode b_No_hangInto 9 = .ok (.aload_n 0, 1) := by decide +kernel
theorem d_No_hangInto_10 : decode b_No_hangInto 10 = .ok (.invokevirtual 56, 3) := by decide +kernel
theorem d_No_hangInto_13 : decode b_No_hangInto 13 = .ok (.pop, 1) := by decide +kernel
theorem d_No_hangInto_14 : decode b_No_hangInto 14 = .ok (.return_, 1) := by decide +kernel
theorem d_Al_add1_0 : decode b_Al_add1 0 = .ok (.aload_n 0, 1) := by decide +kernel
theorem d_Al_add1_1 : decode b_Al_add1 1 = .ok (.dup, 1) := by decide +kernel
theorem d_Al_add1_2 : decode b_Al_add1 2 = .ok (.getfield 63, 3) := by decide +kernel
theorem d_Al_add1_5 : decode b_Al_add1 5 = .ok (.iconst 1, 1) := by decide +kernel
theorem d_Al_add1_6 : decode b_Al_add1 6 = .ok (.iadd, 1) := by decide +kernel
theorem d_Al_add1_7 : decode b_Al_add1 7 = .ok (.putfield 63, 3) := by decide +kernel
theorem d_Al_add1_10 : decode b_Al_add1 10 = .ok (.aload_n 0, 1) := by decide +kernel
theorem d_Al_add1_11 : decode b_Al_add1 11 = .ok (.aload_n 1, 1) := by decide +kernel
theorem d_Al_add1_12 : decode b_Al_add1 12 = .ok (.aload_n 0, 1) := by decide +kernel
theorem d_Al_add1_13 : decode b_Al_add1 13 = .ok (.getfield 9, 3) := by decide +kernel
theorem d_Al_add1_16 : decode b_Al_add1 16 = .ok (.aload_n 0, 1) := by decide +kernel
theorem d_Al_add1_17 : decode b_Al_add1 17 = .ok (.getfield 48, 3) := by decide +kernel
theorem d_Al_add1_20 : decode b_Al_add1 20 = .ok (.invokevirtual 131, 3) := by decide +kernel
theorem d_Al_add1_23 : decode b_Al_add1 23 = .ok (.iconst 1, 1) := by decide +kernel
theorem d_Al_add1_24 : decode b_Al_add1 24 = .ok (.ireturn, 1) := by decide +kernel
theorem d_Al_add2_0 : decode b_Al_add2 0 = .ok (.iload_n 3, 1) := by decide +kernel
theorem d_Al_add2_1 : decode b_Al_add2 1 = .ok (.aload_n 2, 1) := by decide +kernel
theorem d_Al_add2_2 : decode b_Al_add2 2 = .ok (.arraylength, 1) := by decide +kernel
theorem d_Al_add2_3 : decode b_Al_add2 3 = .ok (.if_icmp .ne 8, 3) := by decide +kernel
theorem d_Al_add2_6 : decode b_Al_add2 6 = .ok (.aload_n 0, 1) := by decide +kernel
theorem d_Al_add2_7 : decode b_Al_add2 7 = .ok (.invokevirtual 129, 3) := by decide +kernel
theorem d_Al_add2_10 : decode b_Al_add2 10 = .ok (.astore_n 2, 1) := by decide +kernel
theorem d_Al_add2_11 : decode b_Al_add2 11 = .ok (.aload_n 2, 1) := by decide +kernel
theorem d_Al_add2_12 : decode b_Al_add2 12 = .ok (.iload_n 3, 1) := by decide +kernel
theorem d_Al_add2_13 : decode b_Al_add2 13 = .ok (.aload_n 1, 1) := by decide +kernel
theorem d_Al_add2_14 : decode b_Al_add2 14 = .ok (.aastore, 1) := by decide +kernel
theorem d_Al_add2_15 : decode b_Al_add2 15 = .ok (.aload_n 0, 1) := by decide +kernel
theorem d_Al_add2_16 : decode b_Al_add2 16 = .ok (.iload_n 3, 1) := by decide +kernel
theorem d_Al_add2_17 : decode b_Al_add2 17 = .ok (.iconst 1, 1) := by decide +kernel
theorem d_Al_add2_18 : decode b_Al_add2 18 = .ok (.iadd, 1) := by decide +kernel
theorem d_Al_add2_19 : decode b_Al_add2 19 = .ok (.putfield 48, 3) := by decide +kernel
theorem d_Al_add2_22 : decode b_Al_add2 22 = .ok (.return_, 1) := by decide +kernel
theorem d_Al_grow1_0 : decode b_Al_grow1 0 = .ok (.aload_n 0, 1) := by decide +kernel
theorem d_Al_grow1_1 : decode b_Al_grow1 1 = .ok (.aload_n 0, 1) := by decide +kernel
theorem d_Al_grow1_2 : decode b_Al_grow1 2 = .ok (.getfield 48, 3) := by decide +kernel
theorem d_Al_grow1_5 : decode b_Al_grow1 5 = .ok (.iconst 1, 1) := by decide +kernel
theorem d_Al_grow1_6 : decode b_Al_grow1 6 = .ok (.iadd, 1) := by decide +kernel
theorem d_Al_grow1_7 : decode b_Al_grow1 7 = .ok (.invokevirtual 69, 3) := by decide +kernel
theorem d_Al_grow1_10 : decode b_Al_grow1 10 = .ok (.areturn, 1) := by decide +kernel
theorem d_Al_grow2_0 : decode b_Al_grow2 0 = .ok (.aload_n 0, 1) := by decide +kernel
theorem d_Al_grow2_1 : decode b_Al_grow2 1 = .ok (.getfield 9, 3) := by decide +kernel
theorem d_Al_grow2_4 : decode b_Al_grow2 4 = .ok (.arraylength, 1) := by decide +kernel
theorem d_Al_grow2_5 : decode b_Al_grow2 5 = .ok (.istore_n 2, 1) := by decide +kernel
theorem d_Al_grow2_6 : decode b_Al_grow2 6 = .ok (.iload_n 2, 1) := by decide +kernel
theorem d_Al_grow2_7 : decode b_Al_grow2 7 = .ok (.ifCond .gt 13, 3) := by decide +kernel
theorem d_Al_grow2_10 : decode b_Al_grow2 10 = .ok (.aload_n 0, 1) := by decide +kernel
theorem d_Al_grow2_11 : decode b_Al_grow2 11 = .ok (.getfield 9, 3) := by decide +kernel
theorem d_Al_grow2_14 : decode b_Al_grow2 14 = .ok (.getstatic 39, 3) := by decide +kernel
theorem d_Al_grow2_17 : decode b_Al_grow2 17 = .ok (.if_acmp .eq 28, 3) := by decide +kernel
theorem d_Al_grow2_20 : decode b_Al_grow2 20 = .ok (.iload_n 2, 1) := by decide +kernel
theorem d_Al_grow2_21 : decode b_Al_grow2 21 = .ok (.iload_n 1, 1) := by decide +kernel
theorem d_Al_grow2_22 : decode b_Al_grow2 22 = .ok (.iload_n 2, 1) := by decide +kernel
theorem d_Al_grow2_23 : decode b_Al_grow2 23 = .ok (.isub, 1) := by decide +kernel
theorem d_Al_grow2_24 : decode b_Al_grow2 24 = .ok (.iload_n 2, 1) := by decide +kernel
theorem d_Al_grow2_25 : decode b_Al_grow2 25 = .ok (.iconst 1, 1) := by decide +kernel
theorem d_Al_grow2_26 : decode b_Al_grow2 26 = .ok (.ishr, 1) := by decide +kernel
theorem d_Al_grow2_27 : decode b_Al_grow2 27 = .ok (.invokestatic 73, 3) := by decide +kernel
theorem d_Al_grow2_30 : decode b_Al_grow2 30 = .ok (.istore_n 3, 1) := by decide +kernel
theorem d_Al_grow2_31 : decode b_Al_grow2 31 = .ok (.aload_n 0, 1) := by decide +kernel
theorem d_Al_grow2_32 : decode b_Al_grow2 32 = .ok (.aload_n 0, 1) := by decide +kernel
theorem d_Al_grow2_33 : decode b_Al_grow2 33 = .ok (.getfield 9, 3) := by decide +kernel
theorem d_Al_grow2_36 : decode b_Al_grow2 36 = .ok (.iload_n 3, 1) := by decide +kernel
theorem d_Al_grow2_37 : decode b_Al_grow2 37 = .ok (.invokestatic 66, 3) := by decide +kernel
theorem d_Al_grow2_40 : decode b_Al_grow2 40 = .ok (.dup_x1, 1) := by decide +kernel
theorem d_Al_grow2_41 : decode b_Al_grow2 41 = .ok (.putfield 9, 3) := by decide +kernel
theorem d_Al_grow2_44 : decode b_Al_grow2 44 = .ok (.areturn, 1) := by decide +kernel
theorem d_Al_grow2_45 : decode b_Al_grow2 45 = .ok (.aload_n 0, 1) := by decide +kernel
theorem d_Al_grow2_46 : decode b_Al_grow2 46 = .ok (.bipush 10, 2) := by decide +kernel
theorem d_Al_grow2_48 : decode b_Al_grow2 48 = .ok (.iload_n 1, 1) := by decide +kernel
theorem d_Al_grow2_49 : decode b_Al_grow2 49 = .ok (.invokestatic 79, 3) := by decide +kernel
theorem d_Al_grow2_52 : decode b_Al_grow2 52 = .ok (.anewarray 7, 3) := by decide +kernel
theorem d_Al_grow2_55 : decode b_Al_grow2 55 = .ok (.dup_x1, 1) := by decide +kernel
theorem d_Al_grow2_56 : decode b_Al_grow2 56 = .ok (.putfield 9, 3) := by decide +kernel
theorem d_Al_grow2_59 : decode b_Al_grow2 59 = .ok (.areturn, 1) := by decide +kernel
theorem d_As_newLength_0 : decode b_As_newLength 0 = .ok (.iload_n 0, 1) := by decide +kernel
theorem d_As_newLength_1 : decode b_As_newLength 1 = .ok (.iload_n 1, 1) := by decide +kernel
theorem d_As_newLength_2 : decode b_As_newLength 2 = .ok (.iload_n 2, 1) := by decide +kernel
theorem d_As_newLength_3 : decode b_As_newLength 3 = .ok (.invokestatic 194, 3) := by decide +kernel
theorem d_As_newLength_6 : decode b_As_newLength 6 = .ok (.iadd, 1) := by decide +kernel
theorem d_As_newLength_7 : decode b_As_newLength 7 = .ok (.istore_n 3, 1) := by decide +kernel
theorem d_As_newLength_8 : decode b_As_newLength 8 = .ok (.iconst 0, 1) := by decide +kernel
theorem d_As_newLength_9 : decode b_As_newLength 9 = .ok (.iload_n 3, 1) := by decide +kernel
theorem d_As_newLength_10 : decode b_As_newLength 10 = .ok (.if_icmp .ge 11, 3) := by decide +kernel
theorem d_As_newLength_13 : decode b_As_newLength 13 = .ok (.iload_n 3, 1) := by decide +kernel
theorem d_As_newLength_14 : decode b_As_newLength 14 = .ok (.ldc 200, 2) := by decide +kernel
theorem d_As_newLength_16 : decode b_As_newLength 16 = .ok (.if_icmp .gt 5, 3) := by decide +kernel
theorem d_As_newLength_19 : decode b_As_newLength 19 = .ok (.iload_n 3, 1) := by decide +kernel
theorem d_As_newLength_20 : decode b_As_newLength 20 = .ok (.ireturn, 1) := by decide +kernel
theorem d_As_newLength_21 : decode b_As_newLength 21 = .ok (.iload_n 0, 1) := by decide +kernel
theorem d_As_newLength_22 : decode b_As_newLength 22 = .ok (.iload_n 1, 1) := by decide +kernel
theorem d_As_newLength_23 : decode b_As_newLength 23 = .ok (.invokestatic 201, 3) := by decide +kernel
theorem d_As_newLength_26 : decode b_As_newLength 26 = .ok (.ireturn, 1) := by decide +kernel
theorem d_As_hugeLength_0 : decode b_As_hugeLength 0 = .ok (.iload_n 0, 1) := by decide +kernel
theorem d_As_hugeLength_1 : decode b_As_hugeLength 1 = .ok (.iload_n 1, 1) := by decide +kernel
theorem d_As_hugeLength_2 : decode b_As_hugeLength 2 = .ok (.iadd, 1) := by decide +kernel
theorem d_As_hugeLength_3 : decode b_As_hugeLength 3 = .ok (.istore_n 2, 1) := by decide +kernel
theorem d_As_hugeLength_4 : decode b_As_hugeLength 4 = .ok (.iload_n 2, 1) := by decide +kernel
theorem d_As_hugeLength_5 : decode b_As_hugeLength 5 = .ok (.ifCond .ge 44, 3) := by decide +kernel
theorem d_As_hugeLength_8 : decode b_As_hugeLength 8 = .ok (.new 204, 3) := by decide +kernel
theorem d_As_hugeLength_11 : decode b_As_hugeLength 11 = .ok (.dup, 1) := by decide +kernel
theorem d_As_hugeLength_12 : decode b_As_hugeLength 12 = .ok (.new 89, 3) := by decide +kernel
theorem d_As_hugeLength_15 : decode b_As_hugeLength 15 = .ok (.dup, 1) := by decide +kernel
theorem d_As_hugeLength_16 : decode b_As_hugeLength 16 = .ok (.invokespecial 91, 3) := by decide +kernel
theorem d_As_hugeLength_19 : decode b_As_hugeLength 19 = .ok (.ldc 206, 2) := by decide +kernel
theorem d_As_hugeLength_21 : decode b_As_hugeLength 21 = .ok (.invokevirtual 94, 3) := by decide +kernel
theorem d_As_hugeLength_24 : decode b_As_hugeLength 24 = .ok (.iload_n 0, 1) := by decide +kernel
theorem d_As_hugeLength_25 : decode b_As_hugeLength 25 = .ok (.invokevirtual 98, 3) := by decide +kernel
theorem d_As_hugeLength_28 : decode b_As_hugeLength 28 = .ok (.ldc 208, 2) := by decide +kernel
theorem d_As_hugeLength_30 : decode b_As_hugeLength 30 = .ok (.invokevirtual 94, 3) := by decide +kernel
theorem d_As_hugeLength_33 : decode b_As_hugeLength 33 = .ok (.iload_n 1, 1) := by decide +kernel
theorem d_As_hugeLength_34 : decode b_As_hugeLength 34 = .ok (.invokevirtual 98, 3) := by decide +kernel
theorem d_As_hugeLength_37 : decode b_As_hugeLength 37 = .ok (.ldc 210, 2) := by decide +kernel
theorem d_As_hugeLength_39 : decode b_As_hugeLength 39 = .ok (.invokevirtual 94, 3) := by decide +kernel
theorem d_As_hugeLength_42 : decode b_As_hugeLength 42 = .ok (.invokevirtual 101, 3) := by decide +kernel
theorem d_As_hugeLength_45 : decode b_As_hugeLength 45 = .ok (.invokespecial 212, 3) := by decide +kernel
theorem d_As_hugeLength_48 : decode b_As_hugeLength 48 = .ok (.athrow, 1) := by decide +kernel
theorem d_As_hugeLength_49 : decode b_As_hugeLength 49 = .ok (.iload_n 2, 1) := by decide +kernel
theorem d_As_hugeLength_50 : decode b_As_hugeLength 50 = .ok (.ldc 200, 2) := by decide +kernel
theorem d_As_hugeLength_52 : decode b_As_hugeLength 52 = .ok (.if_icmp .gt 6, 3) := by decide +kernel
theorem d_As_hugeLength_55 : decode b_As_hugeLength 55 = .ok (.ldc 200, 2) := by decide +kernel
theorem d_As_hugeLength_57 : decode b_As_hugeLength 57 = .ok (.ireturn, 1) := by decide +kernel
theorem d_As_hugeLength_58 : decode b_As_hugeLength 58 = .ok (.iload_n 2, 1) := by decide +kernel
theorem d_As_hugeLength_59 : decode b_As_hugeLength 59 = .ok (.ireturn, 1) := by decide +kernel
theorem d_Ar_copyOf1_0 : decode b_Ar_copyOf1 0 = .ok (.aload_n 0, 1) := by decide +kernel
theorem d_Ar_copyOf1_1 : decode b_Ar_copyOf1 1 = .ok (.iload_n 1, 1) := by decide +kernel
theorem d_Ar_copyOf1_2 : decode b_Ar_copyOf1 2 = .ok (.aload_n 0, 1) := by decide +kernel
theorem d_Ar_copyOf1_3 : decode b_Ar_copyOf1 3 = .ok (.invokevirtual 86, 3) := by decide +kernel
theorem d_Ar_copyOf1_6 : decode b_Ar_copyOf1 6 = .ok (.invokestatic 300, 3) := by decide +kernel
theorem d_Ar_copyOf1_9 : decode b_Ar_copyOf1 9 = .ok (.areturn, 1) := by decide +kernel
theorem d_Ar_copyOf2_0 : decode b_Ar_copyOf2 0 = .ok (.aload_n 2, 1) := by decide +kernel
theorem d_Ar_copyOf2_1 : decode b_Ar_copyOf2 1 = .ok (.ldc 110, 2) := by decide +kernel
theorem d_Ar_copyOf2_3 : decode b_Ar_copyOf2 3 = .ok (.if_acmp .ne 10, 3) := by decide +kernel
theorem d_Ar_copyOf2_6 : decode b_Ar_copyOf2 6 = .ok (.iload_n 1, 1) := by decide +kernel
theorem d_Ar_copyOf2_7 : decode b_Ar_copyOf2 7 = .ok (.anewarray 2, 3) := by decide +kernel
theorem d_Ar_copyOf2_10 : decode b_Ar_copyOf2 10 = .ok (.goto 14, 3) := by decide +kernel
theorem d_Ar_copyOf2_13 : decode b_Ar_copyOf2 13 = .ok (.aload_n 2, 1) := by decide +kernel
theorem d_Ar_copyOf2_14 : decode b_Ar_copyOf2 14 = .ok (.invokevirtual 90, 3) := by decide +kernel
theorem d_Ar_copyOf2_17 : decode b_Ar_copyOf2 17 = .ok (.iload_n 1, 1) := by decide +kernel
theorem d_Ar_copyOf2_18 : decode b_Ar_copyOf2 18 = .ok (.invokestatic 95, 3) := by decide +kernel
theorem d_Ar_copyOf2_21 : decode b_Ar_copyOf2 21 = .ok (.checkcast 110, 3) := by decide +kernel
theorem d_Ar_copyOf2_24 : decode b_Ar_copyOf2 24 = .ok (.astore_n 3, 1) := by decide +kernel
theorem d_Ar_copyOf2_25 : decode b_Ar_copyOf2 25 = .ok (.aload_n 0, 1) := by decide +kernel
theorem d_Ar_copyOf2_26 : decode b_Ar_copyOf2 26 = .ok (.iconst 0, 1) := by decide +kernel
theorem d_Ar_copyOf2_27 : decode b_Ar_copyOf2 27 = .ok (.aload_n 3, 1) := by decide +kernel
theorem d_Ar_copyOf2_28 : decode b_Ar_copyOf2 28 = .ok (.iconst 0, 1) := by decide +kernel
theorem d_Ar_copyOf2_29 : decode b_Ar_copyOf2 29 = .ok (.aload_n 0, 1) := by decide +kernel
theorem d_Ar_copyOf2_30 : decode b_Ar_copyOf2 30 = .ok (.arraylength, 1) := by decide +kernel
theorem d_Ar_copyOf2_31 : decode b_Ar_copyOf2 31 = .ok (.iload_n 1, 1) := by decide +kernel
theorem d_Ar_copyOf2_32 : decode b_Ar_copyOf2 32 = .ok (.invokestatic 304, 3) := by decide +kernel
theorem d_Ar_copyOf2_35 : decode b_Ar_copyOf2 35 = .ok (.invokestatic 150, 3) := by decide +kernel
theorem d_Ar_copyOf2_38 : decode b_Ar_copyOf2 38 = .ok (.aload_n 3, 1) := by decide +kernel
theorem d_Ar_copyOf2_39 : decode b_Ar_copyOf2 39 = .ok (.areturn, 1) := by decide +kernel
theorem d_Ma_min_0 : decode b_Ma_min 0 = .ok (.iload_n 0, 1) := by decide +kernel
theorem d_Ma_min_1 : decode b_Ma_min 1 = .ok (.iload_n 1, 1) := by decide +kernel
theorem d_Ma_min_2 : decode b_Ma_min 2 = .ok (.if_icmp .gt 7, 3) := by decide +kernel
theorem d_Ma_min_5 : decode b_Ma_min 5 = .ok (.iload_n 0, 1) := by decide +kernel
theorem d_Ma_min_6 : decode b_Ma_min 6 = .ok (.goto 4, 3) := by decide +kernel
theorem d_Ma_min_9 : decode b_Ma_min 9 = .ok (.iload_n 1, 1) := by decide +kernel
theorem d_Ma_min_10 : decode b_Ma_min 10 = .ok (.ireturn, 1) := by decide +kernel
theorem d_Tr_put_0 : decode b_Tr_put 0 = .ok (.iconst 0, 1) := by decide +kernel
theorem d_Tr_put_1 : decode b_Tr_put 1 = .ok (.istore 5, 2) := by decide +kernel
theorem d_Tr_put_3 : decode b_Tr_put 3 = .ok (.iload 5, 2) := by decide +kernel
theorem d_Tr_put_5 : decode b_Tr_put 5 = .ok (.aload_n 0, 1) := by decide +kernel
theorem d_Tr_put_6 : decode b_Tr_put 6 = .ok (.getfield 18, 3) := by decide +kernel
theorem d_Tr_put_9 : decode b_Tr_put 9 = .ok (.if_icmp .ge 21, 3) := by decide +kernel
theorem d_Tr_put_12 : decode b_Tr_put 12 = .ok (.aload_n 0, 1) := by decide +kernel
theorem d_Tr_put_13 : decode b_Tr_put 13 = .ok (.getfield 9, 3) := by decide +kernel
theorem d_Tr_put_16 : decode b_Tr_put 16 = .ok (.iload 5, 2) := by decide +kernel
theorem d_Tr_put_18 : decode b_Tr_put 18 = .ok (.daload, 1) := by decide +kernel
theorem d_Tr_put_19 : decode b_Tr_put 19 = .ok (.dload_n 1, 1) := by decide +kernel
theorem d_Tr_put_20 : decode b_Tr_put 20 = .ok (.dcmp .g, 1) := by decide +kernel
theorem d_Tr_put_21 : decode b_Tr_put 21 = .ok (.ifCond .ge 9, 3) := by decide +kernel
theorem d_Tr_put_24 : decode b_Tr_put 24 = .ok (.iinc 5 1, 3) := by decide +kernel
theorem d_Tr_put_27 : decode b_Tr_put 27 = .ok (.goto (-24), 3) := by decide +kernel
theorem d_Tr_put_30 : decode b_Tr_put 30 = .ok (.iload 5, 2) := by decide +kernel
theorem d_Tr_put_32 : decode b_Tr_put 32 = .ok (.aload_n 0, 1) := by decide +kernel
theorem d_Tr_put_33 : decode b_Tr_put 33 = .ok (.getfield 18, 3) := by decide +kernel
theorem d_Tr_put_36 : decode b_Tr_put 36 = .ok (.if_icmp .eq 15, 3) := by decide +kernel
theorem d_Tr_put_39 : decode b_Tr_put 39 = .ok (.aload_n 0, 1) := by decide +kernel
theorem d_Tr_put_40 : decode b_Tr_put 40 = .ok (.getfield 9, 3) := by decide +kernel
theorem d_Tr_put_43 : decode b_Tr_put 43 = .ok (.iload 5, 2) := by decide +kernel
theorem d_Tr_put_45 : decode b_Tr_put 45 = .ok (.daload, 1) := by decide +kernel
theorem d_Tr_put_46 : decode b_Tr_put 46 = .ok (.dload_n 1, 1) := by decide +kernel
theorem d_Tr_put_47 : decode b_Tr_put 47 = .ok (.dcmp .l, 1) := by decide +kernel
theorem d_Tr_put_48 : decode b_Tr_put 48 = .ok (.ifCond .eq 19, 3) := by decide +kernel
theorem d_Tr_put_51 : decode b_Tr_put 51 = .ok (.aload_n 0, 1) := by decide +kernel
theorem d_Tr_put_52 : decode b_Tr_put 52 = .ok (.getfield 18, 3) := by decide +kernel
theorem d_Tr_put_55 : decode b_Tr_put 55 = .ok (.iconst 4, 1) := by decide +kernel
theorem d_Tr_put_56 : decode b_Tr_put 56 = .ok (.if_icmp .ne 5, 3) := by decide +kernel
theorem d_Tr_put_59 : decode b_Tr_put 59 = .ok (.iconst 0, 1) := by decide +kernel
theorem d_Tr_put_60 : decode b_Tr_put 60 = .ok (.ireturn, 1) := by decide +kernel
theorem d_Tr_put_61 : decode b_Tr_put 61 = .ok (.aload_n 0, 1) := by decide +kernel
theorem d_Tr_put_62 : decode b_Tr_put 62 = .ok (.iload 5, 2) := by decide +kernel
theorem d_Tr_put_64 : decode b_Tr_put 64 = .ok (.invokevirtual 22, 3) := by decide +kernel
theorem d_Tr_put_67 : decode b_Tr_put 67 = .ok (.aload_n 0, 1) := by decide +kernel
theorem d_Tr_put_68 : decode b_Tr_put 68 = .ok (.getfield 9, 3) := by decide +kernel
theorem d_Tr_put_71 : decode b_Tr_put 71 = .ok (.iload 5, 2) := by decide +kernel
theorem d_Tr_put_73 : decode b_Tr_put 73 = .ok (.dload_n 1, 1) := by decide +kernel
theorem d_Tr_put_74 : decode b_Tr_put 74 = .ok (.dastore, 1) := by decide +kernel
theorem d_Tr_put_75 : decode b_Tr_put 75 = .ok (.aload_n 0, 1) := by decide +kernel
theorem d_Tr_put_76 : decode b_Tr_put 76 = .ok (.getfield 15, 3) := by decide +kernel
theorem d_Tr_put_79 : decode b_Tr_put 79 = .ok (.iload 5, 2) := by decide +kernel
theorem d_Tr_put_81 : decode b_Tr_put 81 = .ok (.dload_n 3, 1) := by decide +kernel
theorem d_Tr_put_82 : decode b_Tr_put 82 = .ok (.dastore, 1) := by decide +kernel
theorem d_Tr_put_83 : decode b_Tr_put 83 = .ok (.iconst 1, 1) := by decide +kernel
theorem d_Tr_put_84 : decode b_Tr_put 84 = .ok (.ireturn, 1) := by decide +kernel
theorem d_Tr_makeRoom_0 : decode b_Tr_makeRoom 0 = .ok (.aload_n 0, 1) := by decide +kernel
theorem d_Tr_makeRoom_1 : decode b_Tr_makeRoom 1 = .ok (.getfield 18, 3) := by decide +kernel
theorem d_Tr_makeRoom_4 : decode b_Tr_makeRoom 4 = .ok (.istore_n 2, 1) := by decide +kernel
theorem d_Tr_makeRoom_5 : decode b_Tr_makeRoom 5 = .ok (.iload_n 2, 1) := by decide +kernel
theorem d_Tr_makeRoom_6 : decode b_Tr_makeRoom 6 = .ok (.iload_n 1, 1) := by decide +kernel
theorem d_Tr_makeRoom_7 : decode b_Tr_makeRoom 7 = .ok (.if_icmp .le 37, 3) := by decide +kernel
theorem d_Tr_makeRoom_10 : decode b_Tr_makeRoom 10 = .ok (.aload_n 0, 1) := by decide +kernel
theorem d_Tr_makeRoom_11 : decode b_Tr_makeRoom 11 = .ok (.getfield 9, 3) := by decide +kernel
theorem d_Tr_makeRoom_14 : decode b_Tr_makeRoom 14 = .ok (.iload_n 2, 1) := by decide +kernel
theorem d_Tr_makeRoom_15 : decode b_Tr_makeRoom 15 = .ok (.aload_n 0, 1) := by decide +kernel
theorem d_Tr_makeRoom_16 : decode b_Tr_makeRoom 16 = .ok (.getfield 9, 3) := by decide +kernel
theorem d_Tr_makeRoom_19 : decode b_Tr_makeRoom 19 = .ok (.iload_n 2, 1) := by decide +kernel
theorem d_Tr_makeRoom_20 : decode b_Tr_makeRoom 20 = .ok (.iconst 1, 1) := by decide +kernel
theorem d_Tr_makeRoom_21 : decode b_Tr_makeRoom 21 = .ok (.isub, 1) := by decide +kernel
theorem d_Tr_makeRoom_22 : decode b_Tr_makeRoom 22 = .ok (.daload, 1) := by decide +kernel
theorem d_Tr_makeRoom_23 : decode b_Tr_makeRoom 23 = .ok (.dastore, 1) := by decide +kernel
theorem d_Tr_makeRoom_24 : decode b_Tr_makeRoom 24 = .ok (.aload_n 0, 1) := by decide +kernel
theorem d_Tr_makeRoom_25 : decode b_Tr_makeRoom 25 = .ok (.getfield 15, 3) := by decide +kernel
theorem d_Tr_makeRoom_28 : decode b_Tr_makeRoom 28 = .ok (.iload_n 2, 1) := by decide +kernel
theorem d_Tr_makeRoom_29 : decode b_Tr_makeRoom 29 = .ok (.aload_n 0, 1) := by decide +kernel
theorem d_Tr_makeRoom_30 : decode b_Tr_makeRoom 30 = .ok (.getfield 15, 3) := by decide +kernel
theorem d_Tr_makeRoom_33 : decode b_Tr_makeRoom 33 = .ok (.iload_n 2, 1) := by decide +kernel
theorem d_Tr_makeRoom_34 : decode b_Tr_makeRoom 34 = .ok (.iconst 1, 1) := by decide +kernel
theorem d_Tr_makeRoom_35 : decode b_Tr_makeRoom 35 = .ok (.isub, 1) := by decide +kernel
theorem d_Tr_makeRoom_36 : decode b_Tr_makeRoom 36 = .ok (.daload, 1) := by decide +kernel
theorem d_Tr_makeRoom_37 : decode b_Tr_makeRoom 37 = .ok (.dastore, 1) := by decide +kernel
theorem d_Tr_makeRoom_38 : decode b_Tr_makeRoom 38 = .ok (.iinc 2 (-1), 3) := by decide +kernel
theorem d_Tr_makeRoom_41 : decode b_Tr_makeRoom 41 = .ok (.goto (-36), 3) := by decide +kernel
theorem d_Tr_makeRoom_44 : decode b_Tr_makeRoom 44 = .ok (.aload_n 0, 1) := by decide +kernel
theorem d_Tr_makeRoom_45 : decode b_Tr_makeRoom 45 = .ok (.dup, 1) := by decide +kernel
theorem d_Tr_makeRoom_46 : decode b_Tr_makeRoom 46 = .ok (.getfield 18, 3) := by decide +kernel
theorem d_Tr_makeRoom_49 : decode b_Tr_makeRoom 49 = .ok (.iconst 1, 1) := by decide +kernel
theorem d_Tr_makeRoom_50 : decode b_Tr_makeRoom 50 = .ok (.iadd, 1) := by decide +kernel
theorem d_Tr_makeRoom_51 : decode b_Tr_makeRoom 51 = .ok (.putfield 18, 3) := by decide +kernel
theorem d_Tr_makeRoom_54 : decode b_Tr_makeRoom 54 = .ok (.return_, 1) := by decide +kernel
theorem d_No_unhang_0 : decode b_No_unhang 0 = .ok (.aload_n 0, 1) := by decide +kernel
theorem d_No_unhang_1 : decode b_No_unhang 1 = .ok (.invokevirtual 60, 3) := by decide +kernel
theorem d_No_unhang_4 : decode b_No_unhang 4 = .ok (.istore_n 1, 1) := by decide +kernel
theorem d_No_unhang_5 : decode b_No_unhang 5 = .ok (.aload_n 0, 1) := by decide +kernel
theorem d_No_unhang_6 : decode b_No_unhang 6 = .ok (.getfield 52, 3) := by decide +kernel
theorem d_No_unhang_9 : decode b_No_unhang 9 = .ok (.ifnull 34, 3) := by decide +kernel
theorem d_No_unhang_12 : decode b_No_unhang 12 = .ok (.iload_n 1, 1) := by decide +kernel
theorem d_No_unhang_13 : decode b_No_unhang 13 = .ok (.aload_n 0, 1) := by decide +kernel
theorem d_No_unhang_14 : decode b_No_unhang 14 = .ok (.getfield 52, 3) := by decide +kernel
theorem d_No_unhang_17 : decode b_No_unhang 17 = .ok (.getfield 12, 3) := by decide +kernel
theorem d_No_unhang_20 : decode b_No_unhang 20 = .ok (.invokevirtual 64, 3) := by decide +kernel
theorem d_No_unhang_23 : decode b_No_unhang 23 = .ok (.if_icmp .ge 20, 3) := by decide +kernel
theorem d_No_unhang_26 : decode b_No_unhang 26 = .ok (.aload_n 0, 1) := by decide +kernel
theorem d_No_unhang_27 : decode b_No_unhang 27 = .ok (.getfield 52, 3) := by decide +kernel
theorem d_No_unhang_30 : decode b_No_unhang 30 = .ok (.getfield 12, 3) := by decide +kernel
theorem d_No_unhang_33 : decode b_No_unhang 33 = .ok (.iload_n 1, 1) := by decide +kernel
theorem d_No_unhang_34 : decode b_No_unhang 34 = .ok (.invokevirtual 67, 3) := by decide +kernel
theorem d_No_unhang_37 : decode b_No_unhang 37 = .ok (.pop, 1) := by decide +kernel
theorem d_No_unhang_38 : decode b_No_unhang 38 = .ok (.aload_n 0, 1) := by decide +kernel
theorem d_No_unhang_39 : decode b_No_unhang 39 = .ok (.aconst_null, 1) := by decide +kernel
theorem d_No_unhang_40 : decode b_No_unhang 40 = .ok (.putfield 52, 3) := by decide +kernel
theorem d_No_unhang_43 : decode b_No_unhang 43 = .ok (.return_, 1) := by decide +kernel
theorem d_No_rank_0 : decode b_No_rank 0 = .ok (.iconst 0, 1) := by decide +kernel
theorem d_No_rank_1 : decode b_No_rank 1 = .ok (.istore_n 1, 1) := by decide +kernel
theorem d_No_rank_2 : decode b_No_rank 2 = .ok (.aload_n 0, 1) := by decide +kernel
theorem d_No_rank_3 : decode b_No_rank 3 = .ok (.getfield 52, 3) := by decide +kernel
theorem d_No_rank_6 : decode b_No_rank 6 = .ok (.ifnull 38, 3) := by decide +kernel
theorem d_No_rank_9 : decode b_No_rank 9 = .ok (.iload_n 1, 1) := by decide +kernel
theorem d_No_rank_10 : decode b_No_rank 10 = .ok (.aload_n 0, 1) := by decide +kernel
theorem d_No_rank_11 : decode b_No_rank 11 = .ok (.getfield 52, 3) := by decide +kernel
theorem d_No_rank_14 : decode b_No_rank 14 = .ok (.getfield 12, 3) := by decide +kernel
theorem d_No_rank_17 : decode b_No_rank 17 = .ok (.invokevirtual 64, 3) := by decide +kernel
theorem d_No_rank_20 : decode b_No_rank 20 = .ok (.if_icmp .ge 24, 3) := by decide +kernel
theorem d_No_rank_23 : decode b_No_rank 23 = .ok (.aload_n 0, 1) := by decide +kernel
theorem d_No_rank_24 : decode b_No_rank 24 = .ok (.getfield 52, 3) := by decide +kernel
theorem d_No_rank_27 : decode b_No_rank 27 = .ok (.getfield 12, 3) := by decide +kernel
theorem d_No_rank_30 : decode b_No_rank 30 = .ok (.iload_n 1, 1) := by decide +kernel
theorem d_No_rank_31 : decode b_No_rank 31 = .ok (.invokevirtual 71, 3) := by decide +kernel
theorem d_No_rank_34 : decode b_No_rank 34 = .ok (.aload_n 0, 1) := by decide +kernel
theorem d_No_rank_35 : decode b_No_rank 35 = .ok (.if_acmp .eq 9, 3) := by decide +kernel
theorem d_No_rank_38 : decode b_No_rank 38 = .ok (.iinc 1 1, 3) := by decide +kernel
theorem d_No_rank_41 : decode b_No_rank 41 = .ok (.goto (-32), 3) := by decide +kernel
theorem d_No_rank_44 : decode b_No_rank 44 = .ok (.iload_n 1, 1) := by decide +kernel
theorem d_No_rank_45 : decode b_No_rank 45 = .ok (.ireturn, 1) := by decide +kernel
theorem d_Al_size_0 : decode b_Al_size 0 = .ok (.aload_n 0, 1) := by decide +kernel
theorem d_Al_size_1 : decode b_Al_size 1 = .ok (.getfield 48, 3) := by decide +kernel
theorem d_Al_size_4 : decode b_Al_size 4 = .ok (.ireturn, 1) := by decide +kernel
theorem d_Al_get_0 : decode b_Al_get 0 = .ok (.iload_n 1, 1) := by decide +kernel
theorem d_Al_get_1 : decode b_Al_get 1 = .ok (.aload_n 0, 1) := by decide +kernel
theorem d_Al_get_2 : decode b_Al_get 2 = .ok (.getfield 48, 3) := by decide +kernel
theorem d_Al_get_5 : decode b_Al_get 5 = .ok (.invokestatic 118, 3) := by decide +kernel
theorem d_Al_get_8 : decode b_Al_get 8 = .ok (.pop, 1) := by decide +kernel
theorem d_Al_get_9 : decode b_Al_get 9 = .ok (.aload_n 0, 1) := by decide +kernel
theorem d_Al_get_10 : decode b_Al_get 10 = .ok (.iload_n 1, 1) := by decide +kernel
theorem d_Al_get_11 : decode b_Al_get 11 = .ok (.invokevirtual 123, 3) := by decide +kernel
theorem d_Al_get_14 : decode b_Al_get 14 = .ok (.areturn, 1) := by decide +kernel
theorem d_Ob_checkIndex_0 : decode b_Ob_checkIndex 0 = .ok (.iload_n 0, 1) := by decide +kernel
theorem d_Ob_checkIndex_1 : decode b_Ob_checkIndex 1 = .ok (.iload_n 1, 1) := by decide +kernel
theorem d_Ob_checkIndex_2 : decode b_Ob_checkIndex 2 = .ok (.aconst_null, 1) := by decide +kernel
theorem d_Ob_checkIndex_3 : decode b_Ob_checkIndex 3 = .ok (.invokestatic 105, 3) := by decide +kernel
theorem d_Ob_checkIndex_6 : decode b_Ob_checkIndex 6 = .ok (.ireturn, 1) := by decide +kernel
theorem d_Pr_checkIndex_0 : decode b_Pr_checkIndex 0 = .ok (.iload_n 0, 1) := by decide +kernel
theorem d_Pr_checkIndex_1 : decode b_Pr_checkIndex 1 = .ok (.ifCond .lt 8, 3) := by decide +kernel
theorem d_Pr_checkIndex_4 : decode b_Pr_checkIndex 4 = .ok (.iload_n 0, 1) := by decide +kernel
theorem d_Pr_checkIndex_5 : decode b_Pr_checkIndex 5 = .ok (.iload_n 1, 1) := by decide +kernel
theorem d_Pr_checkIndex_6 : decode b_Pr_checkIndex 6 = .ok (.if_icmp .lt 10, 3) := by decide +kernel
theorem d_Pr_checkIndex_9 : decode b_Pr_checkIndex 9 = .ok (.aload_n 2, 1) := by decide +kernel
theorem d_Pr_checkIndex_10 : decode b_Pr_checkIndex 10 = .ok (.iload_n 0, 1) := by decide +kernel
theorem d_Pr_checkIndex_11 : decode b_Pr_checkIndex 11 = .ok (.iload_n 1, 1) := by decide +kernel
theorem d_Pr_checkIndex_12 : decode b_Pr_checkIndex 12 = .ok (.invokestatic 95, 3) := by decide +kernel
theorem d_Pr_checkIndex_15 : decode b_Pr_checkIndex 15 = .ok (.athrow, 1) := by decide +kernel
theorem d_Pr_checkIndex_16 : decode b_Pr_checkIndex 16 = .ok (.iload_n 0, 1) := by decide +kernel
theorem d_Pr_checkIndex_17 : decode b_Pr_checkIndex 17 = .ok (.ireturn, 1) := by decide +kernel
theorem d_Al_elementData_0 : decode b_Al_elementData 0 = .ok (.aload_n 0, 1) := by decide +kernel
theorem d_Al_elementData_1 : decode b_Al_elementData 1 = .ok (.getfield 9, 3) := by decide +kernel
theorem d_Al_elementData_4 : decode b_Al_elementData 4 = .ok (.iload_n 1, 1) := by decide +kernel
theorem d_Al_elementData_5 : decode b_Al_elementData 5 = .ok (.aaload, 1) := by decide +kernel
theorem d_Al_elementData_6 : decode b_Al_elementData 6 = .ok (.areturn, 1) := by decide +kernel
theorem d_Al_remove_0 : decode b_Al_remove 0 = .ok (.iload_n 1, 1) := by decide +kernel
theorem d_Al_remove_1 : decode b_Al_remove 1 = .ok (.aload_n 0, 1) := by decide +kernel
theorem d_Al_remove_2 : decode b_Al_remove 2 = .ok (.getfield 48, 3) := by decide +kernel
theorem d_Al_remove_5 : decode b_Al_remove 5 = .ok (.invokestatic 118, 3) := by decide +kernel
theorem d_Al_remove_8 : decode b_Al_remove 8 = .ok (.pop, 1) := by decide +kernel
theorem d_Al_remove_9 : decode b_Al_remove 9 = .ok (.aload_n 0, 1) := by decide +kernel
theorem d_Al_remove_10 : decode b_Al_remove 10 = .ok (.getfield 9, 3) := by decide +kernel
theorem d_Al_remove_13 : decode b_Al_remove 13 = .ok (.astore_n 2, 1) := by decide +kernel
theorem d_Al_remove_14 : decode b_Al_remove 14 = .ok (.aload_n 2, 1) := by decide +kernel
theorem d_Al_remove_15 : decode b_Al_remove 15 = .ok (.iload_n 1, 1) := by decide +kernel
theorem d_Al_remove_16 : decode b_Al_remove 16 = .ok (.aaload, 1) := by decide +kernel
theorem d_Al_remove_17 : decode b_Al_remove 17 = .ok (.astore_n 3, 1) := by decide +kernel
theorem d_Al_remove_18 : decode b_Al_remove 18 = .ok (.aload_n 0, 1) := by decide +kernel
theorem d_Al_remove_19 : decode b_Al_remove 19 = .ok (.aload_n 2, 1) := by decide +kernel
theorem d_Al_remove_20 : decode b_Al_remove 20 = .ok (.iload_n 1, 1) := by decide +kernel
theorem d_Al_remove_21 : decode b_Al_remove 21 = .ok (.invokevirtual 144, 3) := by decide +kernel
theorem d_Al_remove_24 : decode b_Al_remove 24 = .ok (.aload_n 3, 1) := by decide +kernel
theorem d_Al_remove_25 : decode b_Al_remove 25 = .ok (.areturn, 1) := by decide +kernel
theorem d_Al_fastRemove_0 : decode b_Al_fastRemove 0 = .ok (.aload_n 0, 1) := by decide +kernel
theorem d_Al_fastRemove_1 : decode b_Al_fastRemove 1 = .ok (.dup, 1) := by decide +kernel
theorem d_Al_fastRemove_2 : decode b_Al_fastRemove 2 = .ok (.getfield 63, 3) := by decide +kernel
theorem d_Al_fastRemove_5 : decode b_Al_fastRemove 5 = .ok (.iconst 1, 1) := by decide +kernel
theorem d_Al_fastRemove_6 : decode b_Al_fastRemove 6 = .ok (.iadd, 1) := by decide +kernel
theorem d_Al_fastRemove_7 : decode b_Al_fastRemove 7 = .ok (.putfield 63, 3) := by decide +kernel
theorem d_Al_fastRemove_10 : decode b_Al_fastRemove 10 = .ok (.aload_n 0, 1) := by decide +kernel
theorem d_Al_fastRemove_11 : decode b_Al_fastRemove 11 = .ok (.getfield 48, 3) := by decide +kernel
theorem d_Al_fastRemove_14 : decode b_Al_fastRemove 14 = .ok (.iconst 1, 1) := by decide +kernel
theorem d_Al_fastRemove_15 : decode b_Al_fastRemove 15 = .ok (.isub, 1) := by decide +kernel
theorem d_Al_fastRemove_16 : decode b_Al_fastRemove 16 = .ok (.dup, 1) := by decide +kernel
theorem d_Al_fastRemove_17 : decode b_Al_fastRemove 17 = .ok (.istore_n 3, 1) := by decide +kernel
theorem d_Al_fastRemove_18 : decode b_Al_fastRemove 18 = .ok (.iload_n 2, 1) := by decide +kernel
theorem d_Al_fastRemove_19 : decode b_Al_fastRemove 19 = .ok (.if_icmp .le 15, 3) := by decide +kernel
theorem d_Al_fastRemove_22 : decode b_Al_fastRemove 22 = .ok (.aload_n 1, 1) := by decide +kernel
theorem d_Al_fastRemove_23 : decode b_Al_fastRemove 23 = .ok (.iload_n 2, 1) := by decide +kernel
theorem d_Al_fastRemove_24 : decode b_Al_fastRemove 24 = .ok (.iconst 1, 1) := by decide +kernel
theorem d_Al_fastRemove_25 : decode b_Al_fastRemove 25 = .ok (.iadd, 1) := by decide +kernel
theorem d_Al_fastRemove_26 : decode b_Al_fastRemove 26 = .ok (.aload_n 1, 1) := by decide +kernel
theorem d_Al_fastRemove_27 : decode b_Al_fastRemove 27 = .ok (.iload_n 2, 1) := by decide +kernel
theorem d_Al_fastRemove_28 : decode b_Al_fastRemove 28 = .ok (.iload_n 3, 1) := by decide +kernel
theorem d_Al_fastRemove_29 : decode b_Al_fastRemove 29 = .ok (.iload_n 2, 1) := by decide +kernel
theorem d_Al_fastRemove_30 : decode b_Al_fastRemove 30 = .ok (.isub, 1) := by decide +kernel
theorem d_Al_fastRemove_31 : decode b_Al_fastRemove 31 = .ok (.invokestatic 112, 3) := by decide +kernel
theorem d_Al_fastRemove_34 : decode b_Al_fastRemove 34 = .ok (.aload_n 1, 1) := by decide +kernel
theorem d_Al_fastRemove_35 : decode b_Al_fastRemove 35 = .ok (.aload_n 0, 1) := by decide +kernel
theorem d_Al_fastRemove_36 : decode b_Al_fastRemove 36 = .ok (.iload_n 3, 1) := by decide +kernel
theorem d_Al_fastRemove_37 : decode b_Al_fastRemove 37 = .ok (.dup_x1, 1) := by decide +kernel
theorem d_Al_fastRemove_38 : decode b_Al_fastRemove 38 = .ok (.putfield 48, 3) := by decide +kernel
theorem d_Al_fastRemove_41 : decode b_Al_fastRemove 41 = .ok (.aconst_null, 1) := by decide +kernel
theorem d_Al_fastRemove_42 : decode b_Al_fastRemove 42 = .ok (.aastore, 1) := by decide +kernel
theorem d_Al_fastRemove_43 : decode b_Al_fastRemove 43 = .ok (.return_, 1) := by decide +kernel
theorem d_No_settleAt_0 : decode b_No_settleAt 0 = .ok (.aload_n 0, 1) := by decide +kernel
theorem d_No_settleAt_1 : decode b_No_settleAt 1 = .ok (.aload_n 0, 1) := by decide +kernel
theorem d_No_settleAt_2 : decode b_No_settleAt 2 = .ok (.getfield 20, 3) := by decide +kernel
theorem d_No_settleAt_5 : decode b_No_settleAt 5 = .ok (.iconst 0, 1) := by decide +kernel
theorem d_No_settleAt_6 : decode b_No_settleAt 6 = .ok (.aaload, 1) := by decide +kernel
theorem d_No_settleAt_7 : decode b_No_settleAt 7 = .ok (.dload_n 1, 1) := by decide +kernel
theorem d_No_settleAt_8 : decode b_No_settleAt 8 = .ok (.aload_n 0, 1) := by decide +kernel
theorem d_No_settleAt_9 : decode b_No_settleAt 9 = .ok (.getfield 76, 3) := by decide +kernel
theorem d_No_settleAt_12 : decode b_No_settleAt 12 = .ok (.invokevirtual 79, 3) := by decide +kernel
theorem d_No_settleAt_15 : decode b_No_settleAt 15 = .ok (.putfield 83, 3) := by decide +kernel
theorem d_No_settleAt_18 : decode b_No_settleAt 18 = .ok (.aload_n 0, 1) := by decide +kernel
theorem d_No_settleAt_19 : decode b_No_settleAt 19 = .ok (.aload_n 0, 1) := by decide +kernel
theorem d_No_settleAt_20 : decode b_No_settleAt 20 = .ok (.getfield 20, 3) := by decide +kernel
theorem d_No_settleAt_23 : decode b_No_settleAt 23 = .ok (.iconst 1, 1) := by decide +kernel
theorem d_No_settleAt_24 : decode b_No_settleAt 24 = .ok (.aaload, 1) := by decide +kernel
theorem d_No_settleAt_25 : decode b_No_settleAt 25 = .ok (.dload_n 1, 1) := by decide +kernel
theorem d_No_settleAt_26 : decode b_No_settleAt 26 = .ok (.aload_n 0, 1) := by decide +kernel
theorem d_No_settleAt_27 : decode b_No_settleAt 27 = .ok (.getfield 86, 3) := by decide +kernel
theorem d_No_settleAt_30 : decode b_No_settleAt 30 = .ok (.invokevirtual 79, 3) := by decide +kernel
theorem d_No_settleAt_33 : decode b_No_settleAt 33 = .ok (.putfield 89, 3) := by decide +kernel
theorem d_No_settleAt_36 : decode b_No_settleAt 36 = .ok (.aload_n 0, 1) := by decide +kernel
theorem d_No_settleAt_37 : decode b_No_settleAt 37 = .ok (.aload_n 0, 1) := by decide +kernel
theorem d_No_settleAt_38 : decode b_No_settleAt 38 = .ok (.getfield 20, 3) := by decide +kernel
theorem d_No_settleAt_41 : decode b_No_settleAt 41 = .ok (.iconst 2, 1) := by decide +kernel
theorem d_No_settleAt_42 : decode b_No_settleAt 42 = .ok (.aaload, 1) := by decide +kernel
theorem d_No_settleAt_43 : decode b_No_settleAt 43 = .ok (.dload_n 1, 1) := by decide +kernel
theorem d_No_settleAt_44 : decode b_No_settleAt 44 = .ok (.aload_n 0, 1) := by decide +kernel
theorem d_No_settleAt_45 : decode b_No_settleAt 45 = .ok (.getfield 92, 3) := by decide +kernel
theorem d_No_settleAt_48 : decode b_No_settleAt 48 = .ok (.i2d, 1) := by decide +kernel
theorem d_No_settleAt_49 : decode b_No_settleAt 49 = .ok (.invokevirtual 95, 3) := by decide +kernel
theorem d_No_settleAt_52 : decode b_No_settleAt 52 = .ok (.d2i, 1) := by decide +kernel
theorem d_No_settleAt_53 : decode b_No_settleAt 53 = .ok (.putfield 98, 3) := by decide +kernel
theorem d_No_settleAt_56 : decode b_No_settleAt 56 = .ok (.aload_n 0, 1) := by decide +kernel
theorem d_No_settleAt_57 : decode b_No_settleAt 57 = .ok (.aload_n 0, 1) := by decide +kernel
theorem d_No_settleAt_58 : decode b_No_settleAt 58 = .ok (.getfield 20, 3) := by decide +kernel
theorem d_No_settleAt_61 : decode b_No_settleAt 61 = .ok (.iconst 3, 1) := by decide +kernel
theorem d_No_settleAt_62 : decode b_No_settleAt 62 = .ok (.aaload, 1) := by decide +kernel
theorem d_No_settleAt_63 : decode b_No_settleAt 63 = .ok (.dload_n 1, 1) := by decide +kernel
theorem d_No_settleAt_64 : decode b_No_settleAt 64 = .ok (.aload_n 0, 1) := by decide +kernel
theorem d_No_settleAt_65 : decode b_No_settleAt 65 = .ok (.getfield 48, 3) := by decide +kernel
theorem d_No_settleAt_68 : decode b_No_settleAt 68 = .ok (.i2d, 1) := by decide +kernel
theorem d_No_settleAt_69 : decode b_No_settleAt 69 = .ok (.invokevirtual 95, 3) := by decide +kernel
theorem d_No_settleAt_72 : decode b_No_settleAt 72 = .ok (.d2i, 1) := by decide +kernel
theorem d_No_settleAt_73 : decode b_No_settleAt 73 = .ok (.putfield 101, 3) := by decide +kernel
theorem d_No_settleAt_76 : decode b_No_settleAt 76 = .ok (.return_, 1) := by decide +kernel
theorem d_Tr_gliding_0 : decode b_Tr_gliding 0 = .ok (.aload_n 0, 1) := by decide +kernel
theorem d_Tr_gliding_1 : decode b_Tr_gliding 1 = .ok (.getfield 18, 3) := by decide +kernel
theorem d_Tr_gliding_4 : decode b_Tr_gliding 4 = .ok (.ifCond .ne 5, 3) := by decide +kernel
theorem d_Tr_gliding_7 : decode b_Tr_gliding 7 = .ok (.dload_n 3, 1) := by decide +kernel
theorem d_Tr_gliding_8 : decode b_Tr_gliding 8 = .ok (.dreturn, 1) := by decide +kernel
theorem d_Tr_gliding_9 : decode b_Tr_gliding 9 = .ok (.aload_n 0, 1) := by decide +kernel
theorem d_Tr_gliding_10 : decode b_Tr_gliding 10 = .ok (.dload_n 1, 1) := by decide +kernel
theorem d_Tr_gliding_11 : decode b_Tr_gliding 11 = .ok (.invokevirtual 26, 3) := by decide +kernel
theorem d_Tr_gliding_14 : decode b_Tr_gliding 14 = .ok (.istore 5, 2) := by decide +kernel
theorem d_Tr_gliding_16 : decode b_Tr_gliding 16 = .ok (.iload 5, 2) := by decide +kernel
theorem d_Tr_gliding_18 : decode b_Tr_gliding 18 = .ok (.iconst 1, 1) := by decide +kernel
theorem d_Tr_gliding_19 : decode b_Tr_gliding 19 = .ok (.iadd, 1) := by decide +kernel
theorem d_Tr_gliding_20 : decode b_Tr_gliding 20 = .ok (.aload_n 0, 1) := by decide +kernel
theorem d_Tr_gliding_21 : decode b_Tr_gliding 21 = .ok (.getfield 18, 3) := by decide +kernel
theorem d_Tr_gliding_24 : decode b_Tr_gliding 24 = .ok (.if_icmp .ge 15, 3) := by decide +kernel
theorem d_Tr_gliding_27 : decode b_Tr_gliding 27 = .ok (.dload_n 1, 1) := by decide +kernel
theorem d_Tr_gliding_28 : decode b_Tr_gliding 28 = .ok (.aload_n 0, 1) := by decide +kernel
theorem d_Tr_gliding_29 : decode b_Tr_gliding 29 = .ok (.getfield 9, 3) := by decide +kernel
theorem d_Tr_gliding_32 : decode b_Tr_gliding 32 = .ok (.iload 5, 2) := by decide +kernel
theorem d_Tr_gliding_34 : decode b_Tr_gliding 34 = .ok (.daload, 1) := by decide +kernel
theorem d_Tr_gliding_35 : decode b_Tr_gliding 35 = .ok (.dcmp .g, 1) := by decide +kernel
theorem d_Tr_gliding_36 : decode b_Tr_gliding 36 = .ok (.ifCond .gt 11, 3) := by decide +kernel
theorem d_Tr_gliding_39 : decode b_Tr_gliding 39 = .ok (.aload_n 0, 1) := by decide +kernel
theorem d_Tr_gliding_40 : decode b_Tr_gliding 40 = .ok (.getfield 15, 3) := by decide +kernel
theorem d_Tr_gliding_43 : decode b_Tr_gliding 43 = .ok (.iload 5, 2) := by decide +kernel
theorem d_Tr_gliding_45 : decode b_Tr_gliding 45 = .ok (.daload, 1) := by decide +kernel
theorem d_Tr_gliding_46 : decode b_Tr_gliding 46 = .ok (.dreturn, 1) := by decide +kernel
theorem d_Tr_gliding_47 : decode b_Tr_gliding 47 = .ok (.aload_n 0, 1) := by decide +kernel
theorem d_Tr_gliding_48 : decode b_Tr_gliding 48 = .ok (.getfield 9, 3) := by decide +kernel
theorem d_Tr_gliding_51 : decode b_Tr_gliding 51 = .ok (.iload 5, 2) := by decide +kernel
theorem d_Tr_gliding_53 : decode b_Tr_gliding 53 = .ok (.iconst 1, 1) := by decide +kernel
theorem d_Tr_gliding_54 : decode b_Tr_gliding 54 = .ok (.iadd, 1) := by decide +kernel
theorem d_Tr_gliding_55 : decode b_Tr_gliding 55 = .ok (.daload, 1) := by decide +kernel
theorem d_Tr_gliding_56 : decode b_Tr_gliding 56 = .ok (.aload_n 0, 1) := by decide +kernel
theorem d_Tr_gliding_57 : decode b_Tr_gliding 57 = .ok (.getfield 9, 3) := by decide +kernel
theorem d_Tr_gliding_60 : decode b_Tr_gliding 60 = .ok (.iload 5, 2) := by decide +kernel
theorem d_Tr_gliding_62 : decode b_Tr_gliding 62 = .ok (.daload, 1) := by decide +kernel
theorem d_Tr_gliding_63 : decode b_Tr_gliding 63 = .ok (.dsub, 1) := by decide +kernel
theorem d_Tr_gliding_64 : decode b_Tr_gliding 64 = .ok (.dstore 6, 2) := by decide +kernel
theorem d_Tr_gliding_66 : decode b_Tr_gliding 66 = .ok (.dload 6, 2) := by decide +kernel
theorem d_Tr_gliding_68 : decode b_Tr_gliding 68 = .ok (.dconst 0, 1) := by decide +kernel
theorem d_Tr_gliding_69 : decode b_Tr_gliding 69 = .ok (.dcmp .g, 1) := by decide +kernel
theorem d_Tr_gliding_70 : decode b_Tr_gliding 70 = .ok (.ifCond .gt 11, 3) := by decide +kernel
theorem d_Tr_gliding_73 : decode b_Tr_gliding 73 = .ok (.aload_n 0, 1) := by decide +kernel
theorem d_Tr_gliding_74 : decode b_Tr_gliding 74 = .ok (.getfield 15, 3) := by decide +kernel
theorem d_Tr_gliding_77 : decode b_Tr_gliding 77 = .ok (.iload 5, 2) := by decide +kernel
theorem d_Tr_gliding_79 : decode b_Tr_gliding 79 = .ok (.daload, 1) := by decide +kernel
theorem d_Tr_gliding_80 : decode b_Tr_gliding 80 = .ok (.dreturn, 1) := by decide +kernel
theorem d_Tr_gliding_81 : decode b_Tr_gliding 81 = .ok (.aload_n 0, 1) := by decide +kernel
theorem d_Tr_gliding_82 : decode b_Tr_gliding 82 = .ok (.getfield 15, 3) := by decide +kernel
theorem d_Tr_gliding_85 : decode b_Tr_gliding 85 = .ok (.iload 5, 2) := by decide +kernel
theorem d_Tr_gliding_87 : decode b_Tr_gliding 87 = .ok (.daload, 1) := by decide +kernel
theorem d_Tr_gliding_88 : decode b_Tr_gliding 88 = .ok (.aload_n 0, 1) := by decide +kernel
theorem d_Tr_gliding_89 : decode b_Tr_gliding 89 = .ok (.getfield 15, 3) := by decide +kernel
theorem d_Tr_gliding_92 : decode b_Tr_gliding 92 = .ok (.iload 5, 2) := by decide +kernel
theorem d_Tr_gliding_94 : decode b_Tr_gliding 94 = .ok (.iconst 1, 1) := by decide +kernel
theorem d_Tr_gliding_95 : decode b_Tr_gliding 95 = .ok (.iadd, 1) := by decide +kernel
theorem d_Tr_gliding_96 : decode b_Tr_gliding 96 = .ok (.daload, 1) := by decide +kernel
theorem d_Tr_gliding_97 : decode b_Tr_gliding 97 = .ok (.aload_n 0, 1) := by decide +kernel
theorem d_Tr_gliding_98 : decode b_Tr_gliding 98 = .ok (.getfield 15, 3) := by decide +kernel
theorem d_Tr_gliding_101 : decode b_Tr_gliding 101 = .ok (.iload 5, 2) := by decide +kernel
theorem d_Tr_gliding_103 : decode b_Tr_gliding 103 = .ok (.daload, 1) := by decide +kernel
theorem d_Tr_gliding_104 : decode b_Tr_gliding 104 = .ok (.dsub, 1) := by decide +kernel
theorem d_Tr_gliding_105 : decode b_Tr_gliding 105 = .ok (.dload_n 1, 1) := by decide +kernel
theorem d_Tr_gliding_106 : decode b_Tr_gliding 106 = .ok (.aload_n 0, 1) := by decide +kernel
theorem d_Tr_gliding_107 : decode b_Tr_gliding 107 = .ok (.getfield 9, 3) := by decide +kernel
theorem d_Tr_gliding_110 : decode b_Tr_gliding 110 = .ok (.iload 5, 2) := by decide +kernel
theorem d_Tr_gliding_112 : decode b_Tr_gliding 112 = .ok (.daload, 1) := by decide +kernel
theorem d_Tr_gliding_113 : decode b_Tr_gliding 113 = .ok (.dsub, 1) := by decide +kernel
theorem d_Tr_gliding_114 : decode b_Tr_gliding 114 = .ok (.dmul, 1) := by decide +kernel
theorem d_Tr_gliding_115 : decode b_Tr_gliding 115 = .ok (.dload 6, 2) := by decide +kernel
theorem d_Tr_gliding_117 : decode b_Tr_gliding 117 = .ok (.ddiv, 1) := by decide +kernel
theorem d_Tr_gliding_118 : decode b_Tr_gliding 118 = .ok (.invokestatic 30, 3) := by decide +kernel
theorem d_Tr_gliding_121 : decode b_Tr_gliding 121 = .ok (.dadd, 1) := by decide +kernel
theorem d_Tr_gliding_122 : decode b_Tr_gliding 122 = .ok (.dreturn, 1) := by decide +kernel
theorem d_Tr_frameFor_0 : decode b_Tr_frameFor 0 = .ok (.iconst 0, 1) := by decide +kernel
theorem d_Tr_frameFor_1 : decode b_Tr_frameFor 1 = .ok (.istore_n 3, 1) := by decide +kernel
theorem d_Tr_frameFor_2 : decode b_Tr_frameFor 2 = .ok (.iconst 1, 1) := by decide +kernel
theorem d_Tr_frameFor_3 : decode b_Tr_frameFor 3 = .ok (.istore 4, 2) := by decide +kernel
theorem d_Tr_frameFor_5 : decode b_Tr_frameFor 5 = .ok (.iload 4, 2) := by decide +kernel
theorem d_Tr_frameFor_7 : decode b_Tr_frameFor 7 = .ok (.aload_n 0, 1) := by decide +kernel
theorem d_Tr_frameFor_8 : decode b_Tr_frameFor 8 = .ok (.getfield 18, 3) := by decide +kernel
theorem d_Tr_frameFor_11 : decode b_Tr_frameFor 11 = .ok (.if_icmp .ge 24, 3) := by decide +kernel
theorem d_Tr_frameFor_14 : decode b_Tr_frameFor 14 = .ok (.aload_n 0, 1) := by decide +kernel
theorem d_Tr_frameFor_15 : decode b_Tr_frameFor 15 = .ok (.getfield 9, 3) := by decide +kernel
theorem d_Tr_frameFor_18 : decode b_Tr_frameFor 18 = .ok (.iload 4, 2) := by decide +kernel
theorem d_Tr_frameFor_20 : decode b_Tr_frameFor 20 = .ok (.daload, 1) := by decide +kernel
theorem d_Tr_frameFor_21 : decode b_Tr_frameFor 21 = .ok (.dload_n 1, 1) := by decide +kernel
theorem d_Tr_frameFor_22 : decode b_Tr_frameFor 22 = .ok (.dcmp .g, 1) := by decide +kernel
theorem d_Tr_frameFor_23 : decode b_Tr_frameFor 23 = .ok (.ifCond .gt 6, 3) := by decide +kernel
theorem d_Tr_frameFor_26 : decode b_Tr_frameFor 26 = .ok (.iload 4, 2) := by decide +kernel
theorem d_Tr_frameFor_28 : decode b_Tr_frameFor 28 = .ok (.istore_n 3, 1) := by decide +kernel
theorem d_Tr_frameFor_29 : decode b_Tr_frameFor 29 = .ok (.iinc 4 1, 3) := by decide +kernel
theorem d_Tr_frameFor_32 : decode b_Tr_frameFor 32 = .ok (.goto (-27), 3) := by decide +kernel
theorem d_Tr_frameFor_35 : decode b_Tr_frameFor 35 = .ok (.iload_n 3, 1) := by decide +kernel
theorem d_Tr_frameFor_36 : decode b_Tr_frameFor 36 = .ok (.ireturn, 1) := by decide +kernel
theorem d_Tr_jumping_0 : decode b_Tr_jumping 0 = .ok (.aload_n 0, 1) := by decide +kernel
theorem d_Tr_jumping_1 : decode b_Tr_jumping 1 = .ok (.getfield 18, 3) := by decide +kernel
theorem d_Tr_jumping_4 : decode b_Tr_jumping 4 = .ok (.ifCond .ne 7, 3) := by decide +kernel
theorem d_Tr_jumping_7 : decode b_Tr_jumping 7 = .ok (.dload_n 3, 1) := by decide +kernel
theorem d_Tr_jumping_8 : decode b_Tr_jumping 8 = .ok (.goto 13, 3) := by decide +kernel
theorem d_Tr_jumping_11 : decode b_Tr_jumping 11 = .ok (.aload_n 0, 1) := by decide +kernel
theorem d_Tr_jumping_12 : decode b_Tr_jumping 12 = .ok (.getfield 15, 3) := by decide +kernel
theorem d_Tr_jumping_15 : decode b_Tr_jumping 15 = .ok (.aload_n 0, 1) := by decide +kernel
theorem d_Tr_jumping_16 : decode b_Tr_jumping 16 = .ok (.dload_n 1, 1) := by decide +kernel
theorem d_Tr_jumping_17 : decode b_Tr_jumping 17 = .ok (.invokevirtual 26, 3) := by decide +kernel
theorem d_Tr_jumping_20 : decode b_Tr_jumping 20 = .ok (.daload, 1) := by decide +kernel
theorem d_Tr_jumping_21 : decode b_Tr_jumping 21 = .ok (.dreturn, 1) := by decide +kernel
theorem d_No_topInside_0 : decode b_No_topInside 0 = .ok (.aload_n 0, 1) := by decide +kernel
theorem d_No_topInside_1 : decode b_No_topInside 1 = .ok (.getfield 123, 3) := by decide +kernel
theorem d_No_topInside_4 : decode b_No_topInside 4 = .ok (.iconst 2, 1) := by decide +kernel
theorem d_No_topInside_5 : decode b_No_topInside 5 = .ok (.if_icmp .ne 11, 3) := by decide +kernel
theorem d_No_topInside_8 : decode b_No_topInside 8 = .ok (.aload_n 0, 1) := by decide +kernel
theorem d_No_topInside_9 : decode b_No_topInside 9 = .ok (.dload_n 1, 1) := by decide +kernel
theorem d_No_topInside_10 : decode b_No_topInside 10 = .ok (.invokevirtual 126, 3) := by decide +kernel
theorem d_No_topInside_13 : decode b_No_topInside 13 = .ok (.goto 4, 3) := by decide +kernel
theorem d_No_topInside_16 : decode b_No_topInside 16 = .ok (.dload_n 1, 1) := by decide +kernel
theorem d_No_topInside_17 : decode b_No_topInside 17 = .ok (.dstore 5, 2) := by decide +kernel
theorem d_No_topInside_19 : decode b_No_topInside 19 = .ok (.aload_n 0, 1) := by decide +kernel
theorem d_No_topInside_20 : decode b_No_topInside 20 = .ok (.getfield 123, 3) := by decide +kernel
theorem d_No_topInside_23 : decode b_No_topInside 23 = .ok (.iconst 2, 1) := by decide +kernel
theorem d_No_topInside_24 : decode b_No_topInside 24 = .ok (.if_icmp .ne 11, 3) := by decide +kernel
theorem d_No_topInside_27 : decode b_No_topInside 27 = .ok (.aload_n 0, 1) := by decide +kernel
theorem d_No_topInside_28 : decode b_No_topInside 28 = .ok (.dload_n 3, 1) := by decide +kernel
theorem d_No_topInside_29 : decode b_No_topInside 29 = .ok (.invokevirtual 126, 3) := by decide +kernel
theorem d_No_topInside_32 : decode b_No_topInside 32 = .ok (.goto 4, 3) := by decide +kernel
theorem d_No_topInside_35 : decode b_No_topInside 35 = .ok (.dload_n 3, 1) := by decide +kernel
theorem d_No_topInside_36 : decode b_No_topInside 36 = .ok (.dstore 7, 2) := by decide +kernel
theorem d_No_topInside_38 : decode b_No_topInside 38 = .ok (.aload_n 0, 1) := by decide +kernel
theorem d_No_topInside_39 : decode b_No_topInside 39 = .ok (.getfield 123, 3) := by decide +kernel
theorem d_No_topInside_42 : decode b_No_topInside 42 = .ok (.iconst 1, 1) := by decide +kernel
theorem d_No_topInside_43 : decode b_No_topInside 43 = .ok (.if_icmp .ne 16, 3) := by decide +kernel
theorem d_No_topInside_46 : decode b_No_topInside 46 = .ok (.aload_n 0, 1) := by decide +kernel
theorem d_No_topInside_47 : decode b_No_topInside 47 = .ok (.dload 5, 2) := by decide +kernel
theorem d_No_topInside_49 : decode b_No_topInside 49 = .ok (.dload 7, 2) := by decide +kernel
theorem d_No_topInside_51 : decode b_No_topInside 51 = .ok (.invokevirtual 130, 3) := by decide +kernel
theorem d_No_topInside_54 : decode b_No_topInside 54 = .ok (.ifCond .ne 5, 3) := by decide +kernel
theorem d_No_topInside_57 : decode b_No_topInside 57 = .ok (.aconst_null, 1) := by decide +kernel
theorem d_No_topInside_58 : decode b_No_topInside 58 = .ok (.areturn, 1) := by decide +kernel
theorem d_No_topInside_59 : decode b_No_topInside 59 = .ok (.aload_n 0, 1) := by decide +kernel
theorem d_No_topInside_60 : decode b_No_topInside 60 = .ok (.getfield 123, 3) := by decide +kernel
theorem d_No_topInside_63 : decode b_No_topInside 63 = .ok (.iconst 1, 1) := by decide +kernel
theorem d_No_topInside_64 : decode b_No_topInside 64 = .ok (.if_icmp .ne 7, 3) := by decide +kernel
theorem d_No_topInside_67 : decode b_No_topInside 67 = .ok (.iconst 1, 1) := by decide +kernel
theorem d_No_topInside_68 : decode b_No_topInside 68 = .ok (.goto 4, 3) := by decide +kernel
theorem d_No_topInside_71 : decode b_No_topInside 71 = .ok (.iconst 0, 1) := by decide +kernel
theorem d_No_topInside_72 : decode b_No_topInside 72 = .ok (.istore 9, 2) := by decide +kernel
theorem d_No_topInside_74 : decode b_No_topInside 74 = .ok (.aconst_null, 1) := by decide +kernel
theorem d_No_topInside_75 : decode b_No_topInside 75 = .ok (.astore 10, 2) := by decide +kernel
theorem d_No_topInside_77 : decode b_No_topInside 77 = .ok (.aload_n 0, 1) := by decide +kernel
theorem d_No_topInside_78 : decode b_No_topInside 78 = .ok (.getfield 12, 3) := by decide +kernel
theorem d_No_topInside_81 : decode b_No_topInside 81 = .ok (.invokevirtual 64, 3) := by decide +kernel
theorem d_No_topInside_84 : decode b_No_topInside 84 = .ok (.iconst 1, 1) := by decide +kernel
theorem d_No_topInside_85 : decode b_No_topInside 85 = .ok (.isub, 1) := by decide +kernel
theorem d_No_topInside_86 : decode b_No_topInside 86 = .ok (.istore 11, 2) := by decide +kernel
theorem d_No_topInside_88 : decode b_No_topInside 88 = .ok (.iload 11, 2) := by decide +kernel
theorem d_No_topInside_90 : decode b_No_topInside 90 = .ok (.iload 9, 2) := by decide +kernel
theorem d_No_topInside_92 : decode b_No_topInside 92 = .ok (.if_icmp .lt 35, 3) := by decide +kernel
theorem d_No_topInside_95 : decode b_No_topInside 95 = .ok (.aload 10, 2) := by decide +kernel
theorem d_No_topInside_97 : decode b_No_topInside 97 = .ok (.ifnonnull 30, 3) := by decide +kernel
theorem d_No_topInside_100 : decode b_No_topInside 100 = .ok (.aload_n 0, 1) := by decide +kernel
theorem d_No_topInside_101 : decode b_No_topInside 101 = .ok (.getfield 12, 3) := by decide +kernel
theorem d_No_topInside_104 : decode b_No_topInside 104 = .ok (.iload 11, 2) := by decide +kernel
theorem d_No_topInside_106 : decode b_No_topInside 106 = .ok (.invokevirtual 71, 3) := by decide +kernel
theorem d_No_topInside_109 : decode b_No_topInside 109 = .ok (.checkcast 13, 3) := by decide +kernel
theorem d_No_topInside_112 : decode b_No_topInside 112 = .ok (.dload 5, 2) := by decide +kernel
theorem d_No_topInside_114 : decode b_No_topInside 114 = .ok (.dload 7, 2) := by decide +kernel
theorem d_No_topInside_116 : decode b_No_topInside 116 = .ok (.invokevirtual 133, 3) := by decide +kernel
theorem d_No_topInside_119 : decode b_No_topInside 119 = .ok (.astore 10, 2) := by decide +kernel
theorem d_No_topInside_121 : decode b_No_topInside 121 = .ok (.iinc 11 (-1), 3) := by decide +kernel
theorem d_No_topInside_124 : decode b_No_topInside 124 = .ok (.goto (-36), 3) := by decide +kernel
theorem d_No_topInside_127 : decode b_No_topInside 127 = .ok (.aload 10, 2) := by decide +kernel
theorem d_No_topInside_129 : decode b_No_topInside 129 = .ok (.areturn, 1) := by decide +kernel
theorem d_No_inTile_0 : decode b_No_inTile 0 = .ok (.aload_n 0, 1) := by decide +kernel
theorem d_No_inTile_1 : decode b_No_inTile 1 = .ok (.getfield 38, 3) := by decide +kernel
theorem d_No_inTile_4 : decode b_No_inTile 4 = .ok (.dconst 1, 1) := by decide +kernel
theorem d_No_inTile_5 : decode b_No_inTile 5 = .ok (.dcmp .l, 1) := by decide +kernel
theorem d_No_inTile_6 : decode b_No_inTile 6 = .ok (.ifCond .lt 22, 3) := by decide +kernel
theorem d_No_inTile_9 : decode b_No_inTile 9 = .ok (.dload_n 1, 1) := by decide +kernel
theorem d_No_inTile_10 : decode b_No_inTile 10 = .ok (.aload_n 0, 1) := by decide +kernel
theorem d_No_inTile_11 : decode b_No_inTile 11 = .ok (.getfield 38, 3) := by decide +kernel
theorem d_No_inTile_14 : decode b_No_inTile 14 = .ok (.dload_n 1, 1) := by decide +kernel
theorem d_No_inTile_15 : decode b_No_inTile 15 = .ok (.aload_n 0, 1) := by decide +kernel
theorem d_No_inTile_16 : decode b_No_inTile 16 = .ok (.getfield 38, 3) := by decide +kernel
theorem d_No_inTile_19 : decode b_No_inTile 19 = .ok (.ddiv, 1) := by decide +kernel
theorem d_No_inTile_20 : decode b_No_inTile 20 = .ok (.invokestatic 140, 3) := by decide +kernel
theorem d_No_inTile_23 : decode b_No_inTile 23 = .ok (.dmul, 1) := by decide +kernel
theorem d_No_inTile_24 : decode b_No_inTile 24 = .ok (.dsub, 1) := by decide +kernel
theorem d_No_inTile_25 : decode b_No_inTile 25 = .ok (.goto 4, 3) := by decide +kernel
theorem d_No_inTile_28 : decode b_No_inTile 28 = .ok (.dload_n 1, 1) := by decide +kernel
theorem d_No_inTile_29 : decode b_No_inTile 29 = .ok (.dreturn, 1) := by decide +kernel
theorem d_No_firstHas_0 : decode b_No_firstHas 0 = .ok (.aload_n 0, 1) := by decide +kernel
theorem d_No_firstHas_1 : decode b_No_firstHas 1 = .ok (.getfield 12, 3) := by decide +kernel
theorem d_No_firstHas_4 : decode b_No_firstHas 4 = .ok (.invokevirtual 136, 3) := by decide +kernel
theorem d_No_firstHas_7 : decode b_No_firstHas 7 = .ok (.ifCond .ne 26, 3) := by decide +kernel
theorem d_No_firstHas_10 : decode b_No_firstHas 10 = .ok (.aload_n 0, 1) := by decide +kernel
theorem d_No_firstHas_11 : decode b_No_firstHas 11 = .ok (.getfield 12, 3) := by decide +kernel
theorem d_No_firstHas_14 : decode b_No_firstHas 14 = .ok (.iconst 0, 1) := by decide +kernel
theorem d_No_firstHas_15 : decode b_No_firstHas 15 = .ok (.invokevirtual 71, 3) := by decide +kernel
theorem d_No_firstHas_18 : decode b_No_firstHas 18 = .ok (.checkcast 13, 3) := by decide +kernel
theorem d_No_firstHas_21 : decode b_No_firstHas 21 = .ok (.dload_n 1, 1) := by decide +kernel
theorem d_No_firstHas_22 : decode b_No_firstHas 22 = .ok (.dload_n 3, 1) := by decide +kernel
theorem d_No_firstHas_23 : decode b_No_firstHas 23 = .ok (.invokevirtual 133, 3) := by decide +kernel
theorem d_No_firstHas_26 : decode b_No_firstHas 26 = .ok (.ifnull 7, 3) := by decide +kernel
theorem d_No_firstHas_29 : decode b_No_firstHas 29 = .ok (.iconst 1, 1) := by decide +kernel
theorem d_No_firstHas_30 : decode b_No_firstHas 30 = .ok (.goto 4, 3) := by decide +kernel
theorem d_No_firstHas_33 : decode b_No_firstHas 33 = .ok (.iconst 0, 1) := by decide +kernel
theorem d_No_firstHas_34 : decode b_No_firstHas 34 = .ok (.ireturn, 1) := by decide +kernel
theorem d_Al_isEmpty_0 : decode b_Al_isEmpty 0 = .ok (.aload_n 0, 1) := by decide +kernel
theorem d_Al_isEmpty_1 : decode b_Al_isEmpty 1 = .ok (.getfield 48, 3) := by decide +kernel
theorem d_Al_isEmpty_4 : decode b_Al_isEmpty 4 = .ok (.ifCond .ne 7, 3) := by decide +kernel
theorem d_Al_isEmpty_7 : decode b_Al_isEmpty 7 = .ok (.iconst 1, 1) := by decide +kernel
theorem d_Al_isEmpty_8 : decode b_Al_isEmpty 8 = .ok (.goto 4, 3) := by decide +kernel
theorem d_Al_isEmpty_11 : decode b_Al_isEmpty 11 = .ok (.iconst 0, 1) := by decide +kernel
theorem d_Al_isEmpty_12 : decode b_Al_isEmpty 12 = .ok (.ireturn, 1) := by decide +kernel
theorem d_No_topAt_0 : decode b_No_topAt 0 = .ok (.aload_n 0, 1) := by decide +kernel
theorem d_No_topAt_1 : decode b_No_topAt 1 = .ok (.getfield 104, 3) := by decide +kernel
theorem d_No_topAt_4 : decode b_No_topAt 4 = .ok (.ifCond .eq 5, 3) := by decide +kernel
theorem d_No_topAt_7 : decode b_No_topAt 7 = .ok (.aconst_null, 1) := by decide +kernel
theorem d_No_topAt_8 : decode b_No_topAt 8 = .ok (.areturn, 1) := by decide +kernel
theorem d_No_topAt_9 : decode b_No_topAt 9 = .ok (.dload_n 1, 1) := by decide +kernel
theorem d_No_topAt_10 : decode b_No_topAt 10 = .ok (.aload_n 0, 1) := by decide +kernel
theorem d_No_topAt_11 : decode b_No_topAt 11 = .ok (.getfield 83, 3) := by decide +kernel
theorem d_No_topAt_14 : decode b_No_topAt 14 = .ok (.dsub, 1) := by decide +kernel
theorem d_No_topAt_15 : decode b_No_topAt 15 = .ok (.dstore 5, 2) := by decide +kernel
theorem d_No_topAt_17 : decode b_No_topAt 17 = .ok (.dload_n 3, 1) := by decide +kernel
theorem d_No_topAt_18 : decode b_No_topAt 18 = .ok (.aload_n 0, 1) := by decide +kernel
theorem d_No_topAt_19 : decode b_No_topAt 19 = .ok (.getfield 89, 3) := by decide +kernel
theorem d_No_topAt_22 : decode b_No_topAt 22 = .ok (.dsub, 1) := by decide +kernel
theorem d_No_topAt_23 : decode b_No_topAt 23 = .ok (.dstore 7, 2) := by decide +kernel
theorem d_No_topAt_25 : decode b_No_topAt 25 = .ok (.iconst 0, 1) := by decide +kernel
theorem d_No_topAt_26 : decode b_No_topAt 26 = .ok (.istore 9, 2) := by decide +kernel
theorem d_No_topAt_28 : decode b_No_topAt 28 = .ok (.iload 9, 2) := by decide +kernel
theorem d_No_topAt_30 : decode b_No_topAt 30 = .ok (.aload_n 0, 1) := by decide +kernel
theorem d_No_topAt_31 : decode b_No_topAt 31 = .ok (.getfield 108, 3) := by decide +kernel
theorem d_No_topAt_34 : decode b_No_topAt 34 = .ok (.if_icmp .ge 22, 3) := by decide +kernel
theorem d_No_topAt_37 : decode b_No_topAt 37 = .ok (.dload 5, 2) := by decide +kernel
theorem d_No_topAt_39 : decode b_No_topAt 39 = .ok (.dneg, 1) := by decide +kernel
theorem d_No_topAt_40 : decode b_No_topAt 40 = .ok (.dstore 10, 2) := by decide +kernel
theorem d_No_topAt_42 : decode b_No_topAt 42 = .ok (.dload 7, 2) := by decide +kernel
theorem d_No_topAt_44 : decode b_No_topAt 44 = .ok (.dstore 5, 2) := by decide +kernel
theorem d_No_topAt_46 : decode b_No_topAt 46 = .ok (.dload 10, 2) := by decide +kernel
theorem d_No_topAt_48 : decode b_No_topAt 48 = .ok (.dstore 7, 2) := by decide +kernel
theorem d_No_topAt_50 : decode b_No_topAt 50 = .ok (.iinc 9 1, 3) := by decide +kernel
theorem d_No_topAt_53 : decode b_No_topAt 53 = .ok (.goto (-25), 3) := by decide +kernel
theorem d_No_topAt_56 : decode b_No_topAt 56 = .ok (.aload_n 0, 1) := by decide +kernel
theorem d_No_topAt_57 : decode b_No_topAt 57 = .ok (.getfield 98, 3) := by decide +kernel
theorem d_No_topAt_60 : decode b_No_topAt 60 = .ok (.ineg, 1) := by decide +kernel
theorem d_No_topAt_61 : decode b_No_topAt 61 = .ok (.invokestatic 111, 3) := by decide +kernel
theorem d_No_topAt_64 : decode b_No_topAt 64 = .ok (.dstore 9, 2) := by decide +kernel
theorem d_No_topAt_66 : decode b_No_topAt 66 = .ok (.aload_n 0, 1) := by decide +kernel
theorem d_No_topAt_67 : decode b_No_topAt 67 = .ok (.getfield 45, 3) := by decide +kernel
theorem d_No_topAt_70 : decode b_No_topAt 70 = .ok (.ifCond .ne 18, 3) := by decide +kernel
theorem d_No_topAt_73 : decode b_No_topAt 73 = .ok (.aload_n 0, 1) := by decide +kernel
theorem d_No_topAt_74 : decode b_No_topAt 74 = .ok (.dload 5, 2) := by decide +kernel
theorem d_No_topAt_76 : decode b_No_topAt 76 = .ok (.dload 9, 2) := by decide +kernel
theorem d_No_topAt_78 : decode b_No_topAt 78 = .ok (.dmul, 1) := by decide +kernel
theorem d_No_topAt_79 : decode b_No_topAt 79 = .ok (.dload 7, 2) := by decide +kernel
theorem d_No_topAt_81 : decode b_No_topAt 81 = .ok (.dload 9, 2) := by decide +kernel
theorem d_No_topAt_83 : decode b_No_topAt 83 = .ok (.dmul, 1) := by decide +kernel
theorem d_No_topAt_84 : decode b_No_topAt 84 = .ok (.invokevirtual 115, 3) := by decide +kernel
theorem d_No_topAt_87 : decode b_No_topAt 87 = .ok (.areturn, 1) := by decide +kernel
theorem d_No_topAt_88 : decode b_No_topAt 88 = .ok (.aload_n 0, 1) := by decide +kernel
theorem d_No_topAt_89 : decode b_No_topAt 89 = .ok (.dload 5, 2) := by decide +kernel
theorem d_No_topAt_91 : decode b_No_topAt 91 = .ok (.dload 9, 2) := by decide +kernel
theorem d_No_topAt_93 : decode b_No_topAt 93 = .ok (.dmul, 1) := by decide +kernel
theorem d_No_topAt_94 : decode b_No_topAt 94 = .ok (.dload 7, 2) := by decide +kernel
theorem d_No_topAt_96 : decode b_No_topAt 96 = .ok (.dload 9, 2) := by decide +kernel
theorem d_No_topAt_98 : decode b_No_topAt 98 = .ok (.dmul, 1) := by decide +kernel
theorem d_No_topAt_99 : decode b_No_topAt 99 = .ok (.invokevirtual 119, 3) := by decide +kernel
theorem d_No_topAt_102 : decode b_No_topAt 102 = .ok (.ifCond .eq 7, 3) := by decide +kernel
theorem d_No_topAt_105 : decode b_No_topAt 105 = .ok (.aload_n 0, 1) := by decide +kernel
theorem d_No_topAt_106 : decode b_No_topAt 106 = .ok (.goto 4, 3) := by decide +kernel
theorem d_No_topAt_109 : decode b_No_topAt 109 = .ok (.aconst_null, 1) := by decide +kernel
theorem d_No_topAt_110 : decode b_No_topAt 110 = .ok (.areturn, 1) := by decide +kernel
theorem d_No_covers_0 : decode b_No_covers 0 = .ok (.aload_n 0, 1) := by decide +kernel
theorem d_No_covers_1 : decode b_No_covers 1 = .ok (.getfield 45, 3) := by decide +kernel
theorem d_No_covers_4 : decode b_No_covers 4 = .ok (.lookupswitch 90 #[(1, 28), (2, 64)], 28) := by decide +kernel
theorem d_No_covers_32 : decode b_No_covers 32 = .ok (.dconst 0, 1) := by decide +kernel
theorem d_No_covers_33 : decode b_No_covers 33 = .ok (.dload_n 1, 1) := by decide +kernel
theorem d_No_covers_34 : decode b_No_covers 34 = .ok (.dcmp .g, 1) := by decide +kernel
theorem d_No_covers_35 : decode b_No_covers 35 = .ok (.ifCond .gt 31, 3) := by decide +kernel
theorem d_No_covers_38 : decode b_No_covers 38 = .ok (.dload_n 1, 1) := by decide +kernel
theorem d_No_covers_39 : decode b_No_covers 39 = .ok (.aload_n 0, 1) := by decide +kernel
theorem d_No_covers_40 : decode b_No_covers 40 = .ok (.getfield 31, 3) := by decide +kernel
theorem d_No_covers_43 : decode b_No_covers 43 = .ok (.dcmp .g, 1) := by decide +kernel
theorem d_No_covers_44 : decode b_No_covers 44 = .ok (.ifCond .gt 22, 3) := by decide +kernel
theorem d_No_covers_47 : decode b_No_covers 47 = .ok (.dconst 0, 1) := by decide +kernel
theorem d_No_covers_48 : decode b_No_covers 48 = .ok (.dload_n 3, 1) := by decide +kernel
theorem d_No_covers_49 : decode b_No_covers 49 = .ok (.dcmp .g, 1) := by decide +kernel
theorem d_No_covers_50 : decode b_No_covers 50 = .ok (.ifCond .gt 16, 3) := by decide +kernel
theorem d_No_covers_53 : decode b_No_covers 53 = .ok (.dload_n 3, 1) := by decide +kernel
theorem d_No_covers_54 : decode b_No_covers 54 = .ok (.aload_n 0, 1) := by decide +kernel
theorem d_No_covers_55 : decode b_No_covers 55 = .ok (.getfield 35, 3) := by decide +kernel
theorem d_No_covers_58 : decode b_No_covers 58 = .ok (.dcmp .g, 1) := by decide +kernel
theorem d_No_covers_59 : decode b_No_covers 59 = .ok (.ifCond .gt 7, 3) := by decide +kernel
theorem d_No_covers_62 : decode b_No_covers 62 = .ok (.iconst 1, 1) := by decide +kernel
theorem d_No_covers_63 : decode b_No_covers 63 = .ok (.goto 4, 3) := by decide +kernel
theorem d_No_covers_66 : decode b_No_covers 66 = .ok (.iconst 0, 1) := by decide +kernel
theorem d_No_covers_67 : decode b_No_covers 67 = .ok (.ireturn, 1) := by decide +kernel
theorem d_No_covers_68 : decode b_No_covers 68 = .ok (.dload_n 1, 1) := by decide +kernel
theorem d_No_covers_69 : decode b_No_covers 69 = .ok (.dload_n 1, 1) := by decide +kernel
theorem d_No_covers_70 : decode b_No_covers 70 = .ok (.dmul, 1) := by decide +kernel
theorem d_No_covers_71 : decode b_No_covers 71 = .ok (.dload_n 3, 1) := by decide +kernel
theorem d_No_covers_72 : decode b_No_covers 72 = .ok (.dload_n 3, 1) := by decide +kernel
theorem d_No_covers_73 : decode b_No_covers 73 = .ok (.dmul, 1) := by decide +kernel
theorem d_No_covers_74 : decode b_No_covers 74 = .ok (.dadd, 1) := by decide +kernel
theorem d_No_covers_75 : decode b_No_covers 75 = .ok (.aload_n 0, 1) := by decide +kernel
theorem d_No_covers_76 : decode b_No_covers 76 = .ok (.getfield 31, 3) := by decide +kernel
theorem d_No_covers_79 : decode b_No_covers 79 = .ok (.aload_n 0, 1) := by decide +kernel
theorem d_No_covers_80 : decode b_No_covers 80 = .ok (.getfield 31, 3) := by decide +kernel
theorem d_No_covers_83 : decode b_No_covers 83 = .ok (.dmul, 1) := by decide +kernel
theorem d_No_covers_84 : decode b_No_covers 84 = .ok (.dcmp .g, 1) := by decide +kernel
theorem d_No_covers_85 : decode b_No_covers 85 = .ok (.ifCond .gt 7, 3) := by decide +kernel
theorem d_No_covers_88 : decode b_No_covers 88 = .ok (.iconst 1, 1) := by decide +kernel
theorem d_No_covers_89 : decode b_No_covers 89 = .ok (.goto 4, 3) := by decide +kernel
theorem d_No_covers_92 : decode b_No_covers 92 = .ok (.iconst 0, 1) := by decide +kernel
theorem d_No_covers_93 : decode b_No_covers 93 = .ok (.ireturn, 1) := by decide +kernel
theorem d_No_covers_94 : decode b_No_covers 94 = .ok (.dconst 0, 1) := by decide +kernel
theorem d_No_covers_95 : decode b_No_covers 95 = .ok (.dload_n 1, 1) := by decide +kernel
theorem d_No_covers_96 : decode b_No_covers 96 = .ok (.dcmp .g, 1) := by decide +kernel
theorem d_No_covers_97 : decode b_No_covers 97 = .ok (.ifCond .gt 39, 3) := by decide +kernel
theorem d_No_covers_100 : decode b_No_covers 100 = .ok (.dconst 0, 1) := by decide +kernel
theorem d_No_covers_101 : decode b_No_covers 101 = .ok (.dload_n 3, 1) := by decide +kernel
theorem d_No_covers_102 : decode b_No_covers 102 = .ok (.dcmp .g, 1) := by decide +kernel
theorem d_No_covers_103 : decode b_No_covers 103 = .ok (.ifCond .gt 33, 3) := by decide +kernel
theorem d_No_covers_106 : decode b_No_covers 106 = .ok (.dload_n 1, 1) := by decide +kernel
theorem d_No_covers_107 : decode b_No_covers 107 = .ok (.aload_n 0, 1) := by decide +kernel
theorem d_No_covers_108 : decode b_No_covers 108 = .ok (.getfield 35, 3) := by decide +kernel
theorem d_No_covers_111 : decode b_No_covers 111 = .ok (.dmul, 1) := by decide +kernel
theorem d_No_covers_112 : decode b_No_covers 112 = .ok (.dload_n 3, 1) := by decide +kernel
theorem d_No_covers_113 : decode b_No_covers 113 = .ok (.aload_n 0, 1) := by decide +kernel
theorem d_No_covers_114 : decode b_No_covers 114 = .ok (.getfield 31, 3) := by decide +kernel
theorem d_No_covers_117 : decode b_No_covers 117 = .ok (.dmul, 1) := by decide +kernel
theorem d_No_covers_118 : decode b_No_covers 118 = .ok (.dadd, 1) := by decide +kernel
theorem d_No_covers_119 : decode b_No_covers 119 = .ok (.aload_n 0, 1) := by decide +kernel
theorem d_No_covers_120 : decode b_No_covers 120 = .ok (.getfield 31, 3) := by decide +kernel
theorem d_No_covers_123 : decode b_No_covers 123 = .ok (.aload_n 0, 1) := by decide +kernel
theorem d_No_covers_124 : decode b_No_covers 124 = .ok (.getfield 35, 3) := by decide +kernel
theorem d_No_covers_127 : decode b_No_covers 127 = .ok (.dmul, 1) := by decide +kernel
theorem d_No_covers_128 : decode b_No_covers 128 = .ok (.dcmp .g, 1) := by decide +kernel
theorem d_No_covers_129 : decode b_No_covers 129 = .ok (.ifCond .gt 7, 3) := by decide +kernel
theorem d_No_covers_132 : decode b_No_covers 132 = .ok (.iconst 1, 1) := by decide +kernel
theorem d_No_covers_133 : decode b_No_covers 133 = .ok (.goto 4, 3) := by decide +kernel
theorem d_No_covers_136 : decode b_No_covers 136 = .ok (.iconst 0, 1) := by decide +kernel
theorem d_No_covers_137 : decode b_No_covers 137 = .ok (.ireturn, 1) := by decide +kernel
theorem d_No_measureInside_0 : decode b_No_measureInside 0 = .ok (.aload_n 0, 1) := by decide +kernel
theorem d_No_measureInside_1 : decode b_No_measureInside 1 = .ok (.getfield 27, 3) := by decide +kernel
theorem d_No_measureInside_4 : decode b_No_measureInside 4 = .ok (.invokevirtual 156, 3) := by decide +kernel
theorem d_No_measureInside_7 : decode b_No_measureInside 7 = .ok (.iconst 0, 1) := by decide +kernel
theorem d_No_measureInside_8 : decode b_No_measureInside 8 = .ok (.istore_n 1, 1) := by decide +kernel
theorem d_No_measureInside_9 : decode b_No_measureInside 9 = .ok (.iload_n 1, 1) := by decide +kernel
theorem d_No_measureInside_10 : decode b_No_measureInside 10 = .ok (.aload_n 0, 1) := by decide +kernel
theorem d_No_measureInside_11 : decode b_No_measureInside 11 = .ok (.getfield 12, 3) := by decide +kernel
theorem d_No_measureInside_14 : decode b_No_measureInside 14 = .ok (.invokevirtual 64, 3) := by decide +kernel
theorem d_No_measureInside_17 : decode b_No_measureInside 17 = .ok (.if_icmp .ge 43, 3) := by decide +kernel
theorem d_No_measureInside_20 : decode b_No_measureInside 20 = .ok (.aload_n 0, 1) := by decide +kernel
theorem d_No_measureInside_21 : decode b_No_measureInside 21 = .ok (.getfield 12, 3) := by decide +kernel
theorem d_No_measureInside_24 : decode b_No_measureInside 24 = .ok (.iload_n 1, 1) := by decide +kernel
theorem d_No_measureInside_25 : decode b_No_measureInside 25 = .ok (.invokevirtual 71, 3) := by decide +kernel
theorem d_No_measureInside_28 : decode b_No_measureInside 28 = .ok (.checkcast 13, 3) := by decide +kernel
theorem d_No_measureInside_31 : decode b_No_measureInside 31 = .ok (.astore_n 2, 1) := by decide +kernel
theorem d_No_measureInside_32 : decode b_No_measureInside 32 = .ok (.aload_n 2, 1) := by decide +kernel
theorem d_No_measureInside_33 : decode b_No_measureInside 33 = .ok (.getfield 104, 3) := by decide +kernel
theorem d_No_measureInside_36 : decode b_No_measureInside 36 = .ok (.ifCond .ne 18, 3) := by decide +kernel
theorem d_No_measureInside_39 : decode b_No_measureInside 39 = .ok (.aload_n 2, 1) := by decide +kernel
theorem d_No_measureInside_40 : decode b_No_measureInside 40 = .ok (.invokevirtual 159, 3) := by decide +kernel
theorem d_No_measureInside_43 : decode b_No_measureInside 43 = .ok (.aload_n 0, 1) := by decide +kernel
theorem d_No_measureInside_44 : decode b_No_measureInside 44 = .ok (.getfield 27, 3) := by decide +kernel
theorem d_No_measureInside_47 : decode b_No_measureInside 47 = .ok (.aload_n 2, 1) := by decide +kernel
theorem d_No_measureInside_48 : decode b_No_measureInside 48 = .ok (.getfield 27, 3) := by decide +kernel
theorem d_No_measureInside_51 : decode b_No_measureInside 51 = .ok (.invokevirtual 162, 3) := by decide +kernel
theorem d_No_measureInside_54 : decode b_No_measureInside 54 = .ok (.iinc 1 1, 3) := by decide +kernel
theorem d_No_measureInside_57 : decode b_No_measureInside 57 = .ok (.goto (-48), 3) := by decide +kernel
theorem d_No_measureInside_60 : decode b_No_measureInside 60 = .ok (.return_, 1) := by decide +kernel
theorem d_Ex_clear_0 : decode b_Ex_clear 0 = .ok (.aload_n 0, 1) := by decide +kernel
theorem d_Ex_clear_1 : decode b_Ex_clear 1 = .ok (.iconst 1, 1) := by decide +kernel
theorem d_Ex_clear_2 : decode b_Ex_clear 2 = .ok (.putfield 7, 3) := by decide +kernel
theorem d_Ex_clear_5 : decode b_Ex_clear 5 = .ok (.return_, 1) := by decide +kernel
theorem d_No_measure_0 : decode b_No_measure 0 = .ok (.aload_n 0, 1) := by decide +kernel
theorem d_No_measure_1 : decode b_No_measure 1 = .ok (.getfield 45, 3) := by decide +kernel
theorem d_No_measure_4 : decode b_No_measure 4 = .ok (.ifCond .ne 10, 3) := by decide +kernel
theorem d_No_measure_7 : decode b_No_measure 7 = .ok (.aload_n 0, 1) := by decide +kernel
theorem d_No_measure_8 : decode b_No_measure 8 = .ok (.invokevirtual 143, 3) := by decide +kernel
theorem d_No_measure_11 : decode b_No_measure 11 = .ok (.goto 56, 3) := by decide +kernel
theorem d_No_measure_14 : decode b_No_measure 14 = .ok (.aload_n 0, 1) := by decide +kernel
theorem d_No_measure_15 : decode b_No_measure 15 = .ok (.getfield 45, 3) := by decide +kernel
theorem d_No_measure_18 : decode b_No_measure 18 = .ok (.iconst 2, 1) := by decide +kernel
theorem d_No_measure_19 : decode b_No_measure 19 = .ok (.if_icmp .ne 31, 3) := by decide +kernel
theorem d_No_measure_22 : decode b_No_measure 22 = .ok (.aload_n 0, 1) := by decide +kernel
theorem d_No_measure_23 : decode b_No_measure 23 = .ok (.getfield 27, 3) := by decide +kernel
theorem d_No_measure_26 : decode b_No_measure 26 = .ok (.aload_n 0, 1) := by decide +kernel
theorem d_No_measure_27 : decode b_No_measure 27 = .ok (.getfield 31, 3) := by decide +kernel
theorem d_No_measure_30 : decode b_No_measure 30 = .ok (.dneg, 1) := by decide +kernel
theorem d_No_measure_31 : decode b_No_measure 31 = .ok (.aload_n 0, 1) := by decide +kernel
theorem d_No_measure_32 : decode b_No_measure 32 = .ok (.getfield 31, 3) := by decide +kernel
theorem d_No_measure_35 : decode b_No_measure 35 = .ok (.dneg, 1) := by decide +kernel
theorem d_No_measure_36 : decode b_No_measure 36 = .ok (.aload_n 0, 1) := by decide +kernel
theorem d_No_measure_37 : decode b_No_measure 37 = .ok (.getfield 31, 3) := by decide +kernel
theorem d_No_measure_40 : decode b_No_measure 40 = .ok (.aload_n 0, 1) := by decide +kernel
theorem d_No_measure_41 : decode b_No_measure 41 = .ok (.getfield 31, 3) := by decide +kernel
theorem d_No_measure_44 : decode b_No_measure 44 = .ok (.invokevirtual 146, 3) := by decide +kernel
theorem d_No_measure_47 : decode b_No_measure 47 = .ok (.goto 20, 3) := by decide +kernel
theorem d_No_measure_50 : decode b_No_measure 50 = .ok (.aload_n 0, 1) := by decide +kernel
theorem d_No_measure_51 : decode b_No_measure 51 = .ok (.getfield 27, 3) := by decide +kernel
theorem d_No_measure_54 : decode b_No_measure 54 = .ok (.dconst 0, 1) := by decide +kernel
theorem d_No_measure_55 : decode b_No_measure 55 = .ok (.dconst 0, 1) := by decide +kernel
theorem d_No_measure_56 : decode b_No_measure 56 = .ok (.aload_n 0, 1) := by decide +kernel
theorem d_No_measure_57 : decode b_No_measure 57 = .ok (.getfield 31, 3) := by decide +kernel
theorem d_No_measure_60 : decode b_No_measure 60 = .ok (.aload_n 0, 1) := by decide +kernel
theorem d_No_measure_61 : decode b_No_measure 61 = .ok (.getfield 35, 3) := by decide +kernel
theorem d_No_measure_64 : decode b_No_measure 64 = .ok (.invokevirtual 146, 3) := by decide +kernel
theorem d_No_measure_67 : decode b_No_measure 67 = .ok (.aload_n 0, 1) := by decide +kernel
theorem d_No_measure_68 : decode b_No_measure 68 = .ok (.getfield 27, 3) := by decide +kernel
theorem d_No_measure_71 : decode b_No_measure 71 = .ok (.getfield 150, 3) := by decide +kernel
theorem d_No_measure_74 : decode b_No_measure 74 = .ok (.ifCond .ne 7, 3) := by decide +kernel
theorem d_No_measure_77 : decode b_No_measure 77 = .ok (.aload_n 0, 1) := by decide +kernel
theorem d_No_measure_78 : decode b_No_measure 78 = .ok (.invokevirtual 153, 3) := by decide +kernel
theorem d_No_measure_81 : decode b_No_measure 81 = .ok (.return_, 1) := by decide +kernel
theorem d_Ex_span_0 : decode b_Ex_span 0 = .ok (.aload_n 0, 1) := by decide +kernel
theorem d_Ex_span_1 : decode b_Ex_span 1 = .ok (.iconst 0, 1) := by decide +kernel
theorem d_Ex_span_2 : decode b_Ex_span 2 = .ok (.putfield 7, 3) := by decide +kernel
theorem d_Ex_span_5 : decode b_Ex_span 5 = .ok (.aload_n 0, 1) := by decide +kernel
theorem d_Ex_span_6 : decode b_Ex_span 6 = .ok (.dload_n 1, 1) := by decide +kernel
theorem d_Ex_span_7 : decode b_Ex_span 7 = .ok (.putfield 13, 3) := by decide +kernel
theorem d_Ex_span_10 : decode b_Ex_span 10 = .ok (.aload_n 0, 1) := by decide +kernel
theorem d_Ex_span_11 : decode b_Ex_span 11 = .ok (.dload_n 3, 1) := by decide +kernel
theorem d_Ex_span_12 : decode b_Ex_span 12 = .ok (.putfield 17, 3) := by decide +kernel
theorem d_Ex_span_15 : decode b_Ex_span 15 = .ok (.aload_n 0, 1) := by decide +kernel
theorem d_Ex_span_16 : decode b_Ex_span 16 = .ok (.dload 5, 2) := by decide +kernel
theorem d_Ex_span_18 : decode b_Ex_span 18 = .ok (.putfield 20, 3) := by decide +kernel
theorem d_Ex_span_21 : decode b_Ex_span 21 = .ok (.aload_n 0, 1) := by decide +kernel
theorem d_Ex_span_22 : decode b_Ex_span 22 = .ok (.dload 7, 2) := by decide +kernel
theorem d_Ex_span_24 : decode b_Ex_span 24 = .ok (.putfield 23, 3) := by decide +kernel
theorem d_Ex_span_27 : decode b_Ex_span 27 = .ok (.return_, 1) := by decide +kernel
theorem d_No_layOutExtent_0 : decode b_No_layOutExtent 0 = .ok (.aload_n 0, 1) := by decide +kernel
theorem d_No_layOutExtent_1 : decode b_No_layOutExtent 1 = .ok (.getfield 27, 3) := by decide +kernel
theorem d_No_layOutExtent_4 : decode b_No_layOutExtent 4 = .ok (.aload_n 0, 1) := by decide +kernel
theorem d_No_layOutExtent_5 : decode b_No_layOutExtent 5 = .ok (.getfield 98, 3) := by decide +kernel
theorem d_No_layOutExtent_8 : decode b_No_layOutExtent 8 = .ok (.invokestatic 111, 3) := by decide +kernel
theorem d_No_layOutExtent_11 : decode b_No_layOutExtent 11 = .ok (.invokevirtual 166, 3) := by decide +kernel
theorem d_No_layOutExtent_14 : decode b_No_layOutExtent 14 = .ok (.iconst 0, 1) := by decide +kernel
theorem d_No_layOutExtent_15 : decode b_No_layOutExtent 15 = .ok (.istore_n 1, 1) := by decide +kernel
theorem d_No_layOutExtent_16 : decode b_No_layOutExtent 16 = .ok (.iload_n 1, 1) := by decide +kernel
theorem d_No_layOutExtent_17 : decode b_No_layOutExtent 17 = .ok (.aload_n 0, 1) := by decide +kernel
theorem d_No_layOutExtent_18 : decode b_No_layOutExtent 18 = .ok (.getfield 108, 3) := by decide +kernel
theorem d_No_layOutExtent_21 : decode b_No_layOutExtent 21 = .ok (.if_icmp .ge 16, 3) := by decide +kernel
theorem d_No_layOutExtent_24 : decode b_No_layOutExtent 24 = .ok (.aload_n 0, 1) := by decide +kernel
theorem d_No_layOutExtent_25 : decode b_No_layOutExtent 25 = .ok (.getfield 27, 3) := by decide +kernel
theorem d_No_layOutExtent_28 : decode b_No_layOutExtent 28 = .ok (.invokevirtual 170, 3) := by decide +kernel
theorem d_No_layOutExtent_31 : decode b_No_layOutExtent 31 = .ok (.iinc 1 1, 3) := by decide +kernel
theorem d_No_layOutExtent_34 : decode b_No_layOutExtent 34 = .ok (.goto (-18), 3) := by decide +kernel
theorem d_No_layOutExtent_37 : decode b_No_layOutExtent 37 = .ok (.aload_n 0, 1) := by decide +kernel
theorem d_No_layOutExtent_38 : decode b_No_layOutExtent 38 = .ok (.getfield 27, 3) := by decide +kernel
theorem d_No_layOutExtent_41 : decode b_No_layOutExtent 41 = .ok (.aload_n 0, 1) := by decide +kernel
theorem d_No_layOutExtent_42 : decode b_No_layOutExtent 42 = .ok (.getfield 83, 3) := by decide +kernel
theorem d_No_layOutExtent_45 : decode b_No_layOutExtent 45 = .ok (.aload_n 0, 1) := by decide +kernel
theorem d_No_layOutExtent_46 : decode b_No_layOutExtent 46 = .ok (.getfield 89, 3) := by decide +kernel
theorem d_No_layOutExtent_49 : decode b_No_layOutExtent 49 = .ok (.invokevirtual 173, 3) := by decide +kernel
theorem d_No_layOutExtent_52 : decode b_No_layOutExtent 52 = .ok (.return_, 1) := by decide +kernel
theorem d_Ex_scale_0 : decode b_Ex_scale 0 = .ok (.aload_n 0, 1) := by decide +kernel
theorem d_Ex_scale_1 : decode b_Ex_scale 1 = .ok (.aload_n 0, 1) := by decide +kernel
theorem d_Ex_scale_2 : decode b_Ex_scale 2 = .ok (.getfield 13, 3) := by decide +kernel
theorem d_Ex_scale_5 : decode b_Ex_scale 5 = .ok (.dload_n 1, 1) := by decide +kernel
theorem d_Ex_scale_6 : decode b_Ex_scale 6 = .ok (.dmul, 1) := by decide +kernel
theorem d_Ex_scale_7 : decode b_Ex_scale 7 = .ok (.aload_n 0, 1) := by decide +kernel
theorem d_Ex_scale_8 : decode b_Ex_scale 8 = .ok (.getfield 17, 3) := by decide +kernel
theorem d_Ex_scale_11 : decode b_Ex_scale 11 = .ok (.dload_n 1, 1) := by decide +kernel
theorem d_Ex_scale_12 : decode b_Ex_scale 12 = .ok (.dmul, 1) := by decide +kernel
theorem d_Ex_scale_13 : decode b_Ex_scale 13 = .ok (.aload_n 0, 1) := by decide +kernel
theorem d_Ex_scale_14 : decode b_Ex_scale 14 = .ok (.getfield 20, 3) := by decide +kernel
theorem d_Ex_scale_17 : decode b_Ex_scale 17 = .ok (.dload_n 1, 1) := by decide +kernel
theorem d_Ex_scale_18 : decode b_Ex_scale 18 = .ok (.dmul, 1) := by decide +kernel
theorem d_Ex_scale_19 : decode b_Ex_scale 19 = .ok (.aload_n 0, 1) := by decide +kernel
theorem d_Ex_scale_20 : decode b_Ex_scale 20 = .ok (.getfield 23, 3) := by decide +kernel
theorem d_Ex_scale_23 : decode b_Ex_scale 23 = .ok (.dload_n 1, 1) := by decide +kernel
theorem d_Ex_scale_24 : decode b_Ex_scale 24 = .ok (.dmul, 1) := by decide +kernel
theorem d_Ex_scale_25 : decode b_Ex_scale 25 = .ok (.invokevirtual 26, 3) := by decide +kernel
theorem d_Ex_scale_28 : decode b_Ex_scale 28 = .ok (.return_, 1) := by decide +kernel
theorem d_Ex_turnOnce_0 : decode b_Ex_turnOnce 0 = .ok (.aload_n 0, 1) := by decide +kernel
theorem d_Ex_turnOnce_1 : decode b_Ex_turnOnce 1 = .ok (.aload_n 0, 1) := by decide +kernel
theorem d_Ex_turnOnce_2 : decode b_Ex_turnOnce 2 = .ok (.getfield 23, 3) := by decide +kernel
theorem d_Ex_turnOnce_5 : decode b_Ex_turnOnce 5 = .ok (.dneg, 1) := by decide +kernel
theorem d_Ex_turnOnce_6 : decode b_Ex_turnOnce 6 = .ok (.aload_n 0, 1) := by decide +kernel
theorem d_Ex_turnOnce_7 : decode b_Ex_turnOnce 7 = .ok (.getfield 13, 3) := by decide +kernel
theorem d_Ex_turnOnce_10 : decode b_Ex_turnOnce 10 = .ok (.aload_n 0, 1) := by decide +kernel
theorem d_Ex_turnOnce_11 : decode b_Ex_turnOnce 11 = .ok (.getfield 17, 3) := by decide +kernel
theorem d_Ex_turnOnce_14 : decode b_Ex_turnOnce 14 = .ok (.dneg, 1) := by decide +kernel
theorem d_Ex_turnOnce_15 : decode b_Ex_turnOnce 15 = .ok (.aload_n 0, 1) := by decide +kernel
theorem d_Ex_turnOnce_16 : decode b_Ex_turnOnce 16 = .ok (.getfield 20, 3) := by decide +kernel
theorem d_Ex_turnOnce_19 : decode b_Ex_turnOnce 19 = .ok (.invokevirtual 26, 3) := by decide +kernel
theorem d_Ex_turnOnce_22 : decode b_Ex_turnOnce 22 = .ok (.return_, 1) := by decide +kernel
theorem d_Ex_shift_0 : decode b_Ex_shift 0 = .ok (.aload_n 0, 1) := by decide +kernel
theorem d_Ex_shift_1 : decode b_Ex_shift 1 = .ok (.aload_n 0, 1) := by decide +kernel
theorem d_Ex_shift_2 : decode b_Ex_shift 2 = .ok (.getfield 13, 3) := by decide +kernel
theorem d_Ex_shift_5 : decode b_Ex_shift 5 = .ok (.dload_n 1, 1) := by decide +kernel
theorem d_Ex_shift_6 : decode b_Ex_shift 6 = .ok (.dadd, 1) := by decide +kernel
theorem d_Ex_shift_7 : decode b_Ex_shift 7 = .ok (.aload_n 0, 1) := by decide +kernel
theorem d_Ex_shift_8 : decode b_Ex_shift 8 = .ok (.getfield 17, 3) := by decide +kernel
theorem d_Ex_shift_11 : decode b_Ex_shift 11 = .ok (.dload_n 3, 1) := by decide +kernel
theorem d_Ex_shift_12 : decode b_Ex_shift 12 = .ok (.dadd, 1) := by decide +kernel
theorem d_Ex_shift_13 : decode b_Ex_shift 13 = .ok (.aload_n 0, 1) := by decide +kernel
theorem d_Ex_shift_14 : decode b_Ex_shift 14 = .ok (.getfield 20, 3) := by decide +kernel
theorem d_Ex_shift_17 : decode b_Ex_shift 17 = .ok (.dload_n 1, 1) := by decide +kernel
theorem d_Ex_shift_18 : decode b_Ex_shift 18 = .ok (.dadd, 1) := by decide +kernel
theorem d_Ex_shift_19 : decode b_Ex_shift 19 = .ok (.aload_n 0, 1) := by decide +kernel
theorem d_Ex_shift_20 : decode b_Ex_shift 20 = .ok (.getfield 23, 3) := by decide +kernel
theorem d_Ex_shift_23 : decode b_Ex_shift 23 = .ok (.dload_n 3, 1) := by decide +kernel
theorem d_Ex_shift_24 : decode b_Ex_shift 24 = .ok (.dadd, 1) := by decide +kernel
theorem d_Ex_shift_25 : decode b_Ex_shift 25 = .ok (.invokevirtual 26, 3) := by decide +kernel
theorem d_Ex_shift_28 : decode b_Ex_shift 28 = .ok (.return_, 1) := by decide +kernel
theorem d_Ex_join_0 : decode b_Ex_join 0 = .ok (.aload_n 1, 1) := by decide +kernel
theorem d_Ex_join_1 : decode b_Ex_join 1 = .ok (.getfield 7, 3) := by decide +kernel
theorem d_Ex_join_4 : decode b_Ex_join 4 = .ok (.ifCond .eq 4, 3) := by decide +kernel
theorem d_Ex_join_7 : decode b_Ex_join 7 = .ok (.return_, 1) := by decide +kernel
theorem d_Ex_join_8 : decode b_Ex_join 8 = .ok (.aload_n 0, 1) := by decide +kernel
theorem d_Ex_join_9 : decode b_Ex_join 9 = .ok (.getfield 7, 3) := by decide +kernel
theorem d_Ex_join_12 : decode b_Ex_join 12 = .ok (.ifCond .eq 24, 3) := by decide +kernel
theorem d_Ex_join_15 : decode b_Ex_join 15 = .ok (.aload_n 0, 1) := by decide +kernel
theorem d_Ex_join_16 : decode b_Ex_join 16 = .ok (.aload_n 1, 1) := by decide +kernel
theorem d_Ex_join_17 : decode b_Ex_join 17 = .ok (.getfield 13, 3) := by decide +kernel
theorem d_Ex_join_20 : decode b_Ex_join 20 = .ok (.aload_n 1, 1) := by decide +kernel
theorem d_Ex_join_21 : decode b_Ex_join 21 = .ok (.getfield 17, 3) := by decide +kernel
theorem d_Ex_join_24 : decode b_Ex_join 24 = .ok (.aload_n 1, 1) := by decide +kernel
theorem d_Ex_join_25 : decode b_Ex_join 25 = .ok (.getfield 20, 3) := by decide +kernel
theorem d_Ex_join_28 : decode b_Ex_join 28 = .ok (.aload_n 1, 1) := by decide +kernel
theorem d_Ex_join_29 : decode b_Ex_join 29 = .ok (.getfield 23, 3) := by decide +kernel
theorem d_Ex_join_32 : decode b_Ex_join 32 = .ok (.invokevirtual 26, 3) := by decide +kernel
theorem d_Ex_join_35 : decode b_Ex_join 35 = .ok (.return_, 1) := by decide +kernel
theorem d_Ex_join_36 : decode b_Ex_join 36 = .ok (.aload_n 0, 1) := by decide +kernel
theorem d_Ex_join_37 : decode b_Ex_join 37 = .ok (.aload_n 1, 1) := by decide +kernel
theorem d_Ex_join_38 : decode b_Ex_join 38 = .ok (.getfield 13, 3) := by decide +kernel
theorem d_Ex_join_41 : decode b_Ex_join 41 = .ok (.aload_n 0, 1) := by decide +kernel
theorem d_Ex_join_42 : decode b_Ex_join 42 = .ok (.getfield 13, 3) := by decide +kernel
theorem d_Ex_join_45 : decode b_Ex_join 45 = .ok (.dcmp .g, 1) := by decide +kernel
theorem d_Ex_join_46 : decode b_Ex_join 46 = .ok (.ifCond .ge 10, 3) := by decide +kernel
theorem d_Ex_join_49 : decode b_Ex_join 49 = .ok (.aload_n 1, 1) := by decide +kernel
theorem d_Ex_join_50 : decode b_Ex_join 50 = .ok (.getfield 13, 3) := by decide +kernel
theorem d_Ex_join_53 : decode b_Ex_join 53 = .ok (.goto 7, 3) := by decide +kernel
theorem d_Ex_join_56 : decode b_Ex_join 56 = .ok (.aload_n 0, 1) := by decide +kernel
theorem d_Ex_join_57 : decode b_Ex_join 57 = .ok (.getfield 13, 3) := by decide +kernel
theorem d_Ex_join_60 : decode b_Ex_join 60 = .ok (.putfield 13, 3) := by decide +kernel
theorem d_Ex_join_63 : decode b_Ex_join 63 = .ok (.aload_n 0, 1) := by decide +kernel
theorem d_Ex_join_64 : decode b_Ex_join 64 = .ok (.aload_n 1, 1) := by decide +kernel
theorem d_Ex_join_65 : decode b_Ex_join 65 = .ok (.getfield 17, 3) := by decide +kernel
theorem d_Ex_join_68 : decode b_Ex_join 68 = .ok (.aload_n 0, 1) := by decide +kernel
theorem d_Ex_join_69 : decode b_Ex_join 69 = .ok (.getfield 17, 3) := by decide +kernel
theorem d_Ex_join_72 : decode b_Ex_join 72 = .ok (.dcmp .g, 1) := by decide +kernel
theorem d_Ex_join_73 : decode b_Ex_join 73 = .ok (.ifCond .ge 10, 3) := by decide +kernel
theorem d_Ex_join_76 : decode b_Ex_join 76 = .ok (.aload_n 1, 1) := by decide +kernel
theorem d_Ex_join_77 : decode b_Ex_join 77 = .ok (.getfield 17, 3) := by decide +kernel
theorem d_Ex_join_80 : decode b_Ex_join 80 = .ok (.goto 7, 3) := by decide +kernel
theorem d_Ex_join_83 : decode b_Ex_join 83 = .ok (.aload_n 0, 1) := by decide +kernel
theorem d_Ex_join_84 : decode b_Ex_join 84 = .ok (.getfield 17, 3) := by decide +kernel
theorem d_Ex_join_87 : decode b_Ex_join 87 = .ok (.putfield 17, 3) := by decide +kernel
theorem d_Ex_join_90 : decode b_Ex_join 90 = .ok (.aload_n 0, 1) := by decide +kernel
theorem d_Ex_join_91 : decode b_Ex_join 91 = .ok (.aload_n 1, 1) := by decide +kernel
theorem d_Ex_join_92 : decode b_Ex_join 92 = .ok (.getfield 20, 3) := by decide +kernel
theorem d_Ex_join_95 : decode b_Ex_join 95 = .ok (.aload_n 0, 1) := by decide +kernel
theorem d_Ex_join_96 : decode b_Ex_join 96 = .ok (.getfield 20, 3) := by decide +kernel
theorem d_Ex_join_99 : decode b_Ex_join 99 = .ok (.dcmp .l, 1) := by decide +kernel
theorem d_Ex_join_100 : decode b_Ex_join 100 = .ok (.ifCond .le 10, 3) := by decide +kernel
theorem d_Ex_join_103 : decode b_Ex_join 103 = .ok (.aload_n 1, 1) := by decide +kernel
theorem d_Ex_join_104 : decode b_Ex_join 104 = .ok (.getfield 20, 3) := by decide +kernel
theorem d_Ex_join_107 : decode b_Ex_join 107 = .ok (.goto 7, 3) := by decide +kernel
theorem d_Ex_join_110 : decode b_Ex_join 110 = .ok (.aload_n 0, 1) := by decide +kernel
theorem d_Ex_join_111 : decode b_Ex_join 111 = .ok (.getfield 20, 3) := by decide +kernel
theorem d_Ex_join_114 : decode b_Ex_join 114 = .ok (.putfield 20, 3) := by decide +kernel
theorem d_Ex_join_117 : decode b_Ex_join 117 = .ok (.aload_n 0, 1) := by decide +kernel
theorem d_Ex_join_118 : decode b_Ex_join 118 = .ok (.aload_n 1, 1) := by decide +kernel
theorem d_Ex_join_119 : decode b_Ex_join 119 = .ok (.getfield 23, 3) := by decide +kernel
theorem d_Ex_join_122 : decode b_Ex_join 122 = .ok (.aload_n 0, 1) := by decide +kernel
theorem d_Ex_join_123 : decode b_Ex_join 123 = .ok (.getfield 23, 3) := by decide +kernel
theorem d_Ex_join_126 : decode b_Ex_join 126 = .ok (.dcmp .l, 1) := by decide +kernel
theorem d_Ex_join_127 : decode b_Ex_join 127 = .ok (.ifCond .le 10, 3) := by decide +kernel
theorem d_Ex_join_130 : decode b_Ex_join 130 = .ok (.aload_n 1, 1) := by decide +kernel
theorem d_Ex_join_131 : decode b_Ex_join 131 = .ok (.getfield 23, 3) := by decide +kernel
theorem d_Ex_join_134 : decode b_Ex_join 134 = .ok (.goto 7, 3) := by decide +kernel
theorem d_Ex_join_137 : decode b_Ex_join 137 = .ok (.aload_n 0, 1) := by decide +kernel
theorem d_Ex_join_138 : decode b_Ex_join 138 = .ok (.getfield 23, 3) := by decide +kernel
theorem d_Ex_join_141 : decode b_Ex_join 141 = .ok (.putfield 23, 3) := by decide +kernel
theorem d_Ex_join_144 : decode b_Ex_join 144 = .ok (.return_, 1) := by decide +kernel
theorem d_Ex_side_0 : decode b_Ex_side 0 = .ok (.iload_n 1, 1) := by decide +kernel
theorem d_Ex_side_1 : decode b_Ex_side 1 = .ok (.tableswitch 51 0 2 #[27, 35, 43], 27) := by decide +kernel
theorem d_Ex_side_28 : decode b_Ex_side 28 = .ok (.aload_n 0, 1) := by decide +kernel
theorem d_Ex_side_29 : decode b_Ex_side 29 = .ok (.getfield 13, 3) := by decide +kernel
theorem d_Ex_side_32 : decode b_Ex_side 32 = .ok (.dstore_n 2, 1) := by decide +kernel
theorem d_Ex_side_33 : decode b_Ex_side 33 = .ok (.goto 24, 3) := by decide +kernel
theorem d_Ex_side_36 : decode b_Ex_side 36 = .ok (.aload_n 0, 1) := by decide +kernel
theorem d_Ex_side_37 : decode b_Ex_side 37 = .ok (.getfield 17, 3) := by decide +kernel
theorem d_Ex_side_40 : decode b_Ex_side 40 = .ok (.dstore_n 2, 1) := by decide +kernel
theorem d_Ex_side_41 : decode b_Ex_side 41 = .ok (.goto 16, 3) := by decide +kernel
theorem d_Ex_side_44 : decode b_Ex_side 44 = .ok (.aload_n 0, 1) := by decide +kernel
theorem d_Ex_side_45 : decode b_Ex_side 45 = .ok (.getfield 20, 3) := by decide +kernel
theorem d_Ex_side_48 : decode b_Ex_side 48 = .ok (.dstore_n 2, 1) := by decide +kernel
theorem d_Ex_side_49 : decode b_Ex_side 49 = .ok (.goto 8, 3) := by decide +kernel
theorem d_Ex_side_52 : decode b_Ex_side 52 = .ok (.aload_n 0, 1) := by decide +kernel
theorem d_Ex_side_53 : decode b_Ex_side 53 = .ok (.getfield 23, 3) := by decide +kernel
theorem d_Ex_side_56 : decode b_Ex_side 56 = .ok (.dstore_n 2, 1) := by decide +kernel
theorem d_Ex_side_57 : decode b_Ex_side 57 = .ok (.dload_n 2, 1) := by decide +kernel
theorem d_Ex_side_58 : decode b_Ex_side 58 = .ok (.dconst 0, 1) := by decide +kernel
theorem d_Ex_side_59 : decode b_Ex_side 59 = .ok (.dcmp .l, 1) := by decide +kernel
theorem d_Ex_side_60 : decode b_Ex_side 60 = .ok (.ifCond .ne 7, 3) := by decide +kernel
theorem d_Ex_side_63 : decode b_Ex_side 63 = .ok (.dconst 0, 1) := by decide +kernel
theorem d_Ex_side_64 : decode b_Ex_side 64 = .ok (.goto 4, 3) := by decide +kernel
theorem d_Ex_side_67 : decode b_Ex_side 67 = .ok (.dload_n 2, 1) := by decide +kernel
theorem d_Ex_side_68 : decode b_Ex_side 68 = .ok (.dreturn, 1) := by decide +kernel
