/-! decode rows, by program -/
theorem d_Mo_within_0 : decode b_Mo_within 0 = .ok (.iload_n 1, 1) := by decide +kernel
theorem d_Mo_within_1 : decode b_Mo_within 1 = .ok (.istore_n 3, 1) := by decide +kernel
theorem d_Mo_within_2 : decode b_Mo_within 2 = .ok (.iload_n 3, 1) := by decide +kernel
theorem d_Mo_within_3 : decode b_Mo_within 3 = .ok (.ifCond .lt 18, 3) := by decide +kernel
theorem d_Mo_within_6 : decode b_Mo_within 6 = .ok (.iload_n 3, 1) := by decide +kernel
theorem d_Mo_within_7 : decode b_Mo_within 7 = .ok (.iload_n 2, 1) := by decide +kernel
theorem d_Mo_within_8 : decode b_Mo_within 8 = .ok (.if_icmp .eq 13, 3) := by decide +kernel
theorem d_Mo_within_11 : decode b_Mo_within 11 = .ok (.aload_n 0, 1) := by decide +kernel
theorem d_Mo_within_12 : decode b_Mo_within 12 = .ok (.getfield 29, 3) := by decide +kernel
theorem d_Mo_within_15 : decode b_Mo_within 15 = .ok (.iload_n 3, 1) := by decide +kernel
theorem d_Mo_within_16 : decode b_Mo_within 16 = .ok (.iaload, 1) := by decide +kernel
theorem d_Mo_within_17 : decode b_Mo_within 17 = .ok (.istore_n 3, 1) := by decide +kernel
theorem d_Mo_within_18 : decode b_Mo_within 18 = .ok (.goto (-16), 3) := by decide +kernel
theorem d_Mo_within_21 : decode b_Mo_within 21 = .ok (.iload_n 3, 1) := by decide +kernel
theorem d_Mo_within_22 : decode b_Mo_within 22 = .ok (.iload_n 2, 1) := by decide +kernel
theorem d_Mo_within_23 : decode b_Mo_within 23 = .ok (.if_icmp .ne 7, 3) := by decide +kernel
theorem d_Mo_within_26 : decode b_Mo_within 26 = .ok (.iconst 1, 1) := by decide +kernel
theorem d_Mo_within_27 : decode b_Mo_within 27 = .ok (.goto 4, 3) := by decide +kernel
theorem d_Mo_within_30 : decode b_Mo_within 30 = .ok (.iconst 0, 1) := by decide +kernel
theorem d_Mo_within_31 : decode b_Mo_within 31 = .ok (.ireturn, 1) := by decide +kernel
theorem d_Mo_height_0 : decode b_Mo_height 0 = .ok (.iconst 0, 1) := by decide +kernel
theorem d_Mo_height_1 : decode b_Mo_height 1 = .ok (.istore_n 2, 1) := by decide +kernel
theorem d_Mo_height_2 : decode b_Mo_height 2 = .ok (.iconst 0, 1) := by decide +kernel
theorem d_Mo_height_3 : decode b_Mo_height 3 = .ok (.istore_n 3, 1) := by decide +kernel
theorem d_Mo_height_4 : decode b_Mo_height 4 = .ok (.iload_n 3, 1) := by decide +kernel
theorem d_Mo_height_5 : decode b_Mo_height 5 = .ok (.aload_n 0, 1) := by decide +kernel
theorem d_Mo_height_6 : decode b_Mo_height 6 = .ok (.getfield 98, 3) := by decide +kernel
theorem d_Mo_height_9 : decode b_Mo_height 9 = .ok (.if_icmp .ge 60, 3) := by decide +kernel
theorem d_Mo_height_12 : decode b_Mo_height 12 = .ok (.aload_n 0, 1) := by decide +kernel
theorem d_Mo_height_13 : decode b_Mo_height 13 = .ok (.getfield 44, 3) := by decide +kernel
theorem d_Mo_height_16 : decode b_Mo_height 16 = .ok (.iload_n 3, 1) := by decide +kernel
theorem d_Mo_height_17 : decode b_Mo_height 17 = .ok (.iaload, 1) := by decide +kernel
theorem d_Mo_height_18 : decode b_Mo_height 18 = .ok (.istore 4, 2) := by decide +kernel
theorem d_Mo_height_20 : decode b_Mo_height 20 = .ok (.aload_n 0, 1) := by decide +kernel
theorem d_Mo_height_21 : decode b_Mo_height 21 = .ok (.iload 4, 2) := by decide +kernel
theorem d_Mo_height_23 : decode b_Mo_height 23 = .ok (.iload_n 1, 1) := by decide +kernel
theorem d_Mo_height_24 : decode b_Mo_height 24 = .ok (.invokevirtual 149, 3) := by decide +kernel
theorem d_Mo_height_27 : decode b_Mo_height 27 = .ok (.ifCond .eq 36, 3) := by decide +kernel
theorem d_Mo_height_30 : decode b_Mo_height 30 = .ok (.aload_n 0, 1) := by decide +kernel
theorem d_Mo_height_31 : decode b_Mo_height 31 = .ok (.getfield 50, 3) := by decide +kernel
theorem d_Mo_height_34 : decode b_Mo_height 34 = .ok (.iload 4, 2) := by decide +kernel
theorem d_Mo_height_36 : decode b_Mo_height 36 = .ok (.iaload, 1) := by decide +kernel
theorem d_Mo_height_37 : decode b_Mo_height 37 = .ok (.aload_n 0, 1) := by decide +kernel
theorem d_Mo_height_38 : decode b_Mo_height 38 = .ok (.getfield 50, 3) := by decide +kernel
theorem d_Mo_height_41 : decode b_Mo_height 41 = .ok (.iload_n 1, 1) := by decide +kernel
theorem d_Mo_height_42 : decode b_Mo_height 42 = .ok (.iaload, 1) := by decide +kernel
theorem d_Mo_height_43 : decode b_Mo_height 43 = .ok (.isub, 1) := by decide +kernel
theorem d_Mo_height_44 : decode b_Mo_height 44 = .ok (.iload_n 2, 1) := by decide +kernel
theorem d_Mo_height_45 : decode b_Mo_height 45 = .ok (.if_icmp .le 18, 3) := by decide +kernel
theorem d_Mo_height_48 : decode b_Mo_height 48 = .ok (.aload_n 0, 1) := by decide +kernel
theorem d_Mo_height_49 : decode b_Mo_height 49 = .ok (.getfield 50, 3) := by decide +kernel
theorem d_Mo_height_52 : decode b_Mo_height 52 = .ok (.iload 4, 2) := by decide +kernel
theorem d_Mo_height_54 : decode b_Mo_height 54 = .ok (.iaload, 1) := by decide +kernel
theorem d_Mo_height_55 : decode b_Mo_height 55 = .ok (.aload_n 0, 1) := by decide +kernel
theorem d_Mo_height_56 : decode b_Mo_height 56 = .ok (.getfield 50, 3) := by decide +kernel
theorem d_Mo_height_59 : decode b_Mo_height 59 = .ok (.iload_n 1, 1) := by decide +kernel
theorem d_Mo_height_60 : decode b_Mo_height 60 = .ok (.iaload, 1) := by decide +kernel
theorem d_Mo_height_61 : decode b_Mo_height 61 = .ok (.isub, 1) := by decide +kernel
theorem d_Mo_height_62 : decode b_Mo_height 62 = .ok (.istore_n 2, 1) := by decide +kernel
theorem d_Mo_height_63 : decode b_Mo_height 63 = .ok (.iinc 3 1, 3) := by decide +kernel
theorem d_Mo_height_66 : decode b_Mo_height 66 = .ok (.goto (-62), 3) := by decide +kernel
theorem d_Mo_height_69 : decode b_Mo_height 69 = .ok (.iload_n 2, 1) := by decide +kernel
theorem d_Mo_height_70 : decode b_Mo_height 70 = .ok (.ireturn, 1) := by decide +kernel
theorem d_Mo_leave_0 : decode b_Mo_leave 0 = .ok (.aload_n 0, 1) := by decide +kernel
theorem d_Mo_leave_1 : decode b_Mo_leave 1 = .ok (.getfield 29, 3) := by decide +kernel
theorem d_Mo_leave_4 : decode b_Mo_leave 4 = .ok (.iload_n 1, 1) := by decide +kernel
theorem d_Mo_leave_5 : decode b_Mo_leave 5 = .ok (.iaload, 1) := by decide +kernel
theorem d_Mo_leave_6 : decode b_Mo_leave 6 = .ok (.istore_n 2, 1) := by decide +kernel
theorem d_Mo_leave_7 : decode b_Mo_leave 7 = .ok (.aload_n 0, 1) := by decide +kernel
theorem d_Mo_leave_8 : decode b_Mo_leave 8 = .ok (.iload_n 1, 1) := by decide +kernel
theorem d_Mo_leave_9 : decode b_Mo_leave 9 = .ok (.invokevirtual 101, 3) := by decide +kernel
theorem d_Mo_leave_12 : decode b_Mo_leave 12 = .ok (.istore_n 3, 1) := by decide +kernel
theorem d_Mo_leave_13 : decode b_Mo_leave 13 = .ok (.iload_n 3, 1) := by decide +kernel
theorem d_Mo_leave_14 : decode b_Mo_leave 14 = .ok (.iconst 1, 1) := by decide +kernel
theorem d_Mo_leave_15 : decode b_Mo_leave 15 = .ok (.iadd, 1) := by decide +kernel
theorem d_Mo_leave_16 : decode b_Mo_leave 16 = .ok (.aload_n 0, 1) := by decide +kernel
theorem d_Mo_leave_17 : decode b_Mo_leave 17 = .ok (.getfield 32, 3) := by decide +kernel
theorem d_Mo_leave_20 : decode b_Mo_leave 20 = .ok (.iload_n 2, 1) := by decide +kernel
theorem d_Mo_leave_21 : decode b_Mo_leave 21 = .ok (.iaload, 1) := by decide +kernel
theorem d_Mo_leave_22 : decode b_Mo_leave 22 = .ok (.if_icmp .ge 33, 3) := by decide +kernel
theorem d_Mo_leave_25 : decode b_Mo_leave 25 = .ok (.aload_n 0, 1) := by decide +kernel
theorem d_Mo_leave_26 : decode b_Mo_leave 26 = .ok (.getfield 35, 3) := by decide +kernel
theorem d_Mo_leave_29 : decode b_Mo_leave 29 = .ok (.iload_n 2, 1) := by decide +kernel
theorem d_Mo_leave_30 : decode b_Mo_leave 30 = .ok (.bipush 14, 2) := by decide +kernel
theorem d_Mo_leave_32 : decode b_Mo_leave 32 = .ok (.imul, 1) := by decide +kernel
theorem d_Mo_leave_33 : decode b_Mo_leave 33 = .ok (.iload_n 3, 1) := by decide +kernel
theorem d_Mo_leave_34 : decode b_Mo_leave 34 = .ok (.iadd, 1) := by decide +kernel
theorem d_Mo_leave_35 : decode b_Mo_leave 35 = .ok (.aload_n 0, 1) := by decide +kernel
theorem d_Mo_leave_36 : decode b_Mo_leave 36 = .ok (.getfield 35, 3) := by decide +kernel
theorem d_Mo_leave_39 : decode b_Mo_leave 39 = .ok (.iload_n 2, 1) := by decide +kernel
theorem d_Mo_leave_40 : decode b_Mo_leave 40 = .ok (.bipush 14, 2) := by decide +kernel
theorem d_Mo_leave_42 : decode b_Mo_leave 42 = .ok (.imul, 1) := by decide +kernel
theorem d_Mo_leave_43 : decode b_Mo_leave 43 = .ok (.iload_n 3, 1) := by decide +kernel
theorem d_Mo_leave_44 : decode b_Mo_leave 44 = .ok (.iadd, 1) := by decide +kernel
theorem d_Mo_leave_45 : decode b_Mo_leave 45 = .ok (.iconst 1, 1) := by decide +kernel
theorem d_Mo_leave_46 : decode b_Mo_leave 46 = .ok (.iadd, 1) := by decide +kernel
theorem d_Mo_leave_47 : decode b_Mo_leave 47 = .ok (.iaload, 1) := by decide +kernel
theorem d_Mo_leave_48 : decode b_Mo_leave 48 = .ok (.iastore, 1) := by decide +kernel
theorem d_Mo_leave_49 : decode b_Mo_leave 49 = .ok (.iinc 3 1, 3) := by decide +kernel
theorem d_Mo_leave_52 : decode b_Mo_leave 52 = .ok (.goto (-39), 3) := by decide +kernel
theorem d_Mo_leave_55 : decode b_Mo_leave 55 = .ok (.aload_n 0, 1) := by decide +kernel
theorem d_Mo_leave_56 : decode b_Mo_leave 56 = .ok (.getfield 32, 3) := by decide +kernel
theorem d_Mo_leave_59 : decode b_Mo_leave 59 = .ok (.iload_n 2, 1) := by decide +kernel
theorem d_Mo_leave_60 : decode b_Mo_leave 60 = .ok (.dup2, 1) := by decide +kernel
theorem d_Mo_leave_61 : decode b_Mo_leave 61 = .ok (.iaload, 1) := by decide +kernel
theorem d_Mo_leave_62 : decode b_Mo_leave 62 = .ok (.iconst 1, 1) := by decide +kernel
theorem d_Mo_leave_63 : decode b_Mo_leave 63 = .ok (.isub, 1) := by decide +kernel
theorem d_Mo_leave_64 : decode b_Mo_leave 64 = .ok (.iastore, 1) := by decide +kernel
theorem d_Mo_leave_65 : decode b_Mo_leave 65 = .ok (.return_, 1) := by decide +kernel
theorem d_Mo_placeOf_0 : decode b_Mo_placeOf 0 = .ok (.iconst 0, 1) := by decide +kernel
theorem d_Mo_placeOf_1 : decode b_Mo_placeOf 1 = .ok (.istore_n 2, 1) := by decide +kernel
theorem d_Mo_placeOf_2 : decode b_Mo_placeOf 2 = .ok (.iload_n 1, 1) := by decide +kernel
theorem d_Mo_placeOf_3 : decode b_Mo_placeOf 3 = .ok (.ifCond .le 29, 3) := by decide +kernel
theorem d_Mo_placeOf_6 : decode b_Mo_placeOf 6 = .ok (.aload_n 0, 1) := by decide +kernel
theorem d_Mo_placeOf_7 : decode b_Mo_placeOf 7 = .ok (.getfield 35, 3) := by decide +kernel
theorem d_Mo_placeOf_10 : decode b_Mo_placeOf 10 = .ok (.aload_n 0, 1) := by decide +kernel
theorem d_Mo_placeOf_11 : decode b_Mo_placeOf 11 = .ok (.getfield 29, 3) := by decide +kernel
theorem d_Mo_placeOf_14 : decode b_Mo_placeOf 14 = .ok (.iload_n 1, 1) := by decide +kernel
theorem d_Mo_placeOf_15 : decode b_Mo_placeOf 15 = .ok (.iaload, 1) := by decide +kernel
theorem d_Mo_placeOf_16 : decode b_Mo_placeOf 16 = .ok (.bipush 14, 2) := by decide +kernel
theorem d_Mo_placeOf_18 : decode b_Mo_placeOf 18 = .ok (.imul, 1) := by decide +kernel
theorem d_Mo_placeOf_19 : decode b_Mo_placeOf 19 = .ok (.iload_n 2, 1) := by decide +kernel
theorem d_Mo_placeOf_20 : decode b_Mo_placeOf 20 = .ok (.iadd, 1) := by decide +kernel
theorem d_Mo_placeOf_21 : decode b_Mo_placeOf 21 = .ok (.iaload, 1) := by decide +kernel
theorem d_Mo_placeOf_22 : decode b_Mo_placeOf 22 = .ok (.iload_n 1, 1) := by decide +kernel
theorem d_Mo_placeOf_23 : decode b_Mo_placeOf 23 = .ok (.if_icmp .eq 9, 3) := by decide +kernel
theorem d_Mo_placeOf_26 : decode b_Mo_placeOf 26 = .ok (.iinc 2 1, 3) := by decide +kernel
theorem d_Mo_placeOf_29 : decode b_Mo_placeOf 29 = .ok (.goto (-27), 3) := by decide +kernel
theorem d_Mo_placeOf_32 : decode b_Mo_placeOf 32 = .ok (.iload_n 2, 1) := by decide +kernel
theorem d_Mo_placeOf_33 : decode b_Mo_placeOf 33 = .ok (.ireturn, 1) := by decide +kernel
theorem d_Mo_remove_0 : decode b_Mo_remove 0 = .ok (.aload_n 0, 1) := by decide +kernel
theorem d_Mo_remove_1 : decode b_Mo_remove 1 = .ok (.aload_n 0, 1) := by decide +kernel
theorem d_Mo_remove_2 : decode b_Mo_remove 2 = .ok (.iload_n 1, 1) := by decide +kernel
theorem d_Mo_remove_3 : decode b_Mo_remove 3 = .ok (.invokevirtual 124, 3) := by decide +kernel
theorem d_Mo_remove_6 : decode b_Mo_remove 6 = .ok (.invokevirtual 108, 3) := by decide +kernel
theorem d_Mo_remove_9 : decode b_Mo_remove 9 = .ok (.ifCond .eq 5, 3) := by decide +kernel
theorem d_Mo_remove_12 : decode b_Mo_remove 12 = .ok (.iconst 0, 1) := by decide +kernel
theorem d_Mo_remove_13 : decode b_Mo_remove 13 = .ok (.ireturn, 1) := by decide +kernel
theorem d_Mo_remove_14 : decode b_Mo_remove 14 = .ok (.iconst 0, 1) := by decide +kernel
theorem d_Mo_remove_15 : decode b_Mo_remove 15 = .ok (.istore_n 2, 1) := by decide +kernel
theorem d_Mo_remove_16 : decode b_Mo_remove 16 = .ok (.aload_n 0, 1) := by decide +kernel
theorem d_Mo_remove_17 : decode b_Mo_remove 17 = .ok (.getfield 98, 3) := by decide +kernel
theorem d_Mo_remove_20 : decode b_Mo_remove 20 = .ok (.iconst 1, 1) := by decide +kernel
theorem d_Mo_remove_21 : decode b_Mo_remove 21 = .ok (.isub, 1) := by decide +kernel
theorem d_Mo_remove_22 : decode b_Mo_remove 22 = .ok (.istore_n 3, 1) := by decide +kernel
theorem d_Mo_remove_23 : decode b_Mo_remove 23 = .ok (.iload_n 3, 1) := by decide +kernel
theorem d_Mo_remove_24 : decode b_Mo_remove 24 = .ok (.ifCond .lt 41, 3) := by decide +kernel
theorem d_Mo_remove_27 : decode b_Mo_remove 27 = .ok (.aload_n 0, 1) := by decide +kernel
theorem d_Mo_remove_28 : decode b_Mo_remove 28 = .ok (.getfield 44, 3) := by decide +kernel
theorem d_Mo_remove_31 : decode b_Mo_remove 31 = .ok (.iload_n 3, 1) := by decide +kernel
theorem d_Mo_remove_32 : decode b_Mo_remove 32 = .ok (.iaload, 1) := by decide +kernel
theorem d_Mo_remove_33 : decode b_Mo_remove 33 = .ok (.istore 4, 2) := by decide +kernel
theorem d_Mo_remove_35 : decode b_Mo_remove 35 = .ok (.aload_n 0, 1) := by decide +kernel
theorem d_Mo_remove_36 : decode b_Mo_remove 36 = .ok (.iload 4, 2) := by decide +kernel
theorem d_Mo_remove_38 : decode b_Mo_remove 38 = .ok (.iload_n 1, 1) := by decide +kernel
theorem d_Mo_remove_39 : decode b_Mo_remove 39 = .ok (.invokevirtual 149, 3) := by decide +kernel
theorem d_Mo_remove_42 : decode b_Mo_remove 42 = .ok (.ifCond .ne 6, 3) := by decide +kernel
theorem d_Mo_remove_45 : decode b_Mo_remove 45 = .ok (.goto 14, 3) := by decide +kernel
theorem d_Mo_remove_48 : decode b_Mo_remove 48 = .ok (.iinc 2 1, 3) := by decide +kernel
theorem d_Mo_remove_51 : decode b_Mo_remove 51 = .ok (.aload_n 0, 1) := by decide +kernel
theorem d_Mo_remove_52 : decode b_Mo_remove 52 = .ok (.getfield 7, 3) := by decide +kernel
theorem d_Mo_remove_55 : decode b_Mo_remove 55 = .ok (.iload 4, 2) := by decide +kernel
theorem d_Mo_remove_57 : decode b_Mo_remove 57 = .ok (.iconst 0, 1) := by decide +kernel
theorem d_Mo_remove_58 : decode b_Mo_remove 58 = .ok (.bastore, 1) := by decide +kernel
theorem d_Mo_remove_59 : decode b_Mo_remove 59 = .ok (.iinc 3 (-1), 3) := by decide +kernel
theorem d_Mo_remove_62 : decode b_Mo_remove 62 = .ok (.goto (-39), 3) := by decide +kernel
theorem d_Mo_remove_65 : decode b_Mo_remove 65 = .ok (.aload_n 0, 1) := by decide +kernel
theorem d_Mo_remove_66 : decode b_Mo_remove 66 = .ok (.iload_n 1, 1) := by decide +kernel
theorem d_Mo_remove_67 : decode b_Mo_remove 67 = .ok (.invokevirtual 156, 3) := by decide +kernel
theorem d_Mo_remove_70 : decode b_Mo_remove 70 = .ok (.aload_n 0, 1) := by decide +kernel
theorem d_Mo_remove_71 : decode b_Mo_remove 71 = .ok (.invokevirtual 87, 3) := by decide +kernel
theorem d_Mo_remove_74 : decode b_Mo_remove 74 = .ok (.iload_n 2, 1) := by decide +kernel
theorem d_Mo_remove_75 : decode b_Mo_remove 75 = .ok (.ireturn, 1) := by decide +kernel
theorem d_Mo_paint_0 : decode b_Mo_paint 0 = .ok (.aload_n 0, 1) := by decide +kernel
theorem d_Mo_paint_1 : decode b_Mo_paint 1 = .ok (.dload_n 1, 1) := by decide +kernel
theorem d_Mo_paint_2 : decode b_Mo_paint 2 = .ok (.dconst 0, 1) := by decide +kernel
theorem d_Mo_paint_3 : decode b_Mo_paint 3 = .ok (.ldc2_w 141, 3) := by decide +kernel
theorem d_Mo_paint_6 : decode b_Mo_paint 6 = .ok (.invokestatic 120, 3) := by decide +kernel
theorem d_Mo_paint_9 : decode b_Mo_paint 9 = .ok (.invokevirtual 108, 3) := by decide +kernel
theorem d_Mo_paint_12 : decode b_Mo_paint 12 = .ok (.ifCond .eq 5, 3) := by decide +kernel
theorem d_Mo_paint_15 : decode b_Mo_paint 15 = .ok (.iconst 0, 1) := by decide +kernel
theorem d_Mo_paint_16 : decode b_Mo_paint 16 = .ok (.ireturn, 1) := by decide +kernel
theorem d_Mo_paint_17 : decode b_Mo_paint 17 = .ok (.iconst 0, 1) := by decide +kernel
theorem d_Mo_paint_18 : decode b_Mo_paint 18 = .ok (.istore_n 3, 1) := by decide +kernel
theorem d_Mo_paint_19 : decode b_Mo_paint 19 = .ok (.iconst 0, 1) := by decide +kernel
theorem d_Mo_paint_20 : decode b_Mo_paint 20 = .ok (.istore 4, 2) := by decide +kernel
theorem d_Mo_paint_22 : decode b_Mo_paint 22 = .ok (.iload 4, 2) := by decide +kernel
theorem d_Mo_paint_24 : decode b_Mo_paint 24 = .ok (.sipush 192, 3) := by decide +kernel
theorem d_Mo_paint_27 : decode b_Mo_paint 27 = .ok (.if_icmp .ge 80, 3) := by decide +kernel
theorem d_Mo_paint_30 : decode b_Mo_paint 30 = .ok (.aload_n 0, 1) := by decide +kernel
theorem d_Mo_paint_31 : decode b_Mo_paint 31 = .ok (.iload 4, 2) := by decide +kernel
theorem d_Mo_paint_33 : decode b_Mo_paint 33 = .ok (.bipush 16, 2) := by decide +kernel
theorem d_Mo_paint_35 : decode b_Mo_paint 35 = .ok (.irem, 1) := by decide +kernel
theorem d_Mo_paint_36 : decode b_Mo_paint 36 = .ok (.i2d, 1) := by decide +kernel
theorem d_Mo_paint_37 : decode b_Mo_paint 37 = .ok (.ldc2_w 162, 3) := by decide +kernel
theorem d_Mo_paint_40 : decode b_Mo_paint 40 = .ok (.dadd, 1) := by decide +kernel
theorem d_Mo_paint_41 : decode b_Mo_paint 41 = .ok (.iload 4, 2) := by decide +kernel
theorem d_Mo_paint_43 : decode b_Mo_paint 43 = .ok (.bipush 16, 2) := by decide +kernel
theorem d_Mo_paint_45 : decode b_Mo_paint 45 = .ok (.idiv, 1) := by decide +kernel
theorem d_Mo_paint_46 : decode b_Mo_paint 46 = .ok (.i2d, 1) := by decide +kernel
theorem d_Mo_paint_47 : decode b_Mo_paint 47 = .ok (.ldc2_w 162, 3) := by decide +kernel
theorem d_Mo_paint_50 : decode b_Mo_paint 50 = .ok (.dadd, 1) := by decide +kernel
theorem d_Mo_paint_51 : decode b_Mo_paint 51 = .ok (.dload_n 1, 1) := by decide +kernel
theorem d_Mo_paint_52 : decode b_Mo_paint 52 = .ok (.invokevirtual 178, 3) := by decide +kernel
theorem d_Mo_paint_55 : decode b_Mo_paint 55 = .ok (.aload_n 0, 1) := by decide +kernel
theorem d_Mo_paint_56 : decode b_Mo_paint 56 = .ok (.getfield 84, 3) := by decide +kernel
theorem d_Mo_paint_59 : decode b_Mo_paint 59 = .ok (.iload 4, 2) := by decide +kernel
theorem d_Mo_paint_61 : decode b_Mo_paint 61 = .ok (.aload_n 0, 1) := by decide +kernel
theorem d_Mo_paint_62 : decode b_Mo_paint 62 = .ok (.getfield 16, 3) := by decide +kernel
theorem d_Mo_paint_65 : decode b_Mo_paint 65 = .ok (.iconst 0, 1) := by decide +kernel
theorem d_Mo_paint_66 : decode b_Mo_paint 66 = .ok (.baload, 1) := by decide +kernel
theorem d_Mo_paint_67 : decode b_Mo_paint 67 = .ok (.ifCond .eq 19, 3) := by decide +kernel
theorem d_Mo_paint_70 : decode b_Mo_paint 70 = .ok (.aload_n 0, 1) := by decide +kernel
theorem d_Mo_paint_71 : decode b_Mo_paint 71 = .ok (.aload_n 0, 1) := by decide +kernel
theorem d_Mo_paint_72 : decode b_Mo_paint 72 = .ok (.getfield 47, 3) := by decide +kernel
theorem d_Mo_paint_75 : decode b_Mo_paint 75 = .ok (.iconst 0, 1) := by decide +kernel
theorem d_Mo_paint_76 : decode b_Mo_paint 76 = .ok (.iaload, 1) := by decide +kernel
theorem d_Mo_paint_77 : decode b_Mo_paint 77 = .ok (.iconst 3, 1) := by decide +kernel
theorem d_Mo_paint_78 : decode b_Mo_paint 78 = .ok (.dload_n 1, 1) := by decide +kernel
theorem d_Mo_paint_79 : decode b_Mo_paint 79 = .ok (.invokevirtual 168, 3) := by decide +kernel
theorem d_Mo_paint_82 : decode b_Mo_paint 82 = .ok (.d2i, 1) := by decide +kernel
theorem d_Mo_paint_83 : decode b_Mo_paint 83 = .ok (.goto 4, 3) := by decide +kernel
theorem d_Mo_paint_86 : decode b_Mo_paint 86 = .ok (.iconst 0, 1) := by decide +kernel
theorem d_Mo_paint_87 : decode b_Mo_paint 87 = .ok (.iastore, 1) := by decide +kernel
theorem d_Mo_paint_88 : decode b_Mo_paint 88 = .ok (.aload_n 0, 1) := by decide +kernel
theorem d_Mo_paint_89 : decode b_Mo_paint 89 = .ok (.getfield 84, 3) := by decide +kernel
theorem d_Mo_paint_92 : decode b_Mo_paint 92 = .ok (.iload 4, 2) := by decide +kernel
theorem d_Mo_paint_94 : decode b_Mo_paint 94 = .ok (.iaload, 1) := by decide +kernel
theorem d_Mo_paint_95 : decode b_Mo_paint 95 = .ok (.ifCond .eq 6, 3) := by decide +kernel
theorem d_Mo_paint_98 : decode b_Mo_paint 98 = .ok (.iinc 3 1, 3) := by decide +kernel
theorem d_Mo_paint_101 : decode b_Mo_paint 101 = .ok (.iinc 4 1, 3) := by decide +kernel
theorem d_Mo_paint_104 : decode b_Mo_paint 104 = .ok (.goto (-82), 3) := by decide +kernel
theorem d_Mo_paint_107 : decode b_Mo_paint 107 = .ok (.aload_n 0, 1) := by decide +kernel
theorem d_Mo_paint_108 : decode b_Mo_paint 108 = .ok (.dup, 1) := by decide +kernel
theorem d_Mo_paint_109 : decode b_Mo_paint 109 = .ok (.getfield 182, 3) := by decide +kernel
theorem d_Mo_paint_112 : decode b_Mo_paint 112 = .ok (.iconst 1, 1) := by decide +kernel
theorem d_Mo_paint_113 : decode b_Mo_paint 113 = .ok (.iadd, 1) := by decide +kernel
theorem d_Mo_paint_114 : decode b_Mo_paint 114 = .ok (.putfield 182, 3) := by decide +kernel
theorem d_Mo_paint_117 : decode b_Mo_paint 117 = .ok (.iload_n 3, 1) := by decide +kernel
theorem d_Mo_paint_118 : decode b_Mo_paint 118 = .ok (.ireturn, 1) := by decide +kernel
theorem d_Mo_look_0 : decode b_Mo_look 0 = .ok (.iconst 0, 1) := by decide +kernel
theorem d_Mo_look_1 : decode b_Mo_look 1 = .ok (.istore 7, 2) := by decide +kernel
theorem d_Mo_look_3 : decode b_Mo_look 3 = .ok (.iload 7, 2) := by decide +kernel
theorem d_Mo_look_5 : decode b_Mo_look 5 = .ok (.aload_n 0, 1) := by decide +kernel
theorem d_Mo_look_6 : decode b_Mo_look 6 = .ok (.getfield 98, 3) := by decide +kernel
theorem d_Mo_look_9 : decode b_Mo_look 9 = .ok (.if_icmp .ge 264, 3) := by decide +kernel
theorem d_Mo_look_12 : decode b_Mo_look 12 = .ok (.aload_n 0, 1) := by decide +kernel
theorem d_Mo_look_13 : decode b_Mo_look 13 = .ok (.getfield 44, 3) := by decide +kernel
theorem d_Mo_look_16 : decode b_Mo_look 16 = .ok (.iload 7, 2) := by decide +kernel
theorem d_Mo_look_18 : decode b_Mo_look 18 = .ok (.iaload, 1) := by decide +kernel
theorem d_Mo_look_19 : decode b_Mo_look 19 = .ok (.istore 8, 2) := by decide +kernel
theorem d_Mo_look_21 : decode b_Mo_look 21 = .ok (.dload_n 1, 1) := by decide +kernel
theorem d_Mo_look_22 : decode b_Mo_look 22 = .ok (.dstore 9, 2) := by decide +kernel
theorem d_Mo_look_24 : decode b_Mo_look 24 = .ok (.dload_n 3, 1) := by decide +kernel
theorem d_Mo_look_25 : decode b_Mo_look 25 = .ok (.dstore 11, 2) := by decide +kernel
theorem d_Mo_look_27 : decode b_Mo_look 27 = .ok (.iload 8, 2) := by decide +kernel
theorem d_Mo_look_29 : decode b_Mo_look 29 = .ok (.ifCond .le 51, 3) := by decide +kernel
theorem d_Mo_look_32 : decode b_Mo_look 32 = .ok (.aload_n 0, 1) := by decide +kernel
theorem d_Mo_look_33 : decode b_Mo_look 33 = .ok (.getfield 72, 3) := by decide +kernel
theorem d_Mo_look_36 : decode b_Mo_look 36 = .ok (.aload_n 0, 1) := by decide +kernel
theorem d_Mo_look_37 : decode b_Mo_look 37 = .ok (.getfield 29, 3) := by decide +kernel
theorem d_Mo_look_40 : decode b_Mo_look 40 = .ok (.iload 8, 2) := by decide +kernel
theorem d_Mo_look_42 : decode b_Mo_look 42 = .ok (.iaload, 1) := by decide +kernel
theorem d_Mo_look_43 : decode b_Mo_look 43 = .ok (.daload, 1) := by decide +kernel
theorem d_Mo_look_44 : decode b_Mo_look 44 = .ok (.aload_n 0, 1) := by decide +kernel
theorem d_Mo_look_45 : decode b_Mo_look 45 = .ok (.iload 8, 2) := by decide +kernel
theorem d_Mo_look_47 : decode b_Mo_look 47 = .ok (.iconst 0, 1) := by decide +kernel
theorem d_Mo_look_48 : decode b_Mo_look 48 = .ok (.dload 5, 2) := by decide +kernel
theorem d_Mo_look_50 : decode b_Mo_look 50 = .ok (.invokevirtual 168, 3) := by decide +kernel
theorem d_Mo_look_53 : decode b_Mo_look 53 = .ok (.dsub, 1) := by decide +kernel
theorem d_Mo_look_54 : decode b_Mo_look 54 = .ok (.dstore 9, 2) := by decide +kernel
theorem d_Mo_look_56 : decode b_Mo_look 56 = .ok (.aload_n 0, 1) := by decide +kernel
theorem d_Mo_look_57 : decode b_Mo_look 57 = .ok (.getfield 75, 3) := by decide +kernel
theorem d_Mo_look_60 : decode b_Mo_look 60 = .ok (.aload_n 0, 1) := by decide +kernel
theorem d_Mo_look_61 : decode b_Mo_look 61 = .ok (.getfield 29, 3) := by decide +kernel
theorem d_Mo_look_64 : decode b_Mo_look 64 = .ok (.iload 8, 2) := by decide +kernel
theorem d_Mo_look_66 : decode b_Mo_look 66 = .ok (.iaload, 1) := by decide +kernel
theorem d_Mo_look_67 : decode b_Mo_look 67 = .ok (.daload, 1) := by decide +kernel
theorem d_Mo_look_68 : decode b_Mo_look 68 = .ok (.aload_n 0, 1) := by decide +kernel
theorem d_Mo_look_69 : decode b_Mo_look 69 = .ok (.iload 8, 2) := by decide +kernel
theorem d_Mo_look_71 : decode b_Mo_look 71 = .ok (.iconst 1, 1) := by decide +kernel
theorem d_Mo_look_72 : decode b_Mo_look 72 = .ok (.dload 5, 2) := by decide +kernel
theorem d_Mo_look_74 : decode b_Mo_look 74 = .ok (.invokevirtual 168, 3) := by decide +kernel
theorem d_Mo_look_77 : decode b_Mo_look 77 = .ok (.dsub, 1) := by decide +kernel
theorem d_Mo_look_78 : decode b_Mo_look 78 = .ok (.dstore 11, 2) := by decide +kernel
theorem d_Mo_look_80 : decode b_Mo_look 80 = .ok (.iconst 0, 1) := by decide +kernel
theorem d_Mo_look_81 : decode b_Mo_look 81 = .ok (.istore 13, 2) := by decide +kernel
theorem d_Mo_look_83 : decode b_Mo_look 83 = .ok (.iload 13, 2) := by decide +kernel
theorem d_Mo_look_85 : decode b_Mo_look 85 = .ok (.aload_n 0, 1) := by decide +kernel
theorem d_Mo_look_86 : decode b_Mo_look 86 = .ok (.getfield 38, 3) := by decide +kernel
theorem d_Mo_look_89 : decode b_Mo_look 89 = .ok (.iload 8, 2) := by decide +kernel
theorem d_Mo_look_91 : decode b_Mo_look 91 = .ok (.iaload, 1) := by decide +kernel
theorem d_Mo_look_92 : decode b_Mo_look 92 = .ok (.if_icmp .ge 22, 3) := by decide +kernel
theorem d_Mo_look_95 : decode b_Mo_look 95 = .ok (.dload 9, 2) := by decide +kernel
theorem d_Mo_look_97 : decode b_Mo_look 97 = .ok (.dneg, 1) := by decide +kernel
theorem d_Mo_look_98 : decode b_Mo_look 98 = .ok (.dstore 14, 2) := by decide +kernel
theorem d_Mo_look_100 : decode b_Mo_look 100 = .ok (.dload 11, 2) := by decide +kernel
theorem d_Mo_look_102 : decode b_Mo_look 102 = .ok (.dstore 9, 2) := by decide +kernel
theorem d_Mo_look_104 : decode b_Mo_look 104 = .ok (.dload 14, 2) := by decide +kernel
theorem d_Mo_look_106 : decode b_Mo_look 106 = .ok (.dstore 11, 2) := by decide +kernel
theorem d_Mo_look_108 : decode b_Mo_look 108 = .ok (.iinc 13 1, 3) := by decide +kernel
theorem d_Mo_look_111 : decode b_Mo_look 111 = .ok (.goto (-28), 3) := by decide +kernel
theorem d_Mo_look_114 : decode b_Mo_look 114 = .ok (.iload 8, 2) := by decide +kernel
theorem d_Mo_look_116 : decode b_Mo_look 116 = .ok (.ifCond .le 18, 3) := by decide +kernel
theorem d_Mo_look_119 : decode b_Mo_look 119 = .ok (.aload_n 0, 1) := by decide +kernel
theorem d_Mo_look_120 : decode b_Mo_look 120 = .ok (.iload 8, 2) := by decide +kernel
theorem d_Mo_look_122 : decode b_Mo_look 122 = .ok (.iconst 2, 1) := by decide +kernel
theorem d_Mo_look_123 : decode b_Mo_look 123 = .ok (.dload 5, 2) := by decide +kernel
theorem d_Mo_look_125 : decode b_Mo_look 125 = .ok (.invokevirtual 168, 3) := by decide +kernel
theorem d_Mo_look_128 : decode b_Mo_look 128 = .ok (.invokestatic 172, 3) := by decide +kernel
theorem d_Mo_look_131 : decode b_Mo_look 131 = .ok (.goto 4, 3) := by decide +kernel
theorem d_Mo_look_134 : decode b_Mo_look 134 = .ok (.dconst 1, 1) := by decide +kernel
theorem d_Mo_look_135 : decode b_Mo_look 135 = .ok (.dstore 13, 2) := by decide +kernel
theorem d_Mo_look_137 : decode b_Mo_look 137 = .ok (.aload_n 0, 1) := by decide +kernel
theorem d_Mo_look_138 : decode b_Mo_look 138 = .ok (.getfield 72, 3) := by decide +kernel
theorem d_Mo_look_141 : decode b_Mo_look 141 = .ok (.iload 8, 2) := by decide +kernel
theorem d_Mo_look_143 : decode b_Mo_look 143 = .ok (.dload 9, 2) := by decide +kernel
theorem d_Mo_look_145 : decode b_Mo_look 145 = .ok (.dload 13, 2) := by decide +kernel
theorem d_Mo_look_147 : decode b_Mo_look 147 = .ok (.ddiv, 1) := by decide +kernel
theorem d_Mo_look_148 : decode b_Mo_look 148 = .ok (.dastore, 1) := by decide +kernel
theorem d_Mo_look_149 : decode b_Mo_look 149 = .ok (.aload_n 0, 1) := by decide +kernel
theorem d_Mo_look_150 : decode b_Mo_look 150 = .ok (.getfield 75, 3) := by decide +kernel
theorem d_Mo_look_153 : decode b_Mo_look 153 = .ok (.iload 8, 2) := by decide +kernel
theorem d_Mo_look_155 : decode b_Mo_look 155 = .ok (.dload 11, 2) := by decide +kernel
theorem d_Mo_look_157 : decode b_Mo_look 157 = .ok (.dload 13, 2) := by decide +kernel
theorem d_Mo_look_159 : decode b_Mo_look 159 = .ok (.ddiv, 1) := by decide +kernel
theorem d_Mo_look_160 : decode b_Mo_look 160 = .ok (.dastore, 1) := by decide +kernel
theorem d_Mo_look_161 : decode b_Mo_look 161 = .ok (.aload_n 0, 1) := by decide +kernel
theorem d_Mo_look_162 : decode b_Mo_look 162 = .ok (.getfield 22, 3) := by decide +kernel
theorem d_Mo_look_165 : decode b_Mo_look 165 = .ok (.iload 8, 2) := by decide +kernel
theorem d_Mo_look_167 : decode b_Mo_look 167 = .ok (.iaload, 1) := by decide +kernel
theorem d_Mo_look_168 : decode b_Mo_look 168 = .ok (.ifCond .gt 99, 3) := by decide +kernel
theorem d_Mo_look_171 : decode b_Mo_look 171 = .ok (.aload_n 0, 1) := by decide +kernel
theorem d_Mo_look_172 : decode b_Mo_look 172 = .ok (.getfield 26, 3) := by decide +kernel
theorem d_Mo_look_175 : decode b_Mo_look 175 = .ok (.iload 8, 2) := by decide +kernel
theorem d_Mo_look_177 : decode b_Mo_look 177 = .ok (.iaload, 1) := by decide +kernel
theorem d_Mo_look_178 : decode b_Mo_look 178 = .ok (.iconst 2, 1) := by decide +kernel
theorem d_Mo_look_179 : decode b_Mo_look 179 = .ok (.if_icmp .eq 6, 3) := by decide +kernel
theorem d_Mo_look_182 : decode b_Mo_look 182 = .ok (.goto 85, 3) := by decide +kernel
theorem d_Mo_look_185 : decode b_Mo_look 185 = .ok (.aload_n 0, 1) := by decide +kernel
theorem d_Mo_look_186 : decode b_Mo_look 186 = .ok (.getfield 72, 3) := by decide +kernel
theorem d_Mo_look_189 : decode b_Mo_look 189 = .ok (.iload 8, 2) := by decide +kernel
theorem d_Mo_look_191 : decode b_Mo_look 191 = .ok (.aload_n 0, 1) := by decide +kernel
theorem d_Mo_look_192 : decode b_Mo_look 192 = .ok (.getfield 72, 3) := by decide +kernel
theorem d_Mo_look_195 : decode b_Mo_look 195 = .ok (.iload 8, 2) := by decide +kernel
theorem d_Mo_look_197 : decode b_Mo_look 197 = .ok (.daload, 1) := by decide +kernel
theorem d_Mo_look_198 : decode b_Mo_look 198 = .ok (.aload_n 0, 1) := by decide +kernel
theorem d_Mo_look_199 : decode b_Mo_look 199 = .ok (.getfield 53, 3) := by decide +kernel
theorem d_Mo_look_202 : decode b_Mo_look 202 = .ok (.iload 8, 2) := by decide +kernel
theorem d_Mo_look_204 : decode b_Mo_look 204 = .ok (.daload, 1) := by decide +kernel
theorem d_Mo_look_205 : decode b_Mo_look 205 = .ok (.aload_n 0, 1) := by decide +kernel
theorem d_Mo_look_206 : decode b_Mo_look 206 = .ok (.getfield 72, 3) := by decide +kernel
theorem d_Mo_look_209 : decode b_Mo_look 209 = .ok (.iload 8, 2) := by decide +kernel
theorem d_Mo_look_211 : decode b_Mo_look 211 = .ok (.daload, 1) := by decide +kernel
theorem d_Mo_look_212 : decode b_Mo_look 212 = .ok (.aload_n 0, 1) := by decide +kernel
theorem d_Mo_look_213 : decode b_Mo_look 213 = .ok (.getfield 53, 3) := by decide +kernel
theorem d_Mo_look_216 : decode b_Mo_look 216 = .ok (.iload 8, 2) := by decide +kernel
theorem d_Mo_look_218 : decode b_Mo_look 218 = .ok (.daload, 1) := by decide +kernel
theorem d_Mo_look_219 : decode b_Mo_look 219 = .ok (.ddiv, 1) := by decide +kernel
theorem d_Mo_look_220 : decode b_Mo_look 220 = .ok (.invokestatic 131, 3) := by decide +kernel
theorem d_Mo_look_223 : decode b_Mo_look 223 = .ok (.dmul, 1) := by decide +kernel
theorem d_Mo_look_224 : decode b_Mo_look 224 = .ok (.dsub, 1) := by decide +kernel
theorem d_Mo_look_225 : decode b_Mo_look 225 = .ok (.dastore, 1) := by decide +kernel
theorem d_Mo_look_226 : decode b_Mo_look 226 = .ok (.aload_n 0, 1) := by decide +kernel
theorem d_Mo_look_227 : decode b_Mo_look 227 = .ok (.getfield 75, 3) := by decide +kernel
theorem d_Mo_look_230 : decode b_Mo_look 230 = .ok (.iload 8, 2) := by decide +kernel
theorem d_Mo_look_232 : decode b_Mo_look 232 = .ok (.aload_n 0, 1) := by decide +kernel
theorem d_Mo_look_233 : decode b_Mo_look 233 = .ok (.getfield 75, 3) := by decide +kernel
theorem d_Mo_look_236 : decode b_Mo_look 236 = .ok (.iload 8, 2) := by decide +kernel
theorem d_Mo_look_238 : decode b_Mo_look 238 = .ok (.daload, 1) := by decide +kernel
theorem d_Mo_look_239 : decode b_Mo_look 239 = .ok (.aload_n 0, 1) := by decide +kernel
theorem d_Mo_look_240 : decode b_Mo_look 240 = .ok (.getfield 53, 3) := by decide +kernel
theorem d_Mo_look_243 : decode b_Mo_look 243 = .ok (.iload 8, 2) := by decide +kernel
theorem d_Mo_look_245 : decode b_Mo_look 245 = .ok (.daload, 1) := by decide +kernel
theorem d_Mo_look_246 : decode b_Mo_look 246 = .ok (.aload_n 0, 1) := by decide +kernel
theorem d_Mo_look_247 : decode b_Mo_look 247 = .ok (.getfield 75, 3) := by decide +kernel
theorem d_Mo_look_250 : decode b_Mo_look 250 = .ok (.iload 8, 2) := by decide +kernel
theorem d_Mo_look_252 : decode b_Mo_look 252 = .ok (.daload, 1) := by decide +kernel
theorem d_Mo_look_253 : decode b_Mo_look 253 = .ok (.aload_n 0, 1) := by decide +kernel
theorem d_Mo_look_254 : decode b_Mo_look 254 = .ok (.getfield 53, 3) := by decide +kernel
theorem d_Mo_look_257 : decode b_Mo_look 257 = .ok (.iload 8, 2) := by decide +kernel
theorem d_Mo_look_259 : decode b_Mo_look 259 = .ok (.daload, 1) := by decide +kernel
theorem d_Mo_look_260 : decode b_Mo_look 260 = .ok (.ddiv, 1) := by decide +kernel
theorem d_Mo_look_261 : decode b_Mo_look 261 = .ok (.invokestatic 131, 3) := by decide +kernel
theorem d_Mo_look_264 : decode b_Mo_look 264 = .ok (.dmul, 1) := by decide +kernel
theorem d_Mo_look_265 : decode b_Mo_look 265 = .ok (.dsub, 1) := by decide +kernel
theorem d_Mo_look_266 : decode b_Mo_look 266 = .ok (.dastore, 1) := by decide +kernel
theorem d_Mo_look_267 : decode b_Mo_look 267 = .ok (.iinc 7 1, 3) := by decide +kernel
theorem d_Mo_look_270 : decode b_Mo_look 270 = .ok (.goto (-267), 3) := by decide +kernel
theorem d_Mo_look_273 : decode b_Mo_look 273 = .ok (.aload_n 0, 1) := by decide +kernel
theorem d_Mo_look_274 : decode b_Mo_look 274 = .ok (.getfield 98, 3) := by decide +kernel
theorem d_Mo_look_277 : decode b_Mo_look 277 = .ok (.iconst 1, 1) := by decide +kernel
theorem d_Mo_look_278 : decode b_Mo_look 278 = .ok (.isub, 1) := by decide +kernel
theorem d_Mo_look_279 : decode b_Mo_look 279 = .ok (.istore 7, 2) := by decide +kernel
theorem d_Mo_look_281 : decode b_Mo_look 281 = .ok (.iload 7, 2) := by decide +kernel
theorem d_Mo_look_283 : decode b_Mo_look 283 = .ok (.ifCond .lt 20, 3) := by decide +kernel
theorem d_Mo_look_286 : decode b_Mo_look 286 = .ok (.aload_n 0, 1) := by decide +kernel
theorem d_Mo_look_287 : decode b_Mo_look 287 = .ok (.aload_n 0, 1) := by decide +kernel
theorem d_Mo_look_288 : decode b_Mo_look 288 = .ok (.getfield 44, 3) := by decide +kernel
theorem d_Mo_look_291 : decode b_Mo_look 291 = .ok (.iload 7, 2) := by decide +kernel
theorem d_Mo_look_293 : decode b_Mo_look 293 = .ok (.iaload, 1) := by decide +kernel
theorem d_Mo_look_294 : decode b_Mo_look 294 = .ok (.invokevirtual 175, 3) := by decide +kernel
theorem d_Mo_look_297 : decode b_Mo_look 297 = .ok (.iinc 7 (-1), 3) := by decide +kernel
theorem d_Mo_look_300 : decode b_Mo_look 300 = .ok (.goto (-19), 3) := by decide +kernel
theorem d_Mo_look_303 : decode b_Mo_look 303 = .ok (.return_, 1) := by decide +kernel
theorem d_Mo_at_0 : decode b_Mo_at 0 = .ok (.iload_n 1, 1) := by decide +kernel
theorem d_Mo_at_1 : decode b_Mo_at 1 = .ok (.iconst 4, 1) := by decide +kernel
theorem d_Mo_at_2 : decode b_Mo_at 2 = .ok (.imul, 1) := by decide +kernel
theorem d_Mo_at_3 : decode b_Mo_at 3 = .ok (.iload_n 2, 1) := by decide +kernel
theorem d_Mo_at_4 : decode b_Mo_at 4 = .ok (.iadd, 1) := by decide +kernel
theorem d_Mo_at_5 : decode b_Mo_at 5 = .ok (.istore 5, 2) := by decide +kernel
theorem d_Mo_at_7 : decode b_Mo_at 7 = .ok (.aload_n 0, 1) := by decide +kernel
theorem d_Mo_at_8 : decode b_Mo_at 8 = .ok (.getfield 41, 3) := by decide +kernel
theorem d_Mo_at_11 : decode b_Mo_at 11 = .ok (.iload 5, 2) := by decide +kernel
theorem d_Mo_at_13 : decode b_Mo_at 13 = .ok (.iaload, 1) := by decide +kernel
theorem d_Mo_at_14 : decode b_Mo_at 14 = .ok (.istore 6, 2) := by decide +kernel
theorem d_Mo_at_16 : decode b_Mo_at 16 = .ok (.iload 6, 2) := by decide +kernel
theorem d_Mo_at_18 : decode b_Mo_at 18 = .ok (.ifCond .ne 11, 3) := by decide +kernel
theorem d_Mo_at_21 : decode b_Mo_at 21 = .ok (.aload_n 0, 1) := by decide +kernel
theorem d_Mo_at_22 : decode b_Mo_at 22 = .ok (.getfield 63, 3) := by decide +kernel
theorem d_Mo_at_25 : decode b_Mo_at 25 = .ok (.iload 5, 2) := by decide +kernel
theorem d_Mo_at_27 : decode b_Mo_at 27 = .ok (.daload, 1) := by decide +kernel
theorem d_Mo_at_28 : decode b_Mo_at 28 = .ok (.dreturn, 1) := by decide +kernel
theorem d_Mo_at_29 : decode b_Mo_at 29 = .ok (.iconst 0, 1) := by decide +kernel
theorem d_Mo_at_30 : decode b_Mo_at 30 = .ok (.istore 7, 2) := by decide +kernel
theorem d_Mo_at_32 : decode b_Mo_at 32 = .ok (.iload 7, 2) := by decide +kernel
theorem d_Mo_at_34 : decode b_Mo_at 34 = .ok (.iconst 1, 1) := by decide +kernel
theorem d_Mo_at_35 : decode b_Mo_at 35 = .ok (.iadd, 1) := by decide +kernel
theorem d_Mo_at_36 : decode b_Mo_at 36 = .ok (.iload 6, 2) := by decide +kernel
theorem d_Mo_at_38 : decode b_Mo_at 38 = .ok (.if_icmp .ge 28, 3) := by decide +kernel
theorem d_Mo_at_41 : decode b_Mo_at 41 = .ok (.aload_n 0, 1) := by decide +kernel
theorem d_Mo_at_42 : decode b_Mo_at 42 = .ok (.getfield 66, 3) := by decide +kernel
theorem d_Mo_at_45 : decode b_Mo_at 45 = .ok (.iload 5, 2) := by decide +kernel
theorem d_Mo_at_47 : decode b_Mo_at 47 = .ok (.iconst 4, 1) := by decide +kernel
theorem d_Mo_at_48 : decode b_Mo_at 48 = .ok (.imul, 1) := by decide +kernel
theorem d_Mo_at_49 : decode b_Mo_at 49 = .ok (.iload 7, 2) := by decide +kernel
theorem d_Mo_at_51 : decode b_Mo_at 51 = .ok (.iadd, 1) := by decide +kernel
theorem d_Mo_at_52 : decode b_Mo_at 52 = .ok (.iconst 1, 1) := by decide +kernel
theorem d_Mo_at_53 : decode b_Mo_at 53 = .ok (.iadd, 1) := by decide +kernel
theorem d_Mo_at_54 : decode b_Mo_at 54 = .ok (.daload, 1) := by decide +kernel
theorem d_Mo_at_55 : decode b_Mo_at 55 = .ok (.dload_n 3, 1) := by decide +kernel
theorem d_Mo_at_56 : decode b_Mo_at 56 = .ok (.dcmp .g, 1) := by decide +kernel
theorem d_Mo_at_57 : decode b_Mo_at 57 = .ok (.ifCond .gt 9, 3) := by decide +kernel
theorem d_Mo_at_60 : decode b_Mo_at 60 = .ok (.iinc 7 1, 3) := by decide +kernel
theorem d_Mo_at_63 : decode b_Mo_at 63 = .ok (.goto (-31), 3) := by decide +kernel
theorem d_Mo_at_66 : decode b_Mo_at 66 = .ok (.aload_n 0, 1) := by decide +kernel
theorem d_Mo_at_67 : decode b_Mo_at 67 = .ok (.getfield 69, 3) := by decide +kernel
theorem d_Mo_at_70 : decode b_Mo_at 70 = .ok (.iload 5, 2) := by decide +kernel
theorem d_Mo_at_72 : decode b_Mo_at 72 = .ok (.iconst 4, 1) := by decide +kernel
theorem d_Mo_at_73 : decode b_Mo_at 73 = .ok (.imul, 1) := by decide +kernel
theorem d_Mo_at_74 : decode b_Mo_at 74 = .ok (.iload 7, 2) := by decide +kernel
theorem d_Mo_at_76 : decode b_Mo_at 76 = .ok (.iadd, 1) := by decide +kernel
theorem d_Mo_at_77 : decode b_Mo_at 77 = .ok (.daload, 1) := by decide +kernel
theorem d_Mo_at_78 : decode b_Mo_at 78 = .ok (.dstore 8, 2) := by decide +kernel
theorem d_Mo_at_80 : decode b_Mo_at 80 = .ok (.aload_n 0, 1) := by decide +kernel
theorem d_Mo_at_81 : decode b_Mo_at 81 = .ok (.getfield 66, 3) := by decide +kernel
theorem d_Mo_at_84 : decode b_Mo_at 84 = .ok (.iload 5, 2) := by decide +kernel
theorem d_Mo_at_86 : decode b_Mo_at 86 = .ok (.iconst 4, 1) := by decide +kernel
theorem d_Mo_at_87 : decode b_Mo_at 87 = .ok (.imul, 1) := by decide +kernel
theorem d_Mo_at_88 : decode b_Mo_at 88 = .ok (.iload 7, 2) := by decide +kernel
theorem d_Mo_at_90 : decode b_Mo_at 90 = .ok (.iadd, 1) := by decide +kernel
theorem d_Mo_at_91 : decode b_Mo_at 91 = .ok (.daload, 1) := by decide +kernel
theorem d_Mo_at_92 : decode b_Mo_at 92 = .ok (.dstore 10, 2) := by decide +kernel
theorem d_Mo_at_94 : decode b_Mo_at 94 = .ok (.iload_n 2, 1) := by decide +kernel
theorem d_Mo_at_95 : decode b_Mo_at 95 = .ok (.iconst 1, 1) := by decide +kernel
theorem d_Mo_at_96 : decode b_Mo_at 96 = .ok (.if_icmp .gt 19, 3) := by decide +kernel
theorem d_Mo_at_99 : decode b_Mo_at 99 = .ok (.dload_n 3, 1) := by decide +kernel
theorem d_Mo_at_100 : decode b_Mo_at 100 = .ok (.dload 10, 2) := by decide +kernel
theorem d_Mo_at_102 : decode b_Mo_at 102 = .ok (.dcmp .g, 1) := by decide +kernel
theorem d_Mo_at_103 : decode b_Mo_at 103 = .ok (.ifCond .le 12, 3) := by decide +kernel
theorem d_Mo_at_106 : decode b_Mo_at 106 = .ok (.iload 7, 2) := by decide +kernel
theorem d_Mo_at_108 : decode b_Mo_at 108 = .ok (.iconst 1, 1) := by decide +kernel
theorem d_Mo_at_109 : decode b_Mo_at 109 = .ok (.iadd, 1) := by decide +kernel
theorem d_Mo_at_110 : decode b_Mo_at 110 = .ok (.iload 6, 2) := by decide +kernel
theorem d_Mo_at_112 : decode b_Mo_at 112 = .ok (.if_icmp .ne 6, 3) := by decide +kernel
theorem d_Mo_at_115 : decode b_Mo_at 115 = .ok (.dload 8, 2) := by decide +kernel
theorem d_Mo_at_117 : decode b_Mo_at 117 = .ok (.dreturn, 1) := by decide +kernel
theorem d_Mo_at_118 : decode b_Mo_at 118 = .ok (.aload_n 0, 1) := by decide +kernel
theorem d_Mo_at_119 : decode b_Mo_at 119 = .ok (.getfield 66, 3) := by decide +kernel
theorem d_Mo_at_122 : decode b_Mo_at 122 = .ok (.iload 5, 2) := by decide +kernel
theorem d_Mo_at_124 : decode b_Mo_at 124 = .ok (.iconst 4, 1) := by decide +kernel
theorem d_Mo_at_125 : decode b_Mo_at 125 = .ok (.imul, 1) := by decide +kernel
theorem d_Mo_at_126 : decode b_Mo_at 126 = .ok (.iload 7, 2) := by decide +kernel
theorem d_Mo_at_128 : decode b_Mo_at 128 = .ok (.iadd, 1) := by decide +kernel
theorem d_Mo_at_129 : decode b_Mo_at 129 = .ok (.iconst 1, 1) := by decide +kernel
theorem d_Mo_at_130 : decode b_Mo_at 130 = .ok (.iadd, 1) := by decide +kernel
theorem d_Mo_at_131 : decode b_Mo_at 131 = .ok (.daload, 1) := by decide +kernel
theorem d_Mo_at_132 : decode b_Mo_at 132 = .ok (.dstore 12, 2) := by decide +kernel
theorem d_Mo_at_134 : decode b_Mo_at 134 = .ok (.aload_n 0, 1) := by decide +kernel
theorem d_Mo_at_135 : decode b_Mo_at 135 = .ok (.getfield 69, 3) := by decide +kernel
theorem d_Mo_at_138 : decode b_Mo_at 138 = .ok (.iload 5, 2) := by decide +kernel
theorem d_Mo_at_140 : decode b_Mo_at 140 = .ok (.iconst 4, 1) := by decide +kernel
theorem d_Mo_at_141 : decode b_Mo_at 141 = .ok (.imul, 1) := by decide +kernel
theorem d_Mo_at_142 : decode b_Mo_at 142 = .ok (.iload 7, 2) := by decide +kernel
theorem d_Mo_at_144 : decode b_Mo_at 144 = .ok (.iadd, 1) := by decide +kernel
theorem d_Mo_at_145 : decode b_Mo_at 145 = .ok (.iconst 1, 1) := by decide +kernel
theorem d_Mo_at_146 : decode b_Mo_at 146 = .ok (.iadd, 1) := by decide +kernel
theorem d_Mo_at_147 : decode b_Mo_at 147 = .ok (.daload, 1) := by decide +kernel
theorem d_Mo_at_148 : decode b_Mo_at 148 = .ok (.dstore 14, 2) := by decide +kernel
theorem d_Mo_at_150 : decode b_Mo_at 150 = .ok (.dload 8, 2) := by decide +kernel
theorem d_Mo_at_152 : decode b_Mo_at 152 = .ok (.dload 14, 2) := by decide +kernel
theorem d_Mo_at_154 : decode b_Mo_at 154 = .ok (.dload 8, 2) := by decide +kernel
theorem d_Mo_at_156 : decode b_Mo_at 156 = .ok (.dsub, 1) := by decide +kernel
theorem d_Mo_at_157 : decode b_Mo_at 157 = .ok (.dload_n 3, 1) := by decide +kernel
theorem d_Mo_at_158 : decode b_Mo_at 158 = .ok (.dload 10, 2) := by decide +kernel
theorem d_Mo_at_160 : decode b_Mo_at 160 = .ok (.dsub, 1) := by decide +kernel
theorem d_Mo_at_161 : decode b_Mo_at 161 = .ok (.dmul, 1) := by decide +kernel
theorem d_Mo_at_162 : decode b_Mo_at 162 = .ok (.dload 12, 2) := by decide +kernel
theorem d_Mo_at_164 : decode b_Mo_at 164 = .ok (.dload 10, 2) := by decide +kernel
theorem d_Mo_at_166 : decode b_Mo_at 166 = .ok (.dsub, 1) := by decide +kernel
theorem d_Mo_at_167 : decode b_Mo_at 167 = .ok (.ddiv, 1) := by decide +kernel
theorem d_Mo_at_168 : decode b_Mo_at 168 = .ok (.ldc2_w 147, 3) := by decide +kernel
theorem d_Mo_at_171 : decode b_Mo_at 171 = .ok (.dmul, 1) := by decide +kernel
theorem d_Mo_at_172 : decode b_Mo_at 172 = .ok (.invokestatic 131, 3) := by decide +kernel
theorem d_Mo_at_175 : decode b_Mo_at 175 = .ok (.ldc2_w 147, 3) := by decide +kernel
theorem d_Mo_at_178 : decode b_Mo_at 178 = .ok (.ddiv, 1) := by decide +kernel
theorem d_Mo_at_179 : decode b_Mo_at 179 = .ok (.dadd, 1) := by decide +kernel
theorem d_Mo_at_180 : decode b_Mo_at 180 = .ok (.dreturn, 1) := by decide +kernel
theorem d_Mo_power_0 : decode b_Mo_power 0 = .ok (.dload_n 0, 1) := by decide +kernel
theorem d_Mo_power_1 : decode b_Mo_power 1 = .ok (.dconst 0, 1) := by decide +kernel
theorem d_Mo_power_2 : decode b_Mo_power 2 = .ok (.dcmp .g, 1) := by decide +kernel
theorem d_Mo_power_3 : decode b_Mo_power 3 = .ok (.ifCond .ge 23, 3) := by decide +kernel
theorem d_Mo_power_6 : decode b_Mo_power 6 = .ok (.dload_n 0, 1) := by decide +kernel
theorem d_Mo_power_7 : decode b_Mo_power 7 = .ok (.ldc2_w 160, 3) := by decide +kernel
theorem d_Mo_power_10 : decode b_Mo_power 10 = .ok (.dcmp .l, 1) := by decide +kernel
theorem d_Mo_power_11 : decode b_Mo_power 11 = .ok (.ifCond .ne 9, 3) := by decide +kernel
theorem d_Mo_power_14 : decode b_Mo_power 14 = .ok (.ldc2_w 162, 3) := by decide +kernel
theorem d_Mo_power_17 : decode b_Mo_power 17 = .ok (.goto 34, 3) := by decide +kernel
theorem d_Mo_power_20 : decode b_Mo_power 20 = .ok (.ldc2_w 164, 3) := by decide +kernel
theorem d_Mo_power_23 : decode b_Mo_power 23 = .ok (.goto 28, 3) := by decide +kernel
theorem d_Mo_power_26 : decode b_Mo_power 26 = .ok (.dload_n 0, 1) := by decide +kernel
theorem d_Mo_power_27 : decode b_Mo_power 27 = .ok (.dconst 0, 1) := by decide +kernel
theorem d_Mo_power_28 : decode b_Mo_power 28 = .ok (.dcmp .l, 1) := by decide +kernel
theorem d_Mo_power_29 : decode b_Mo_power 29 = .ok (.ifCond .ne 7, 3) := by decide +kernel
theorem d_Mo_power_32 : decode b_Mo_power 32 = .ok (.dconst 1, 1) := by decide +kernel
theorem d_Mo_power_33 : decode b_Mo_power 33 = .ok (.goto 18, 3) := by decide +kernel
theorem d_Mo_power_36 : decode b_Mo_power 36 = .ok (.dload_n 0, 1) := by decide +kernel
theorem d_Mo_power_37 : decode b_Mo_power 37 = .ok (.dconst 1, 1) := by decide +kernel
theorem d_Mo_power_38 : decode b_Mo_power 38 = .ok (.dcmp .l, 1) := by decide +kernel
theorem d_Mo_power_39 : decode b_Mo_power 39 = .ok (.ifCond .ne 9, 3) := by decide +kernel
theorem d_Mo_power_42 : decode b_Mo_power 42 = .ok (.ldc2_w 137, 3) := by decide +kernel
theorem d_Mo_power_45 : decode b_Mo_power 45 = .ok (.goto 6, 3) := by decide +kernel
theorem d_Mo_power_48 : decode b_Mo_power 48 = .ok (.ldc2_w 166, 3) := by decide +kernel
theorem d_Mo_power_51 : decode b_Mo_power 51 = .ok (.dreturn, 1) := by decide +kernel
theorem d_Mo_find_0 : decode b_Mo_find 0 = .ok (.aload_n 0, 1) := by decide +kernel
theorem d_Mo_find_1 : decode b_Mo_find 1 = .ok (.getfield 72, 3) := by decide +kernel
theorem d_Mo_find_4 : decode b_Mo_find 4 = .ok (.iload_n 1, 1) := by decide +kernel
theorem d_Mo_find_5 : decode b_Mo_find 5 = .ok (.daload, 1) := by decide +kernel
theorem d_Mo_find_6 : decode b_Mo_find 6 = .ok (.dstore_n 2, 1) := by decide +kernel
theorem d_Mo_find_7 : decode b_Mo_find 7 = .ok (.aload_n 0, 1) := by decide +kernel
theorem d_Mo_find_8 : decode b_Mo_find 8 = .ok (.getfield 75, 3) := by decide +kernel
theorem d_Mo_find_11 : decode b_Mo_find 11 = .ok (.iload_n 1, 1) := by decide +kernel
theorem d_Mo_find_12 : decode b_Mo_find 12 = .ok (.daload, 1) := by decide +kernel
theorem d_Mo_find_13 : decode b_Mo_find 13 = .ok (.dstore 4, 2) := by decide +kernel
theorem d_Mo_find_15 : decode b_Mo_find 15 = .ok (.aload_n 0, 1) := by decide +kernel
theorem d_Mo_find_16 : decode b_Mo_find 16 = .ok (.getfield 47, 3) := by decide +kernel
theorem d_Mo_find_19 : decode b_Mo_find 19 = .ok (.iload_n 1, 1) := by decide +kernel
theorem d_Mo_find_20 : decode b_Mo_find 20 = .ok (.iload_n 1, 1) := by decide +kernel
theorem d_Mo_find_21 : decode b_Mo_find 21 = .ok (.iastore, 1) := by decide +kernel
theorem d_Mo_find_22 : decode b_Mo_find 22 = .ok (.aload_n 0, 1) := by decide +kernel
theorem d_Mo_find_23 : decode b_Mo_find 23 = .ok (.getfield 22, 3) := by decide +kernel
theorem d_Mo_find_26 : decode b_Mo_find 26 = .ok (.iload_n 1, 1) := by decide +kernel
theorem d_Mo_find_27 : decode b_Mo_find 27 = .ok (.iaload, 1) := by decide +kernel
theorem d_Mo_find_28 : decode b_Mo_find 28 = .ok (.iconst 1, 1) := by decide +kernel
theorem d_Mo_find_29 : decode b_Mo_find 29 = .ok (.if_icmp .ne 43, 3) := by decide +kernel
theorem d_Mo_find_32 : decode b_Mo_find 32 = .ok (.aload_n 0, 1) := by decide +kernel
theorem d_Mo_find_33 : decode b_Mo_find 33 = .ok (.getfield 16, 3) := by decide +kernel
theorem d_Mo_find_36 : decode b_Mo_find 36 = .ok (.iload_n 1, 1) := by decide +kernel
theorem d_Mo_find_37 : decode b_Mo_find 37 = .ok (.dload_n 2, 1) := by decide +kernel
theorem d_Mo_find_38 : decode b_Mo_find 38 = .ok (.dconst 0, 1) := by decide +kernel
theorem d_Mo_find_39 : decode b_Mo_find 39 = .ok (.aload_n 0, 1) := by decide +kernel
theorem d_Mo_find_40 : decode b_Mo_find 40 = .ok (.getfield 57, 3) := by decide +kernel
theorem d_Mo_find_43 : decode b_Mo_find 43 = .ok (.iload_n 1, 1) := by decide +kernel
theorem d_Mo_find_44 : decode b_Mo_find 44 = .ok (.daload, 1) := by decide +kernel
theorem d_Mo_find_45 : decode b_Mo_find 45 = .ok (.invokestatic 120, 3) := by decide +kernel
theorem d_Mo_find_48 : decode b_Mo_find 48 = .ok (.ifCond .eq 22, 3) := by decide +kernel
theorem d_Mo_find_51 : decode b_Mo_find 51 = .ok (.dload 4, 2) := by decide +kernel
theorem d_Mo_find_53 : decode b_Mo_find 53 = .ok (.dconst 0, 1) := by decide +kernel
theorem d_Mo_find_54 : decode b_Mo_find 54 = .ok (.aload_n 0, 1) := by decide +kernel
theorem d_Mo_find_55 : decode b_Mo_find 55 = .ok (.getfield 60, 3) := by decide +kernel
theorem d_Mo_find_58 : decode b_Mo_find 58 = .ok (.iload_n 1, 1) := by decide +kernel
theorem d_Mo_find_59 : decode b_Mo_find 59 = .ok (.daload, 1) := by decide +kernel
theorem d_Mo_find_60 : decode b_Mo_find 60 = .ok (.invokestatic 120, 3) := by decide +kernel
theorem d_Mo_find_63 : decode b_Mo_find 63 = .ok (.ifCond .eq 7, 3) := by decide +kernel
theorem d_Mo_find_66 : decode b_Mo_find 66 = .ok (.iconst 1, 1) := by decide +kernel
theorem d_Mo_find_67 : decode b_Mo_find 67 = .ok (.goto 4, 3) := by decide +kernel
theorem d_Mo_find_70 : decode b_Mo_find 70 = .ok (.iconst 0, 1) := by decide +kernel
theorem d_Mo_find_71 : decode b_Mo_find 71 = .ok (.bastore, 1) := by decide +kernel
theorem d_Mo_find_72 : decode b_Mo_find 72 = .ok (.aload_n 0, 1) := by decide +kernel
theorem d_Mo_find_73 : decode b_Mo_find 73 = .ok (.getfield 22, 3) := by decide +kernel
theorem d_Mo_find_76 : decode b_Mo_find 76 = .ok (.iload_n 1, 1) := by decide +kernel
theorem d_Mo_find_77 : decode b_Mo_find 77 = .ok (.iaload, 1) := by decide +kernel
theorem d_Mo_find_78 : decode b_Mo_find 78 = .ok (.iconst 2, 1) := by decide +kernel
theorem d_Mo_find_79 : decode b_Mo_find 79 = .ok (.if_icmp .ne 40, 3) := by decide +kernel
theorem d_Mo_find_82 : decode b_Mo_find 82 = .ok (.aload_n 0, 1) := by decide +kernel
theorem d_Mo_find_83 : decode b_Mo_find 83 = .ok (.getfield 16, 3) := by decide +kernel
theorem d_Mo_find_86 : decode b_Mo_find 86 = .ok (.iload_n 1, 1) := by decide +kernel
theorem d_Mo_find_87 : decode b_Mo_find 87 = .ok (.dload_n 2, 1) := by decide +kernel
theorem d_Mo_find_88 : decode b_Mo_find 88 = .ok (.dload_n 2, 1) := by decide +kernel
theorem d_Mo_find_89 : decode b_Mo_find 89 = .ok (.dmul, 1) := by decide +kernel
theorem d_Mo_find_90 : decode b_Mo_find 90 = .ok (.dload 4, 2) := by decide +kernel
theorem d_Mo_find_92 : decode b_Mo_find 92 = .ok (.dload 4, 2) := by decide +kernel
theorem d_Mo_find_94 : decode b_Mo_find 94 = .ok (.dmul, 1) := by decide +kernel
theorem d_Mo_find_95 : decode b_Mo_find 95 = .ok (.dadd, 1) := by decide +kernel
theorem d_Mo_find_96 : decode b_Mo_find 96 = .ok (.aload_n 0, 1) := by decide +kernel
theorem d_Mo_find_97 : decode b_Mo_find 97 = .ok (.getfield 57, 3) := by decide +kernel
theorem d_Mo_find_100 : decode b_Mo_find 100 = .ok (.iload_n 1, 1) := by decide +kernel
theorem d_Mo_find_101 : decode b_Mo_find 101 = .ok (.daload, 1) := by decide +kernel
theorem d_Mo_find_102 : decode b_Mo_find 102 = .ok (.aload_n 0, 1) := by decide +kernel
theorem d_Mo_find_103 : decode b_Mo_find 103 = .ok (.getfield 57, 3) := by decide +kernel
theorem d_Mo_find_106 : decode b_Mo_find 106 = .ok (.iload_n 1, 1) := by decide +kernel
theorem d_Mo_find_107 : decode b_Mo_find 107 = .ok (.daload, 1) := by decide +kernel
theorem d_Mo_find_108 : decode b_Mo_find 108 = .ok (.dmul, 1) := by decide +kernel
theorem d_Mo_find_109 : decode b_Mo_find 109 = .ok (.dcmp .g, 1) := by decide +kernel
theorem d_Mo_find_110 : decode b_Mo_find 110 = .ok (.ifCond .gt 7, 3) := by decide +kernel
theorem d_Mo_find_113 : decode b_Mo_find 113 = .ok (.iconst 1, 1) := by decide +kernel
theorem d_Mo_find_114 : decode b_Mo_find 114 = .ok (.goto 4, 3) := by decide +kernel
theorem d_Mo_find_117 : decode b_Mo_find 117 = .ok (.iconst 0, 1) := by decide +kernel
theorem d_Mo_find_118 : decode b_Mo_find 118 = .ok (.bastore, 1) := by decide +kernel
theorem d_Mo_find_119 : decode b_Mo_find 119 = .ok (.aload_n 0, 1) := by decide +kernel
theorem d_Mo_find_120 : decode b_Mo_find 120 = .ok (.getfield 22, 3) := by decide +kernel
theorem d_Mo_find_123 : decode b_Mo_find 123 = .ok (.iload_n 1, 1) := by decide +kernel
theorem d_Mo_find_124 : decode b_Mo_find 124 = .ok (.iaload, 1) := by decide +kernel
theorem d_Mo_find_125 : decode b_Mo_find 125 = .ok (.iconst 3, 1) := by decide +kernel
theorem d_Mo_find_126 : decode b_Mo_find 126 = .ok (.if_icmp .ne 62, 3) := by decide +kernel
theorem d_Mo_find_129 : decode b_Mo_find 129 = .ok (.aload_n 0, 1) := by decide +kernel
theorem d_Mo_find_130 : decode b_Mo_find 130 = .ok (.getfield 16, 3) := by decide +kernel
theorem d_Mo_find_133 : decode b_Mo_find 133 = .ok (.iload_n 1, 1) := by decide +kernel
theorem d_Mo_find_134 : decode b_Mo_find 134 = .ok (.dload_n 2, 1) := by decide +kernel
theorem d_Mo_find_135 : decode b_Mo_find 135 = .ok (.dconst 0, 1) := by decide +kernel
theorem d_Mo_find_136 : decode b_Mo_find 136 = .ok (.dcmp .l, 1) := by decide +kernel
theorem d_Mo_find_137 : decode b_Mo_find 137 = .ok (.ifCond .lt 49, 3) := by decide +kernel
theorem d_Mo_find_140 : decode b_Mo_find 140 = .ok (.dload 4, 2) := by decide +kernel
theorem d_Mo_find_142 : decode b_Mo_find 142 = .ok (.dconst 0, 1) := by decide +kernel
theorem d_Mo_find_143 : decode b_Mo_find 143 = .ok (.dcmp .l, 1) := by decide +kernel
theorem d_Mo_find_144 : decode b_Mo_find 144 = .ok (.ifCond .lt 42, 3) := by decide +kernel
theorem d_Mo_find_147 : decode b_Mo_find 147 = .ok (.dload_n 2, 1) := by decide +kernel
theorem d_Mo_find_148 : decode b_Mo_find 148 = .ok (.aload_n 0, 1) := by decide +kernel
theorem d_Mo_find_149 : decode b_Mo_find 149 = .ok (.getfield 60, 3) := by decide +kernel
theorem d_Mo_find_152 : decode b_Mo_find 152 = .ok (.iload_n 1, 1) := by decide +kernel
theorem d_Mo_find_153 : decode b_Mo_find 153 = .ok (.daload, 1) := by decide +kernel
theorem d_Mo_find_154 : decode b_Mo_find 154 = .ok (.dmul, 1) := by decide +kernel
theorem d_Mo_find_155 : decode b_Mo_find 155 = .ok (.dload 4, 2) := by decide +kernel
theorem d_Mo_find_157 : decode b_Mo_find 157 = .ok (.aload_n 0, 1) := by decide +kernel
theorem d_Mo_find_158 : decode b_Mo_find 158 = .ok (.getfield 57, 3) := by decide +kernel
theorem d_Mo_find_161 : decode b_Mo_find 161 = .ok (.iload_n 1, 1) := by decide +kernel
theorem d_Mo_find_162 : decode b_Mo_find 162 = .ok (.daload, 1) := by decide +kernel
theorem d_Mo_find_163 : decode b_Mo_find 163 = .ok (.dmul, 1) := by decide +kernel
theorem d_Mo_find_164 : decode b_Mo_find 164 = .ok (.dadd, 1) := by decide +kernel
theorem d_Mo_find_165 : decode b_Mo_find 165 = .ok (.aload_n 0, 1) := by decide +kernel
theorem d_Mo_find_166 : decode b_Mo_find 166 = .ok (.getfield 57, 3) := by decide +kernel
theorem d_Mo_find_169 : decode b_Mo_find 169 = .ok (.iload_n 1, 1) := by decide +kernel
theorem d_Mo_find_170 : decode b_Mo_find 170 = .ok (.daload, 1) := by decide +kernel
theorem d_Mo_find_171 : decode b_Mo_find 171 = .ok (.aload_n 0, 1) := by decide +kernel
theorem d_Mo_find_172 : decode b_Mo_find 172 = .ok (.getfield 60, 3) := by decide +kernel
theorem d_Mo_find_175 : decode b_Mo_find 175 = .ok (.iload_n 1, 1) := by decide +kernel
theorem d_Mo_find_176 : decode b_Mo_find 176 = .ok (.daload, 1) := by decide +kernel
theorem d_Mo_find_177 : decode b_Mo_find 177 = .ok (.dmul, 1) := by decide +kernel
theorem d_Mo_find_178 : decode b_Mo_find 178 = .ok (.dcmp .g, 1) := by decide +kernel
theorem d_Mo_find_179 : decode b_Mo_find 179 = .ok (.ifCond .gt 7, 3) := by decide +kernel
theorem d_Mo_find_182 : decode b_Mo_find 182 = .ok (.iconst 1, 1) := by decide +kernel
theorem d_Mo_find_183 : decode b_Mo_find 183 = .ok (.goto 4, 3) := by decide +kernel
theorem d_Mo_find_186 : decode b_Mo_find 186 = .ok (.iconst 0, 1) := by decide +kernel
theorem d_Mo_find_187 : decode b_Mo_find 187 = .ok (.bastore, 1) := by decide +kernel
theorem d_Mo_find_188 : decode b_Mo_find 188 = .ok (.aload_n 0, 1) := by decide +kernel
theorem d_Mo_find_189 : decode b_Mo_find 189 = .ok (.getfield 22, 3) := by decide +kernel
theorem d_Mo_find_192 : decode b_Mo_find 192 = .ok (.iload_n 1, 1) := by decide +kernel
theorem d_Mo_find_193 : decode b_Mo_find 193 = .ok (.iaload, 1) := by decide +kernel
theorem d_Mo_find_194 : decode b_Mo_find 194 = .ok (.ifCond .ne 138, 3) := by decide +kernel
theorem d_Mo_find_197 : decode b_Mo_find 197 = .ok (.aload_n 0, 1) := by decide +kernel
theorem d_Mo_find_198 : decode b_Mo_find 198 = .ok (.getfield 16, 3) := by decide +kernel
theorem d_Mo_find_201 : decode b_Mo_find 201 = .ok (.iload_n 1, 1) := by decide +kernel
theorem d_Mo_find_202 : decode b_Mo_find 202 = .ok (.iconst 0, 1) := by decide +kernel
theorem d_Mo_find_203 : decode b_Mo_find 203 = .ok (.bastore, 1) := by decide +kernel
theorem d_Mo_find_204 : decode b_Mo_find 204 = .ok (.aload_n 0, 1) := by decide +kernel
theorem d_Mo_find_205 : decode b_Mo_find 205 = .ok (.getfield 26, 3) := by decide +kernel
theorem d_Mo_find_208 : decode b_Mo_find 208 = .ok (.iload_n 1, 1) := by decide +kernel
theorem d_Mo_find_209 : decode b_Mo_find 209 = .ok (.iaload, 1) := by decide +kernel
theorem d_Mo_find_210 : decode b_Mo_find 210 = .ok (.iconst 1, 1) := by decide +kernel
theorem d_Mo_find_211 : decode b_Mo_find 211 = .ok (.if_icmp .ne 7, 3) := by decide +kernel
theorem d_Mo_find_214 : decode b_Mo_find 214 = .ok (.iconst 1, 1) := by decide +kernel
theorem d_Mo_find_215 : decode b_Mo_find 215 = .ok (.goto 4, 3) := by decide +kernel
theorem d_Mo_find_218 : decode b_Mo_find 218 = .ok (.iconst 0, 1) := by decide +kernel
theorem d_Mo_find_219 : decode b_Mo_find 219 = .ok (.istore 6, 2) := by decide +kernel
theorem d_Mo_find_221 : decode b_Mo_find 221 = .ok (.iload 6, 2) := by decide +kernel
theorem d_Mo_find_223 : decode b_Mo_find 223 = .ok (.ifCond .eq 29, 3) := by decide +kernel
theorem d_Mo_find_226 : decode b_Mo_find 226 = .ok (.aload_n 0, 1) := by decide +kernel
theorem d_Mo_find_227 : decode b_Mo_find 227 = .ok (.getfield 32, 3) := by decide +kernel
theorem d_Mo_find_230 : decode b_Mo_find 230 = .ok (.iload_n 1, 1) := by decide +kernel
theorem d_Mo_find_231 : decode b_Mo_find 231 = .ok (.iaload, 1) := by decide +kernel
theorem d_Mo_find_232 : decode b_Mo_find 232 = .ok (.ifCond .le 24, 3) := by decide +kernel
theorem d_Mo_find_235 : decode b_Mo_find 235 = .ok (.aload_n 0, 1) := by decide +kernel
theorem d_Mo_find_236 : decode b_Mo_find 236 = .ok (.getfield 16, 3) := by decide +kernel
theorem d_Mo_find_239 : decode b_Mo_find 239 = .ok (.aload_n 0, 1) := by decide +kernel
theorem d_Mo_find_240 : decode b_Mo_find 240 = .ok (.getfield 35, 3) := by decide +kernel
theorem d_Mo_find_243 : decode b_Mo_find 243 = .ok (.iload_n 1, 1) := by decide +kernel
theorem d_Mo_find_244 : decode b_Mo_find 244 = .ok (.bipush 14, 2) := by decide +kernel
theorem d_Mo_find_246 : decode b_Mo_find 246 = .ok (.imul, 1) := by decide +kernel
theorem d_Mo_find_247 : decode b_Mo_find 247 = .ok (.iaload, 1) := by decide +kernel
theorem d_Mo_find_248 : decode b_Mo_find 248 = .ok (.baload, 1) := by decide +kernel
theorem d_Mo_find_249 : decode b_Mo_find 249 = .ok (.ifCond .eq 7, 3) := by decide +kernel
theorem d_Mo_find_252 : decode b_Mo_find 252 = .ok (.iconst 1, 1) := by decide +kernel
theorem d_Mo_find_253 : decode b_Mo_find 253 = .ok (.goto 4, 3) := by decide +kernel
theorem d_Mo_find_256 : decode b_Mo_find 256 = .ok (.iconst 0, 1) := by decide +kernel
theorem d_Mo_find_257 : decode b_Mo_find 257 = .ok (.istore 7, 2) := by decide +kernel
theorem d_Mo_find_259 : decode b_Mo_find 259 = .ok (.iload 6, 2) := by decide +kernel
theorem d_Mo_find_261 : decode b_Mo_find 261 = .ok (.istore 8, 2) := by decide +kernel
theorem d_Mo_find_263 : decode b_Mo_find 263 = .ok (.iload 8, 2) := by decide +kernel
theorem d_Mo_find_265 : decode b_Mo_find 265 = .ok (.aload_n 0, 1) := by decide +kernel
theorem d_Mo_find_266 : decode b_Mo_find 266 = .ok (.getfield 32, 3) := by decide +kernel
theorem d_Mo_find_269 : decode b_Mo_find 269 = .ok (.iload_n 1, 1) := by decide +kernel
theorem d_Mo_find_270 : decode b_Mo_find 270 = .ok (.iaload, 1) := by decide +kernel
theorem d_Mo_find_271 : decode b_Mo_find 271 = .ok (.if_icmp .ge 61, 3) := by decide +kernel
theorem d_Mo_find_274 : decode b_Mo_find 274 = .ok (.iload 7, 2) := by decide +kernel
theorem d_Mo_find_276 : decode b_Mo_find 276 = .ok (.ifCond .eq 56, 3) := by decide +kernel
theorem d_Mo_find_279 : decode b_Mo_find 279 = .ok (.aload_n 0, 1) := by decide +kernel
theorem d_Mo_find_280 : decode b_Mo_find 280 = .ok (.getfield 35, 3) := by decide +kernel
theorem d_Mo_find_283 : decode b_Mo_find 283 = .ok (.iload_n 1, 1) := by decide +kernel
theorem d_Mo_find_284 : decode b_Mo_find 284 = .ok (.bipush 14, 2) := by decide +kernel
theorem d_Mo_find_286 : decode b_Mo_find 286 = .ok (.imul, 1) := by decide +kernel
theorem d_Mo_find_287 : decode b_Mo_find 287 = .ok (.iload 8, 2) := by decide +kernel
theorem d_Mo_find_289 : decode b_Mo_find 289 = .ok (.iadd, 1) := by decide +kernel
theorem d_Mo_find_290 : decode b_Mo_find 290 = .ok (.iaload, 1) := by decide +kernel
theorem d_Mo_find_291 : decode b_Mo_find 291 = .ok (.istore 9, 2) := by decide +kernel
theorem d_Mo_find_293 : decode b_Mo_find 293 = .ok (.aload_n 0, 1) := by decide +kernel
theorem d_Mo_find_294 : decode b_Mo_find 294 = .ok (.getfield 16, 3) := by decide +kernel
theorem d_Mo_find_297 : decode b_Mo_find 297 = .ok (.iload 9, 2) := by decide +kernel
theorem d_Mo_find_299 : decode b_Mo_find 299 = .ok (.baload, 1) := by decide +kernel
theorem d_Mo_find_300 : decode b_Mo_find 300 = .ok (.ifCond .ne 6, 3) := by decide +kernel
theorem d_Mo_find_303 : decode b_Mo_find 303 = .ok (.goto 23, 3) := by decide +kernel
theorem d_Mo_find_306 : decode b_Mo_find 306 = .ok (.aload_n 0, 1) := by decide +kernel
theorem d_Mo_find_307 : decode b_Mo_find 307 = .ok (.getfield 16, 3) := by decide +kernel
theorem d_Mo_find_310 : decode b_Mo_find 310 = .ok (.iload_n 1, 1) := by decide +kernel
theorem d_Mo_find_311 : decode b_Mo_find 311 = .ok (.iconst 1, 1) := by decide +kernel
theorem d_Mo_find_312 : decode b_Mo_find 312 = .ok (.bastore, 1) := by decide +kernel
theorem d_Mo_find_313 : decode b_Mo_find 313 = .ok (.aload_n 0, 1) := by decide +kernel
theorem d_Mo_find_314 : decode b_Mo_find 314 = .ok (.getfield 47, 3) := by decide +kernel
theorem d_Mo_find_317 : decode b_Mo_find 317 = .ok (.iload_n 1, 1) := by decide +kernel
theorem d_Mo_find_318 : decode b_Mo_find 318 = .ok (.aload_n 0, 1) := by decide +kernel
theorem d_Mo_find_319 : decode b_Mo_find 319 = .ok (.getfield 47, 3) := by decide +kernel
theorem d_Mo_find_322 : decode b_Mo_find 322 = .ok (.iload 9, 2) := by decide +kernel
theorem d_Mo_find_324 : decode b_Mo_find 324 = .ok (.iaload, 1) := by decide +kernel
theorem d_Mo_find_325 : decode b_Mo_find 325 = .ok (.iastore, 1) := by decide +kernel
theorem d_Mo_find_326 : decode b_Mo_find 326 = .ok (.iinc 8 1, 3) := by decide +kernel
theorem d_Mo_find_329 : decode b_Mo_find 329 = .ok (.goto (-66), 3) := by decide +kernel
theorem d_Mo_find_332 : decode b_Mo_find 332 = .ok (.aload_n 0, 1) := by decide +kernel
theorem d_Mo_find_333 : decode b_Mo_find 333 = .ok (.getfield 13, 3) := by decide +kernel
theorem d_Mo_find_336 : decode b_Mo_find 336 = .ok (.iload_n 1, 1) := by decide +kernel
theorem d_Mo_find_337 : decode b_Mo_find 337 = .ok (.baload, 1) := by decide +kernel
theorem d_Mo_find_338 : decode b_Mo_find 338 = .ok (.ifCond .eq 14, 3) := by decide +kernel
theorem d_Mo_find_341 : decode b_Mo_find 341 = .ok (.iload_n 1, 1) := by decide +kernel
theorem d_Mo_find_342 : decode b_Mo_find 342 = .ok (.ifCond .le 10, 3) := by decide +kernel
theorem d_Mo_find_345 : decode b_Mo_find 345 = .ok (.aload_n 0, 1) := by decide +kernel
theorem d_Mo_find_346 : decode b_Mo_find 346 = .ok (.getfield 16, 3) := by decide +kernel
theorem d_Mo_find_349 : decode b_Mo_find 349 = .ok (.iload_n 1, 1) := by decide +kernel
theorem d_Mo_find_350 : decode b_Mo_find 350 = .ok (.iconst 0, 1) := by decide +kernel
theorem d_Mo_find_351 : decode b_Mo_find 351 = .ok (.bastore, 1) := by decide +kernel
theorem d_Mo_find_352 : decode b_Mo_find 352 = .ok (.return_, 1) := by decide +kernel
theorem d_Mo_cell_0 : decode b_Mo_cell 0 = .ok (.aload_n 0, 1) := by decide +kernel
theorem d_Mo_cell_1 : decode b_Mo_cell 1 = .ok (.iload_n 1, 1) := by decide +kernel
theorem d_Mo_cell_2 : decode b_Mo_cell 2 = .ok (.ifCond .lt 23, 3) := by decide +kernel
theorem d_Mo_cell_5 : decode b_Mo_cell 5 = .ok (.iload_n 1, 1) := by decide +kernel
theorem d_Mo_cell_6 : decode b_Mo_cell 6 = .ok (.bipush 16, 2) := by decide +kernel
theorem d_Mo_cell_8 : decode b_Mo_cell 8 = .ok (.if_icmp .ge 17, 3) := by decide +kernel
theorem d_Mo_cell_11 : decode b_Mo_cell 11 = .ok (.iload_n 2, 1) := by decide +kernel
theorem d_Mo_cell_12 : decode b_Mo_cell 12 = .ok (.ifCond .lt 13, 3) := by decide +kernel
theorem d_Mo_cell_15 : decode b_Mo_cell 15 = .ok (.iload_n 2, 1) := by decide +kernel
theorem d_Mo_cell_16 : decode b_Mo_cell 16 = .ok (.bipush 12, 2) := by decide +kernel
theorem d_Mo_cell_18 : decode b_Mo_cell 18 = .ok (.if_icmp .ge 7, 3) := by decide +kernel
theorem d_Mo_cell_21 : decode b_Mo_cell 21 = .ok (.iconst 1, 1) := by decide +kernel
theorem d_Mo_cell_22 : decode b_Mo_cell 22 = .ok (.goto 4, 3) := by decide +kernel
theorem d_Mo_cell_25 : decode b_Mo_cell 25 = .ok (.iconst 0, 1) := by decide +kernel
theorem d_Mo_cell_26 : decode b_Mo_cell 26 = .ok (.invokevirtual 108, 3) := by decide +kernel
theorem d_Mo_cell_29 : decode b_Mo_cell 29 = .ok (.ifCond .eq 5, 3) := by decide +kernel
theorem d_Mo_cell_32 : decode b_Mo_cell 32 = .ok (.iconst 0, 1) := by decide +kernel
theorem d_Mo_cell_33 : decode b_Mo_cell 33 = .ok (.ireturn, 1) := by decide +kernel
theorem d_Mo_cell_34 : decode b_Mo_cell 34 = .ok (.aload_n 0, 1) := by decide +kernel
theorem d_Mo_cell_35 : decode b_Mo_cell 35 = .ok (.getfield 84, 3) := by decide +kernel
theorem d_Mo_cell_38 : decode b_Mo_cell 38 = .ok (.iload_n 2, 1) := by decide +kernel
theorem d_Mo_cell_39 : decode b_Mo_cell 39 = .ok (.bipush 16, 2) := by decide +kernel
theorem d_Mo_cell_41 : decode b_Mo_cell 41 = .ok (.imul, 1) := by decide +kernel
theorem d_Mo_cell_42 : decode b_Mo_cell 42 = .ok (.iload_n 1, 1) := by decide +kernel
theorem d_Mo_cell_43 : decode b_Mo_cell 43 = .ok (.iadd, 1) := by decide +kernel
theorem d_Mo_cell_44 : decode b_Mo_cell 44 = .ok (.iaload, 1) := by decide +kernel
theorem d_Mo_cell_45 : decode b_Mo_cell 45 = .ok (.ireturn, 1) := by decide +kernel
theorem d_Mo_top_0 : decode b_Mo_top 0 = .ok (.aload_n 0, 1) := by decide +kernel
theorem d_Mo_top_1 : decode b_Mo_top 1 = .ok (.dload_n 1, 1) := by decide +kernel
theorem d_Mo_top_2 : decode b_Mo_top 2 = .ok (.ldc2_w 185, 3) := by decide +kernel
theorem d_Mo_top_5 : decode b_Mo_top 5 = .ok (.ldc2_w 141, 3) := by decide +kernel
theorem d_Mo_top_8 : decode b_Mo_top 8 = .ok (.invokestatic 120, 3) := by decide +kernel
theorem d_Mo_top_11 : decode b_Mo_top 11 = .ok (.ifCond .eq 32, 3) := by decide +kernel
theorem d_Mo_top_14 : decode b_Mo_top 14 = .ok (.dload_n 3, 1) := by decide +kernel
theorem d_Mo_top_15 : decode b_Mo_top 15 = .ok (.ldc2_w 185, 3) := by decide +kernel
theorem d_Mo_top_18 : decode b_Mo_top 18 = .ok (.ldc2_w 141, 3) := by decide +kernel
theorem d_Mo_top_21 : decode b_Mo_top 21 = .ok (.invokestatic 120, 3) := by decide +kernel
theorem d_Mo_top_24 : decode b_Mo_top 24 = .ok (.ifCond .eq 19, 3) := by decide +kernel
theorem d_Mo_top_27 : decode b_Mo_top 27 = .ok (.dload 5, 2) := by decide +kernel
theorem d_Mo_top_29 : decode b_Mo_top 29 = .ok (.dconst 0, 1) := by decide +kernel
theorem d_Mo_top_30 : decode b_Mo_top 30 = .ok (.ldc2_w 141, 3) := by decide +kernel
theorem d_Mo_top_33 : decode b_Mo_top 33 = .ok (.invokestatic 120, 3) := by decide +kernel
theorem d_Mo_top_36 : decode b_Mo_top 36 = .ok (.ifCond .eq 7, 3) := by decide +kernel
theorem d_Mo_top_39 : decode b_Mo_top 39 = .ok (.iconst 1, 1) := by decide +kernel
theorem d_Mo_top_40 : decode b_Mo_top 40 = .ok (.goto 4, 3) := by decide +kernel
theorem d_Mo_top_43 : decode b_Mo_top 43 = .ok (.iconst 0, 1) := by decide +kernel
theorem d_Mo_top_44 : decode b_Mo_top 44 = .ok (.invokevirtual 108, 3) := by decide +kernel
theorem d_Mo_top_47 : decode b_Mo_top 47 = .ok (.ifCond .eq 5, 3) := by decide +kernel
theorem d_Mo_top_50 : decode b_Mo_top 50 = .ok (.iconst 0, 1) := by decide +kernel
theorem d_Mo_top_51 : decode b_Mo_top 51 = .ok (.ireturn, 1) := by decide +kernel
theorem d_Mo_top_52 : decode b_Mo_top 52 = .ok (.aload_n 0, 1) := by decide +kernel
theorem d_Mo_top_53 : decode b_Mo_top 53 = .ok (.dload_n 1, 1) := by decide +kernel
theorem d_Mo_top_54 : decode b_Mo_top 54 = .ok (.dload_n 3, 1) := by decide +kernel
theorem d_Mo_top_55 : decode b_Mo_top 55 = .ok (.dload 5, 2) := by decide +kernel
theorem d_Mo_top_57 : decode b_Mo_top 57 = .ok (.invokevirtual 178, 3) := by decide +kernel
theorem d_Mo_top_60 : decode b_Mo_top 60 = .ok (.aload_n 0, 1) := by decide +kernel
theorem d_Mo_top_61 : decode b_Mo_top 61 = .ok (.getfield 16, 3) := by decide +kernel
theorem d_Mo_top_64 : decode b_Mo_top 64 = .ok (.iconst 0, 1) := by decide +kernel
theorem d_Mo_top_65 : decode b_Mo_top 65 = .ok (.baload, 1) := by decide +kernel
theorem d_Mo_top_66 : decode b_Mo_top 66 = .ok (.ifCond .ne 8, 3) := by decide +kernel
theorem d_Mo_top_69 : decode b_Mo_top 69 = .ok (.aload_n 0, 1) := by decide +kernel
theorem d_Mo_top_70 : decode b_Mo_top 70 = .ok (.iconst 2, 1) := by decide +kernel
theorem d_Mo_top_71 : decode b_Mo_top 71 = .ok (.putfield 90, 3) := by decide +kernel
theorem d_Mo_top_74 : decode b_Mo_top 74 = .ok (.aload_n 0, 1) := by decide +kernel
theorem d_Mo_top_75 : decode b_Mo_top 75 = .ok (.getfield 16, 3) := by decide +kernel
theorem d_Mo_top_78 : decode b_Mo_top 78 = .ok (.iconst 0, 1) := by decide +kernel
theorem d_Mo_top_79 : decode b_Mo_top 79 = .ok (.baload, 1) := by decide +kernel
theorem d_Mo_top_80 : decode b_Mo_top 80 = .ok (.ifCond .eq 12, 3) := by decide +kernel
theorem d_Mo_top_83 : decode b_Mo_top 83 = .ok (.aload_n 0, 1) := by decide +kernel
theorem d_Mo_top_84 : decode b_Mo_top 84 = .ok (.getfield 47, 3) := by decide +kernel
theorem d_Mo_top_87 : decode b_Mo_top 87 = .ok (.iconst 0, 1) := by decide +kernel
theorem d_Mo_top_88 : decode b_Mo_top 88 = .ok (.iaload, 1) := by decide +kernel
theorem d_Mo_top_89 : decode b_Mo_top 89 = .ok (.goto 4, 3) := by decide +kernel
theorem d_Mo_top_92 : decode b_Mo_top 92 = .ok (.iconst 0, 1) := by decide +kernel
theorem d_Mo_top_93 : decode b_Mo_top 93 = .ok (.ireturn, 1) := by decide +kernel
theorem d_Mo_around_0 : decode b_Mo_around 0 = .ok (.aload_n 0, 1) := by decide +kernel
theorem d_Mo_around_1 : decode b_Mo_around 1 = .ok (.aload_n 0, 1) := by decide +kernel
theorem d_Mo_around_2 : decode b_Mo_around 2 = .ok (.iload_n 1, 1) := by decide +kernel
theorem d_Mo_around_3 : decode b_Mo_around 3 = .ok (.invokevirtual 94, 3) := by decide +kernel
theorem d_Mo_around_6 : decode b_Mo_around 6 = .ok (.ifCond .eq 27, 3) := by decide +kernel
theorem d_Mo_around_9 : decode b_Mo_around 9 = .ok (.iload_n 2, 1) := by decide +kernel
theorem d_Mo_around_10 : decode b_Mo_around 10 = .ok (.ifCond .lt 23, 3) := by decide +kernel
theorem d_Mo_around_13 : decode b_Mo_around 13 = .ok (.iload_n 2, 1) := by decide +kernel
theorem d_Mo_around_14 : decode b_Mo_around 14 = .ok (.iconst 4, 1) := by decide +kernel
theorem d_Mo_around_15 : decode b_Mo_around 15 = .ok (.if_icmp .ge 18, 3) := by decide +kernel
theorem d_Mo_around_18 : decode b_Mo_around 18 = .ok (.dload_n 3, 1) := by decide +kernel
theorem d_Mo_around_19 : decode b_Mo_around 19 = .ok (.dconst 0, 1) := by decide +kernel
theorem d_Mo_around_20 : decode b_Mo_around 20 = .ok (.ldc2_w 141, 3) := by decide +kernel
theorem d_Mo_around_23 : decode b_Mo_around 23 = .ok (.invokestatic 120, 3) := by decide +kernel
theorem d_Mo_around_26 : decode b_Mo_around 26 = .ok (.ifCond .eq 7, 3) := by decide +kernel
theorem d_Mo_around_29 : decode b_Mo_around 29 = .ok (.iconst 1, 1) := by decide +kernel
theorem d_Mo_around_30 : decode b_Mo_around 30 = .ok (.goto 4, 3) := by decide +kernel
theorem d_Mo_around_33 : decode b_Mo_around 33 = .ok (.iconst 0, 1) := by decide +kernel
theorem d_Mo_around_34 : decode b_Mo_around 34 = .ok (.invokevirtual 108, 3) := by decide +kernel
theorem d_Mo_around_37 : decode b_Mo_around 37 = .ok (.ifCond .eq 5, 3) := by decide +kernel
theorem d_Mo_around_40 : decode b_Mo_around 40 = .ok (.dconst 0, 1) := by decide +kernel
theorem d_Mo_around_41 : decode b_Mo_around 41 = .ok (.dreturn, 1) := by decide +kernel
theorem d_Mo_around_42 : decode b_Mo_around 42 = .ok (.aload_n 0, 1) := by decide +kernel
theorem d_Mo_around_43 : decode b_Mo_around 43 = .ok (.getfield 98, 3) := by decide +kernel
theorem d_Mo_around_46 : decode b_Mo_around 46 = .ok (.iconst 1, 1) := by decide +kernel
theorem d_Mo_around_47 : decode b_Mo_around 47 = .ok (.isub, 1) := by decide +kernel
theorem d_Mo_around_48 : decode b_Mo_around 48 = .ok (.istore 5, 2) := by decide +kernel
theorem d_Mo_around_50 : decode b_Mo_around 50 = .ok (.iload 5, 2) := by decide +kernel
theorem d_Mo_around_52 : decode b_Mo_around 52 = .ok (.ifCond .lt 21, 3) := by decide +kernel
theorem d_Mo_around_55 : decode b_Mo_around 55 = .ok (.aload_n 0, 1) := by decide +kernel
theorem d_Mo_around_56 : decode b_Mo_around 56 = .ok (.aload_n 0, 1) := by decide +kernel
theorem d_Mo_around_57 : decode b_Mo_around 57 = .ok (.getfield 44, 3) := by decide +kernel
theorem d_Mo_around_60 : decode b_Mo_around 60 = .ok (.iload 5, 2) := by decide +kernel
theorem d_Mo_around_62 : decode b_Mo_around 62 = .ok (.iaload, 1) := by decide +kernel
theorem d_Mo_around_63 : decode b_Mo_around 63 = .ok (.dload_n 3, 1) := by decide +kernel
theorem d_Mo_around_64 : decode b_Mo_around 64 = .ok (.invokevirtual 199, 3) := by decide +kernel
theorem d_Mo_around_67 : decode b_Mo_around 67 = .ok (.iinc 5 (-1), 3) := by decide +kernel
theorem d_Mo_around_70 : decode b_Mo_around 70 = .ok (.goto (-20), 3) := by decide +kernel
theorem d_Mo_around_73 : decode b_Mo_around 73 = .ok (.aload_n 0, 1) := by decide +kernel
theorem d_Mo_around_74 : decode b_Mo_around 74 = .ok (.getfield 19, 3) := by decide +kernel
theorem d_Mo_around_77 : decode b_Mo_around 77 = .ok (.iload_n 1, 1) := by decide +kernel
theorem d_Mo_around_78 : decode b_Mo_around 78 = .ok (.baload, 1) := by decide +kernel
theorem d_Mo_around_79 : decode b_Mo_around 79 = .ok (.ifCond .ne 10, 3) := by decide +kernel
theorem d_Mo_around_82 : decode b_Mo_around 82 = .ok (.aload_n 0, 1) := by decide +kernel
theorem d_Mo_around_83 : decode b_Mo_around 83 = .ok (.iconst 2, 1) := by decide +kernel
theorem d_Mo_around_84 : decode b_Mo_around 84 = .ok (.putfield 90, 3) := by decide +kernel
theorem d_Mo_around_87 : decode b_Mo_around 87 = .ok (.dconst 0, 1) := by decide +kernel
theorem d_Mo_around_88 : decode b_Mo_around 88 = .ok (.dreturn, 1) := by decide +kernel
theorem d_Mo_around_89 : decode b_Mo_around 89 = .ok (.iload_n 2, 1) := by decide +kernel
theorem d_Mo_around_90 : decode b_Mo_around 90 = .ok (.iconst 2, 1) := by decide +kernel
theorem d_Mo_around_91 : decode b_Mo_around 91 = .ok (.if_icmp .ge 16, 3) := by decide +kernel
theorem d_Mo_around_94 : decode b_Mo_around 94 = .ok (.aload_n 0, 1) := by decide +kernel
theorem d_Mo_around_95 : decode b_Mo_around 95 = .ok (.getfield 78, 3) := by decide +kernel
theorem d_Mo_around_98 : decode b_Mo_around 98 = .ok (.iload_n 1, 1) := by decide +kernel
theorem d_Mo_around_99 : decode b_Mo_around 99 = .ok (.iconst 2, 1) := by decide +kernel
theorem d_Mo_around_100 : decode b_Mo_around 100 = .ok (.imul, 1) := by decide +kernel
theorem d_Mo_around_101 : decode b_Mo_around 101 = .ok (.iload_n 2, 1) := by decide +kernel
theorem d_Mo_around_102 : decode b_Mo_around 102 = .ok (.iadd, 1) := by decide +kernel
theorem d_Mo_around_103 : decode b_Mo_around 103 = .ok (.daload, 1) := by decide +kernel
theorem d_Mo_around_104 : decode b_Mo_around 104 = .ok (.goto 15, 3) := by decide +kernel
theorem d_Mo_around_107 : decode b_Mo_around 107 = .ok (.aload_n 0, 1) := by decide +kernel
theorem d_Mo_around_108 : decode b_Mo_around 108 = .ok (.getfield 81, 3) := by decide +kernel
theorem d_Mo_around_111 : decode b_Mo_around 111 = .ok (.iload_n 1, 1) := by decide +kernel
theorem d_Mo_around_112 : decode b_Mo_around 112 = .ok (.iconst 2, 1) := by decide +kernel
theorem d_Mo_around_113 : decode b_Mo_around 113 = .ok (.imul, 1) := by decide +kernel
theorem d_Mo_around_114 : decode b_Mo_around 114 = .ok (.iload_n 2, 1) := by decide +kernel
theorem d_Mo_around_115 : decode b_Mo_around 115 = .ok (.iadd, 1) := by decide +kernel
theorem d_Mo_around_116 : decode b_Mo_around 116 = .ok (.iconst 2, 1) := by decide +kernel
theorem d_Mo_around_117 : decode b_Mo_around 117 = .ok (.isub, 1) := by decide +kernel
theorem d_Mo_around_118 : decode b_Mo_around 118 = .ok (.daload, 1) := by decide +kernel
theorem d_Mo_around_119 : decode b_Mo_around 119 = .ok (.dreturn, 1) := by decide +kernel
theorem d_Mo_box_0 : decode b_Mo_box 0 = .ok (.dconst 0, 1) := by decide +kernel
theorem d_Mo_box_1 : decode b_Mo_box 1 = .ok (.dstore 4, 2) := by decide +kernel
theorem d_Mo_box_3 : decode b_Mo_box 3 = .ok (.dconst 0, 1) := by decide +kernel
theorem d_Mo_box_4 : decode b_Mo_box 4 = .ok (.dstore 6, 2) := by decide +kernel
theorem d_Mo_box_6 : decode b_Mo_box 6 = .ok (.aload_n 0, 1) := by decide +kernel
theorem d_Mo_box_7 : decode b_Mo_box 7 = .ok (.getfield 57, 3) := by decide +kernel
theorem d_Mo_box_10 : decode b_Mo_box 10 = .ok (.iload_n 1, 1) := by decide +kernel
theorem d_Mo_box_11 : decode b_Mo_box 11 = .ok (.daload, 1) := by decide +kernel
theorem d_Mo_box_12 : decode b_Mo_box 12 = .ok (.dstore 8, 2) := by decide +kernel
theorem d_Mo_box_14 : decode b_Mo_box 14 = .ok (.aload_n 0, 1) := by decide +kernel
theorem d_Mo_box_15 : decode b_Mo_box 15 = .ok (.getfield 22, 3) := by decide +kernel
theorem d_Mo_box_18 : decode b_Mo_box 18 = .ok (.iload_n 1, 1) := by decide +kernel
theorem d_Mo_box_19 : decode b_Mo_box 19 = .ok (.iaload, 1) := by decide +kernel
theorem d_Mo_box_20 : decode b_Mo_box 20 = .ok (.iconst 2, 1) := by decide +kernel
theorem d_Mo_box_21 : decode b_Mo_box 21 = .ok (.if_icmp .ne 12, 3) := by decide +kernel
theorem d_Mo_box_24 : decode b_Mo_box 24 = .ok (.aload_n 0, 1) := by decide +kernel
theorem d_Mo_box_25 : decode b_Mo_box 25 = .ok (.getfield 57, 3) := by decide +kernel
theorem d_Mo_box_28 : decode b_Mo_box 28 = .ok (.iload_n 1, 1) := by decide +kernel
theorem d_Mo_box_29 : decode b_Mo_box 29 = .ok (.daload, 1) := by decide +kernel
theorem d_Mo_box_30 : decode b_Mo_box 30 = .ok (.goto 9, 3) := by decide +kernel
theorem d_Mo_box_33 : decode b_Mo_box 33 = .ok (.aload_n 0, 1) := by decide +kernel
theorem d_Mo_box_34 : decode b_Mo_box 34 = .ok (.getfield 60, 3) := by decide +kernel
theorem d_Mo_box_37 : decode b_Mo_box 37 = .ok (.iload_n 1, 1) := by decide +kernel
theorem d_Mo_box_38 : decode b_Mo_box 38 = .ok (.daload, 1) := by decide +kernel
theorem d_Mo_box_39 : decode b_Mo_box 39 = .ok (.dstore 10, 2) := by decide +kernel
theorem d_Mo_box_41 : decode b_Mo_box 41 = .ok (.aload_n 0, 1) := by decide +kernel
theorem d_Mo_box_42 : decode b_Mo_box 42 = .ok (.getfield 19, 3) := by decide +kernel
theorem d_Mo_box_45 : decode b_Mo_box 45 = .ok (.iload_n 1, 1) := by decide +kernel
theorem d_Mo_box_46 : decode b_Mo_box 46 = .ok (.aload_n 0, 1) := by decide +kernel
theorem d_Mo_box_47 : decode b_Mo_box 47 = .ok (.getfield 22, 3) := by decide +kernel
theorem d_Mo_box_50 : decode b_Mo_box 50 = .ok (.iload_n 1, 1) := by decide +kernel
theorem d_Mo_box_51 : decode b_Mo_box 51 = .ok (.iaload, 1) := by decide +kernel
theorem d_Mo_box_52 : decode b_Mo_box 52 = .ok (.ifCond .le 7, 3) := by decide +kernel
theorem d_Mo_box_55 : decode b_Mo_box 55 = .ok (.iconst 1, 1) := by decide +kernel
theorem d_Mo_box_56 : decode b_Mo_box 56 = .ok (.goto 4, 3) := by decide +kernel
theorem d_Mo_box_59 : decode b_Mo_box 59 = .ok (.iconst 0, 1) := by decide +kernel
theorem d_Mo_box_60 : decode b_Mo_box 60 = .ok (.bastore, 1) := by decide +kernel
theorem d_Mo_box_61 : decode b_Mo_box 61 = .ok (.aload_n 0, 1) := by decide +kernel
theorem d_Mo_box_62 : decode b_Mo_box 62 = .ok (.getfield 22, 3) := by decide +kernel
theorem d_Mo_box_65 : decode b_Mo_box 65 = .ok (.iload_n 1, 1) := by decide +kernel
theorem d_Mo_box_66 : decode b_Mo_box 66 = .ok (.iaload, 1) := by decide +kernel
theorem d_Mo_box_67 : decode b_Mo_box 67 = .ok (.iconst 2, 1) := by decide +kernel
theorem d_Mo_box_68 : decode b_Mo_box 68 = .ok (.if_icmp .ne 12, 3) := by decide +kernel
theorem d_Mo_box_71 : decode b_Mo_box 71 = .ok (.aload_n 0, 1) := by decide +kernel
theorem d_Mo_box_72 : decode b_Mo_box 72 = .ok (.getfield 57, 3) := by decide +kernel
theorem d_Mo_box_75 : decode b_Mo_box 75 = .ok (.iload_n 1, 1) := by decide +kernel
theorem d_Mo_box_76 : decode b_Mo_box 76 = .ok (.daload, 1) := by decide +kernel
theorem d_Mo_box_77 : decode b_Mo_box 77 = .ok (.dneg, 1) := by decide +kernel
theorem d_Mo_box_78 : decode b_Mo_box 78 = .ok (.dstore 4, 2) := by decide +kernel
theorem d_Mo_box_80 : decode b_Mo_box 80 = .ok (.aload_n 0, 1) := by decide +kernel
theorem d_Mo_box_81 : decode b_Mo_box 81 = .ok (.getfield 22, 3) := by decide +kernel
theorem d_Mo_box_84 : decode b_Mo_box 84 = .ok (.iload_n 1, 1) := by decide +kernel
theorem d_Mo_box_85 : decode b_Mo_box 85 = .ok (.iaload, 1) := by decide +kernel
theorem d_Mo_box_86 : decode b_Mo_box 86 = .ok (.iconst 2, 1) := by decide +kernel
theorem d_Mo_box_87 : decode b_Mo_box 87 = .ok (.if_icmp .ne 12, 3) := by decide +kernel
theorem d_Mo_box_90 : decode b_Mo_box 90 = .ok (.aload_n 0, 1) := by decide +kernel
theorem d_Mo_box_91 : decode b_Mo_box 91 = .ok (.getfield 57, 3) := by decide +kernel
theorem d_Mo_box_94 : decode b_Mo_box 94 = .ok (.iload_n 1, 1) := by decide +kernel
theorem d_Mo_box_95 : decode b_Mo_box 95 = .ok (.daload, 1) := by decide +kernel
theorem d_Mo_box_96 : decode b_Mo_box 96 = .ok (.dneg, 1) := by decide +kernel
theorem d_Mo_box_97 : decode b_Mo_box 97 = .ok (.dstore 6, 2) := by decide +kernel
theorem d_Mo_box_99 : decode b_Mo_box 99 = .ok (.iconst 0, 1) := by decide +kernel
theorem d_Mo_box_100 : decode b_Mo_box 100 = .ok (.istore 12, 2) := by decide +kernel
theorem d_Mo_box_102 : decode b_Mo_box 102 = .ok (.iload 12, 2) := by decide +kernel
theorem d_Mo_box_104 : decode b_Mo_box 104 = .ok (.aload_n 0, 1) := by decide +kernel
theorem d_Mo_box_105 : decode b_Mo_box 105 = .ok (.getfield 32, 3) := by decide +kernel
theorem d_Mo_box_108 : decode b_Mo_box 108 = .ok (.iload_n 1, 1) := by decide +kernel
theorem d_Mo_box_109 : decode b_Mo_box 109 = .ok (.iaload, 1) := by decide +kernel
theorem d_Mo_box_110 : decode b_Mo_box 110 = .ok (.if_icmp .ge 210, 3) := by decide +kernel
theorem d_Mo_box_113 : decode b_Mo_box 113 = .ok (.aload_n 0, 1) := by decide +kernel
theorem d_Mo_box_114 : decode b_Mo_box 114 = .ok (.getfield 22, 3) := by decide +kernel
theorem d_Mo_box_117 : decode b_Mo_box 117 = .ok (.iload_n 1, 1) := by decide +kernel
theorem d_Mo_box_118 : decode b_Mo_box 118 = .ok (.iaload, 1) := by decide +kernel
theorem d_Mo_box_119 : decode b_Mo_box 119 = .ok (.ifCond .ne 201, 3) := by decide +kernel
theorem d_Mo_box_122 : decode b_Mo_box 122 = .ok (.aload_n 0, 1) := by decide +kernel
theorem d_Mo_box_123 : decode b_Mo_box 123 = .ok (.getfield 35, 3) := by decide +kernel
theorem d_Mo_box_126 : decode b_Mo_box 126 = .ok (.iload_n 1, 1) := by decide +kernel
theorem d_Mo_box_127 : decode b_Mo_box 127 = .ok (.bipush 14, 2) := by decide +kernel
theorem d_Mo_box_129 : decode b_Mo_box 129 = .ok (.imul, 1) := by decide +kernel
theorem d_Mo_box_130 : decode b_Mo_box 130 = .ok (.iload 12, 2) := by decide +kernel
theorem d_Mo_box_132 : decode b_Mo_box 132 = .ok (.iadd, 1) := by decide +kernel
theorem d_Mo_box_133 : decode b_Mo_box 133 = .ok (.iaload, 1) := by decide +kernel
theorem d_Mo_box_134 : decode b_Mo_box 134 = .ok (.istore 13, 2) := by decide +kernel
theorem d_Mo_box_136 : decode b_Mo_box 136 = .ok (.aload_n 0, 1) := by decide +kernel
theorem d_Mo_box_137 : decode b_Mo_box 137 = .ok (.getfield 13, 3) := by decide +kernel
theorem d_Mo_box_140 : decode b_Mo_box 140 = .ok (.iload 13, 2) := by decide +kernel
theorem d_Mo_box_142 : decode b_Mo_box 142 = .ok (.baload, 1) := by decide +kernel
theorem d_Mo_box_143 : decode b_Mo_box 143 = .ok (.ifCond .ne 171, 3) := by decide +kernel
theorem d_Mo_box_146 : decode b_Mo_box 146 = .ok (.aload_n 0, 1) := by decide +kernel
theorem d_Mo_box_147 : decode b_Mo_box 147 = .ok (.getfield 19, 3) := by decide +kernel
theorem d_Mo_box_150 : decode b_Mo_box 150 = .ok (.iload 13, 2) := by decide +kernel
theorem d_Mo_box_152 : decode b_Mo_box 152 = .ok (.baload, 1) := by decide +kernel
theorem d_Mo_box_153 : decode b_Mo_box 153 = .ok (.ifCond .ne 6, 3) := by decide +kernel
theorem d_Mo_box_156 : decode b_Mo_box 156 = .ok (.goto 158, 3) := by decide +kernel
theorem d_Mo_box_159 : decode b_Mo_box 159 = .ok (.aload_n 0, 1) := by decide +kernel
theorem d_Mo_box_160 : decode b_Mo_box 160 = .ok (.getfield 19, 3) := by decide +kernel
theorem d_Mo_box_163 : decode b_Mo_box 163 = .ok (.iload_n 1, 1) := by decide +kernel
theorem d_Mo_box_164 : decode b_Mo_box 164 = .ok (.baload, 1) := by decide +kernel
theorem d_Mo_box_165 : decode b_Mo_box 165 = .ok (.ifCond .eq 18, 3) := by decide +kernel
theorem d_Mo_box_168 : decode b_Mo_box 168 = .ok (.aload_n 0, 1) := by decide +kernel
theorem d_Mo_box_169 : decode b_Mo_box 169 = .ok (.getfield 78, 3) := by decide +kernel
theorem d_Mo_box_172 : decode b_Mo_box 172 = .ok (.iload 13, 2) := by decide +kernel
theorem d_Mo_box_174 : decode b_Mo_box 174 = .ok (.iconst 2, 1) := by decide +kernel
theorem d_Mo_box_175 : decode b_Mo_box 175 = .ok (.imul, 1) := by decide +kernel
theorem d_Mo_box_176 : decode b_Mo_box 176 = .ok (.daload, 1) := by decide +kernel
theorem d_Mo_box_177 : decode b_Mo_box 177 = .ok (.dload 4, 2) := by decide +kernel
theorem d_Mo_box_179 : decode b_Mo_box 179 = .ok (.dcmp .g, 1) := by decide +kernel
theorem d_Mo_box_180 : decode b_Mo_box 180 = .ok (.ifCond .ge 14, 3) := by decide +kernel
theorem d_Mo_box_183 : decode b_Mo_box 183 = .ok (.aload_n 0, 1) := by decide +kernel
theorem d_Mo_box_184 : decode b_Mo_box 184 = .ok (.getfield 78, 3) := by decide +kernel
theorem d_Mo_box_187 : decode b_Mo_box 187 = .ok (.iload 13, 2) := by decide +kernel
theorem d_Mo_box_189 : decode b_Mo_box 189 = .ok (.iconst 2, 1) := by decide +kernel
theorem d_Mo_box_190 : decode b_Mo_box 190 = .ok (.imul, 1) := by decide +kernel
theorem d_Mo_box_191 : decode b_Mo_box 191 = .ok (.daload, 1) := by decide +kernel
theorem d_Mo_box_192 : decode b_Mo_box 192 = .ok (.dstore 4, 2) := by decide +kernel
theorem d_Mo_box_194 : decode b_Mo_box 194 = .ok (.aload_n 0, 1) := by decide +kernel
theorem d_Mo_box_195 : decode b_Mo_box 195 = .ok (.getfield 19, 3) := by decide +kernel
theorem d_Mo_box_198 : decode b_Mo_box 198 = .ok (.iload_n 1, 1) := by decide +kernel
theorem d_Mo_box_199 : decode b_Mo_box 199 = .ok (.baload, 1) := by decide +kernel
theorem d_Mo_box_200 : decode b_Mo_box 200 = .ok (.ifCond .eq 20, 3) := by decide +kernel
theorem d_Mo_box_203 : decode b_Mo_box 203 = .ok (.aload_n 0, 1) := by decide +kernel
theorem d_Mo_box_204 : decode b_Mo_box 204 = .ok (.getfield 78, 3) := by decide +kernel
theorem d_Mo_box_207 : decode b_Mo_box 207 = .ok (.iload 13, 2) := by decide +kernel
theorem d_Mo_box_209 : decode b_Mo_box 209 = .ok (.iconst 2, 1) := by decide +kernel
theorem d_Mo_box_210 : decode b_Mo_box 210 = .ok (.imul, 1) := by decide +kernel
theorem d_Mo_box_211 : decode b_Mo_box 211 = .ok (.iconst 1, 1) := by decide +kernel
theorem d_Mo_box_212 : decode b_Mo_box 212 = .ok (.iadd, 1) := by decide +kernel
theorem d_Mo_box_213 : decode b_Mo_box 213 = .ok (.daload, 1) := by decide +kernel
theorem d_Mo_box_214 : decode b_Mo_box 214 = .ok (.dload 6, 2) := by decide +kernel
theorem d_Mo_box_216 : decode b_Mo_box 216 = .ok (.dcmp .g, 1) := by decide +kernel
theorem d_Mo_box_217 : decode b_Mo_box 217 = .ok (.ifCond .ge 16, 3) := by decide +kernel
theorem d_Mo_box_220 : decode b_Mo_box 220 = .ok (.aload_n 0, 1) := by decide +kernel
theorem d_Mo_box_221 : decode b_Mo_box 221 = .ok (.getfield 78, 3) := by decide +kernel
theorem d_Mo_box_224 : decode b_Mo_box 224 = .ok (.iload 13, 2) := by decide +kernel
theorem d_Mo_box_226 : decode b_Mo_box 226 = .ok (.iconst 2, 1) := by decide +kernel
theorem d_Mo_box_227 : decode b_Mo_box 227 = .ok (.imul, 1) := by decide +kernel
theorem d_Mo_box_228 : decode b_Mo_box 228 = .ok (.iconst 1, 1) := by decide +kernel
theorem d_Mo_box_229 : decode b_Mo_box 229 = .ok (.iadd, 1) := by decide +kernel
theorem d_Mo_box_230 : decode b_Mo_box 230 = .ok (.daload, 1) := by decide +kernel
theorem d_Mo_box_231 : decode b_Mo_box 231 = .ok (.dstore 6, 2) := by decide +kernel
theorem d_Mo_box_233 : decode b_Mo_box 233 = .ok (.aload_n 0, 1) := by decide +kernel
theorem d_Mo_box_234 : decode b_Mo_box 234 = .ok (.getfield 19, 3) := by decide +kernel
theorem d_Mo_box_237 : decode b_Mo_box 237 = .ok (.iload_n 1, 1) := by decide +kernel
theorem d_Mo_box_238 : decode b_Mo_box 238 = .ok (.baload, 1) := by decide +kernel
theorem d_Mo_box_239 : decode b_Mo_box 239 = .ok (.ifCond .eq 18, 3) := by decide +kernel
theorem d_Mo_box_242 : decode b_Mo_box 242 = .ok (.aload_n 0, 1) := by decide +kernel
theorem d_Mo_box_243 : decode b_Mo_box 243 = .ok (.getfield 81, 3) := by decide +kernel
theorem d_Mo_box_246 : decode b_Mo_box 246 = .ok (.iload 13, 2) := by decide +kernel
theorem d_Mo_box_248 : decode b_Mo_box 248 = .ok (.iconst 2, 1) := by decide +kernel
theorem d_Mo_box_249 : decode b_Mo_box 249 = .ok (.imul, 1) := by decide +kernel
theorem d_Mo_box_250 : decode b_Mo_box 250 = .ok (.daload, 1) := by decide +kernel
theorem d_Mo_box_251 : decode b_Mo_box 251 = .ok (.dload 8, 2) := by decide +kernel
theorem d_Mo_box_253 : decode b_Mo_box 253 = .ok (.dcmp .l, 1) := by decide +kernel
theorem d_Mo_box_254 : decode b_Mo_box 254 = .ok (.ifCond .le 14, 3) := by decide +kernel
theorem d_Mo_box_257 : decode b_Mo_box 257 = .ok (.aload_n 0, 1) := by decide +kernel
theorem d_Mo_box_258 : decode b_Mo_box 258 = .ok (.getfield 81, 3) := by decide +kernel
theorem d_Mo_box_261 : decode b_Mo_box 261 = .ok (.iload 13, 2) := by decide +kernel
theorem d_Mo_box_263 : decode b_Mo_box 263 = .ok (.iconst 2, 1) := by decide +kernel
theorem d_Mo_box_264 : decode b_Mo_box 264 = .ok (.imul, 1) := by decide +kernel
theorem d_Mo_box_265 : decode b_Mo_box 265 = .ok (.daload, 1) := by decide +kernel
theorem d_Mo_box_266 : decode b_Mo_box 266 = .ok (.dstore 8, 2) := by decide +kernel
theorem d_Mo_box_268 : decode b_Mo_box 268 = .ok (.aload_n 0, 1) := by decide +kernel
theorem d_Mo_box_269 : decode b_Mo_box 269 = .ok (.getfield 19, 3) := by decide +kernel
theorem d_Mo_box_272 : decode b_Mo_box 272 = .ok (.iload_n 1, 1) := by decide +kernel
theorem d_Mo_box_273 : decode b_Mo_box 273 = .ok (.baload, 1) := by decide +kernel
theorem d_Mo_box_274 : decode b_Mo_box 274 = .ok (.ifCond .eq 20, 3) := by decide +kernel
theorem d_Mo_box_277 : decode b_Mo_box 277 = .ok (.aload_n 0, 1) := by decide +kernel
theorem d_Mo_box_278 : decode b_Mo_box 278 = .ok (.getfield 81, 3) := by decide +kernel
theorem d_Mo_box_281 : decode b_Mo_box 281 = .ok (.iload 13, 2) := by decide +kernel
theorem d_Mo_box_283 : decode b_Mo_box 283 = .ok (.iconst 2, 1) := by decide +kernel
theorem d_Mo_box_284 : decode b_Mo_box 284 = .ok (.imul, 1) := by decide +kernel
theorem d_Mo_box_285 : decode b_Mo_box 285 = .ok (.iconst 1, 1) := by decide +kernel
theorem d_Mo_box_286 : decode b_Mo_box 286 = .ok (.iadd, 1) := by decide +kernel
theorem d_Mo_box_287 : decode b_Mo_box 287 = .ok (.daload, 1) := by decide +kernel
theorem d_Mo_box_288 : decode b_Mo_box 288 = .ok (.dload 10, 2) := by decide +kernel
theorem d_Mo_box_290 : decode b_Mo_box 290 = .ok (.dcmp .l, 1) := by decide +kernel
theorem d_Mo_box_291 : decode b_Mo_box 291 = .ok (.ifCond .le 16, 3) := by decide +kernel
theorem d_Mo_box_294 : decode b_Mo_box 294 = .ok (.aload_n 0, 1) := by decide +kernel
theorem d_Mo_box_295 : decode b_Mo_box 295 = .ok (.getfield 81, 3) := by decide +kernel
theorem d_Mo_box_298 : decode b_Mo_box 298 = .ok (.iload 13, 2) := by decide +kernel
theorem d_Mo_box_300 : decode b_Mo_box 300 = .ok (.iconst 2, 1) := by decide +kernel
theorem d_Mo_box_301 : decode b_Mo_box 301 = .ok (.imul, 1) := by decide +kernel
theorem d_Mo_box_302 : decode b_Mo_box 302 = .ok (.iconst 1, 1) := by decide +kernel
theorem d_Mo_box_303 : decode b_Mo_box 303 = .ok (.iadd, 1) := by decide +kernel
theorem d_Mo_box_304 : decode b_Mo_box 304 = .ok (.daload, 1) := by decide +kernel
theorem d_Mo_box_305 : decode b_Mo_box 305 = .ok (.dstore 10, 2) := by decide +kernel
theorem d_Mo_box_307 : decode b_Mo_box 307 = .ok (.aload_n 0, 1) := by decide +kernel
theorem d_Mo_box_308 : decode b_Mo_box 308 = .ok (.getfield 19, 3) := by decide +kernel
theorem d_Mo_box_311 : decode b_Mo_box 311 = .ok (.iload_n 1, 1) := by decide +kernel
theorem d_Mo_box_312 : decode b_Mo_box 312 = .ok (.iconst 1, 1) := by decide +kernel
theorem d_Mo_box_313 : decode b_Mo_box 313 = .ok (.bastore, 1) := by decide +kernel
theorem d_Mo_box_314 : decode b_Mo_box 314 = .ok (.iinc 12 1, 3) := by decide +kernel
theorem d_Mo_box_317 : decode b_Mo_box 317 = .ok (.goto (-215), 3) := by decide +kernel
theorem d_Mo_box_320 : decode b_Mo_box 320 = .ok (.aload_n 0, 1) := by decide +kernel
theorem d_Mo_box_321 : decode b_Mo_box 321 = .ok (.getfield 19, 3) := by decide +kernel
theorem d_Mo_box_324 : decode b_Mo_box 324 = .ok (.iload_n 1, 1) := by decide +kernel
theorem d_Mo_box_325 : decode b_Mo_box 325 = .ok (.baload, 1) := by decide +kernel
theorem d_Mo_box_326 : decode b_Mo_box 326 = .ok (.ifCond .ne 4, 3) := by decide +kernel
theorem d_Mo_box_329 : decode b_Mo_box 329 = .ok (.return_, 1) := by decide +kernel
theorem d_Mo_box_330 : decode b_Mo_box 330 = .ok (.aload_n 0, 1) := by decide +kernel
theorem d_Mo_box_331 : decode b_Mo_box 331 = .ok (.getfield 78, 3) := by decide +kernel
theorem d_Mo_box_334 : decode b_Mo_box 334 = .ok (.iload_n 1, 1) := by decide +kernel
theorem d_Mo_box_335 : decode b_Mo_box 335 = .ok (.iconst 2, 1) := by decide +kernel
theorem d_Mo_box_336 : decode b_Mo_box 336 = .ok (.imul, 1) := by decide +kernel
theorem d_Mo_box_337 : decode b_Mo_box 337 = .ok (.aload_n 0, 1) := by decide +kernel
theorem d_Mo_box_338 : decode b_Mo_box 338 = .ok (.getfield 78, 3) := by decide +kernel
theorem d_Mo_box_341 : decode b_Mo_box 341 = .ok (.iload_n 1, 1) := by decide +kernel
theorem d_Mo_box_342 : decode b_Mo_box 342 = .ok (.iconst 2, 1) := by decide +kernel
theorem d_Mo_box_343 : decode b_Mo_box 343 = .ok (.imul, 1) := by decide +kernel
theorem d_Mo_box_344 : decode b_Mo_box 344 = .ok (.iconst 1, 1) := by decide +kernel
theorem d_Mo_box_345 : decode b_Mo_box 345 = .ok (.iadd, 1) := by decide +kernel
theorem d_Mo_box_346 : decode b_Mo_box 346 = .ok (.ldc2_w 191, 3) := by decide +kernel
theorem d_Mo_box_349 : decode b_Mo_box 349 = .ok (.dup2_x2, 1) := by decide +kernel
theorem d_Mo_box_350 : decode b_Mo_box 350 = .ok (.dastore, 1) := by decide +kernel
theorem d_Mo_box_351 : decode b_Mo_box 351 = .ok (.dastore, 1) := by decide +kernel
theorem d_Mo_box_352 : decode b_Mo_box 352 = .ok (.aload_n 0, 1) := by decide +kernel
theorem d_Mo_box_353 : decode b_Mo_box 353 = .ok (.getfield 81, 3) := by decide +kernel
theorem d_Mo_box_356 : decode b_Mo_box 356 = .ok (.iload_n 1, 1) := by decide +kernel
theorem d_Mo_box_357 : decode b_Mo_box 357 = .ok (.iconst 2, 1) := by decide +kernel
theorem d_Mo_box_358 : decode b_Mo_box 358 = .ok (.imul, 1) := by decide +kernel
theorem d_Mo_box_359 : decode b_Mo_box 359 = .ok (.aload_n 0, 1) := by decide +kernel
theorem d_Mo_box_360 : decode b_Mo_box 360 = .ok (.getfield 81, 3) := by decide +kernel
theorem d_Mo_box_363 : decode b_Mo_box 363 = .ok (.iload_n 1, 1) := by decide +kernel
theorem d_Mo_box_364 : decode b_Mo_box 364 = .ok (.iconst 2, 1) := by decide +kernel
theorem d_Mo_box_365 : decode b_Mo_box 365 = .ok (.imul, 1) := by decide +kernel
theorem d_Mo_box_366 : decode b_Mo_box 366 = .ok (.iconst 1, 1) := by decide +kernel
theorem d_Mo_box_367 : decode b_Mo_box 367 = .ok (.iadd, 1) := by decide +kernel
theorem d_Mo_box_368 : decode b_Mo_box 368 = .ok (.ldc2_w 193, 3) := by decide +kernel
theorem d_Mo_box_371 : decode b_Mo_box 371 = .ok (.dup2_x2, 1) := by decide +kernel
theorem d_Mo_box_372 : decode b_Mo_box 372 = .ok (.dastore, 1) := by decide +kernel
theorem d_Mo_box_373 : decode b_Mo_box 373 = .ok (.dastore, 1) := by decide +kernel
theorem d_Mo_box_374 : decode b_Mo_box 374 = .ok (.aload_n 0, 1) := by decide +kernel
theorem d_Mo_box_375 : decode b_Mo_box 375 = .ok (.iload_n 1, 1) := by decide +kernel
theorem d_Mo_box_376 : decode b_Mo_box 376 = .ok (.dload 4, 2) := by decide +kernel
theorem d_Mo_box_378 : decode b_Mo_box 378 = .ok (.dload 6, 2) := by decide +kernel
theorem d_Mo_box_380 : decode b_Mo_box 380 = .ok (.dload_n 2, 1) := by decide +kernel
theorem d_Mo_box_381 : decode b_Mo_box 381 = .ok (.invokevirtual 195, 3) := by decide +kernel
theorem d_Mo_box_384 : decode b_Mo_box 384 = .ok (.aload_n 0, 1) := by decide +kernel
theorem d_Mo_box_385 : decode b_Mo_box 385 = .ok (.iload_n 1, 1) := by decide +kernel
theorem d_Mo_box_386 : decode b_Mo_box 386 = .ok (.dload 8, 2) := by decide +kernel
theorem d_Mo_box_388 : decode b_Mo_box 388 = .ok (.dload 10, 2) := by decide +kernel
theorem d_Mo_box_390 : decode b_Mo_box 390 = .ok (.dload_n 2, 1) := by decide +kernel
theorem d_Mo_box_391 : decode b_Mo_box 391 = .ok (.invokevirtual 195, 3) := by decide +kernel
theorem d_Mo_box_394 : decode b_Mo_box 394 = .ok (.return_, 1) := by decide +kernel
theorem d_Mo_layOut_0 : decode b_Mo_layOut 0 = .ok (.iload_n 1, 1) := by decide +kernel
theorem d_Mo_layOut_1 : decode b_Mo_layOut 1 = .ok (.ifCond .le 17, 3) := by decide +kernel
theorem d_Mo_layOut_4 : decode b_Mo_layOut 4 = .ok (.aload_n 0, 1) := by decide +kernel
theorem d_Mo_layOut_5 : decode b_Mo_layOut 5 = .ok (.iload_n 1, 1) := by decide +kernel
theorem d_Mo_layOut_6 : decode b_Mo_layOut 6 = .ok (.iconst 2, 1) := by decide +kernel
theorem d_Mo_layOut_7 : decode b_Mo_layOut 7 = .ok (.dload 6, 2) := by decide +kernel
theorem d_Mo_layOut_9 : decode b_Mo_layOut 9 = .ok (.invokevirtual 168, 3) := by decide +kernel
theorem d_Mo_layOut_12 : decode b_Mo_layOut 12 = .ok (.invokestatic 172, 3) := by decide +kernel
theorem d_Mo_layOut_15 : decode b_Mo_layOut 15 = .ok (.goto 4, 3) := by decide +kernel
theorem d_Mo_layOut_18 : decode b_Mo_layOut 18 = .ok (.dconst 1, 1) := by decide +kernel
theorem d_Mo_layOut_19 : decode b_Mo_layOut 19 = .ok (.dstore 8, 2) := by decide +kernel
theorem d_Mo_layOut_21 : decode b_Mo_layOut 21 = .ok (.dload_n 2, 1) := by decide +kernel
theorem d_Mo_layOut_22 : decode b_Mo_layOut 22 = .ok (.dload 8, 2) := by decide +kernel
theorem d_Mo_layOut_24 : decode b_Mo_layOut 24 = .ok (.dmul, 1) := by decide +kernel
theorem d_Mo_layOut_25 : decode b_Mo_layOut 25 = .ok (.dstore 10, 2) := by decide +kernel
theorem d_Mo_layOut_27 : decode b_Mo_layOut 27 = .ok (.dload 4, 2) := by decide +kernel
theorem d_Mo_layOut_29 : decode b_Mo_layOut 29 = .ok (.dload 8, 2) := by decide +kernel
theorem d_Mo_layOut_31 : decode b_Mo_layOut 31 = .ok (.dmul, 1) := by decide +kernel
theorem d_Mo_layOut_32 : decode b_Mo_layOut 32 = .ok (.dstore 12, 2) := by decide +kernel
theorem d_Mo_layOut_34 : decode b_Mo_layOut 34 = .ok (.iconst 0, 1) := by decide +kernel
theorem d_Mo_layOut_35 : decode b_Mo_layOut 35 = .ok (.istore 14, 2) := by decide +kernel
theorem d_Mo_layOut_37 : decode b_Mo_layOut 37 = .ok (.iload 14, 2) := by decide +kernel
theorem d_Mo_layOut_39 : decode b_Mo_layOut 39 = .ok (.aload_n 0, 1) := by decide +kernel
theorem d_Mo_layOut_40 : decode b_Mo_layOut 40 = .ok (.getfield 38, 3) := by decide +kernel
theorem d_Mo_layOut_43 : decode b_Mo_layOut 43 = .ok (.iload_n 1, 1) := by decide +kernel
theorem d_Mo_layOut_44 : decode b_Mo_layOut 44 = .ok (.iaload, 1) := by decide +kernel
theorem d_Mo_layOut_45 : decode b_Mo_layOut 45 = .ok (.if_icmp .ge 22, 3) := by decide +kernel
theorem d_Mo_layOut_48 : decode b_Mo_layOut 48 = .ok (.dload 10, 2) := by decide +kernel
theorem d_Mo_layOut_50 : decode b_Mo_layOut 50 = .ok (.dstore 15, 2) := by decide +kernel
theorem d_Mo_layOut_52 : decode b_Mo_layOut 52 = .ok (.dload 12, 2) := by decide +kernel
theorem d_Mo_layOut_54 : decode b_Mo_layOut 54 = .ok (.dneg, 1) := by decide +kernel
theorem d_Mo_layOut_55 : decode b_Mo_layOut 55 = .ok (.dstore 10, 2) := by decide +kernel
theorem d_Mo_layOut_57 : decode b_Mo_layOut 57 = .ok (.dload 15, 2) := by decide +kernel
theorem d_Mo_layOut_59 : decode b_Mo_layOut 59 = .ok (.dstore 12, 2) := by decide +kernel
theorem d_Mo_layOut_61 : decode b_Mo_layOut 61 = .ok (.iinc 14 1, 3) := by decide +kernel
theorem d_Mo_layOut_64 : decode b_Mo_layOut 64 = .ok (.goto (-27), 3) := by decide +kernel
theorem d_Mo_layOut_67 : decode b_Mo_layOut 67 = .ok (.iload_n 1, 1) := by decide +kernel
theorem d_Mo_layOut_68 : decode b_Mo_layOut 68 = .ok (.ifCond .le 29, 3) := by decide +kernel
theorem d_Mo_layOut_71 : decode b_Mo_layOut 71 = .ok (.dload 10, 2) := by decide +kernel
theorem d_Mo_layOut_73 : decode b_Mo_layOut 73 = .ok (.aload_n 0, 1) := by decide +kernel
theorem d_Mo_layOut_74 : decode b_Mo_layOut 74 = .ok (.iload_n 1, 1) := by decide +kernel
theorem d_Mo_layOut_75 : decode b_Mo_layOut 75 = .ok (.iconst 0, 1) := by decide +kernel
theorem d_Mo_layOut_76 : decode b_Mo_layOut 76 = .ok (.dload 6, 2) := by decide +kernel
theorem d_Mo_layOut_78 : decode b_Mo_layOut 78 = .ok (.invokevirtual 168, 3) := by decide +kernel
theorem d_Mo_layOut_81 : decode b_Mo_layOut 81 = .ok (.dadd, 1) := by decide +kernel
theorem d_Mo_layOut_82 : decode b_Mo_layOut 82 = .ok (.dstore 10, 2) := by decide +kernel
theorem d_Mo_layOut_84 : decode b_Mo_layOut 84 = .ok (.dload 12, 2) := by decide +kernel
theorem d_Mo_layOut_86 : decode b_Mo_layOut 86 = .ok (.aload_n 0, 1) := by decide +kernel
theorem d_Mo_layOut_87 : decode b_Mo_layOut 87 = .ok (.iload_n 1, 1) := by decide +kernel
theorem d_Mo_layOut_88 : decode b_Mo_layOut 88 = .ok (.iconst 1, 1) := by decide +kernel
theorem d_Mo_layOut_89 : decode b_Mo_layOut 89 = .ok (.dload 6, 2) := by decide +kernel
theorem d_Mo_layOut_91 : decode b_Mo_layOut 91 = .ok (.invokevirtual 168, 3) := by decide +kernel
theorem d_Mo_layOut_94 : decode b_Mo_layOut 94 = .ok (.dadd, 1) := by decide +kernel
theorem d_Mo_layOut_95 : decode b_Mo_layOut 95 = .ok (.dstore 12, 2) := by decide +kernel
theorem d_Mo_layOut_97 : decode b_Mo_layOut 97 = .ok (.aload_n 0, 1) := by decide +kernel
theorem d_Mo_layOut_98 : decode b_Mo_layOut 98 = .ok (.iload_n 1, 1) := by decide +kernel
theorem d_Mo_layOut_99 : decode b_Mo_layOut 99 = .ok (.iconst 2, 1) := by decide +kernel
theorem d_Mo_layOut_100 : decode b_Mo_layOut 100 = .ok (.imul, 1) := by decide +kernel
theorem d_Mo_layOut_101 : decode b_Mo_layOut 101 = .ok (.dload 10, 2) := by decide +kernel
theorem d_Mo_layOut_103 : decode b_Mo_layOut 103 = .ok (.invokevirtual 187, 3) := by decide +kernel
theorem d_Mo_layOut_106 : decode b_Mo_layOut 106 = .ok (.aload_n 0, 1) := by decide +kernel
theorem d_Mo_layOut_107 : decode b_Mo_layOut 107 = .ok (.iload_n 1, 1) := by decide +kernel
theorem d_Mo_layOut_108 : decode b_Mo_layOut 108 = .ok (.iconst 2, 1) := by decide +kernel
theorem d_Mo_layOut_109 : decode b_Mo_layOut 109 = .ok (.imul, 1) := by decide +kernel
theorem d_Mo_layOut_110 : decode b_Mo_layOut 110 = .ok (.iconst 1, 1) := by decide +kernel
theorem d_Mo_layOut_111 : decode b_Mo_layOut 111 = .ok (.iadd, 1) := by decide +kernel
theorem d_Mo_layOut_112 : decode b_Mo_layOut 112 = .ok (.dload 12, 2) := by decide +kernel
theorem d_Mo_layOut_114 : decode b_Mo_layOut 114 = .ok (.invokevirtual 187, 3) := by decide +kernel
theorem d_Mo_layOut_117 : decode b_Mo_layOut 117 = .ok (.return_, 1) := by decide +kernel
theorem d_Mo_widen_0 : decode b_Mo_widen 0 = .ok (.dload_n 2, 1) := by decide +kernel
theorem d_Mo_widen_1 : decode b_Mo_widen 1 = .ok (.aload_n 0, 1) := by decide +kernel
theorem d_Mo_widen_2 : decode b_Mo_widen 2 = .ok (.getfield 78, 3) := by decide +kernel
theorem d_Mo_widen_5 : decode b_Mo_widen 5 = .ok (.iload_n 1, 1) := by decide +kernel
theorem d_Mo_widen_6 : decode b_Mo_widen 6 = .ok (.daload, 1) := by decide +kernel
theorem d_Mo_widen_7 : decode b_Mo_widen 7 = .ok (.dcmp .g, 1) := by decide +kernel
theorem d_Mo_widen_8 : decode b_Mo_widen 8 = .ok (.ifCond .ge 10, 3) := by decide +kernel
theorem d_Mo_widen_11 : decode b_Mo_widen 11 = .ok (.aload_n 0, 1) := by decide +kernel
theorem d_Mo_widen_12 : decode b_Mo_widen 12 = .ok (.getfield 78, 3) := by decide +kernel
theorem d_Mo_widen_15 : decode b_Mo_widen 15 = .ok (.iload_n 1, 1) := by decide +kernel
theorem d_Mo_widen_16 : decode b_Mo_widen 16 = .ok (.dload_n 2, 1) := by decide +kernel
theorem d_Mo_widen_17 : decode b_Mo_widen 17 = .ok (.dastore, 1) := by decide +kernel
theorem d_Mo_widen_18 : decode b_Mo_widen 18 = .ok (.dload_n 2, 1) := by decide +kernel
theorem d_Mo_widen_19 : decode b_Mo_widen 19 = .ok (.aload_n 0, 1) := by decide +kernel
theorem d_Mo_widen_20 : decode b_Mo_widen 20 = .ok (.getfield 81, 3) := by decide +kernel
theorem d_Mo_widen_23 : decode b_Mo_widen 23 = .ok (.iload_n 1, 1) := by decide +kernel
theorem d_Mo_widen_24 : decode b_Mo_widen 24 = .ok (.daload, 1) := by decide +kernel
theorem d_Mo_widen_25 : decode b_Mo_widen 25 = .ok (.dcmp .l, 1) := by decide +kernel
theorem d_Mo_widen_26 : decode b_Mo_widen 26 = .ok (.ifCond .le 10, 3) := by decide +kernel
theorem d_Mo_widen_29 : decode b_Mo_widen 29 = .ok (.aload_n 0, 1) := by decide +kernel
theorem d_Mo_widen_30 : decode b_Mo_widen 30 = .ok (.getfield 81, 3) := by decide +kernel
theorem d_Mo_widen_33 : decode b_Mo_widen 33 = .ok (.iload_n 1, 1) := by decide +kernel
theorem d_Mo_widen_34 : decode b_Mo_widen 34 = .ok (.dload_n 2, 1) := by decide +kernel
theorem d_Mo_widen_35 : decode b_Mo_widen 35 = .ok (.dastore, 1) := by decide +kernel
theorem d_Mo_widen_36 : decode b_Mo_widen 36 = .ok (.return_, 1) := by decide +kernel
theorem d_Mo_told_0 : decode b_Mo_told 0 = .ok (.aload_n 0, 1) := by decide +kernel
theorem d_Mo_told_1 : decode b_Mo_told 1 = .ok (.aload_n 0, 1) := by decide +kernel
theorem d_Mo_told_2 : decode b_Mo_told 2 = .ok (.iload_n 1, 1) := by decide +kernel
theorem d_Mo_told_3 : decode b_Mo_told 3 = .ok (.invokevirtual 94, 3) := by decide +kernel
theorem d_Mo_told_6 : decode b_Mo_told 6 = .ok (.ifCond .eq 16, 3) := by decide +kernel
theorem d_Mo_told_9 : decode b_Mo_told 9 = .ok (.iload_n 2, 1) := by decide +kernel
theorem d_Mo_told_10 : decode b_Mo_told 10 = .ok (.ifCond .lt 12, 3) := by decide +kernel
theorem d_Mo_told_13 : decode b_Mo_told 13 = .ok (.iload_n 2, 1) := by decide +kernel
theorem d_Mo_told_14 : decode b_Mo_told 14 = .ok (.iconst 5, 1) := by decide +kernel
theorem d_Mo_told_15 : decode b_Mo_told 15 = .ok (.if_icmp .ge 7, 3) := by decide +kernel
theorem d_Mo_told_18 : decode b_Mo_told 18 = .ok (.iconst 1, 1) := by decide +kernel
theorem d_Mo_told_19 : decode b_Mo_told 19 = .ok (.goto 4, 3) := by decide +kernel
theorem d_Mo_told_22 : decode b_Mo_told 22 = .ok (.iconst 0, 1) := by decide +kernel
theorem d_Mo_told_23 : decode b_Mo_told 23 = .ok (.invokevirtual 108, 3) := by decide +kernel
theorem d_Mo_told_26 : decode b_Mo_told 26 = .ok (.ifCond .eq 5, 3) := by decide +kernel
theorem d_Mo_told_29 : decode b_Mo_told 29 = .ok (.iconst 0, 1) := by decide +kernel
theorem d_Mo_told_30 : decode b_Mo_told 30 = .ok (.ireturn, 1) := by decide +kernel
theorem d_Mo_told_31 : decode b_Mo_told 31 = .ok (.iload_n 2, 1) := by decide +kernel
theorem d_Mo_told_32 : decode b_Mo_told 32 = .ok (.iconst 2, 1) := by decide +kernel
theorem d_Mo_told_33 : decode b_Mo_told 33 = .ok (.if_icmp .ge 23, 3) := by decide +kernel
theorem d_Mo_told_36 : decode b_Mo_told 36 = .ok (.iload_n 2, 1) := by decide +kernel
theorem d_Mo_told_37 : decode b_Mo_told 37 = .ok (.ifCond .ne 12, 3) := by decide +kernel
theorem d_Mo_told_40 : decode b_Mo_told 40 = .ok (.aload_n 0, 1) := by decide +kernel
theorem d_Mo_told_41 : decode b_Mo_told 41 = .ok (.getfield 22, 3) := by decide +kernel
theorem d_Mo_told_44 : decode b_Mo_told 44 = .ok (.iload_n 1, 1) := by decide +kernel
theorem d_Mo_told_45 : decode b_Mo_told 45 = .ok (.iaload, 1) := by decide +kernel
theorem d_Mo_told_46 : decode b_Mo_told 46 = .ok (.goto 9, 3) := by decide +kernel
theorem d_Mo_told_49 : decode b_Mo_told 49 = .ok (.aload_n 0, 1) := by decide +kernel
theorem d_Mo_told_50 : decode b_Mo_told 50 = .ok (.getfield 29, 3) := by decide +kernel
theorem d_Mo_told_53 : decode b_Mo_told 53 = .ok (.iload_n 1, 1) := by decide +kernel
theorem d_Mo_told_54 : decode b_Mo_told 54 = .ok (.iaload, 1) := by decide +kernel
theorem d_Mo_told_55 : decode b_Mo_told 55 = .ok (.ireturn, 1) := by decide +kernel
theorem d_Mo_told_56 : decode b_Mo_told 56 = .ok (.iload_n 2, 1) := by decide +kernel
theorem d_Mo_told_57 : decode b_Mo_told 57 = .ok (.iconst 2, 1) := by decide +kernel
theorem d_Mo_told_58 : decode b_Mo_told 58 = .ok (.if_icmp .ne 12, 3) := by decide +kernel
theorem d_Mo_told_61 : decode b_Mo_told 61 = .ok (.aload_n 0, 1) := by decide +kernel
theorem d_Mo_told_62 : decode b_Mo_told 62 = .ok (.getfield 32, 3) := by decide +kernel
theorem d_Mo_told_65 : decode b_Mo_told 65 = .ok (.iload_n 1, 1) := by decide +kernel
theorem d_Mo_told_66 : decode b_Mo_told 66 = .ok (.iaload, 1) := by decide +kernel
theorem d_Mo_told_67 : decode b_Mo_told 67 = .ok (.goto 21, 3) := by decide +kernel
theorem d_Mo_told_70 : decode b_Mo_told 70 = .ok (.iload_n 2, 1) := by decide +kernel
theorem d_Mo_told_71 : decode b_Mo_told 71 = .ok (.iconst 3, 1) := by decide +kernel
theorem d_Mo_told_72 : decode b_Mo_told 72 = .ok (.if_icmp .ne 11, 3) := by decide +kernel
theorem d_Mo_told_75 : decode b_Mo_told 75 = .ok (.aload_n 0, 1) := by decide +kernel
theorem d_Mo_told_76 : decode b_Mo_told 76 = .ok (.iload_n 1, 1) := by decide +kernel
theorem d_Mo_told_77 : decode b_Mo_told 77 = .ok (.invokevirtual 101, 3) := by decide +kernel
theorem d_Mo_told_80 : decode b_Mo_told 80 = .ok (.goto 8, 3) := by decide +kernel
theorem d_Mo_told_83 : decode b_Mo_told 83 = .ok (.aload_n 0, 1) := by decide +kernel
theorem d_Mo_told_84 : decode b_Mo_told 84 = .ok (.iload_n 1, 1) := by decide +kernel
theorem d_Mo_told_85 : decode b_Mo_told 85 = .ok (.invokevirtual 202, 3) := by decide +kernel
theorem d_Mo_told_88 : decode b_Mo_told 88 = .ok (.ireturn, 1) := by decide +kernel
theorem d_Mo_keysOf_0 : decode b_Mo_keysOf 0 = .ok (.aload_n 0, 1) := by decide +kernel
theorem d_Mo_keysOf_1 : decode b_Mo_keysOf 1 = .ok (.getfield 41, 3) := by decide +kernel
theorem d_Mo_keysOf_4 : decode b_Mo_keysOf 4 = .ok (.iload_n 1, 1) := by decide +kernel
theorem d_Mo_keysOf_5 : decode b_Mo_keysOf 5 = .ok (.iconst 4, 1) := by decide +kernel
theorem d_Mo_keysOf_6 : decode b_Mo_keysOf 6 = .ok (.imul, 1) := by decide +kernel
theorem d_Mo_keysOf_7 : decode b_Mo_keysOf 7 = .ok (.iaload, 1) := by decide +kernel
theorem d_Mo_keysOf_8 : decode b_Mo_keysOf 8 = .ok (.aload_n 0, 1) := by decide +kernel
theorem d_Mo_keysOf_9 : decode b_Mo_keysOf 9 = .ok (.getfield 41, 3) := by decide +kernel
theorem d_Mo_keysOf_12 : decode b_Mo_keysOf 12 = .ok (.iload_n 1, 1) := by decide +kernel
theorem d_Mo_keysOf_13 : decode b_Mo_keysOf 13 = .ok (.iconst 4, 1) := by decide +kernel
theorem d_Mo_keysOf_14 : decode b_Mo_keysOf 14 = .ok (.imul, 1) := by decide +kernel
theorem d_Mo_keysOf_15 : decode b_Mo_keysOf 15 = .ok (.iconst 1, 1) := by decide +kernel
theorem d_Mo_keysOf_16 : decode b_Mo_keysOf 16 = .ok (.iadd, 1) := by decide +kernel
theorem d_Mo_keysOf_17 : decode b_Mo_keysOf 17 = .ok (.iaload, 1) := by decide +kernel
theorem d_Mo_keysOf_18 : decode b_Mo_keysOf 18 = .ok (.iadd, 1) := by decide +kernel
theorem d_Mo_keysOf_19 : decode b_Mo_keysOf 19 = .ok (.aload_n 0, 1) := by decide +kernel
theorem d_Mo_keysOf_20 : decode b_Mo_keysOf 20 = .ok (.getfield 41, 3) := by decide +kernel
theorem d_Mo_keysOf_23 : decode b_Mo_keysOf 23 = .ok (.iload_n 1, 1) := by decide +kernel
theorem d_Mo_keysOf_24 : decode b_Mo_keysOf 24 = .ok (.iconst 4, 1) := by decide +kernel
theorem d_Mo_keysOf_25 : decode b_Mo_keysOf 25 = .ok (.imul, 1) := by decide +kernel
theorem d_Mo_keysOf_26 : decode b_Mo_keysOf 26 = .ok (.iconst 2, 1) := by decide +kernel
theorem d_Mo_keysOf_27 : decode b_Mo_keysOf 27 = .ok (.iadd, 1) := by decide +kernel
theorem d_Mo_keysOf_28 : decode b_Mo_keysOf 28 = .ok (.iaload, 1) := by decide +kernel
theorem d_Mo_keysOf_29 : decode b_Mo_keysOf 29 = .ok (.iadd, 1) := by decide +kernel
theorem d_Mo_keysOf_30 : decode b_Mo_keysOf 30 = .ok (.aload_n 0, 1) := by decide +kernel
theorem d_Mo_keysOf_31 : decode b_Mo_keysOf 31 = .ok (.getfield 41, 3) := by decide +kernel
theorem d_Mo_keysOf_34 : decode b_Mo_keysOf 34 = .ok (.iload_n 1, 1) := by decide +kernel
theorem d_Mo_keysOf_35 : decode b_Mo_keysOf 35 = .ok (.iconst 4, 1) := by decide +kernel
theorem d_Mo_keysOf_36 : decode b_Mo_keysOf 36 = .ok (.imul, 1) := by decide +kernel
theorem d_Mo_keysOf_37 : decode b_Mo_keysOf 37 = .ok (.iconst 3, 1) := by decide +kernel
theorem d_Mo_keysOf_38 : decode b_Mo_keysOf 38 = .ok (.iadd, 1) := by decide +kernel
theorem d_Mo_keysOf_39 : decode b_Mo_keysOf 39 = .ok (.iaload, 1) := by decide +kernel
theorem d_Mo_keysOf_40 : decode b_Mo_keysOf 40 = .ok (.iadd, 1) := by decide +kernel
theorem d_Mo_keysOf_41 : decode b_Mo_keysOf 41 = .ok (.ireturn, 1) := by decide +kernel
theorem d_Mo_count_0 : decode b_Mo_count 0 = .ok (.aload_n 0, 1) := by decide +kernel
theorem d_Mo_count_1 : decode b_Mo_count 1 = .ok (.iconst 0, 1) := by decide +kernel
theorem d_Mo_count_2 : decode b_Mo_count 2 = .ok (.putfield 90, 3) := by decide +kernel
theorem d_Mo_count_5 : decode b_Mo_count 5 = .ok (.iconst 0, 1) := by decide +kernel
theorem d_Mo_count_6 : decode b_Mo_count 6 = .ok (.istore_n 2, 1) := by decide +kernel
theorem d_Mo_count_7 : decode b_Mo_count 7 = .ok (.iconst 0, 1) := by decide +kernel
theorem d_Mo_count_8 : decode b_Mo_count 8 = .ok (.istore_n 3, 1) := by decide +kernel
theorem d_Mo_count_9 : decode b_Mo_count 9 = .ok (.iconst 0, 1) := by decide +kernel
theorem d_Mo_count_10 : decode b_Mo_count 10 = .ok (.istore 4, 2) := by decide +kernel
theorem d_Mo_count_12 : decode b_Mo_count 12 = .ok (.iload 4, 2) := by decide +kernel
theorem d_Mo_count_14 : decode b_Mo_count 14 = .ok (.aload_n 0, 1) := by decide +kernel
theorem d_Mo_count_15 : decode b_Mo_count 15 = .ok (.getfield 98, 3) := by decide +kernel
theorem d_Mo_count_18 : decode b_Mo_count 18 = .ok (.if_icmp .ge 52, 3) := by decide +kernel
theorem d_Mo_count_21 : decode b_Mo_count 21 = .ok (.iload_n 2, 1) := by decide +kernel
theorem d_Mo_count_22 : decode b_Mo_count 22 = .ok (.aload_n 0, 1) := by decide +kernel
theorem d_Mo_count_23 : decode b_Mo_count 23 = .ok (.aload_n 0, 1) := by decide +kernel
theorem d_Mo_count_24 : decode b_Mo_count 24 = .ok (.getfield 44, 3) := by decide +kernel
theorem d_Mo_count_27 : decode b_Mo_count 27 = .ok (.iload 4, 2) := by decide +kernel
theorem d_Mo_count_29 : decode b_Mo_count 29 = .ok (.iaload, 1) := by decide +kernel
theorem d_Mo_count_30 : decode b_Mo_count 30 = .ok (.invokevirtual 202, 3) := by decide +kernel
theorem d_Mo_count_33 : decode b_Mo_count 33 = .ok (.iadd, 1) := by decide +kernel
theorem d_Mo_count_34 : decode b_Mo_count 34 = .ok (.istore_n 2, 1) := by decide +kernel
theorem d_Mo_count_35 : decode b_Mo_count 35 = .ok (.aload_n 0, 1) := by decide +kernel
theorem d_Mo_count_36 : decode b_Mo_count 36 = .ok (.getfield 50, 3) := by decide +kernel
theorem d_Mo_count_39 : decode b_Mo_count 39 = .ok (.aload_n 0, 1) := by decide +kernel
theorem d_Mo_count_40 : decode b_Mo_count 40 = .ok (.getfield 44, 3) := by decide +kernel
theorem d_Mo_count_43 : decode b_Mo_count 43 = .ok (.iload 4, 2) := by decide +kernel
theorem d_Mo_count_45 : decode b_Mo_count 45 = .ok (.iaload, 1) := by decide +kernel
theorem d_Mo_count_46 : decode b_Mo_count 46 = .ok (.iaload, 1) := by decide +kernel
theorem d_Mo_count_47 : decode b_Mo_count 47 = .ok (.iload_n 3, 1) := by decide +kernel
theorem d_Mo_count_48 : decode b_Mo_count 48 = .ok (.if_icmp .le 16, 3) := by decide +kernel
theorem d_Mo_count_51 : decode b_Mo_count 51 = .ok (.aload_n 0, 1) := by decide +kernel
theorem d_Mo_count_52 : decode b_Mo_count 52 = .ok (.getfield 50, 3) := by decide +kernel
theorem d_Mo_count_55 : decode b_Mo_count 55 = .ok (.aload_n 0, 1) := by decide +kernel
theorem d_Mo_count_56 : decode b_Mo_count 56 = .ok (.getfield 44, 3) := by decide +kernel
theorem d_Mo_count_59 : decode b_Mo_count 59 = .ok (.iload 4, 2) := by decide +kernel
theorem d_Mo_count_61 : decode b_Mo_count 61 = .ok (.iaload, 1) := by decide +kernel
theorem d_Mo_count_62 : decode b_Mo_count 62 = .ok (.iaload, 1) := by decide +kernel
theorem d_Mo_count_63 : decode b_Mo_count 63 = .ok (.istore_n 3, 1) := by decide +kernel
theorem d_Mo_count_64 : decode b_Mo_count 64 = .ok (.iinc 4 1, 3) := by decide +kernel
theorem d_Mo_count_67 : decode b_Mo_count 67 = .ok (.goto (-55), 3) := by decide +kernel
theorem d_Mo_count_70 : decode b_Mo_count 70 = .ok (.iload_n 1, 1) := by decide +kernel
theorem d_Mo_count_71 : decode b_Mo_count 71 = .ok (.ifCond .ne 10, 3) := by decide +kernel
theorem d_Mo_count_74 : decode b_Mo_count 74 = .ok (.aload_n 0, 1) := by decide +kernel
theorem d_Mo_count_75 : decode b_Mo_count 75 = .ok (.getfield 98, 3) := by decide +kernel
theorem d_Mo_count_78 : decode b_Mo_count 78 = .ok (.goto 34, 3) := by decide +kernel
theorem d_Mo_count_81 : decode b_Mo_count 81 = .ok (.iload_n 1, 1) := by decide +kernel
theorem d_Mo_count_82 : decode b_Mo_count 82 = .ok (.iconst 1, 1) := by decide +kernel
theorem d_Mo_count_83 : decode b_Mo_count 83 = .ok (.if_icmp .ne 7, 3) := by decide +kernel
theorem d_Mo_count_86 : decode b_Mo_count 86 = .ok (.iload_n 2, 1) := by decide +kernel
theorem d_Mo_count_87 : decode b_Mo_count 87 = .ok (.goto 25, 3) := by decide +kernel
theorem d_Mo_count_90 : decode b_Mo_count 90 = .ok (.iload_n 1, 1) := by decide +kernel
theorem d_Mo_count_91 : decode b_Mo_count 91 = .ok (.iconst 2, 1) := by decide +kernel
theorem d_Mo_count_92 : decode b_Mo_count 92 = .ok (.if_icmp .ne 10, 3) := by decide +kernel
theorem d_Mo_count_95 : decode b_Mo_count 95 = .ok (.aload_n 0, 1) := by decide +kernel
theorem d_Mo_count_96 : decode b_Mo_count 96 = .ok (.getfield 182, 3) := by decide +kernel
theorem d_Mo_count_99 : decode b_Mo_count 99 = .ok (.goto 13, 3) := by decide +kernel
theorem d_Mo_count_102 : decode b_Mo_count 102 = .ok (.iload_n 1, 1) := by decide +kernel
theorem d_Mo_count_103 : decode b_Mo_count 103 = .ok (.iconst 3, 1) := by decide +kernel
theorem d_Mo_count_104 : decode b_Mo_count 104 = .ok (.if_icmp .ne 7, 3) := by decide +kernel
theorem d_Mo_count_107 : decode b_Mo_count 107 = .ok (.iload_n 3, 1) := by decide +kernel
theorem d_Mo_count_108 : decode b_Mo_count 108 = .ok (.goto 4, 3) := by decide +kernel
theorem d_Mo_count_111 : decode b_Mo_count 111 = .ok (.iconst (-1), 1) := by decide +kernel
theorem d_Mo_count_112 : decode b_Mo_count 112 = .ok (.ireturn, 1) := by decide +kernel
