/-! decode rows, by program -/
theorem d_La_node_0 : decode b_La_node 0 = .ok (.aload 4, 2) := by decide +kernel
theorem d_La_node_2 : decode b_La_node 2 = .ok (.iconst 0, 1) := by decide +kernel
theorem d_La_node_3 : decode b_La_node 3 = .ok (.aload_n 0, 1) := by decide +kernel
theorem d_La_node_4 : decode b_La_node 4 = .ok (.iload_n 1, 1) := by decide +kernel
theorem d_La_node_5 : decode b_La_node 5 = .ok (.iload_n 2, 1) := by decide +kernel
theorem d_La_node_6 : decode b_La_node 6 = .ok (.iload_n 3, 1) := by decide +kernel
theorem d_La_node_7 : decode b_La_node 7 = .ok (.invokevirtual 7, 3) := by decide +kernel
theorem d_La_node_10 : decode b_La_node 10 = .ok (.i2l, 1) := by decide +kernel
theorem d_La_node_11 : decode b_La_node 11 = .ok (.lastore, 1) := by decide +kernel
theorem d_La_node_12 : decode b_La_node 12 = .ok (.goto 11, 3) := by decide +kernel
theorem d_La_node_15 : decode b_La_node 15 = .ok (.astore 5, 2) := by decide +kernel
theorem d_La_node_17 : decode b_La_node 17 = .ok (.iconst 1, 1) := by decide +kernel
theorem d_La_node_18 : decode b_La_node 18 = .ok (.ireturn, 1) := by decide +kernel
theorem d_La_node_19 : decode b_La_node 19 = .ok (.astore 5, 2) := by decide +kernel
theorem d_La_node_21 : decode b_La_node 21 = .ok (.iconst 2, 1) := by decide +kernel
theorem d_La_node_22 : decode b_La_node 22 = .ok (.ireturn, 1) := by decide +kernel
theorem d_La_node_23 : decode b_La_node 23 = .ok (.iconst 0, 1) := by decide +kernel
theorem d_La_node_24 : decode b_La_node 24 = .ok (.ireturn, 1) := by decide +kernel
theorem d_La_lengths_0 : decode b_La_lengths 0 = .ok (.aload_n 0, 1) := by decide +kernel
theorem d_La_lengths_1 : decode b_La_lengths 1 = .ok (.iload_n 1, 1) := by decide +kernel
theorem d_La_lengths_2 : decode b_La_lengths 2 = .ok (.dload_n 2, 1) := by decide +kernel
theorem d_La_lengths_3 : decode b_La_lengths 3 = .ok (.dload 4, 2) := by decide +kernel
theorem d_La_lengths_5 : decode b_La_lengths 5 = .ok (.invokevirtual 17, 3) := by decide +kernel
theorem d_La_lengths_8 : decode b_La_lengths 8 = .ok (.goto 7, 3) := by decide +kernel
theorem d_La_lengths_11 : decode b_La_lengths 11 = .ok (.astore 6, 2) := by decide +kernel
theorem d_La_lengths_13 : decode b_La_lengths 13 = .ok (.iconst 1, 1) := by decide +kernel
theorem d_La_lengths_14 : decode b_La_lengths 14 = .ok (.ireturn, 1) := by decide +kernel
theorem d_La_lengths_15 : decode b_La_lengths 15 = .ok (.iconst 0, 1) := by decide +kernel
theorem d_La_lengths_16 : decode b_La_lengths 16 = .ok (.ireturn, 1) := by decide +kernel
theorem d_La_place_0 : decode b_La_place 0 = .ok (.aload_n 0, 1) := by decide +kernel
theorem d_La_place_1 : decode b_La_place 1 = .ok (.iload_n 1, 1) := by decide +kernel
theorem d_La_place_2 : decode b_La_place 2 = .ok (.dload_n 2, 1) := by decide +kernel
theorem d_La_place_3 : decode b_La_place 3 = .ok (.dload 4, 2) := by decide +kernel
theorem d_La_place_5 : decode b_La_place 5 = .ok (.invokevirtual 21, 3) := by decide +kernel
theorem d_La_place_8 : decode b_La_place 8 = .ok (.goto 7, 3) := by decide +kernel
theorem d_La_place_11 : decode b_La_place 11 = .ok (.astore 6, 2) := by decide +kernel
theorem d_La_place_13 : decode b_La_place 13 = .ok (.iconst 1, 1) := by decide +kernel
theorem d_La_place_14 : decode b_La_place 14 = .ok (.ireturn, 1) := by decide +kernel
theorem d_La_place_15 : decode b_La_place 15 = .ok (.iconst 0, 1) := by decide +kernel
theorem d_La_place_16 : decode b_La_place 16 = .ok (.ireturn, 1) := by decide +kernel
theorem d_La_lay_0 : decode b_La_lay 0 = .ok (.aload_n 0, 1) := by decide +kernel
theorem d_La_lay_1 : decode b_La_lay 1 = .ok (.iload_n 1, 1) := by decide +kernel
theorem d_La_lay_2 : decode b_La_lay 2 = .ok (.iload_n 2, 1) := by decide +kernel
theorem d_La_lay_3 : decode b_La_lay 3 = .ok (.iload_n 3, 1) := by decide +kernel
theorem d_La_lay_4 : decode b_La_lay 4 = .ok (.invokevirtual 24, 3) := by decide +kernel
theorem d_La_lay_7 : decode b_La_lay 7 = .ok (.goto 7, 3) := by decide +kernel
theorem d_La_lay_10 : decode b_La_lay 10 = .ok (.astore 4, 2) := by decide +kernel
theorem d_La_lay_12 : decode b_La_lay 12 = .ok (.iconst 1, 1) := by decide +kernel
theorem d_La_lay_13 : decode b_La_lay 13 = .ok (.ireturn, 1) := by decide +kernel
theorem d_La_lay_14 : decode b_La_lay 14 = .ok (.iconst 0, 1) := by decide +kernel
theorem d_La_lay_15 : decode b_La_lay 15 = .ok (.ireturn, 1) := by decide +kernel
theorem d_La_mode_0 : decode b_La_mode 0 = .ok (.aload_n 0, 1) := by decide +kernel
theorem d_La_mode_1 : decode b_La_mode 1 = .ok (.iload_n 1, 1) := by decide +kernel
theorem d_La_mode_2 : decode b_La_mode 2 = .ok (.iload_n 2, 1) := by decide +kernel
theorem d_La_mode_3 : decode b_La_mode 3 = .ok (.dload_n 3, 1) := by decide +kernel
theorem d_La_mode_4 : decode b_La_mode 4 = .ok (.invokevirtual 28, 3) := by decide +kernel
theorem d_La_mode_7 : decode b_La_mode 7 = .ok (.goto 7, 3) := by decide +kernel
theorem d_La_mode_10 : decode b_La_mode 10 = .ok (.astore 5, 2) := by decide +kernel
theorem d_La_mode_12 : decode b_La_mode 12 = .ok (.iconst 1, 1) := by decide +kernel
theorem d_La_mode_13 : decode b_La_mode 13 = .ok (.ireturn, 1) := by decide +kernel
theorem d_La_mode_14 : decode b_La_mode 14 = .ok (.iconst 0, 1) := by decide +kernel
theorem d_La_mode_15 : decode b_La_mode 15 = .ok (.ireturn, 1) := by decide +kernel
theorem d_La_hide_0 : decode b_La_hide 0 = .ok (.aload_n 0, 1) := by decide +kernel
theorem d_La_hide_1 : decode b_La_hide 1 = .ok (.iload_n 1, 1) := by decide +kernel
theorem d_La_hide_2 : decode b_La_hide 2 = .ok (.iload_n 2, 1) := by decide +kernel
theorem d_La_hide_3 : decode b_La_hide 3 = .ok (.invokevirtual 32, 3) := by decide +kernel
theorem d_La_hide_6 : decode b_La_hide 6 = .ok (.goto 6, 3) := by decide +kernel
theorem d_La_hide_9 : decode b_La_hide 9 = .ok (.astore_n 3, 1) := by decide +kernel
theorem d_La_hide_10 : decode b_La_hide 10 = .ok (.iconst 1, 1) := by decide +kernel
theorem d_La_hide_11 : decode b_La_hide 11 = .ok (.ireturn, 1) := by decide +kernel
theorem d_La_hide_12 : decode b_La_hide 12 = .ok (.iconst 0, 1) := by decide +kernel
theorem d_La_hide_13 : decode b_La_hide 13 = .ok (.ireturn, 1) := by decide +kernel
theorem d_La_key_0 : decode b_La_key 0 = .ok (.aload 7, 2) := by decide +kernel
theorem d_La_key_2 : decode b_La_key 2 = .ok (.iconst 0, 1) := by decide +kernel
theorem d_La_key_3 : decode b_La_key 3 = .ok (.aload_n 0, 1) := by decide +kernel
theorem d_La_key_4 : decode b_La_key 4 = .ok (.iload_n 1, 1) := by decide +kernel
theorem d_La_key_5 : decode b_La_key 5 = .ok (.iload_n 2, 1) := by decide +kernel
theorem d_La_key_6 : decode b_La_key 6 = .ok (.dload_n 3, 1) := by decide +kernel
theorem d_La_key_7 : decode b_La_key 7 = .ok (.dload 5, 2) := by decide +kernel
theorem d_La_key_9 : decode b_La_key 9 = .ok (.invokevirtual 36, 3) := by decide +kernel
theorem d_La_key_12 : decode b_La_key 12 = .ok (.i2l, 1) := by decide +kernel
theorem d_La_key_13 : decode b_La_key 13 = .ok (.lastore, 1) := by decide +kernel
theorem d_La_key_14 : decode b_La_key 14 = .ok (.goto 11, 3) := by decide +kernel
theorem d_La_key_17 : decode b_La_key 17 = .ok (.astore 8, 2) := by decide +kernel
theorem d_La_key_19 : decode b_La_key 19 = .ok (.iconst 1, 1) := by decide +kernel
theorem d_La_key_20 : decode b_La_key 20 = .ok (.ireturn, 1) := by decide +kernel
theorem d_La_key_21 : decode b_La_key 21 = .ok (.astore 8, 2) := by decide +kernel
theorem d_La_key_23 : decode b_La_key 23 = .ok (.iconst 2, 1) := by decide +kernel
theorem d_La_key_24 : decode b_La_key 24 = .ok (.ireturn, 1) := by decide +kernel
theorem d_La_key_25 : decode b_La_key 25 = .ok (.iconst 0, 1) := by decide +kernel
theorem d_La_key_26 : decode b_La_key 26 = .ok (.ireturn, 1) := by decide +kernel
theorem d_La_unkey_0 : decode b_La_unkey 0 = .ok (.aload_n 0, 1) := by decide +kernel
theorem d_La_unkey_1 : decode b_La_unkey 1 = .ok (.iload_n 1, 1) := by decide +kernel
theorem d_La_unkey_2 : decode b_La_unkey 2 = .ok (.iload_n 2, 1) := by decide +kernel
theorem d_La_unkey_3 : decode b_La_unkey 3 = .ok (.invokevirtual 40, 3) := by decide +kernel
theorem d_La_unkey_6 : decode b_La_unkey 6 = .ok (.goto 9, 3) := by decide +kernel
theorem d_La_unkey_9 : decode b_La_unkey 9 = .ok (.astore_n 3, 1) := by decide +kernel
theorem d_La_unkey_10 : decode b_La_unkey 10 = .ok (.iconst 1, 1) := by decide +kernel
theorem d_La_unkey_11 : decode b_La_unkey 11 = .ok (.ireturn, 1) := by decide +kernel
theorem d_La_unkey_12 : decode b_La_unkey 12 = .ok (.astore_n 3, 1) := by decide +kernel
theorem d_La_unkey_13 : decode b_La_unkey 13 = .ok (.iconst 2, 1) := by decide +kernel
theorem d_La_unkey_14 : decode b_La_unkey 14 = .ok (.ireturn, 1) := by decide +kernel
theorem d_La_unkey_15 : decode b_La_unkey 15 = .ok (.iconst 0, 1) := by decide +kernel
theorem d_La_unkey_16 : decode b_La_unkey 16 = .ok (.ireturn, 1) := by decide +kernel
theorem d_La_into_0 : decode b_La_into 0 = .ok (.aload_n 0, 1) := by decide +kernel
theorem d_La_into_1 : decode b_La_into 1 = .ok (.iload_n 1, 1) := by decide +kernel
theorem d_La_into_2 : decode b_La_into 2 = .ok (.iload_n 2, 1) := by decide +kernel
theorem d_La_into_3 : decode b_La_into 3 = .ok (.invokevirtual 46, 3) := by decide +kernel
theorem d_La_into_6 : decode b_La_into 6 = .ok (.goto 9, 3) := by decide +kernel
theorem d_La_into_9 : decode b_La_into 9 = .ok (.astore_n 3, 1) := by decide +kernel
theorem d_La_into_10 : decode b_La_into 10 = .ok (.iconst 1, 1) := by decide +kernel
theorem d_La_into_11 : decode b_La_into 11 = .ok (.ireturn, 1) := by decide +kernel
theorem d_La_into_12 : decode b_La_into 12 = .ok (.astore_n 3, 1) := by decide +kernel
theorem d_La_into_13 : decode b_La_into 13 = .ok (.iconst 2, 1) := by decide +kernel
theorem d_La_into_14 : decode b_La_into 14 = .ok (.ireturn, 1) := by decide +kernel
theorem d_La_into_15 : decode b_La_into 15 = .ok (.iconst 0, 1) := by decide +kernel
theorem d_La_into_16 : decode b_La_into 16 = .ok (.ireturn, 1) := by decide +kernel
theorem d_La_remove_0 : decode b_La_remove 0 = .ok (.aload_n 2, 1) := by decide +kernel
theorem d_La_remove_1 : decode b_La_remove 1 = .ok (.iconst 0, 1) := by decide +kernel
theorem d_La_remove_2 : decode b_La_remove 2 = .ok (.aload_n 0, 1) := by decide +kernel
theorem d_La_remove_3 : decode b_La_remove 3 = .ok (.iload_n 1, 1) := by decide +kernel
theorem d_La_remove_4 : decode b_La_remove 4 = .ok (.invokevirtual 49, 3) := by decide +kernel
theorem d_La_remove_7 : decode b_La_remove 7 = .ok (.i2l, 1) := by decide +kernel
theorem d_La_remove_8 : decode b_La_remove 8 = .ok (.lastore, 1) := by decide +kernel
theorem d_La_remove_9 : decode b_La_remove 9 = .ok (.goto 6, 3) := by decide +kernel
theorem d_La_remove_12 : decode b_La_remove 12 = .ok (.astore_n 3, 1) := by decide +kernel
theorem d_La_remove_13 : decode b_La_remove 13 = .ok (.iconst 1, 1) := by decide +kernel
theorem d_La_remove_14 : decode b_La_remove 14 = .ok (.ireturn, 1) := by decide +kernel
theorem d_La_remove_15 : decode b_La_remove 15 = .ok (.iconst 0, 1) := by decide +kernel
theorem d_La_remove_16 : decode b_La_remove 16 = .ok (.ireturn, 1) := by decide +kernel
theorem d_La_paint_0 : decode b_La_paint 0 = .ok (.aload_n 3, 1) := by decide +kernel
theorem d_La_paint_1 : decode b_La_paint 1 = .ok (.iconst 0, 1) := by decide +kernel
theorem d_La_paint_2 : decode b_La_paint 2 = .ok (.aload_n 0, 1) := by decide +kernel
theorem d_La_paint_3 : decode b_La_paint 3 = .ok (.dload_n 1, 1) := by decide +kernel
theorem d_La_paint_4 : decode b_La_paint 4 = .ok (.invokevirtual 53, 3) := by decide +kernel
theorem d_La_paint_7 : decode b_La_paint 7 = .ok (.i2l, 1) := by decide +kernel
theorem d_La_paint_8 : decode b_La_paint 8 = .ok (.lastore, 1) := by decide +kernel
theorem d_La_paint_9 : decode b_La_paint 9 = .ok (.goto 7, 3) := by decide +kernel
theorem d_La_paint_12 : decode b_La_paint 12 = .ok (.astore 4, 2) := by decide +kernel
theorem d_La_paint_14 : decode b_La_paint 14 = .ok (.iconst 1, 1) := by decide +kernel
theorem d_La_paint_15 : decode b_La_paint 15 = .ok (.ireturn, 1) := by decide +kernel
theorem d_La_paint_16 : decode b_La_paint 16 = .ok (.iconst 0, 1) := by decide +kernel
theorem d_La_paint_17 : decode b_La_paint 17 = .ok (.ireturn, 1) := by decide +kernel
theorem d_La_cell_0 : decode b_La_cell 0 = .ok (.aload_n 3, 1) := by decide +kernel
theorem d_La_cell_1 : decode b_La_cell 1 = .ok (.iconst 0, 1) := by decide +kernel
theorem d_La_cell_2 : decode b_La_cell 2 = .ok (.aload_n 0, 1) := by decide +kernel
theorem d_La_cell_3 : decode b_La_cell 3 = .ok (.iload_n 1, 1) := by decide +kernel
theorem d_La_cell_4 : decode b_La_cell 4 = .ok (.iload_n 2, 1) := by decide +kernel
theorem d_La_cell_5 : decode b_La_cell 5 = .ok (.invokevirtual 57, 3) := by decide +kernel
theorem d_La_cell_8 : decode b_La_cell 8 = .ok (.i2l, 1) := by decide +kernel
theorem d_La_cell_9 : decode b_La_cell 9 = .ok (.lastore, 1) := by decide +kernel
theorem d_La_cell_10 : decode b_La_cell 10 = .ok (.goto 7, 3) := by decide +kernel
theorem d_La_cell_13 : decode b_La_cell 13 = .ok (.astore 4, 2) := by decide +kernel
theorem d_La_cell_15 : decode b_La_cell 15 = .ok (.iconst 1, 1) := by decide +kernel
theorem d_La_cell_16 : decode b_La_cell 16 = .ok (.ireturn, 1) := by decide +kernel
theorem d_La_cell_17 : decode b_La_cell 17 = .ok (.iconst 0, 1) := by decide +kernel
theorem d_La_cell_18 : decode b_La_cell 18 = .ok (.ireturn, 1) := by decide +kernel
theorem d_La_top_0 : decode b_La_top 0 = .ok (.aload 7, 2) := by decide +kernel
theorem d_La_top_2 : decode b_La_top 2 = .ok (.iconst 0, 1) := by decide +kernel
theorem d_La_top_3 : decode b_La_top 3 = .ok (.aload_n 0, 1) := by decide +kernel
theorem d_La_top_4 : decode b_La_top 4 = .ok (.dload_n 1, 1) := by decide +kernel
theorem d_La_top_5 : decode b_La_top 5 = .ok (.dload_n 3, 1) := by decide +kernel
theorem d_La_top_6 : decode b_La_top 6 = .ok (.dload 5, 2) := by decide +kernel
theorem d_La_top_8 : decode b_La_top 8 = .ok (.invokevirtual 61, 3) := by decide +kernel
theorem d_La_top_11 : decode b_La_top 11 = .ok (.i2l, 1) := by decide +kernel
theorem d_La_top_12 : decode b_La_top 12 = .ok (.lastore, 1) := by decide +kernel
theorem d_La_top_13 : decode b_La_top 13 = .ok (.goto 11, 3) := by decide +kernel
theorem d_La_top_16 : decode b_La_top 16 = .ok (.astore 8, 2) := by decide +kernel
theorem d_La_top_18 : decode b_La_top 18 = .ok (.iconst 1, 1) := by decide +kernel
theorem d_La_top_19 : decode b_La_top 19 = .ok (.ireturn, 1) := by decide +kernel
theorem d_La_top_20 : decode b_La_top 20 = .ok (.astore 8, 2) := by decide +kernel
theorem d_La_top_22 : decode b_La_top 22 = .ok (.iconst 2, 1) := by decide +kernel
theorem d_La_top_23 : decode b_La_top 23 = .ok (.ireturn, 1) := by decide +kernel
theorem d_La_top_24 : decode b_La_top 24 = .ok (.iconst 0, 1) := by decide +kernel
theorem d_La_top_25 : decode b_La_top 25 = .ok (.ireturn, 1) := by decide +kernel
theorem d_La_around_0 : decode b_La_around 0 = .ok (.aload 5, 2) := by decide +kernel
theorem d_La_around_2 : decode b_La_around 2 = .ok (.iconst 0, 1) := by decide +kernel
theorem d_La_around_3 : decode b_La_around 3 = .ok (.aload_n 0, 1) := by decide +kernel
theorem d_La_around_4 : decode b_La_around 4 = .ok (.iload_n 1, 1) := by decide +kernel
theorem d_La_around_5 : decode b_La_around 5 = .ok (.iload_n 2, 1) := by decide +kernel
theorem d_La_around_6 : decode b_La_around 6 = .ok (.dload_n 3, 1) := by decide +kernel
theorem d_La_around_7 : decode b_La_around 7 = .ok (.invokevirtual 65, 3) := by decide +kernel
theorem d_La_around_10 : decode b_La_around 10 = .ok (.dastore, 1) := by decide +kernel
theorem d_La_around_11 : decode b_La_around 11 = .ok (.goto 11, 3) := by decide +kernel
theorem d_La_around_14 : decode b_La_around 14 = .ok (.astore 6, 2) := by decide +kernel
theorem d_La_around_16 : decode b_La_around 16 = .ok (.iconst 1, 1) := by decide +kernel
theorem d_La_around_17 : decode b_La_around 17 = .ok (.ireturn, 1) := by decide +kernel
theorem d_La_around_18 : decode b_La_around 18 = .ok (.astore 6, 2) := by decide +kernel
theorem d_La_around_20 : decode b_La_around 20 = .ok (.iconst 2, 1) := by decide +kernel
theorem d_La_around_21 : decode b_La_around 21 = .ok (.ireturn, 1) := by decide +kernel
theorem d_La_around_22 : decode b_La_around 22 = .ok (.iconst 0, 1) := by decide +kernel
theorem d_La_around_23 : decode b_La_around 23 = .ok (.ireturn, 1) := by decide +kernel
theorem d_La_told_0 : decode b_La_told 0 = .ok (.aload_n 3, 1) := by decide +kernel
theorem d_La_told_1 : decode b_La_told 1 = .ok (.iconst 0, 1) := by decide +kernel
theorem d_La_told_2 : decode b_La_told 2 = .ok (.aload_n 0, 1) := by decide +kernel
theorem d_La_told_3 : decode b_La_told 3 = .ok (.iload_n 1, 1) := by decide +kernel
theorem d_La_told_4 : decode b_La_told 4 = .ok (.iload_n 2, 1) := by decide +kernel
theorem d_La_told_5 : decode b_La_told 5 = .ok (.invokevirtual 69, 3) := by decide +kernel
theorem d_La_told_8 : decode b_La_told 8 = .ok (.i2l, 1) := by decide +kernel
theorem d_La_told_9 : decode b_La_told 9 = .ok (.lastore, 1) := by decide +kernel
theorem d_La_told_10 : decode b_La_told 10 = .ok (.goto 7, 3) := by decide +kernel
theorem d_La_told_13 : decode b_La_told 13 = .ok (.astore 4, 2) := by decide +kernel
theorem d_La_told_15 : decode b_La_told 15 = .ok (.iconst 1, 1) := by decide +kernel
theorem d_La_told_16 : decode b_La_told 16 = .ok (.ireturn, 1) := by decide +kernel
theorem d_La_told_17 : decode b_La_told 17 = .ok (.iconst 0, 1) := by decide +kernel
theorem d_La_told_18 : decode b_La_told 18 = .ok (.ireturn, 1) := by decide +kernel
