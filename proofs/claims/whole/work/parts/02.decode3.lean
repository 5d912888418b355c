theorem dX5_turn_8 : decode cX5_turn 8 = .ok (.ixor, 1) := by decide +kernel
theorem dX5_turn_9 : decode cX5_turn 9 = .ok (.putfield 31, 3) := by decide +kernel
theorem dX5_turn_12 : decode cX5_turn 12 = .ok (.return_, 1) := by decide +kernel
theorem dX5_together_0 : decode cX5_together 0 = .ok (.iconst 0, 1) := by decide +kernel
theorem dX5_together_1 : decode cX5_together 1 = .ok (.istore 4, 2) := by decide +kernel
theorem dX5_together_3 : decode cX5_together 3 = .ok (.iconst 0, 1) := by decide +kernel
theorem dX5_together_4 : decode cX5_together 4 = .ok (.istore 5, 2) := by decide +kernel
theorem dX5_together_6 : decode cX5_together 6 = .ok (.iload 5, 2) := by decide +kernel
theorem dX5_together_8 : decode cX5_together 8 = .ok (.aload_n 0, 1) := by decide +kernel
theorem dX5_together_9 : decode cX5_together 9 = .ok (.getfield 9, 3) := by decide +kernel
theorem dX5_together_12 : decode cX5_together 12 = .ok (.if_icmp .ge 61, 3) := by decide +kernel
theorem dX5_together_15 : decode cX5_together 15 = .ok (.iload 5, 2) := by decide +kernel
theorem dX5_together_17 : decode cX5_together 17 = .ok (.bipush 24, 2) := by decide +kernel
theorem dX5_together_19 : decode cX5_together 19 = .ok (.if_icmp .ge 54, 3) := by decide +kernel
theorem dX5_together_22 : decode cX5_together 22 = .ok (.aload_n 0, 1) := by decide +kernel
theorem dX5_together_23 : decode cX5_together 23 = .ok (.getfield 15, 3) := by decide +kernel
theorem dX5_together_26 : decode cX5_together 26 = .ok (.iload 5, 2) := by decide +kernel
theorem dX5_together_28 : decode cX5_together 28 = .ok (.iaload, 1) := by decide +kernel
theorem dX5_together_29 : decode cX5_together 29 = .ok (.iload_n 1, 1) := by decide +kernel
theorem dX5_together_30 : decode cX5_together 30 = .ok (.if_icmp .ne 37, 3) := by decide +kernel
theorem dX5_together_33 : decode cX5_together 33 = .ok (.aload_n 0, 1) := by decide +kernel
theorem dX5_together_34 : decode cX5_together 34 = .ok (.getfield 22, 3) := by decide +kernel
theorem dX5_together_37 : decode cX5_together 37 = .ok (.iload 5, 2) := by decide +kernel
theorem dX5_together_39 : decode cX5_together 39 = .ok (.iaload, 1) := by decide +kernel
theorem dX5_together_40 : decode cX5_together 40 = .ok (.iload_n 2, 1) := by decide +kernel
theorem dX5_together_41 : decode cX5_together 41 = .ok (.if_icmp .ne 26, 3) := by decide +kernel
theorem dX5_together_44 : decode cX5_together 44 = .ok (.aload_n 0, 1) := by decide +kernel
theorem dX5_together_45 : decode cX5_together 45 = .ok (.getfield 25, 3) := by decide +kernel
theorem dX5_together_48 : decode cX5_together 48 = .ok (.iload 5, 2) := by decide +kernel
theorem dX5_together_50 : decode cX5_together 50 = .ok (.iaload, 1) := by decide +kernel
theorem dX5_together_51 : decode cX5_together 51 = .ok (.iload_n 3, 1) := by decide +kernel
theorem dX5_together_52 : decode cX5_together 52 = .ok (.if_icmp .ne 15, 3) := by decide +kernel
theorem dX5_together_55 : decode cX5_together 55 = .ok (.iload 4, 2) := by decide +kernel
theorem dX5_together_57 : decode cX5_together 57 = .ok (.aload_n 0, 1) := by decide +kernel
theorem dX5_together_58 : decode cX5_together 58 = .ok (.getfield 28, 3) := by decide +kernel
theorem dX5_together_61 : decode cX5_together 61 = .ok (.iload 5, 2) := by decide +kernel
theorem dX5_together_63 : decode cX5_together 63 = .ok (.iaload, 1) := by decide +kernel
theorem dX5_together_64 : decode cX5_together 64 = .ok (.iadd, 1) := by decide +kernel
theorem dX5_together_65 : decode cX5_together 65 = .ok (.istore 4, 2) := by decide +kernel
theorem dX5_together_67 : decode cX5_together 67 = .ok (.iinc 5 1, 3) := by decide +kernel
theorem dX5_together_70 : decode cX5_together 70 = .ok (.goto (-64), 3) := by decide +kernel
theorem dX5_together_73 : decode cX5_together 73 = .ok (.iload 4, 2) := by decide +kernel
theorem dX5_together_75 : decode cX5_together 75 = .ok (.ireturn, 1) := by decide +kernel
theorem dX5_add_0 : decode cX5_add 0 = .ok (.aload_n 0, 1) := by decide +kernel
theorem dX5_add_1 : decode cX5_add 1 = .ok (.invokevirtual 40, 3) := by decide +kernel
theorem dX5_add_4 : decode cX5_add 4 = .ok (.ifCond .eq 6, 3) := by decide +kernel
theorem dX5_add_7 : decode cX5_add 7 = .ok (.bipush (-6), 2) := by decide +kernel
theorem dX5_add_9 : decode cX5_add 9 = .ok (.ireturn, 1) := by decide +kernel
theorem dX5_add_10 : decode cX5_add 10 = .ok (.aload_n 0, 1) := by decide +kernel
theorem dX5_add_11 : decode cX5_add 11 = .ok (.getfield 9, 3) := by decide +kernel
theorem dX5_add_14 : decode cX5_add 14 = .ok (.istore 6, 2) := by decide +kernel
theorem dX5_add_16 : decode cX5_add 16 = .ok (.aload_n 0, 1) := by decide +kernel
theorem dX5_add_17 : decode cX5_add 17 = .ok (.dup, 1) := by decide +kernel
theorem dX5_add_18 : decode cX5_add 18 = .ok (.getfield 9, 3) := by decide +kernel
theorem dX5_add_21 : decode cX5_add 21 = .ok (.iconst 1, 1) := by decide +kernel
theorem dX5_add_22 : decode cX5_add 22 = .ok (.iadd, 1) := by decide +kernel
theorem dX5_add_23 : decode cX5_add 23 = .ok (.putfield 9, 3) := by decide +kernel
theorem dX5_add_26 : decode cX5_add 26 = .ok (.aload_n 0, 1) := by decide +kernel
theorem dX5_add_27 : decode cX5_add 27 = .ok (.getfield 15, 3) := by decide +kernel
theorem dX5_add_30 : decode cX5_add 30 = .ok (.iload 6, 2) := by decide +kernel
theorem dX5_add_32 : decode cX5_add 32 = .ok (.iload_n 1, 1) := by decide +kernel
theorem dX5_add_33 : decode cX5_add 33 = .ok (.iastore, 1) := by decide +kernel
theorem dX5_add_34 : decode cX5_add 34 = .ok (.aload_n 0, 1) := by decide +kernel
theorem dX5_add_35 : decode cX5_add 35 = .ok (.getfield 19, 3) := by decide +kernel
theorem dX5_add_38 : decode cX5_add 38 = .ok (.iload 6, 2) := by decide +kernel
theorem dX5_add_40 : decode cX5_add 40 = .ok (.iload_n 2, 1) := by decide +kernel
theorem dX5_add_41 : decode cX5_add 41 = .ok (.iastore, 1) := by decide +kernel
theorem dX5_add_42 : decode cX5_add 42 = .ok (.aload_n 0, 1) := by decide +kernel
theorem dX5_add_43 : decode cX5_add 43 = .ok (.getfield 22, 3) := by decide +kernel
theorem dX5_add_46 : decode cX5_add 46 = .ok (.iload 6, 2) := by decide +kernel
theorem dX5_add_48 : decode cX5_add 48 = .ok (.iload_n 3, 1) := by decide +kernel
theorem dX5_add_49 : decode cX5_add 49 = .ok (.iastore, 1) := by decide +kernel
theorem dX5_add_50 : decode cX5_add 50 = .ok (.aload_n 0, 1) := by decide +kernel
theorem dX5_add_51 : decode cX5_add 51 = .ok (.getfield 25, 3) := by decide +kernel
theorem dX5_add_54 : decode cX5_add 54 = .ok (.iload 6, 2) := by decide +kernel
theorem dX5_add_56 : decode cX5_add 56 = .ok (.iload 4, 2) := by decide +kernel
theorem dX5_add_58 : decode cX5_add 58 = .ok (.iastore, 1) := by decide +kernel
theorem dX5_add_59 : decode cX5_add 59 = .ok (.aload_n 0, 1) := by decide +kernel
theorem dX5_add_60 : decode cX5_add 60 = .ok (.getfield 28, 3) := by decide +kernel
theorem dX5_add_63 : decode cX5_add 63 = .ok (.iload 6, 2) := by decide +kernel
theorem dX5_add_65 : decode cX5_add 65 = .ok (.iload 5, 2) := by decide +kernel
theorem dX5_add_67 : decode cX5_add 67 = .ok (.iastore, 1) := by decide +kernel
theorem dX5_add_68 : decode cX5_add 68 = .ok (.iload 6, 2) := by decide +kernel
theorem dX5_add_70 : decode cX5_add 70 = .ok (.ireturn, 1) := by decide +kernel
theorem dX6_init_0 : decode cX6_init 0 = .ok (.aload_n 0, 1) := by decide +kernel
theorem dX6_init_1 : decode cX6_init 1 = .ok (.invokespecial 1, 3) := by decide +kernel
theorem dX6_init_4 : decode cX6_init 4 = .ok (.aload_n 0, 1) := by decide +kernel
theorem dX6_init_5 : decode cX6_init 5 = .ok (.new 7, 3) := by decide +kernel
theorem dX6_init_8 : decode cX6_init 8 = .ok (.dup, 1) := by decide +kernel
theorem dX6_init_9 : decode cX6_init 9 = .ok (.invokespecial 9, 3) := by decide +kernel
theorem dX6_init_12 : decode cX6_init 12 = .ok (.putfield 10, 3) := by decide +kernel
theorem dX6_init_15 : decode cX6_init 15 = .ok (.aload_n 0, 1) := by decide +kernel
theorem dX6_init_16 : decode cX6_init 16 = .ok (.new 7, 3) := by decide +kernel
theorem dX6_init_19 : decode cX6_init 19 = .ok (.dup, 1) := by decide +kernel
theorem dX6_init_20 : decode cX6_init 20 = .ok (.invokespecial 9, 3) := by decide +kernel
theorem dX6_init_23 : decode cX6_init 23 = .ok (.putfield 16, 3) := by decide +kernel
theorem dX6_init_26 : decode cX6_init 26 = .ok (.aload_n 0, 1) := by decide +kernel
theorem dX6_init_27 : decode cX6_init 27 = .ok (.new 7, 3) := by decide +kernel
theorem dX6_init_30 : decode cX6_init 30 = .ok (.dup, 1) := by decide +kernel
theorem dX6_init_31 : decode cX6_init 31 = .ok (.invokespecial 9, 3) := by decide +kernel
theorem dX6_init_34 : decode cX6_init 34 = .ok (.putfield 19, 3) := by decide +kernel
theorem dX6_init_37 : decode cX6_init 37 = .ok (.aload_n 0, 1) := by decide +kernel
theorem dX6_init_38 : decode cX6_init 38 = .ok (.iconst 0, 1) := by decide +kernel
theorem dX6_init_39 : decode cX6_init 39 = .ok (.putfield 22, 3) := by decide +kernel
theorem dX6_init_42 : decode cX6_init 42 = .ok (.aload_n 0, 1) := by decide +kernel
theorem dX6_init_43 : decode cX6_init 43 = .ok (.new 26, 3) := by decide +kernel
theorem dX6_init_46 : decode cX6_init 46 = .ok (.dup, 1) := by decide +kernel
theorem dX6_init_47 : decode cX6_init 47 = .ok (.invokespecial 28, 3) := by decide +kernel
theorem dX6_init_50 : decode cX6_init 50 = .ok (.putfield 29, 3) := by decide +kernel
theorem dX6_init_53 : decode cX6_init 53 = .ok (.aload_n 0, 1) := by decide +kernel
theorem dX6_init_54 : decode cX6_init 54 = .ok (.bipush 28, 2) := by decide +kernel
theorem dX6_init_56 : decode cX6_init 56 = .ok (.newarray .int, 2) := by decide +kernel
theorem dX6_init_58 : decode cX6_init 58 = .ok (.putfield 33, 3) := by decide +kernel
theorem dX6_init_61 : decode cX6_init 61 = .ok (.aload_n 0, 1) := by decide +kernel
theorem dX6_init_62 : decode cX6_init 62 = .ok (.iconst 0, 1) := by decide +kernel
theorem dX6_init_63 : decode cX6_init 63 = .ok (.putfield 37, 3) := by decide +kernel
theorem dX6_init_66 : decode cX6_init 66 = .ok (.aload_n 0, 1) := by decide +kernel
theorem dX6_init_67 : decode cX6_init 67 = .ok (.bipush 7, 2) := by decide +kernel
theorem dX6_init_69 : decode cX6_init 69 = .ok (.newarray .int, 2) := by decide +kernel
theorem dX6_init_71 : decode cX6_init 71 = .ok (.putfield 41, 3) := by decide +kernel
theorem dX6_init_74 : decode cX6_init 74 = .ok (.return_, 1) := by decide +kernel
theorem dX6_feed_0 : decode cX6_feed 0 = .ok (.iload_n 1, 1) := by decide +kernel
theorem dX6_feed_1 : decode cX6_feed 1 = .ok (.iconst 1, 1) := by decide +kernel
theorem dX6_feed_2 : decode cX6_feed 2 = .ok (.if_icmp .ge 10, 3) := by decide +kernel
theorem dX6_feed_5 : decode cX6_feed 5 = .ok (.aload_n 0, 1) := by decide +kernel
theorem dX6_feed_6 : decode cX6_feed 6 = .ok (.bipush (-4), 2) := by decide +kernel
theorem dX6_feed_8 : decode cX6_feed 8 = .ok (.invokevirtual 44, 3) := by decide +kernel
theorem dX6_feed_11 : decode cX6_feed 11 = .ok (.ireturn, 1) := by decide +kernel
theorem dX6_feed_12 : decode cX6_feed 12 = .ok (.iload_n 1, 1) := by decide +kernel
theorem dX6_feed_13 : decode cX6_feed 13 = .ok (.bipush 8, 2) := by decide +kernel
theorem dX6_feed_15 : decode cX6_feed 15 = .ok (.if_icmp .gt 17, 3) := by decide +kernel
theorem dX6_feed_18 : decode cX6_feed 18 = .ok (.aload_n 0, 1) := by decide +kernel
theorem dX6_feed_19 : decode cX6_feed 19 = .ok (.getfield 29, 3) := by decide +kernel
theorem dX6_feed_22 : decode cX6_feed 22 = .ok (.getfield 48, 3) := by decide +kernel
theorem dX6_feed_25 : decode cX6_feed 25 = .ok (.iload_n 1, 1) := by decide +kernel
theorem dX6_feed_26 : decode cX6_feed 26 = .ok (.iadd, 1) := by decide +kernel
theorem dX6_feed_27 : decode cX6_feed 27 = .ok (.bipush 96, 2) := by decide +kernel
theorem dX6_feed_29 : decode cX6_feed 29 = .ok (.if_icmp .le 10, 3) := by decide +kernel
theorem dX6_feed_32 : decode cX6_feed 32 = .ok (.aload_n 0, 1) := by decide +kernel
theorem dX6_feed_33 : decode cX6_feed 33 = .ok (.bipush (-6), 2) := by decide +kernel
theorem dX6_feed_35 : decode cX6_feed 35 = .ok (.invokevirtual 44, 3) := by decide +kernel
theorem dX6_feed_38 : decode cX6_feed 38 = .ok (.ireturn, 1) := by decide +kernel
theorem dX6_feed_39 : decode cX6_feed 39 = .ok (.iconst 0, 1) := by decide +kernel
theorem dX6_feed_40 : decode cX6_feed 40 = .ok (.istore 4, 2) := by decide +kernel
theorem dX6_feed_42 : decode cX6_feed 42 = .ok (.iload 4, 2) := by decide +kernel
theorem dX6_feed_44 : decode cX6_feed 44 = .ok (.iload_n 1, 1) := by decide +kernel
theorem dX6_feed_45 : decode cX6_feed 45 = .ok (.if_icmp .ge 28, 3) := by decide +kernel
theorem dX6_feed_48 : decode cX6_feed 48 = .ok (.aload_n 0, 1) := by decide +kernel
theorem dX6_feed_49 : decode cX6_feed 49 = .ok (.getfield 29, 3) := by decide +kernel
theorem dX6_feed_52 : decode cX6_feed 52 = .ok (.lload_n 2, 1) := by decide +kernel
theorem dX6_feed_53 : decode cX6_feed 53 = .ok (.bipush 8, 2) := by decide +kernel
theorem dX6_feed_55 : decode cX6_feed 55 = .ok (.iload 4, 2) := by decide +kernel
theorem dX6_feed_57 : decode cX6_feed 57 = .ok (.imul, 1) := by decide +kernel
theorem dX6_feed_58 : decode cX6_feed 58 = .ok (.lushr, 1) := by decide +kernel
theorem dX6_feed_59 : decode cX6_feed 59 = .ok (.l2i, 1) := by decide +kernel
theorem dX6_feed_60 : decode cX6_feed 60 = .ok (.sipush 255, 3) := by decide +kernel
theorem dX6_feed_63 : decode cX6_feed 63 = .ok (.iand, 1) := by decide +kernel
theorem dX6_feed_64 : decode cX6_feed 64 = .ok (.invokevirtual 51, 3) := by decide +kernel
theorem dX6_feed_67 : decode cX6_feed 67 = .ok (.iinc 4 1, 3) := by decide +kernel
theorem dX6_feed_70 : decode cX6_feed 70 = .ok (.goto (-28), 3) := by decide +kernel
theorem dX6_feed_73 : decode cX6_feed 73 = .ok (.aload_n 0, 1) := by decide +kernel
theorem dX6_feed_74 : decode cX6_feed 74 = .ok (.getfield 29, 3) := by decide +kernel
theorem dX6_feed_77 : decode cX6_feed 77 = .ok (.getfield 48, 3) := by decide +kernel
theorem dX6_feed_80 : decode cX6_feed 80 = .ok (.ireturn, 1) := by decide +kernel
theorem dX6_coast_0 : decode cX6_coast 0 = .ok (.aload_n 0, 1) := by decide +kernel
theorem dX6_coast_1 : decode cX6_coast 1 = .ok (.getfield 16, 3) := by decide +kernel
theorem dX6_coast_4 : decode cX6_coast 4 = .ok (.aload_n 0, 1) := by decide +kernel
theorem dX6_coast_5 : decode cX6_coast 5 = .ok (.getfield 10, 3) := by decide +kernel
theorem dX6_coast_8 : decode cX6_coast 8 = .ok (.invokevirtual 55, 3) := by decide +kernel
theorem dX6_coast_11 : decode cX6_coast 11 = .ok (.aload_n 0, 1) := by decide +kernel
theorem dX6_coast_12 : decode cX6_coast 12 = .ok (.getfield 29, 3) := by decide +kernel
theorem dX6_coast_15 : decode cX6_coast 15 = .ok (.aload_n 0, 1) := by decide +kernel
theorem dX6_coast_16 : decode cX6_coast 16 = .ok (.getfield 16, 3) := by decide +kernel
theorem dX6_coast_19 : decode cX6_coast 19 = .ok (.invokevirtual 59, 3) := by decide +kernel
theorem dX6_coast_22 : decode cX6_coast 22 = .ok (.istore_n 1, 1) := by decide +kernel
theorem dX6_coast_23 : decode cX6_coast 23 = .ok (.aload_n 0, 1) := by decide +kernel
theorem dX6_coast_24 : decode cX6_coast 24 = .ok (.getfield 29, 3) := by decide +kernel
theorem dX6_coast_27 : decode cX6_coast 27 = .ok (.iconst 0, 1) := by decide +kernel
theorem dX6_coast_28 : decode cX6_coast 28 = .ok (.putfield 48, 3) := by decide +kernel
theorem dX6_coast_31 : decode cX6_coast 31 = .ok (.iload_n 1, 1) := by decide +kernel
theorem dX6_coast_32 : decode cX6_coast 32 = .ok (.ifCond .lt 14, 3) := by decide +kernel
theorem dX6_coast_35 : decode cX6_coast 35 = .ok (.aload_n 0, 1) := by decide +kernel
theorem dX6_coast_36 : decode cX6_coast 36 = .ok (.getfield 10, 3) := by decide +kernel
theorem dX6_coast_39 : decode cX6_coast 39 = .ok (.aload_n 0, 1) := by decide +kernel
theorem dX6_coast_40 : decode cX6_coast 40 = .ok (.getfield 16, 3) := by decide +kernel
theorem dX6_coast_43 : decode cX6_coast 43 = .ok (.invokevirtual 55, 3) := by decide +kernel
theorem dX6_coast_46 : decode cX6_coast 46 = .ok (.iload_n 1, 1) := by decide +kernel
theorem dX6_coast_47 : decode cX6_coast 47 = .ok (.ireturn, 1) := by decide +kernel
theorem dX6_cell_0 : decode cX6_cell 0 = .ok (.aload_n 0, 1) := by decide +kernel
theorem dX6_cell_1 : decode cX6_cell 1 = .ok (.aload_n 0, 1) := by decide +kernel
theorem dX6_cell_2 : decode cX6_cell 2 = .ok (.getfield 10, 3) := by decide +kernel
theorem dX6_cell_5 : decode cX6_cell 5 = .ok (.getfield 63, 3) := by decide +kernel
theorem dX6_cell_8 : decode cX6_cell 8 = .ok (.iload_n 1, 1) := by decide +kernel
theorem dX6_cell_9 : decode cX6_cell 9 = .ok (.iload_n 2, 1) := by decide +kernel
theorem dX6_cell_10 : decode cX6_cell 10 = .ok (.invokevirtual 67, 3) := by decide +kernel
theorem dX6_cell_13 : decode cX6_cell 13 = .ok (.invokevirtual 73, 3) := by decide +kernel
theorem dX6_cell_16 : decode cX6_cell 16 = .ok (.ireturn, 1) := by decide +kernel
theorem dX6_set_0 : decode cX6_set 0 = .ok (.aload_n 0, 1) := by decide +kernel
theorem dX6_set_1 : decode cX6_set 1 = .ok (.getfield 10, 3) := by decide +kernel
theorem dX6_set_4 : decode cX6_set 4 = .ok (.getfield 63, 3) := by decide +kernel
theorem dX6_set_7 : decode cX6_set 7 = .ok (.iload_n 1, 1) := by decide +kernel
theorem dX6_set_8 : decode cX6_set 8 = .ok (.invokevirtual 76, 3) := by decide +kernel
theorem dX6_set_11 : decode cX6_set 11 = .ok (.ifCond .ne 9, 3) := by decide +kernel
theorem dX6_set_14 : decode cX6_set 14 = .ok (.aload_n 0, 1) := by decide +kernel
theorem dX6_set_15 : decode cX6_set 15 = .ok (.iconst (-1), 1) := by decide +kernel
theorem dX6_set_16 : decode cX6_set 16 = .ok (.invokevirtual 44, 3) := by decide +kernel
theorem dX6_set_19 : decode cX6_set 19 = .ok (.ireturn, 1) := by decide +kernel
theorem dX6_set_20 : decode cX6_set 20 = .ok (.iload_n 2, 1) := by decide +kernel
theorem dX6_set_21 : decode cX6_set 21 = .ok (.ifCond .lt 8, 3) := by decide +kernel
theorem dX6_set_24 : decode cX6_set 24 = .ok (.iload_n 2, 1) := by decide +kernel
theorem dX6_set_25 : decode cX6_set 25 = .ok (.iconst 3, 1) := by decide +kernel
theorem dX6_set_26 : decode cX6_set 26 = .ok (.if_icmp .le 10, 3) := by decide +kernel
theorem dX6_set_29 : decode cX6_set 29 = .ok (.aload_n 0, 1) := by decide +kernel
theorem dX6_set_30 : decode cX6_set 30 = .ok (.bipush (-2), 2) := by decide +kernel
theorem dX6_set_32 : decode cX6_set 32 = .ok (.invokevirtual 44, 3) := by decide +kernel
theorem dX6_set_35 : decode cX6_set 35 = .ok (.ireturn, 1) := by decide +kernel
theorem dX6_set_36 : decode cX6_set 36 = .ok (.iload_n 3, 1) := by decide +kernel
theorem dX6_set_37 : decode cX6_set 37 = .ok (.ifCond .ge 10, 3) := by decide +kernel
theorem dX6_set_40 : decode cX6_set 40 = .ok (.aload_n 0, 1) := by decide +kernel
theorem dX6_set_41 : decode cX6_set 41 = .ok (.bipush (-4), 2) := by decide +kernel
theorem dX6_set_43 : decode cX6_set 43 = .ok (.invokevirtual 44, 3) := by decide +kernel
theorem dX6_set_46 : decode cX6_set 46 = .ok (.ireturn, 1) := by decide +kernel
theorem dX6_set_47 : decode cX6_set 47 = .ok (.iload_n 3, 1) := by decide +kernel
theorem dX6_set_48 : decode cX6_set 48 = .ok (.iload_n 2, 1) := by decide +kernel
theorem dX6_set_49 : decode cX6_set 49 = .ok (.iconst 1, 1) := by decide +kernel
theorem dX6_set_50 : decode cX6_set 50 = .ok (.if_icmp .gt 8, 3) := by decide +kernel
theorem dX6_set_53 : decode cX6_set 53 = .ok (.bipush 100, 2) := by decide +kernel
theorem dX6_set_55 : decode cX6_set 55 = .ok (.goto 5, 3) := by decide +kernel
theorem dX6_set_58 : decode cX6_set 58 = .ok (.bipush 99, 2) := by decide +kernel
theorem dX6_set_60 : decode cX6_set 60 = .ok (.if_icmp .le 10, 3) := by decide +kernel
theorem dX6_set_63 : decode cX6_set 63 = .ok (.aload_n 0, 1) := by decide +kernel
theorem dX6_set_64 : decode cX6_set 64 = .ok (.bipush (-6), 2) := by decide +kernel
theorem dX6_set_66 : decode cX6_set 66 = .ok (.invokevirtual 44, 3) := by decide +kernel
theorem dX6_set_69 : decode cX6_set 69 = .ok (.ireturn, 1) := by decide +kernel
theorem dX6_set_70 : decode cX6_set 70 = .ok (.aload_n 0, 1) := by decide +kernel
theorem dX6_set_71 : decode cX6_set 71 = .ok (.getfield 10, 3) := by decide +kernel
theorem dX6_set_74 : decode cX6_set 74 = .ok (.getfield 63, 3) := by decide +kernel
theorem dX6_set_77 : decode cX6_set 77 = .ok (.iload_n 2, 1) := by decide +kernel
theorem dX6_set_78 : decode cX6_set 78 = .ok (.invokevirtual 80, 3) := by decide +kernel
theorem dX6_set_81 : decode cX6_set 81 = .ok (.astore 4, 2) := by decide +kernel
theorem dX6_set_83 : decode cX6_set 83 = .ok (.aload 4, 2) := by decide +kernel
theorem dX6_set_85 : decode cX6_set 85 = .ok (.iload_n 1, 1) := by decide +kernel
theorem dX6_set_86 : decode cX6_set 86 = .ok (.iaload, 1) := by decide +kernel
theorem dX6_set_87 : decode cX6_set 87 = .ok (.istore 5, 2) := by decide +kernel
theorem dX6_set_89 : decode cX6_set 89 = .ok (.aload 4, 2) := by decide +kernel
theorem dX6_set_91 : decode cX6_set 91 = .ok (.iload_n 1, 1) := by decide +kernel
theorem dX6_set_92 : decode cX6_set 92 = .ok (.iload_n 3, 1) := by decide +kernel
theorem dX6_set_93 : decode cX6_set 93 = .ok (.iastore, 1) := by decide +kernel
theorem dX6_set_94 : decode cX6_set 94 = .ok (.iload 5, 2) := by decide +kernel
theorem dX6_set_96 : decode cX6_set 96 = .ok (.ireturn, 1) := by decide +kernel
theorem dX6_way_0 : decode cX6_way 0 = .ok (.iload_n 3, 1) := by decide +kernel
theorem dX6_way_1 : decode cX6_way 1 = .ok (.bipush 10, 2) := by decide +kernel
theorem dX6_way_3 : decode cX6_way 3 = .ok (.irem, 1) := by decide +kernel
theorem dX6_way_4 : decode cX6_way 4 = .ok (.ifCond .eq 9, 3) := by decide +kernel
theorem dX6_way_7 : decode cX6_way 7 = .ok (.aload_n 0, 1) := by decide +kernel
theorem dX6_way_8 : decode cX6_way 8 = .ok (.iconst (-1), 1) := by decide +kernel
theorem dX6_way_9 : decode cX6_way 9 = .ok (.invokevirtual 44, 3) := by decide +kernel
theorem dX6_way_12 : decode cX6_way 12 = .ok (.ireturn, 1) := by decide +kernel
theorem dX6_way_13 : decode cX6_way 13 = .ok (.aload_n 0, 1) := by decide +kernel
theorem dX6_way_14 : decode cX6_way 14 = .ok (.aload_n 0, 1) := by decide +kernel
theorem dX6_way_15 : decode cX6_way 15 = .ok (.getfield 10, 3) := by decide +kernel
theorem dX6_way_18 : decode cX6_way 18 = .ok (.iload_n 1, 1) := by decide +kernel
theorem dX6_way_19 : decode cX6_way 19 = .ok (.iload_n 2, 1) := by decide +kernel
theorem dX6_way_20 : decode cX6_way 20 = .ok (.iload_n 3, 1) := by decide +kernel
theorem dX6_way_21 : decode cX6_way 21 = .ok (.bipush 100, 2) := by decide +kernel
theorem dX6_way_23 : decode cX6_way 23 = .ok (.idiv, 1) := by decide +kernel
theorem dX6_way_24 : decode cX6_way 24 = .ok (.iload_n 3, 1) := by decide +kernel
theorem dX6_way_25 : decode cX6_way 25 = .ok (.bipush 10, 2) := by decide +kernel
theorem dX6_way_27 : decode cX6_way 27 = .ok (.idiv, 1) := by decide +kernel
theorem dX6_way_28 : decode cX6_way 28 = .ok (.bipush 10, 2) := by decide +kernel
theorem dX6_way_30 : decode cX6_way 30 = .ok (.irem, 1) := by decide +kernel
theorem dX6_way_31 : decode cX6_way 31 = .ok (.iload 4, 2) := by decide +kernel
theorem dX6_way_33 : decode cX6_way 33 = .ok (.invokevirtual 84, 3) := by decide +kernel
theorem dX6_way_36 : decode cX6_way 36 = .ok (.invokevirtual 73, 3) := by decide +kernel
theorem dX6_way_39 : decode cX6_way 39 = .ok (.ireturn, 1) := by decide +kernel
theorem dX6_shut_0 : decode cX6_shut 0 = .ok (.aload_n 0, 1) := by decide +kernel
theorem dX6_shut_1 : decode cX6_shut 1 = .ok (.getfield 10, 3) := by decide +kernel
theorem dX6_shut_4 : decode cX6_shut 4 = .ok (.getfield 88, 3) := by decide +kernel
theorem dX6_shut_7 : decode cX6_shut 7 = .ok (.iload_n 1, 1) := by decide +kernel
theorem dX6_shut_8 : decode cX6_shut 8 = .ok (.invokevirtual 92, 3) := by decide +kernel
theorem dX6_shut_11 : decode cX6_shut 11 = .ok (.ifCond .ne 9, 3) := by decide +kernel
theorem dX6_shut_14 : decode cX6_shut 14 = .ok (.aload_n 0, 1) := by decide +kernel
theorem dX6_shut_15 : decode cX6_shut 15 = .ok (.iconst (-1), 1) := by decide +kernel
theorem dX6_shut_16 : decode cX6_shut 16 = .ok (.invokevirtual 44, 3) := by decide +kernel
theorem dX6_shut_19 : decode cX6_shut 19 = .ok (.ireturn, 1) := by decide +kernel
theorem dX6_shut_20 : decode cX6_shut 20 = .ok (.aload_n 0, 1) := by decide +kernel
theorem dX6_shut_21 : decode cX6_shut 21 = .ok (.getfield 10, 3) := by decide +kernel
theorem dX6_shut_24 : decode cX6_shut 24 = .ok (.getfield 88, 3) := by decide +kernel
theorem dX6_shut_27 : decode cX6_shut 27 = .ok (.iload_n 1, 1) := by decide +kernel
theorem dX6_shut_28 : decode cX6_shut 28 = .ok (.invokevirtual 95, 3) := by decide +kernel
theorem dX6_shut_31 : decode cX6_shut 31 = .ok (.iload_n 2, 1) := by decide +kernel
theorem dX6_shut_32 : decode cX6_shut 32 = .ok (.if_icmp .ne 5, 3) := by decide +kernel
theorem dX6_shut_35 : decode cX6_shut 35 = .ok (.iconst 0, 1) := by decide +kernel
theorem dX6_shut_36 : decode cX6_shut 36 = .ok (.ireturn, 1) := by decide +kernel
theorem dX6_shut_37 : decode cX6_shut 37 = .ok (.aload_n 0, 1) := by decide +kernel
theorem dX6_shut_38 : decode cX6_shut 38 = .ok (.getfield 10, 3) := by decide +kernel
theorem dX6_shut_41 : decode cX6_shut 41 = .ok (.getfield 88, 3) := by decide +kernel
theorem dX6_shut_44 : decode cX6_shut 44 = .ok (.iload_n 1, 1) := by decide +kernel
theorem dX6_shut_45 : decode cX6_shut 45 = .ok (.invokevirtual 98, 3) := by decide +kernel
theorem dX6_shut_48 : decode cX6_shut 48 = .ok (.iconst 1, 1) := by decide +kernel
theorem dX6_shut_49 : decode cX6_shut 49 = .ok (.ireturn, 1) := by decide +kernel
theorem dX6_river_0 : decode cX6_river 0 = .ok (.aload_n 0, 1) := by decide +kernel
theorem dX6_river_1 : decode cX6_river 1 = .ok (.aload_n 0, 1) := by decide +kernel
theorem dX6_river_2 : decode cX6_river 2 = .ok (.getfield 10, 3) := by decide +kernel
theorem dX6_river_5 : decode cX6_river 5 = .ok (.iload_n 1, 1) := by decide +kernel
theorem dX6_river_6 : decode cX6_river 6 = .ok (.iload_n 2, 1) := by decide +kernel
theorem dX6_river_7 : decode cX6_river 7 = .ok (.iload_n 3, 1) := by decide +kernel
theorem dX6_river_8 : decode cX6_river 8 = .ok (.invokevirtual 101, 3) := by decide +kernel
theorem dX6_river_11 : decode cX6_river 11 = .ok (.invokevirtual 73, 3) := by decide +kernel
theorem dX6_river_14 : decode cX6_river 14 = .ok (.ireturn, 1) := by decide +kernel
theorem dX6_moon_0 : decode cX6_moon 0 = .ok (.iload_n 1, 1) := by decide +kernel
theorem dX6_moon_1 : decode cX6_moon 1 = .ok (.iconst 1, 1) := by decide +kernel
theorem dX6_moon_2 : decode cX6_moon 2 = .ok (.if_icmp .ge 10, 3) := by decide +kernel
theorem dX6_moon_5 : decode cX6_moon 5 = .ok (.aload_n 0, 1) := by decide +kernel
theorem dX6_moon_6 : decode cX6_moon 6 = .ok (.bipush (-4), 2) := by decide +kernel
theorem dX6_moon_8 : decode cX6_moon 8 = .ok (.invokevirtual 44, 3) := by decide +kernel
theorem dX6_moon_11 : decode cX6_moon 11 = .ok (.ireturn, 1) := by decide +kernel
theorem dX6_moon_12 : decode cX6_moon 12 = .ok (.iload_n 1, 1) := by decide +kernel
theorem dX6_moon_13 : decode cX6_moon 13 = .ok (.bipush 28, 2) := by decide +kernel
theorem dX6_moon_15 : decode cX6_moon 15 = .ok (.if_icmp .le 10, 3) := by decide +kernel
theorem dX6_moon_18 : decode cX6_moon 18 = .ok (.aload_n 0, 1) := by decide +kernel
theorem dX6_moon_19 : decode cX6_moon 19 = .ok (.bipush (-6), 2) := by decide +kernel
theorem dX6_moon_21 : decode cX6_moon 21 = .ok (.invokevirtual 44, 3) := by decide +kernel
theorem dX6_moon_24 : decode cX6_moon 24 = .ok (.ireturn, 1) := by decide +kernel
theorem dX6_moon_25 : decode cX6_moon 25 = .ok (.aload_n 0, 1) := by decide +kernel
theorem dX6_moon_26 : decode cX6_moon 26 = .ok (.getfield 10, 3) := by decide +kernel
theorem dX6_moon_29 : decode cX6_moon 29 = .ok (.getfield 105, 3) := by decide +kernel
theorem dX6_moon_32 : decode cX6_moon 32 = .ok (.istore_n 3, 1) := by decide +kernel
theorem dX6_moon_33 : decode cX6_moon 33 = .ok (.aload_n 0, 1) := by decide +kernel
theorem dX6_moon_34 : decode cX6_moon 34 = .ok (.getfield 10, 3) := by decide +kernel
theorem dX6_moon_37 : decode cX6_moon 37 = .ok (.iload_n 1, 1) := by decide +kernel
theorem dX6_moon_38 : decode cX6_moon 38 = .ok (.iload_n 2, 1) := by decide +kernel
theorem dX6_moon_39 : decode cX6_moon 39 = .ok (.invokevirtual 108, 3) := by decide +kernel
theorem dX6_moon_42 : decode cX6_moon 42 = .ok (.iload_n 3, 1) := by decide +kernel
theorem dX6_moon_43 : decode cX6_moon 43 = .ok (.ireturn, 1) := by decide +kernel
theorem dX6_put_0 : decode cX6_put 0 = .ok (.aload_n 0, 1) := by decide +kernel
theorem dX6_put_1 : decode cX6_put 1 = .ok (.getfield 10, 3) := by decide +kernel
theorem dX6_put_4 : decode cX6_put 4 = .ok (.getfield 63, 3) := by decide +kernel
theorem dX6_put_7 : decode cX6_put 7 = .ok (.iload_n 1, 1) := by decide +kernel
theorem dX6_put_8 : decode cX6_put 8 = .ok (.invokevirtual 76, 3) := by decide +kernel
theorem dX6_put_11 : decode cX6_put 11 = .ok (.ifCond .eq 10, 3) := by decide +kernel
theorem dX6_put_14 : decode cX6_put 14 = .ok (.iload_n 2, 1) := by decide +kernel
theorem dX6_put_15 : decode cX6_put 15 = .ok (.invokestatic 112, 3) := by decide +kernel
theorem dX6_put_18 : decode cX6_put 18 = .ok (.ifCond .ne 9, 3) := by decide +kernel
theorem dX6_put_21 : decode cX6_put 21 = .ok (.aload_n 0, 1) := by decide +kernel
theorem dX6_put_22 : decode cX6_put 22 = .ok (.iconst (-1), 1) := by decide +kernel
theorem dX6_put_23 : decode cX6_put 23 = .ok (.invokevirtual 44, 3) := by decide +kernel
theorem dX6_put_26 : decode cX6_put 26 = .ok (.ireturn, 1) := by decide +kernel
theorem dX6_put_27 : decode cX6_put 27 = .ok (.iload 4, 2) := by decide +kernel
theorem dX6_put_29 : decode cX6_put 29 = .ok (.sipush (-9999), 3) := by decide +kernel
theorem dX6_put_32 : decode cX6_put 32 = .ok (.if_icmp .ge 10, 3) := by decide +kernel
theorem dX6_put_35 : decode cX6_put 35 = .ok (.aload_n 0, 1) := by decide +kernel
theorem dX6_put_36 : decode cX6_put 36 = .ok (.bipush (-4), 2) := by decide +kernel
theorem dX6_put_38 : decode cX6_put 38 = .ok (.invokevirtual 44, 3) := by decide +kernel
theorem dX6_put_41 : decode cX6_put 41 = .ok (.ireturn, 1) := by decide +kernel
theorem dX6_put_42 : decode cX6_put 42 = .ok (.iload 4, 2) := by decide +kernel
theorem dX6_put_44 : decode cX6_put 44 = .ok (.sipush 9999, 3) := by decide +kernel
theorem dX6_put_47 : decode cX6_put 47 = .ok (.if_icmp .le 10, 3) := by decide +kernel
theorem dX6_put_50 : decode cX6_put 50 = .ok (.aload_n 0, 1) := by decide +kernel
theorem dX6_put_51 : decode cX6_put 51 = .ok (.bipush (-6), 2) := by decide +kernel
theorem dX6_put_53 : decode cX6_put 53 = .ok (.invokevirtual 44, 3) := by decide +kernel
theorem dX6_put_56 : decode cX6_put 56 = .ok (.ireturn, 1) := by decide +kernel
theorem dX6_put_57 : decode cX6_put 57 = .ok (.aload_n 0, 1) := by decide +kernel
theorem dX6_put_58 : decode cX6_put 58 = .ok (.getfield 10, 3) := by decide +kernel
theorem dX6_put_61 : decode cX6_put 61 = .ok (.getfield 63, 3) := by decide +kernel
theorem dX6_put_64 : decode cX6_put 64 = .ok (.iload_n 3, 1) := by decide +kernel
theorem dX6_put_65 : decode cX6_put 65 = .ok (.invokevirtual 115, 3) := by decide +kernel
theorem dX6_put_68 : decode cX6_put 68 = .ok (.astore 5, 2) := by decide +kernel
theorem dX6_put_70 : decode cX6_put 70 = .ok (.iload_n 1, 1) := by decide +kernel
theorem dX6_put_71 : decode cX6_put 71 = .ok (.iload_n 2, 1) := by decide +kernel
theorem dX6_put_72 : decode cX6_put 72 = .ok (.invokestatic 119, 3) := by decide +kernel
theorem dX6_put_75 : decode cX6_put 75 = .ok (.istore 6, 2) := by decide +kernel
theorem dX6_put_77 : decode cX6_put 77 = .ok (.iconst 0, 1) := by decide +kernel
theorem dX6_put_78 : decode cX6_put 78 = .ok (.aload 5, 2) := by decide +kernel
theorem dX6_put_80 : decode cX6_put 80 = .ok (.iload 6, 2) := by decide +kernel
theorem dX6_put_82 : decode cX6_put 82 = .ok (.iaload, 1) := by decide +kernel
theorem dX6_put_83 : decode cX6_put 83 = .ok (.iload 4, 2) := by decide +kernel
theorem dX6_put_85 : decode cX6_put 85 = .ok (.iadd, 1) := by decide +kernel
theorem dX6_put_86 : decode cX6_put 86 = .ok (.invokestatic 122, 3) := by decide +kernel
theorem dX6_put_89 : decode cX6_put 89 = .ok (.istore 7, 2) := by decide +kernel
theorem dX6_put_91 : decode cX6_put 91 = .ok (.iload 7, 2) := by decide +kernel
theorem dX6_put_93 : decode cX6_put 93 = .ok (.ldc 127, 2) := by decide +kernel
theorem dX6_put_95 : decode cX6_put 95 = .ok (.if_icmp .le 10, 3) := by decide +kernel
theorem dX6_put_98 : decode cX6_put 98 = .ok (.aload_n 0, 1) := by decide +kernel
theorem dX6_put_99 : decode cX6_put 99 = .ok (.bipush (-6), 2) := by decide +kernel
theorem dX6_put_101 : decode cX6_put 101 = .ok (.invokevirtual 44, 3) := by decide +kernel
theorem dX6_put_104 : decode cX6_put 104 = .ok (.ireturn, 1) := by decide +kernel
theorem dX6_put_105 : decode cX6_put 105 = .ok (.aload 5, 2) := by decide +kernel
theorem dX6_put_107 : decode cX6_put 107 = .ok (.iload 6, 2) := by decide +kernel
theorem dX6_put_109 : decode cX6_put 109 = .ok (.iload 7, 2) := by decide +kernel
theorem dX6_put_111 : decode cX6_put 111 = .ok (.iastore, 1) := by decide +kernel
theorem dX6_put_112 : decode cX6_put 112 = .ok (.iload 7, 2) := by decide +kernel
theorem dX6_put_114 : decode cX6_put 114 = .ok (.ireturn, 1) := by decide +kernel
theorem dX6_tons_0 : decode cX6_tons 0 = .ok (.aload_n 0, 1) := by decide +kernel
theorem dX6_tons_1 : decode cX6_tons 1 = .ok (.getfield 10, 3) := by decide +kernel
theorem dX6_tons_4 : decode cX6_tons 4 = .ok (.getfield 63, 3) := by decide +kernel
theorem dX6_tons_7 : decode cX6_tons 7 = .ok (.iload_n 1, 1) := by decide +kernel
theorem dX6_tons_8 : decode cX6_tons 8 = .ok (.invokevirtual 76, 3) := by decide +kernel
theorem dX6_tons_11 : decode cX6_tons 11 = .ok (.ifCond .eq 10, 3) := by decide +kernel
theorem dX6_tons_14 : decode cX6_tons 14 = .ok (.iload_n 2, 1) := by decide +kernel
theorem dX6_tons_15 : decode cX6_tons 15 = .ok (.invokestatic 112, 3) := by decide +kernel
theorem dX6_tons_18 : decode cX6_tons 18 = .ok (.ifCond .ne 9, 3) := by decide +kernel
theorem dX6_tons_21 : decode cX6_tons 21 = .ok (.aload_n 0, 1) := by decide +kernel
theorem dX6_tons_22 : decode cX6_tons 22 = .ok (.iconst (-1), 1) := by decide +kernel
theorem dX6_tons_23 : decode cX6_tons 23 = .ok (.invokevirtual 44, 3) := by decide +kernel
theorem dX6_tons_26 : decode cX6_tons 26 = .ok (.ireturn, 1) := by decide +kernel
theorem dX6_tons_27 : decode cX6_tons 27 = .ok (.aload_n 0, 1) := by decide +kernel
theorem dX6_tons_28 : decode cX6_tons 28 = .ok (.getfield 10, 3) := by decide +kernel
theorem dX6_tons_31 : decode cX6_tons 31 = .ok (.getfield 63, 3) := by decide +kernel
theorem dX6_tons_34 : decode cX6_tons 34 = .ok (.iload_n 3, 1) := by decide +kernel
theorem dX6_tons_35 : decode cX6_tons 35 = .ok (.invokevirtual 115, 3) := by decide +kernel
theorem dX6_tons_38 : decode cX6_tons 38 = .ok (.iload_n 1, 1) := by decide +kernel
theorem dX6_tons_39 : decode cX6_tons 39 = .ok (.iload_n 2, 1) := by decide +kernel
theorem dX6_tons_40 : decode cX6_tons 40 = .ok (.invokestatic 119, 3) := by decide +kernel
theorem dX6_tons_43 : decode cX6_tons 43 = .ok (.iaload, 1) := by decide +kernel
theorem dX6_tons_44 : decode cX6_tons 44 = .ok (.ireturn, 1) := by decide +kernel
theorem dX6_depth_0 : decode cX6_depth 0 = .ok (.aload_n 0, 1) := by decide +kernel
theorem dX6_depth_1 : decode cX6_depth 1 = .ok (.getfield 10, 3) := by decide +kernel
theorem dX6_depth_4 : decode cX6_depth 4 = .ok (.getfield 63, 3) := by decide +kernel
theorem dX6_depth_7 : decode cX6_depth 7 = .ok (.iload_n 1, 1) := by decide +kernel
theorem dX6_depth_8 : decode cX6_depth 8 = .ok (.invokevirtual 76, 3) := by decide +kernel
theorem dX6_depth_11 : decode cX6_depth 11 = .ok (.ifCond .ne 9, 3) := by decide +kernel
theorem dX6_depth_14 : decode cX6_depth 14 = .ok (.aload_n 0, 1) := by decide +kernel
theorem dX6_depth_15 : decode cX6_depth 15 = .ok (.iconst (-1), 1) := by decide +kernel
theorem dX6_depth_16 : decode cX6_depth 16 = .ok (.invokevirtual 44, 3) := by decide +kernel
theorem dX6_depth_19 : decode cX6_depth 19 = .ok (.ireturn, 1) := by decide +kernel
theorem dX6_depth_20 : decode cX6_depth 20 = .ok (.aload_n 0, 1) := by decide +kernel
theorem dX6_depth_21 : decode cX6_depth 21 = .ok (.getfield 10, 3) := by decide +kernel
theorem dX6_depth_24 : decode cX6_depth 24 = .ok (.getfield 63, 3) := by decide +kernel
theorem dX6_depth_27 : decode cX6_depth 27 = .ok (.iload_n 1, 1) := by decide +kernel
theorem dX6_depth_28 : decode cX6_depth 28 = .ok (.invokevirtual 128, 3) := by decide +kernel
theorem dX6_depth_31 : decode cX6_depth 31 = .ok (.ireturn, 1) := by decide +kernel
theorem dX6_lacks_0 : decode cX6_lacks 0 = .ok (.aload_n 0, 1) := by decide +kernel
theorem dX6_lacks_1 : decode cX6_lacks 1 = .ok (.getfield 10, 3) := by decide +kernel
theorem dX6_lacks_4 : decode cX6_lacks 4 = .ok (.getfield 63, 3) := by decide +kernel
theorem dX6_lacks_7 : decode cX6_lacks 7 = .ok (.iload_n 1, 1) := by decide +kernel
theorem dX6_lacks_8 : decode cX6_lacks 8 = .ok (.invokevirtual 76, 3) := by decide +kernel
theorem dX6_lacks_11 : decode cX6_lacks 11 = .ok (.ifCond .ne 12, 3) := by decide +kernel
theorem dX6_lacks_14 : decode cX6_lacks 14 = .ok (.ldc 131, 2) := by decide +kernel
theorem dX6_lacks_16 : decode cX6_lacks 16 = .ok (.aload_n 0, 1) := by decide +kernel
theorem dX6_lacks_17 : decode cX6_lacks 17 = .ok (.iconst (-1), 1) := by decide +kernel
theorem dX6_lacks_18 : decode cX6_lacks 18 = .ok (.invokevirtual 44, 3) := by decide +kernel
theorem dX6_lacks_21 : decode cX6_lacks 21 = .ok (.iadd, 1) := by decide +kernel
theorem dX6_lacks_22 : decode cX6_lacks 22 = .ok (.ireturn, 1) := by decide +kernel
theorem dX6_lacks_23 : decode cX6_lacks 23 = .ok (.aload_n 0, 1) := by decide +kernel
theorem dX6_lacks_24 : decode cX6_lacks 24 = .ok (.getfield 10, 3) := by decide +kernel
theorem dX6_lacks_27 : decode cX6_lacks 27 = .ok (.getfield 63, 3) := by decide +kernel
theorem dX6_lacks_30 : decode cX6_lacks 30 = .ok (.iload_n 1, 1) := by decide +kernel
theorem dX6_lacks_31 : decode cX6_lacks 31 = .ok (.invokevirtual 132, 3) := by decide +kernel
theorem dX6_lacks_34 : decode cX6_lacks 34 = .ok (.ireturn, 1) := by decide +kernel
theorem dX6_dredger_0 : decode cX6_dredger 0 = .ok (.iload_n 1, 1) := by decide +kernel
theorem dX6_dredger_1 : decode cX6_dredger 1 = .ok (.ifCond .lt 8, 3) := by decide +kernel
theorem dX6_dredger_4 : decode cX6_dredger 4 = .ok (.iload_n 1, 1) := by decide +kernel
theorem dX6_dredger_5 : decode cX6_dredger 5 = .ok (.iconst 4, 1) := by decide +kernel
theorem dX6_dredger_6 : decode cX6_dredger 6 = .ok (.if_icmp .le 10, 3) := by decide +kernel
theorem dX6_dredger_9 : decode cX6_dredger 9 = .ok (.aload_n 0, 1) := by decide +kernel
theorem dX6_dredger_10 : decode cX6_dredger 10 = .ok (.bipush (-2), 2) := by decide +kernel
theorem dX6_dredger_12 : decode cX6_dredger 12 = .ok (.invokevirtual 44, 3) := by decide +kernel
theorem dX6_dredger_15 : decode cX6_dredger 15 = .ok (.ireturn, 1) := by decide +kernel
theorem dX6_dredger_16 : decode cX6_dredger 16 = .ok (.iload_n 1, 1) := by decide +kernel
theorem dX6_dredger_17 : decode cX6_dredger 17 = .ok (.iconst 1, 1) := by decide +kernel
theorem dX6_dredger_18 : decode cX6_dredger 18 = .ok (.if_icmp .eq 8, 3) := by decide +kernel
theorem dX6_dredger_21 : decode cX6_dredger 21 = .ok (.iload_n 1, 1) := by decide +kernel
theorem dX6_dredger_22 : decode cX6_dredger 22 = .ok (.iconst 3, 1) := by decide +kernel
theorem dX6_dredger_23 : decode cX6_dredger 23 = .ok (.if_icmp .ne 59, 3) := by decide +kernel
theorem dX6_dredger_26 : decode cX6_dredger 26 = .ok (.aload_n 0, 1) := by decide +kernel
theorem dX6_dredger_27 : decode cX6_dredger 27 = .ok (.getfield 10, 3) := by decide +kernel
theorem dX6_dredger_30 : decode cX6_dredger 30 = .ok (.getfield 63, 3) := by decide +kernel
theorem dX6_dredger_33 : decode cX6_dredger 33 = .ok (.iload_n 2, 1) := by decide +kernel
theorem dX6_dredger_34 : decode cX6_dredger 34 = .ok (.invokevirtual 76, 3) := by decide +kernel
theorem dX6_dredger_37 : decode cX6_dredger 37 = .ok (.ifCond .ne 14, 3) := by decide +kernel
theorem dX6_dredger_40 : decode cX6_dredger 40 = .ok (.iload_n 1, 1) := by decide +kernel
theorem dX6_dredger_41 : decode cX6_dredger 41 = .ok (.iconst 1, 1) := by decide +kernel
theorem dX6_dredger_42 : decode cX6_dredger 42 = .ok (.if_icmp .ne 13, 3) := by decide +kernel
theorem dX6_dredger_45 : decode cX6_dredger 45 = .ok (.iload_n 2, 1) := by decide +kernel
theorem dX6_dredger_46 : decode cX6_dredger 46 = .ok (.bipush 8, 2) := by decide +kernel
theorem dX6_dredger_48 : decode cX6_dredger 48 = .ok (.if_icmp .ne 7, 3) := by decide +kernel
theorem dX6_dredger_51 : decode cX6_dredger 51 = .ok (.iconst 1, 1) := by decide +kernel
theorem dX6_dredger_52 : decode cX6_dredger 52 = .ok (.goto 4, 3) := by decide +kernel
theorem dX6_dredger_55 : decode cX6_dredger 55 = .ok (.iconst 0, 1) := by decide +kernel
theorem dX6_dredger_56 : decode cX6_dredger 56 = .ok (.istore_n 3, 1) := by decide +kernel
theorem dX6_dredger_57 : decode cX6_dredger 57 = .ok (.iload_n 3, 1) := by decide +kernel
theorem dX6_dredger_58 : decode cX6_dredger 58 = .ok (.ifCond .eq 18, 3) := by decide +kernel
theorem dX6_dredger_61 : decode cX6_dredger 61 = .ok (.aload_n 0, 1) := by decide +kernel
theorem dX6_dredger_62 : decode cX6_dredger 62 = .ok (.getfield 10, 3) := by decide +kernel
theorem dX6_dredger_65 : decode cX6_dredger 65 = .ok (.getfield 137, 3) := by decide +kernel
theorem dX6_dredger_68 : decode cX6_dredger 68 = .ok (.iload_n 1, 1) := by decide +kernel
theorem dX6_dredger_69 : decode cX6_dredger 69 = .ok (.iload_n 2, 1) := by decide +kernel
theorem dX6_dredger_70 : decode cX6_dredger 70 = .ok (.invokevirtual 141, 3) := by decide +kernel
theorem dX6_dredger_73 : decode cX6_dredger 73 = .ok (.goto 8, 3) := by decide +kernel
theorem dX6_dredger_76 : decode cX6_dredger 76 = .ok (.aload_n 0, 1) := by decide +kernel
theorem dX6_dredger_77 : decode cX6_dredger 77 = .ok (.iconst (-1), 1) := by decide +kernel
theorem dX6_dredger_78 : decode cX6_dredger 78 = .ok (.invokevirtual 44, 3) := by decide +kernel
theorem dX6_dredger_81 : decode cX6_dredger 81 = .ok (.ireturn, 1) := by decide +kernel
theorem dX6_dredger_82 : decode cX6_dredger 82 = .ok (.iload_n 2, 1) := by decide +kernel
theorem dX6_dredger_83 : decode cX6_dredger 83 = .ok (.ifCond .ge 10, 3) := by decide +kernel
theorem dX6_dredger_86 : decode cX6_dredger 86 = .ok (.aload_n 0, 1) := by decide +kernel
theorem dX6_dredger_87 : decode cX6_dredger 87 = .ok (.bipush (-4), 2) := by decide +kernel
theorem dX6_dredger_89 : decode cX6_dredger 89 = .ok (.invokevirtual 44, 3) := by decide +kernel
theorem dX6_dredger_92 : decode cX6_dredger 92 = .ok (.ireturn, 1) := by decide +kernel
theorem dX6_dredger_93 : decode cX6_dredger 93 = .ok (.iload_n 2, 1) := by decide +kernel
theorem dX6_dredger_94 : decode cX6_dredger 94 = .ok (.iload_n 1, 1) := by decide +kernel
theorem dX6_dredger_95 : decode cX6_dredger 95 = .ok (.invokestatic 144, 3) := by decide +kernel
theorem dX6_dredger_98 : decode cX6_dredger 98 = .ok (.if_icmp .le 10, 3) := by decide +kernel
theorem dX6_dredger_101 : decode cX6_dredger 101 = .ok (.aload_n 0, 1) := by decide +kernel
theorem dX6_dredger_102 : decode cX6_dredger 102 = .ok (.bipush (-6), 2) := by decide +kernel
theorem dX6_dredger_104 : decode cX6_dredger 104 = .ok (.invokevirtual 44, 3) := by decide +kernel
theorem dX6_dredger_107 : decode cX6_dredger 107 = .ok (.ireturn, 1) := by decide +kernel
theorem dX6_dredger_108 : decode cX6_dredger 108 = .ok (.aload_n 0, 1) := by decide +kernel
theorem dX6_dredger_109 : decode cX6_dredger 109 = .ok (.getfield 10, 3) := by decide +kernel
theorem dX6_dredger_112 : decode cX6_dredger 112 = .ok (.getfield 137, 3) := by decide +kernel
theorem dX6_dredger_115 : decode cX6_dredger 115 = .ok (.iload_n 1, 1) := by decide +kernel
theorem dX6_dredger_116 : decode cX6_dredger 116 = .ok (.iload_n 2, 1) := by decide +kernel
theorem dX6_dredger_117 : decode cX6_dredger 117 = .ok (.invokevirtual 141, 3) := by decide +kernel
theorem dX6_dredger_120 : decode cX6_dredger 120 = .ok (.ireturn, 1) := by decide +kernel
theorem dX6_takes_0 : decode cX6_takes 0 = .ok (.aload_n 0, 1) := by decide +kernel
theorem dX6_takes_1 : decode cX6_takes 1 = .ok (.getfield 10, 3) := by decide +kernel
theorem dX6_takes_4 : decode cX6_takes 4 = .ok (.getfield 63, 3) := by decide +kernel
theorem dX6_takes_7 : decode cX6_takes 7 = .ok (.getfield 147, 3) := by decide +kernel
theorem dX6_takes_10 : decode cX6_takes 10 = .ok (.ifCond .ne 10, 3) := by decide +kernel
theorem dX6_takes_13 : decode cX6_takes 13 = .ok (.aload_n 0, 1) := by decide +kernel
theorem dX6_takes_14 : decode cX6_takes 14 = .ok (.bipush (-3), 2) := by decide +kernel
theorem dX6_takes_16 : decode cX6_takes 16 = .ok (.invokevirtual 44, 3) := by decide +kernel
theorem dX6_takes_19 : decode cX6_takes 19 = .ok (.ireturn, 1) := by decide +kernel
theorem dX6_takes_20 : decode cX6_takes 20 = .ok (.aload_n 0, 1) := by decide +kernel
theorem dX6_takes_21 : decode cX6_takes 21 = .ok (.getfield 10, 3) := by decide +kernel
theorem dX6_takes_24 : decode cX6_takes 24 = .ok (.aload_n 0, 1) := by decide +kernel
theorem dX6_takes_25 : decode cX6_takes 25 = .ok (.getfield 10, 3) := by decide +kernel
theorem dX6_takes_28 : decode cX6_takes 28 = .ok (.invokevirtual 150, 3) := by decide +kernel
theorem dX6_takes_31 : decode cX6_takes 31 = .ok (.invokevirtual 154, 3) := by decide +kernel
theorem dX6_takes_34 : decode cX6_takes 34 = .ok (.istore_n 1, 1) := by decide +kernel
theorem dX6_takes_35 : decode cX6_takes 35 = .ok (.iload_n 1, 1) := by decide +kernel
theorem dX6_takes_36 : decode cX6_takes 36 = .ok (.aload_n 0, 1) := by decide +kernel
theorem dX6_takes_37 : decode cX6_takes 37 = .ok (.getfield 10, 3) := by decide +kernel
theorem dX6_takes_40 : decode cX6_takes 40 = .ok (.getfield 137, 3) := by decide +kernel
theorem dX6_takes_43 : decode cX6_takes 43 = .ok (.getfield 157, 3) := by decide +kernel
theorem dX6_takes_46 : decode cX6_takes 46 = .ok (.if_icmp .ne 8, 3) := by decide +kernel
theorem dX6_takes_49 : decode cX6_takes 49 = .ok (.bipush (-9), 2) := by decide +kernel
theorem dX6_takes_51 : decode cX6_takes 51 = .ok (.goto 4, 3) := by decide +kernel
theorem dX6_takes_54 : decode cX6_takes 54 = .ok (.iload_n 1, 1) := by decide +kernel
theorem dX6_takes_55 : decode cX6_takes 55 = .ok (.ireturn, 1) := by decide +kernel
theorem dX6_go_0 : decode cX6_go 0 = .ok (.aload_n 0, 1) := by decide +kernel
theorem dX6_go_1 : decode cX6_go 1 = .ok (.iload_n 1, 1) := by decide +kernel
theorem dX6_go_2 : decode cX6_go 2 = .ok (.invokevirtual 160, 3) := by decide +kernel
theorem dX6_go_5 : decode cX6_go 5 = .ok (.istore_n 2, 1) := by decide +kernel
theorem dX6_go_6 : decode cX6_go 6 = .ok (.iload_n 2, 1) := by decide +kernel
theorem dX6_go_7 : decode cX6_go 7 = .ok (.ifCond .ge 9, 3) := by decide +kernel
theorem dX6_go_10 : decode cX6_go 10 = .ok (.aload_n 0, 1) := by decide +kernel
theorem dX6_go_11 : decode cX6_go 11 = .ok (.iload_n 2, 1) := by decide +kernel
theorem dX6_go_12 : decode cX6_go 12 = .ok (.invokevirtual 44, 3) := by decide +kernel
theorem dX6_go_15 : decode cX6_go 15 = .ok (.ireturn, 1) := by decide +kernel
theorem dX6_go_16 : decode cX6_go 16 = .ok (.aload_n 0, 1) := by decide +kernel
theorem dX6_go_17 : decode cX6_go 17 = .ok (.getfield 10, 3) := by decide +kernel
theorem dX6_go_20 : decode cX6_go 20 = .ok (.iload_n 1, 1) := by decide +kernel
theorem dX6_go_21 : decode cX6_go 21 = .ok (.iconst (-1), 1) := by decide +kernel
theorem dX6_go_22 : decode cX6_go 22 = .ok (.invokevirtual 163, 3) := by decide +kernel
theorem dX6_go_25 : decode cX6_go 25 = .ok (.aload_n 0, 1) := by decide +kernel
theorem dX6_go_26 : decode cX6_go 26 = .ok (.getfield 10, 3) := by decide +kernel
theorem dX6_go_29 : decode cX6_go 29 = .ok (.getfield 166, 3) := by decide +kernel
theorem dX6_go_32 : decode cX6_go 32 = .ok (.ireturn, 1) := by decide +kernel
theorem dX6_cost_0 : decode cX6_cost 0 = .ok (.aload_n 0, 1) := by decide +kernel
theorem dX6_cost_1 : decode cX6_cost 1 = .ok (.iload_n 1, 1) := by decide +kernel
theorem dX6_cost_2 : decode cX6_cost 2 = .ok (.invokevirtual 160, 3) := by decide +kernel
theorem dX6_cost_5 : decode cX6_cost 5 = .ok (.istore_n 2, 1) := by decide +kernel
theorem dX6_cost_6 : decode cX6_cost 6 = .ok (.iload_n 2, 1) := by decide +kernel
theorem dX6_cost_7 : decode cX6_cost 7 = .ok (.ifCond .ge 14, 3) := by decide +kernel
theorem dX6_cost_10 : decode cX6_cost 10 = .ok (.ldc2_w 169, 3) := by decide +kernel
theorem dX6_cost_13 : decode cX6_cost 13 = .ok (.aload_n 0, 1) := by decide +kernel
theorem dX6_cost_14 : decode cX6_cost 14 = .ok (.iload_n 2, 1) := by decide +kernel
theorem dX6_cost_15 : decode cX6_cost 15 = .ok (.invokevirtual 44, 3) := by decide +kernel
theorem dX6_cost_18 : decode cX6_cost 18 = .ok (.i2l, 1) := by decide +kernel
theorem dX6_cost_19 : decode cX6_cost 19 = .ok (.ladd, 1) := by decide +kernel
theorem dX6_cost_20 : decode cX6_cost 20 = .ok (.lreturn, 1) := by decide +kernel
theorem dX6_cost_21 : decode cX6_cost 21 = .ok (.aload_n 0, 1) := by decide +kernel
theorem dX6_cost_22 : decode cX6_cost 22 = .ok (.getfield 16, 3) := by decide +kernel
theorem dX6_cost_25 : decode cX6_cost 25 = .ok (.aload_n 0, 1) := by decide +kernel
theorem dX6_cost_26 : decode cX6_cost 26 = .ok (.getfield 10, 3) := by decide +kernel
theorem dX6_cost_29 : decode cX6_cost 29 = .ok (.invokevirtual 55, 3) := by decide +kernel
theorem dX6_cost_32 : decode cX6_cost 32 = .ok (.aload_n 0, 1) := by decide +kernel
theorem dX6_cost_33 : decode cX6_cost 33 = .ok (.getfield 16, 3) := by decide +kernel
theorem dX6_cost_36 : decode cX6_cost 36 = .ok (.iload_n 1, 1) := by decide +kernel
theorem dX6_cost_37 : decode cX6_cost 37 = .ok (.ldc2_w 171, 3) := by decide +kernel
theorem dX6_cost_40 : decode cX6_cost 40 = .ok (.invokevirtual 173, 3) := by decide +kernel
theorem dX6_cost_43 : decode cX6_cost 43 = .ok (.lreturn, 1) := by decide +kernel
theorem dX6_holds_0 : decode cX6_holds 0 = .ok (.aload_n 0, 1) := by decide +kernel
theorem dX6_holds_1 : decode cX6_holds 1 = .ok (.iload_n 1, 1) := by decide +kernel
theorem dX6_holds_2 : decode cX6_holds 2 = .ok (.invokevirtual 160, 3) := by decide +kernel
theorem dX6_holds_5 : decode cX6_holds 5 = .ok (.istore_n 2, 1) := by decide +kernel
theorem dX6_holds_6 : decode cX6_holds 6 = .ok (.iload_n 2, 1) := by decide +kernel
theorem dX6_holds_7 : decode cX6_holds 7 = .ok (.ifCond .ge 9, 3) := by decide +kernel
theorem dX6_holds_10 : decode cX6_holds 10 = .ok (.aload_n 0, 1) := by decide +kernel
theorem dX6_holds_11 : decode cX6_holds 11 = .ok (.iload_n 2, 1) := by decide +kernel
theorem dX6_holds_12 : decode cX6_holds 12 = .ok (.invokevirtual 44, 3) := by decide +kernel
theorem dX6_holds_15 : decode cX6_holds 15 = .ok (.ireturn, 1) := by decide +kernel
theorem dX6_holds_16 : decode cX6_holds 16 = .ok (.aload_n 0, 1) := by decide +kernel
theorem dX6_holds_17 : decode cX6_holds 17 = .ok (.getfield 16, 3) := by decide +kernel
theorem dX6_holds_20 : decode cX6_holds 20 = .ok (.aload_n 0, 1) := by decide +kernel
theorem dX6_holds_21 : decode cX6_holds 21 = .ok (.getfield 10, 3) := by decide +kernel
theorem dX6_holds_24 : decode cX6_holds 24 = .ok (.invokevirtual 55, 3) := by decide +kernel
theorem dX6_holds_27 : decode cX6_holds 27 = .ok (.aload_n 0, 1) := by decide +kernel
theorem dX6_holds_28 : decode cX6_holds 28 = .ok (.getfield 16, 3) := by decide +kernel
theorem dX6_holds_31 : decode cX6_holds 31 = .ok (.iload_n 1, 1) := by decide +kernel
theorem dX6_holds_32 : decode cX6_holds 32 = .ok (.iconst (-1), 1) := by decide +kernel
theorem dX6_holds_33 : decode cX6_holds 33 = .ok (.invokevirtual 177, 3) := by decide +kernel
theorem dX6_holds_36 : decode cX6_holds 36 = .ok (.ireturn, 1) := by decide +kernel
theorem dX6_alone_0 : decode cX6_alone 0 = .ok (.aload_n 0, 1) := by decide +kernel
theorem dX6_alone_1 : decode cX6_alone 1 = .ok (.iload_n 1, 1) := by decide +kernel
theorem dX6_alone_2 : decode cX6_alone 2 = .ok (.invokevirtual 160, 3) := by decide +kernel
theorem dX6_alone_5 : decode cX6_alone 5 = .ok (.istore_n 2, 1) := by decide +kernel
theorem dX6_alone_6 : decode cX6_alone 6 = .ok (.iload_n 2, 1) := by decide +kernel
theorem dX6_alone_7 : decode cX6_alone 7 = .ok (.ifCond .ge 9, 3) := by decide +kernel
theorem dX6_alone_10 : decode cX6_alone 10 = .ok (.aload_n 0, 1) := by decide +kernel
theorem dX6_alone_11 : decode cX6_alone 11 = .ok (.iload_n 2, 1) := by decide +kernel
theorem dX6_alone_12 : decode cX6_alone 12 = .ok (.invokevirtual 44, 3) := by decide +kernel
theorem dX6_alone_15 : decode cX6_alone 15 = .ok (.ireturn, 1) := by decide +kernel
theorem dX6_alone_16 : decode cX6_alone 16 = .ok (.aload_n 0, 1) := by decide +kernel
theorem dX6_alone_17 : decode cX6_alone 17 = .ok (.getfield 16, 3) := by decide +kernel
theorem dX6_alone_20 : decode cX6_alone 20 = .ok (.aload_n 0, 1) := by decide +kernel
theorem dX6_alone_21 : decode cX6_alone 21 = .ok (.getfield 10, 3) := by decide +kernel
theorem dX6_alone_24 : decode cX6_alone 24 = .ok (.invokevirtual 55, 3) := by decide +kernel
theorem dX6_alone_27 : decode cX6_alone 27 = .ok (.aload_n 0, 1) := by decide +kernel
theorem dX6_alone_28 : decode cX6_alone 28 = .ok (.getfield 16, 3) := by decide +kernel
theorem dX6_alone_31 : decode cX6_alone 31 = .ok (.iload_n 1, 1) := by decide +kernel
theorem dX6_alone_32 : decode cX6_alone 32 = .ok (.bipush 9, 2) := by decide +kernel
theorem dX6_alone_34 : decode cX6_alone 34 = .ok (.invokevirtual 177, 3) := by decide +kernel
theorem dX6_alone_37 : decode cX6_alone 37 = .ok (.ireturn, 1) := by decide +kernel
theorem dX6_back_0 : decode cX6_back 0 = .ok (.aload_n 0, 1) := by decide +kernel
theorem dX6_back_1 : decode cX6_back 1 = .ok (.getfield 10, 3) := by decide +kernel
theorem dX6_back_4 : decode cX6_back 4 = .ok (.getfield 63, 3) := by decide +kernel
theorem dX6_back_7 : decode cX6_back 7 = .ok (.iload_n 1, 1) := by decide +kernel
theorem dX6_back_8 : decode cX6_back 8 = .ok (.invokevirtual 76, 3) := by decide +kernel
theorem dX6_back_11 : decode cX6_back 11 = .ok (.ifCond .eq 25, 3) := by decide +kernel
theorem dX6_back_14 : decode cX6_back 14 = .ok (.iload_n 2, 1) := by decide +kernel
theorem dX6_back_15 : decode cX6_back 15 = .ok (.invokestatic 112, 3) := by decide +kernel
theorem dX6_back_18 : decode cX6_back 18 = .ok (.ifCond .eq 18, 3) := by decide +kernel
theorem dX6_back_21 : decode cX6_back 21 = .ok (.aload_n 0, 1) := by decide +kernel
theorem dX6_back_22 : decode cX6_back 22 = .ok (.getfield 10, 3) := by decide +kernel
theorem dX6_back_25 : decode cX6_back 25 = .ok (.getfield 63, 3) := by decide +kernel
theorem dX6_back_28 : decode cX6_back 28 = .ok (.iload 4, 2) := by decide +kernel
theorem dX6_back_30 : decode cX6_back 30 = .ok (.invokevirtual 180, 3) := by decide +kernel
theorem dX6_back_33 : decode cX6_back 33 = .ok (.ifCond .ne 12, 3) := by decide +kernel
theorem dX6_back_36 : decode cX6_back 36 = .ok (.ldc 131, 2) := by decide +kernel
theorem dX6_back_38 : decode cX6_back 38 = .ok (.aload_n 0, 1) := by decide +kernel
theorem dX6_back_39 : decode cX6_back 39 = .ok (.iconst (-1), 1) := by decide +kernel
theorem dX6_back_40 : decode cX6_back 40 = .ok (.invokevirtual 44, 3) := by decide +kernel
theorem dX6_back_43 : decode cX6_back 43 = .ok (.iadd, 1) := by decide +kernel
theorem dX6_back_44 : decode cX6_back 44 = .ok (.ireturn, 1) := by decide +kernel
theorem dX6_back_45 : decode cX6_back 45 = .ok (.iload_n 3, 1) := by decide +kernel
theorem dX6_back_46 : decode cX6_back 46 = .ok (.iconst 1, 1) := by decide +kernel
theorem dX6_back_47 : decode cX6_back 47 = .ok (.if_icmp .lt 9, 3) := by decide +kernel
theorem dX6_back_50 : decode cX6_back 50 = .ok (.iload 5, 2) := by decide +kernel
theorem dX6_back_52 : decode cX6_back 52 = .ok (.iconst 1, 1) := by decide +kernel
theorem dX6_back_53 : decode cX6_back 53 = .ok (.if_icmp .ge 13, 3) := by decide +kernel
theorem dX6_back_56 : decode cX6_back 56 = .ok (.ldc 131, 2) := by decide +kernel
theorem dX6_back_58 : decode cX6_back 58 = .ok (.aload_n 0, 1) := by decide +kernel
theorem dX6_back_59 : decode cX6_back 59 = .ok (.bipush (-4), 2) := by decide +kernel
theorem dX6_back_61 : decode cX6_back 61 = .ok (.invokevirtual 44, 3) := by decide +kernel
theorem dX6_back_64 : decode cX6_back 64 = .ok (.iadd, 1) := by decide +kernel
theorem dX6_back_65 : decode cX6_back 65 = .ok (.ireturn, 1) := by decide +kernel
theorem dX6_back_66 : decode cX6_back 66 = .ok (.iload_n 3, 1) := by decide +kernel
theorem dX6_back_67 : decode cX6_back 67 = .ok (.sipush 9999, 3) := by decide +kernel
theorem dX6_back_70 : decode cX6_back 70 = .ok (.if_icmp .gt 11, 3) := by decide +kernel
theorem dX6_back_73 : decode cX6_back 73 = .ok (.iload 5, 2) := by decide +kernel
theorem dX6_back_75 : decode cX6_back 75 = .ok (.sipush 200, 3) := by decide +kernel
theorem dX6_back_78 : decode cX6_back 78 = .ok (.if_icmp .le 13, 3) := by decide +kernel
theorem dX6_back_81 : decode cX6_back 81 = .ok (.ldc 131, 2) := by decide +kernel
theorem dX6_back_83 : decode cX6_back 83 = .ok (.aload_n 0, 1) := by decide +kernel
theorem dX6_back_84 : decode cX6_back 84 = .ok (.bipush (-6), 2) := by decide +kernel
theorem dX6_back_86 : decode cX6_back 86 = .ok (.invokevirtual 44, 3) := by decide +kernel
theorem dX6_back_89 : decode cX6_back 89 = .ok (.iadd, 1) := by decide +kernel
theorem dX6_back_90 : decode cX6_back 90 = .ok (.ireturn, 1) := by decide +kernel
theorem dX6_back_91 : decode cX6_back 91 = .ok (.aload_n 0, 1) := by decide +kernel
theorem dX6_back_92 : decode cX6_back 92 = .ok (.getfield 16, 3) := by decide +kernel
theorem dX6_back_95 : decode cX6_back 95 = .ok (.aload_n 0, 1) := by decide +kernel
theorem dX6_back_96 : decode cX6_back 96 = .ok (.getfield 10, 3) := by decide +kernel
theorem dX6_back_99 : decode cX6_back 99 = .ok (.invokevirtual 55, 3) := by decide +kernel
theorem dX6_back_102 : decode cX6_back 102 = .ok (.aload_n 0, 1) := by decide +kernel
theorem dX6_back_103 : decode cX6_back 103 = .ok (.getfield 16, 3) := by decide +kernel
theorem dX6_back_106 : decode cX6_back 106 = .ok (.iload 5, 2) := by decide +kernel
theorem dX6_back_108 : decode cX6_back 108 = .ok (.bipush 9, 2) := by decide +kernel
theorem dX6_back_110 : decode cX6_back 110 = .ok (.invokevirtual 163, 3) := by decide +kernel
theorem dX6_back_113 : decode cX6_back 113 = .ok (.aload_n 0, 1) := by decide +kernel
theorem dX6_back_114 : decode cX6_back 114 = .ok (.getfield 16, 3) := by decide +kernel
theorem dX6_back_117 : decode cX6_back 117 = .ok (.getfield 63, 3) := by decide +kernel
theorem dX6_back_120 : decode cX6_back 120 = .ok (.iload 4, 2) := by decide +kernel
theorem dX6_back_122 : decode cX6_back 122 = .ok (.iload_n 2, 1) := by decide +kernel
theorem dX6_back_123 : decode cX6_back 123 = .ok (.invokevirtual 183, 3) := by decide +kernel
theorem dX6_back_126 : decode cX6_back 126 = .ok (.istore 6, 2) := by decide +kernel
theorem dX6_back_128 : decode cX6_back 128 = .ok (.aload_n 0, 1) := by decide +kernel
theorem dX6_back_129 : decode cX6_back 129 = .ok (.getfield 16, 3) := by decide +kernel
theorem dX6_back_132 : decode cX6_back 132 = .ok (.aload_n 0, 1) := by decide +kernel
theorem dX6_back_133 : decode cX6_back 133 = .ok (.getfield 10, 3) := by decide +kernel
theorem dX6_back_136 : decode cX6_back 136 = .ok (.invokevirtual 55, 3) := by decide +kernel
theorem dX6_back_139 : decode cX6_back 139 = .ok (.aload_n 0, 1) := by decide +kernel
theorem dX6_back_140 : decode cX6_back 140 = .ok (.getfield 16, 3) := by decide +kernel
theorem dX6_back_143 : decode cX6_back 143 = .ok (.iload_n 1, 1) := by decide +kernel
theorem dX6_back_144 : decode cX6_back 144 = .ok (.iload_n 2, 1) := by decide +kernel
theorem dX6_back_145 : decode cX6_back 145 = .ok (.iload_n 3, 1) := by decide +kernel
theorem dX6_back_146 : decode cX6_back 146 = .ok (.invokevirtual 186, 3) := by decide +kernel
theorem dX6_back_149 : decode cX6_back 149 = .ok (.aload_n 0, 1) := by decide +kernel
theorem dX6_back_150 : decode cX6_back 150 = .ok (.getfield 16, 3) := by decide +kernel
theorem dX6_back_153 : decode cX6_back 153 = .ok (.iload 5, 2) := by decide +kernel
theorem dX6_back_155 : decode cX6_back 155 = .ok (.bipush 9, 2) := by decide +kernel
theorem dX6_back_157 : decode cX6_back 157 = .ok (.invokevirtual 163, 3) := by decide +kernel
theorem dX6_back_160 : decode cX6_back 160 = .ok (.aload_n 0, 1) := by decide +kernel
theorem dX6_back_161 : decode cX6_back 161 = .ok (.getfield 16, 3) := by decide +kernel
theorem dX6_back_164 : decode cX6_back 164 = .ok (.getfield 63, 3) := by decide +kernel
theorem dX6_back_167 : decode cX6_back 167 = .ok (.iload 4, 2) := by decide +kernel
theorem dX6_back_169 : decode cX6_back 169 = .ok (.iload_n 2, 1) := by decide +kernel
theorem dX6_back_170 : decode cX6_back 170 = .ok (.invokevirtual 183, 3) := by decide +kernel
theorem dX6_back_173 : decode cX6_back 173 = .ok (.iload 6, 2) := by decide +kernel
theorem dX6_back_175 : decode cX6_back 175 = .ok (.isub, 1) := by decide +kernel
theorem dX6_back_176 : decode cX6_back 176 = .ok (.ireturn, 1) := by decide +kernel
theorem dX6_bestDrop_0 : decode cX6_bestDrop 0 = .ok (.aload_n 0, 1) := by decide +kernel
theorem dX6_bestDrop_1 : decode cX6_bestDrop 1 = .ok (.iload_n 1, 1) := by decide +kernel
theorem dX6_bestDrop_2 : decode cX6_bestDrop 2 = .ok (.invokevirtual 160, 3) := by decide +kernel
theorem dX6_bestDrop_5 : decode cX6_bestDrop 5 = .ok (.istore_n 2, 1) := by decide +kernel
theorem dX6_bestDrop_6 : decode cX6_bestDrop 6 = .ok (.iload_n 2, 1) := by decide +kernel
theorem dX6_bestDrop_7 : decode cX6_bestDrop 7 = .ok (.ifCond .ge 9, 3) := by decide +kernel
theorem dX6_bestDrop_10 : decode cX6_bestDrop 10 = .ok (.aload_n 0, 1) := by decide +kernel
theorem dX6_bestDrop_11 : decode cX6_bestDrop 11 = .ok (.iload_n 2, 1) := by decide +kernel
theorem dX6_bestDrop_12 : decode cX6_bestDrop 12 = .ok (.invokevirtual 44, 3) := by decide +kernel
theorem dX6_bestDrop_15 : decode cX6_bestDrop 15 = .ok (.ireturn, 1) := by decide +kernel
theorem dX6_bestDrop_16 : decode cX6_bestDrop 16 = .ok (.ldc2_w 171, 3) := by decide +kernel
theorem dX6_bestDrop_19 : decode cX6_bestDrop 19 = .ok (.lstore_n 3, 1) := by decide +kernel
theorem dX6_bestDrop_20 : decode cX6_bestDrop 20 = .ok (.bipush (-9), 2) := by decide +kernel
theorem dX6_bestDrop_22 : decode cX6_bestDrop 22 = .ok (.istore 5, 2) := by decide +kernel
theorem dX6_bestDrop_24 : decode cX6_bestDrop 24 = .ok (.iconst 0, 1) := by decide +kernel
theorem dX6_bestDrop_25 : decode cX6_bestDrop 25 = .ok (.istore 6, 2) := by decide +kernel
theorem dX6_bestDrop_27 : decode cX6_bestDrop 27 = .ok (.iload 6, 2) := by decide +kernel
theorem dX6_bestDrop_29 : decode cX6_bestDrop 29 = .ok (.bipush 8, 2) := by decide +kernel
theorem dX6_bestDrop_31 : decode cX6_bestDrop 31 = .ok (.if_icmp .gt 79, 3) := by decide +kernel
theorem dX6_bestDrop_34 : decode cX6_bestDrop 34 = .ok (.iload 6, 2) := by decide +kernel
theorem dX6_bestDrop_36 : decode cX6_bestDrop 36 = .ok (.bipush 8, 2) := by decide +kernel
theorem dX6_bestDrop_38 : decode cX6_bestDrop 38 = .ok (.if_icmp .eq 18, 3) := by decide +kernel
theorem dX6_bestDrop_41 : decode cX6_bestDrop 41 = .ok (.aload_n 0, 1) := by decide +kernel
theorem dX6_bestDrop_42 : decode cX6_bestDrop 42 = .ok (.getfield 10, 3) := by decide +kernel
theorem dX6_bestDrop_45 : decode cX6_bestDrop 45 = .ok (.getfield 63, 3) := by decide +kernel
theorem dX6_bestDrop_48 : decode cX6_bestDrop 48 = .ok (.iload 6, 2) := by decide +kernel
theorem dX6_bestDrop_50 : decode cX6_bestDrop 50 = .ok (.invokevirtual 76, 3) := by decide +kernel
theorem dX6_bestDrop_53 : decode cX6_bestDrop 53 = .ok (.ifCond .eq 51, 3) := by decide +kernel
theorem dX6_bestDrop_56 : decode cX6_bestDrop 56 = .ok (.aload_n 0, 1) := by decide +kernel
theorem dX6_bestDrop_57 : decode cX6_bestDrop 57 = .ok (.getfield 16, 3) := by decide +kernel
theorem dX6_bestDrop_60 : decode cX6_bestDrop 60 = .ok (.aload_n 0, 1) := by decide +kernel
theorem dX6_bestDrop_61 : decode cX6_bestDrop 61 = .ok (.getfield 10, 3) := by decide +kernel
theorem dX6_bestDrop_64 : decode cX6_bestDrop 64 = .ok (.invokevirtual 55, 3) := by decide +kernel
theorem dX6_bestDrop_67 : decode cX6_bestDrop 67 = .ok (.aload_n 0, 1) := by decide +kernel
theorem dX6_bestDrop_68 : decode cX6_bestDrop 68 = .ok (.getfield 16, 3) := by decide +kernel
theorem dX6_bestDrop_71 : decode cX6_bestDrop 71 = .ok (.getfield 137, 3) := by decide +kernel
theorem dX6_bestDrop_74 : decode cX6_bestDrop 74 = .ok (.iload 6, 2) := by decide +kernel
theorem dX6_bestDrop_76 : decode cX6_bestDrop 76 = .ok (.putfield 157, 3) := by decide +kernel
theorem dX6_bestDrop_79 : decode cX6_bestDrop 79 = .ok (.aload_n 0, 1) := by decide +kernel
theorem dX6_bestDrop_80 : decode cX6_bestDrop 80 = .ok (.getfield 16, 3) := by decide +kernel
theorem dX6_bestDrop_83 : decode cX6_bestDrop 83 = .ok (.iload_n 1, 1) := by decide +kernel
theorem dX6_bestDrop_84 : decode cX6_bestDrop 84 = .ok (.lload_n 3, 1) := by decide +kernel
theorem dX6_bestDrop_85 : decode cX6_bestDrop 85 = .ok (.invokevirtual 173, 3) := by decide +kernel
theorem dX6_bestDrop_88 : decode cX6_bestDrop 88 = .ok (.lstore 7, 2) := by decide +kernel
theorem dX6_bestDrop_90 : decode cX6_bestDrop 90 = .ok (.lload 7, 2) := by decide +kernel
theorem dX6_bestDrop_92 : decode cX6_bestDrop 92 = .ok (.lload_n 3, 1) := by decide +kernel
theorem dX6_bestDrop_93 : decode cX6_bestDrop 93 = .ok (.lcmp, 1) := by decide +kernel
theorem dX6_bestDrop_94 : decode cX6_bestDrop 94 = .ok (.ifCond .ge 10, 3) := by decide +kernel
theorem dX6_bestDrop_97 : decode cX6_bestDrop 97 = .ok (.lload 7, 2) := by decide +kernel
theorem dX6_bestDrop_99 : decode cX6_bestDrop 99 = .ok (.lstore_n 3, 1) := by decide +kernel
theorem dX6_bestDrop_100 : decode cX6_bestDrop 100 = .ok (.iload 6, 2) := by decide +kernel
theorem dX6_bestDrop_102 : decode cX6_bestDrop 102 = .ok (.istore 5, 2) := by decide +kernel
theorem dX6_bestDrop_104 : decode cX6_bestDrop 104 = .ok (.iinc 6 1, 3) := by decide +kernel
theorem dX6_bestDrop_107 : decode cX6_bestDrop 107 = .ok (.goto (-80), 3) := by decide +kernel
theorem dX6_bestDrop_110 : decode cX6_bestDrop 110 = .ok (.iload 5, 2) := by decide +kernel
theorem dX6_bestDrop_112 : decode cX6_bestDrop 112 = .ok (.ireturn, 1) := by decide +kernel
theorem dX6_bestPlan_0 : decode cX6_bestPlan 0 = .ok (.aload_n 0, 1) := by decide +kernel
theorem dX6_bestPlan_1 : decode cX6_bestPlan 1 = .ok (.iload_n 1, 1) := by decide +kernel
theorem dX6_bestPlan_2 : decode cX6_bestPlan 2 = .ok (.invokevirtual 160, 3) := by decide +kernel
theorem dX6_bestPlan_5 : decode cX6_bestPlan 5 = .ok (.istore_n 2, 1) := by decide +kernel
theorem dX6_bestPlan_6 : decode cX6_bestPlan 6 = .ok (.iload_n 2, 1) := by decide +kernel
theorem dX6_bestPlan_7 : decode cX6_bestPlan 7 = .ok (.ifCond .ge 9, 3) := by decide +kernel
theorem dX6_bestPlan_10 : decode cX6_bestPlan 10 = .ok (.aload_n 0, 1) := by decide +kernel
theorem dX6_bestPlan_11 : decode cX6_bestPlan 11 = .ok (.iload_n 2, 1) := by decide +kernel
theorem dX6_bestPlan_12 : decode cX6_bestPlan 12 = .ok (.invokevirtual 44, 3) := by decide +kernel
theorem dX6_bestPlan_15 : decode cX6_bestPlan 15 = .ok (.ireturn, 1) := by decide +kernel
theorem dX6_bestPlan_16 : decode cX6_bestPlan 16 = .ok (.ldc2_w 171, 3) := by decide +kernel
theorem dX6_bestPlan_19 : decode cX6_bestPlan 19 = .ok (.lstore_n 3, 1) := by decide +kernel
theorem dX6_bestPlan_20 : decode cX6_bestPlan 20 = .ok (.bipush (-9), 2) := by decide +kernel
theorem dX6_bestPlan_22 : decode cX6_bestPlan 22 = .ok (.istore 5, 2) := by decide +kernel
theorem dX6_bestPlan_24 : decode cX6_bestPlan 24 = .ok (.iconst 0, 1) := by decide +kernel
theorem dX6_bestPlan_25 : decode cX6_bestPlan 25 = .ok (.istore 6, 2) := by decide +kernel
theorem dX6_bestPlan_27 : decode cX6_bestPlan 27 = .ok (.iload 6, 2) := by decide +kernel
theorem dX6_bestPlan_29 : decode cX6_bestPlan 29 = .ok (.iconst 4, 1) := by decide +kernel
theorem dX6_bestPlan_30 : decode cX6_bestPlan 30 = .ok (.if_icmp .gt 57, 3) := by decide +kernel
theorem dX6_bestPlan_33 : decode cX6_bestPlan 33 = .ok (.aload_n 0, 1) := by decide +kernel
theorem dX6_bestPlan_34 : decode cX6_bestPlan 34 = .ok (.getfield 16, 3) := by decide +kernel
theorem dX6_bestPlan_37 : decode cX6_bestPlan 37 = .ok (.aload_n 0, 1) := by decide +kernel
theorem dX6_bestPlan_38 : decode cX6_bestPlan 38 = .ok (.getfield 10, 3) := by decide +kernel
theorem dX6_bestPlan_41 : decode cX6_bestPlan 41 = .ok (.invokevirtual 55, 3) := by decide +kernel
theorem dX6_bestPlan_44 : decode cX6_bestPlan 44 = .ok (.aload_n 0, 1) := by decide +kernel
theorem dX6_bestPlan_45 : decode cX6_bestPlan 45 = .ok (.getfield 16, 3) := by decide +kernel
theorem dX6_bestPlan_48 : decode cX6_bestPlan 48 = .ok (.getfield 137, 3) := by decide +kernel
theorem dX6_bestPlan_51 : decode cX6_bestPlan 51 = .ok (.iload 6, 2) := by decide +kernel
theorem dX6_bestPlan_53 : decode cX6_bestPlan 53 = .ok (.putfield 189, 3) := by decide +kernel
theorem dX6_bestPlan_56 : decode cX6_bestPlan 56 = .ok (.aload_n 0, 1) := by decide +kernel
theorem dX6_bestPlan_57 : decode cX6_bestPlan 57 = .ok (.getfield 16, 3) := by decide +kernel
theorem dX6_bestPlan_60 : decode cX6_bestPlan 60 = .ok (.iload_n 1, 1) := by decide +kernel
theorem dX6_bestPlan_61 : decode cX6_bestPlan 61 = .ok (.lload_n 3, 1) := by decide +kernel
theorem dX6_bestPlan_62 : decode cX6_bestPlan 62 = .ok (.invokevirtual 173, 3) := by decide +kernel
theorem dX6_bestPlan_65 : decode cX6_bestPlan 65 = .ok (.lstore 7, 2) := by decide +kernel
theorem dX6_bestPlan_67 : decode cX6_bestPlan 67 = .ok (.lload 7, 2) := by decide +kernel
theorem dX6_bestPlan_69 : decode cX6_bestPlan 69 = .ok (.lload_n 3, 1) := by decide +kernel
theorem dX6_bestPlan_70 : decode cX6_bestPlan 70 = .ok (.lcmp, 1) := by decide +kernel
theorem dX6_bestPlan_71 : decode cX6_bestPlan 71 = .ok (.ifCond .ge 10, 3) := by decide +kernel
theorem dX6_bestPlan_74 : decode cX6_bestPlan 74 = .ok (.lload 7, 2) := by decide +kernel
theorem dX6_bestPlan_76 : decode cX6_bestPlan 76 = .ok (.lstore_n 3, 1) := by decide +kernel
theorem dX6_bestPlan_77 : decode cX6_bestPlan 77 = .ok (.iload 6, 2) := by decide +kernel
theorem dX6_bestPlan_79 : decode cX6_bestPlan 79 = .ok (.istore 5, 2) := by decide +kernel
theorem dX6_bestPlan_81 : decode cX6_bestPlan 81 = .ok (.iinc 6 1, 3) := by decide +kernel
theorem dX6_bestPlan_84 : decode cX6_bestPlan 84 = .ok (.goto (-57), 3) := by decide +kernel
theorem dX6_bestPlan_87 : decode cX6_bestPlan 87 = .ok (.iload 5, 2) := by decide +kernel
theorem dX6_bestPlan_89 : decode cX6_bestPlan 89 = .ok (.ireturn, 1) := by decide +kernel
theorem dX6_leastCap_0 : decode cX6_leastCap 0 = .ok (.aload_n 0, 1) := by decide +kernel
theorem dX6_leastCap_1 : decode cX6_leastCap 1 = .ok (.iload_n 1, 1) := by decide +kernel
theorem dX6_leastCap_2 : decode cX6_leastCap 2 = .ok (.invokevirtual 160, 3) := by decide +kernel
theorem dX6_leastCap_5 : decode cX6_leastCap 5 = .ok (.istore_n 2, 1) := by decide +kernel
theorem dX6_leastCap_6 : decode cX6_leastCap 6 = .ok (.iload_n 2, 1) := by decide +kernel
theorem dX6_leastCap_7 : decode cX6_leastCap 7 = .ok (.ifCond .ge 9, 3) := by decide +kernel
theorem dX6_leastCap_10 : decode cX6_leastCap 10 = .ok (.aload_n 0, 1) := by decide +kernel
theorem dX6_leastCap_11 : decode cX6_leastCap 11 = .ok (.iload_n 2, 1) := by decide +kernel
theorem dX6_leastCap_12 : decode cX6_leastCap 12 = .ok (.invokevirtual 44, 3) := by decide +kernel
theorem dX6_leastCap_15 : decode cX6_leastCap 15 = .ok (.ireturn, 1) := by decide +kernel
theorem dX6_leastCap_16 : decode cX6_leastCap 16 = .ok (.iconst 0, 1) := by decide +kernel
theorem dX6_leastCap_17 : decode cX6_leastCap 17 = .ok (.istore_n 3, 1) := by decide +kernel
theorem dX6_leastCap_18 : decode cX6_leastCap 18 = .ok (.iload_n 3, 1) := by decide +kernel
theorem dX6_leastCap_19 : decode cX6_leastCap 19 = .ok (.sipush 950, 3) := by decide +kernel
theorem dX6_leastCap_22 : decode cX6_leastCap 22 = .ok (.if_icmp .gt 47, 3) := by decide +kernel
theorem dX6_leastCap_25 : decode cX6_leastCap 25 = .ok (.aload_n 0, 1) := by decide +kernel
theorem dX6_leastCap_26 : decode cX6_leastCap 26 = .ok (.getfield 16, 3) := by decide +kernel
theorem dX6_leastCap_29 : decode cX6_leastCap 29 = .ok (.aload_n 0, 1) := by decide +kernel
theorem dX6_leastCap_30 : decode cX6_leastCap 30 = .ok (.getfield 10, 3) := by decide +kernel
theorem dX6_leastCap_33 : decode cX6_leastCap 33 = .ok (.invokevirtual 55, 3) := by decide +kernel
theorem dX6_leastCap_36 : decode cX6_leastCap 36 = .ok (.aload_n 0, 1) := by decide +kernel
theorem dX6_leastCap_37 : decode cX6_leastCap 37 = .ok (.getfield 16, 3) := by decide +kernel
theorem dX6_leastCap_40 : decode cX6_leastCap 40 = .ok (.getfield 137, 3) := by decide +kernel
theorem dX6_leastCap_43 : decode cX6_leastCap 43 = .ok (.iload_n 3, 1) := by decide +kernel
theorem dX6_leastCap_44 : decode cX6_leastCap 44 = .ok (.putfield 192, 3) := by decide +kernel
theorem dX6_leastCap_47 : decode cX6_leastCap 47 = .ok (.aload_n 0, 1) := by decide +kernel
theorem dX6_leastCap_48 : decode cX6_leastCap 48 = .ok (.getfield 16, 3) := by decide +kernel
theorem dX6_leastCap_51 : decode cX6_leastCap 51 = .ok (.iload_n 1, 1) := by decide +kernel
theorem dX6_leastCap_52 : decode cX6_leastCap 52 = .ok (.iconst (-1), 1) := by decide +kernel
theorem dX6_leastCap_53 : decode cX6_leastCap 53 = .ok (.invokevirtual 177, 3) := by decide +kernel
theorem dX6_leastCap_56 : decode cX6_leastCap 56 = .ok (.bipush (-9), 2) := by decide +kernel
theorem dX6_leastCap_58 : decode cX6_leastCap 58 = .ok (.if_icmp .ne 5, 3) := by decide +kernel
theorem dX6_leastCap_61 : decode cX6_leastCap 61 = .ok (.iload_n 3, 1) := by decide +kernel
theorem dX6_leastCap_62 : decode cX6_leastCap 62 = .ok (.ireturn, 1) := by decide +kernel
theorem dX6_leastCap_63 : decode cX6_leastCap 63 = .ok (.iinc 3 50, 3) := by decide +kernel
theorem dX6_leastCap_66 : decode cX6_leastCap 66 = .ok (.goto (-48), 3) := by decide +kernel
theorem dX6_leastCap_69 : decode cX6_leastCap 69 = .ok (.bipush (-9), 2) := by decide +kernel
theorem dX6_leastCap_71 : decode cX6_leastCap 71 = .ok (.ireturn, 1) := by decide +kernel
theorem dX6_wall_0 : decode cX6_wall 0 = .ok (.aload_n 0, 1) := by decide +kernel
theorem dX6_wall_1 : decode cX6_wall 1 = .ok (.iload_n 1, 1) := by decide +kernel
theorem dX6_wall_2 : decode cX6_wall 2 = .ok (.invokevirtual 160, 3) := by decide +kernel
theorem dX6_wall_5 : decode cX6_wall 5 = .ok (.istore_n 2, 1) := by decide +kernel
theorem dX6_wall_6 : decode cX6_wall 6 = .ok (.iload_n 2, 1) := by decide +kernel
theorem dX6_wall_7 : decode cX6_wall 7 = .ok (.ifCond .ge 9, 3) := by decide +kernel
theorem dX6_wall_10 : decode cX6_wall 10 = .ok (.aload_n 0, 1) := by decide +kernel
theorem dX6_wall_11 : decode cX6_wall 11 = .ok (.iload_n 2, 1) := by decide +kernel
theorem dX6_wall_12 : decode cX6_wall 12 = .ok (.invokevirtual 44, 3) := by decide +kernel
theorem dX6_wall_15 : decode cX6_wall 15 = .ok (.ireturn, 1) := by decide +kernel
theorem dX6_wall_16 : decode cX6_wall 16 = .ok (.aload_n 0, 1) := by decide +kernel
theorem dX6_wall_17 : decode cX6_wall 17 = .ok (.getfield 16, 3) := by decide +kernel
theorem dX6_wall_20 : decode cX6_wall 20 = .ok (.aload_n 0, 1) := by decide +kernel
theorem dX6_wall_21 : decode cX6_wall 21 = .ok (.getfield 10, 3) := by decide +kernel
theorem dX6_wall_24 : decode cX6_wall 24 = .ok (.invokevirtual 55, 3) := by decide +kernel
theorem dX6_wall_27 : decode cX6_wall 27 = .ok (.aload_n 0, 1) := by decide +kernel
theorem dX6_wall_28 : decode cX6_wall 28 = .ok (.getfield 16, 3) := by decide +kernel
theorem dX6_wall_31 : decode cX6_wall 31 = .ok (.iload_n 1, 1) := by decide +kernel
theorem dX6_wall_32 : decode cX6_wall 32 = .ok (.ldc2_w 171, 3) := by decide +kernel
theorem dX6_wall_35 : decode cX6_wall 35 = .ok (.invokevirtual 173, 3) := by decide +kernel
theorem dX6_wall_38 : decode cX6_wall 38 = .ok (.lstore_n 3, 1) := by decide +kernel
theorem dX6_wall_39 : decode cX6_wall 39 = .ok (.bipush (-9), 2) := by decide +kernel
theorem dX6_wall_41 : decode cX6_wall 41 = .ok (.istore 5, 2) := by decide +kernel
theorem dX6_wall_43 : decode cX6_wall 43 = .ok (.iconst 0, 1) := by decide +kernel
theorem dX6_wall_44 : decode cX6_wall 44 = .ok (.istore 6, 2) := by decide +kernel
theorem dX6_wall_46 : decode cX6_wall 46 = .ok (.iload 6, 2) := by decide +kernel
theorem dX6_wall_48 : decode cX6_wall 48 = .ok (.aload_n 0, 1) := by decide +kernel
theorem dX6_wall_49 : decode cX6_wall 49 = .ok (.getfield 10, 3) := by decide +kernel
theorem dX6_wall_52 : decode cX6_wall 52 = .ok (.getfield 88, 3) := by decide +kernel
theorem dX6_wall_55 : decode cX6_wall 55 = .ok (.getfield 195, 3) := by decide +kernel
theorem dX6_wall_58 : decode cX6_wall 58 = .ok (.if_icmp .ge 72, 3) := by decide +kernel
theorem dX6_wall_61 : decode cX6_wall 61 = .ok (.aload_n 0, 1) := by decide +kernel
theorem dX6_wall_62 : decode cX6_wall 62 = .ok (.getfield 10, 3) := by decide +kernel
theorem dX6_wall_65 : decode cX6_wall 65 = .ok (.getfield 88, 3) := by decide +kernel
theorem dX6_wall_68 : decode cX6_wall 68 = .ok (.iload 6, 2) := by decide +kernel
theorem dX6_wall_70 : decode cX6_wall 70 = .ok (.invokevirtual 95, 3) := by decide +kernel
theorem dX6_wall_73 : decode cX6_wall 73 = .ok (.ifCond .ne 51, 3) := by decide +kernel
theorem dX6_wall_76 : decode cX6_wall 76 = .ok (.aload_n 0, 1) := by decide +kernel
theorem dX6_wall_77 : decode cX6_wall 77 = .ok (.getfield 16, 3) := by decide +kernel
theorem dX6_wall_80 : decode cX6_wall 80 = .ok (.aload_n 0, 1) := by decide +kernel
theorem dX6_wall_81 : decode cX6_wall 81 = .ok (.getfield 10, 3) := by decide +kernel
theorem dX6_wall_84 : decode cX6_wall 84 = .ok (.invokevirtual 55, 3) := by decide +kernel
theorem dX6_wall_87 : decode cX6_wall 87 = .ok (.aload_n 0, 1) := by decide +kernel
theorem dX6_wall_88 : decode cX6_wall 88 = .ok (.getfield 16, 3) := by decide +kernel
theorem dX6_wall_91 : decode cX6_wall 91 = .ok (.getfield 88, 3) := by decide +kernel
theorem dX6_wall_94 : decode cX6_wall 94 = .ok (.iload 6, 2) := by decide +kernel
theorem dX6_wall_96 : decode cX6_wall 96 = .ok (.invokevirtual 98, 3) := by decide +kernel
theorem dX6_wall_99 : decode cX6_wall 99 = .ok (.aload_n 0, 1) := by decide +kernel
theorem dX6_wall_100 : decode cX6_wall 100 = .ok (.getfield 16, 3) := by decide +kernel
theorem dX6_wall_103 : decode cX6_wall 103 = .ok (.iload_n 1, 1) := by decide +kernel
theorem dX6_wall_104 : decode cX6_wall 104 = .ok (.lload_n 3, 1) := by decide +kernel
theorem dX6_wall_105 : decode cX6_wall 105 = .ok (.invokevirtual 173, 3) := by decide +kernel
theorem dX6_wall_108 : decode cX6_wall 108 = .ok (.lstore 7, 2) := by decide +kernel
theorem dX6_wall_110 : decode cX6_wall 110 = .ok (.lload 7, 2) := by decide +kernel
theorem dX6_wall_112 : decode cX6_wall 112 = .ok (.lload_n 3, 1) := by decide +kernel
theorem dX6_wall_113 : decode cX6_wall 113 = .ok (.lcmp, 1) := by decide +kernel
theorem dX6_wall_114 : decode cX6_wall 114 = .ok (.ifCond .ge 10, 3) := by decide +kernel
theorem dX6_wall_117 : decode cX6_wall 117 = .ok (.lload 7, 2) := by decide +kernel
theorem dX6_wall_119 : decode cX6_wall 119 = .ok (.lstore_n 3, 1) := by decide +kernel
theorem dX6_wall_120 : decode cX6_wall 120 = .ok (.iload 6, 2) := by decide +kernel
theorem dX6_wall_122 : decode cX6_wall 122 = .ok (.istore 5, 2) := by decide +kernel
theorem dX6_wall_124 : decode cX6_wall 124 = .ok (.iinc 6 1, 3) := by decide +kernel
theorem dX6_wall_127 : decode cX6_wall 127 = .ok (.goto (-81), 3) := by decide +kernel
theorem dX6_wall_130 : decode cX6_wall 130 = .ok (.iload 5, 2) := by decide +kernel
theorem dX6_wall_132 : decode cX6_wall 132 = .ok (.ireturn, 1) := by decide +kernel
theorem dX6_share_0 : decode cX6_share 0 = .ok (.aload_n 0, 1) := by decide +kernel
theorem dX6_share_1 : decode cX6_share 1 = .ok (.getfield 10, 3) := by decide +kernel
theorem dX6_share_4 : decode cX6_share 4 = .ok (.getfield 196, 3) := by decide +kernel
theorem dX6_share_7 : decode cX6_share 7 = .ok (.iload_n 1, 1) := by decide +kernel
theorem dX6_share_8 : decode cX6_share 8 = .ok (.invokevirtual 200, 3) := by decide +kernel
theorem dX6_share_11 : decode cX6_share 11 = .ok (.ifCond .ne 12, 3) := by decide +kernel
theorem dX6_share_14 : decode cX6_share 14 = .ok (.ldc 131, 2) := by decide +kernel
theorem dX6_share_16 : decode cX6_share 16 = .ok (.aload_n 0, 1) := by decide +kernel
theorem dX6_share_17 : decode cX6_share 17 = .ok (.iconst (-1), 1) := by decide +kernel
theorem dX6_share_18 : decode cX6_share 18 = .ok (.invokevirtual 44, 3) := by decide +kernel
theorem dX6_share_21 : decode cX6_share 21 = .ok (.iadd, 1) := by decide +kernel
theorem dX6_share_22 : decode cX6_share 22 = .ok (.ireturn, 1) := by decide +kernel
theorem dX6_share_23 : decode cX6_share 23 = .ok (.iload_n 2, 1) := by decide +kernel
theorem dX6_share_24 : decode cX6_share 24 = .ok (.iconst 1, 1) := by decide +kernel
theorem dX6_share_25 : decode cX6_share 25 = .ok (.if_icmp .ge 13, 3) := by decide +kernel
theorem dX6_share_28 : decode cX6_share 28 = .ok (.ldc 131, 2) := by decide +kernel
theorem dX6_share_30 : decode cX6_share 30 = .ok (.aload_n 0, 1) := by decide +kernel
theorem dX6_share_31 : decode cX6_share 31 = .ok (.bipush (-4), 2) := by decide +kernel
theorem dX6_share_33 : decode cX6_share 33 = .ok (.invokevirtual 44, 3) := by decide +kernel
theorem dX6_share_36 : decode cX6_share 36 = .ok (.iadd, 1) := by decide +kernel
theorem dX6_share_37 : decode cX6_share 37 = .ok (.ireturn, 1) := by decide +kernel
theorem dX6_share_38 : decode cX6_share 38 = .ok (.iload_n 2, 1) := by decide +kernel
theorem dX6_share_39 : decode cX6_share 39 = .ok (.sipush 200, 3) := by decide +kernel
theorem dX6_share_42 : decode cX6_share 42 = .ok (.if_icmp .le 13, 3) := by decide +kernel
theorem dX6_share_45 : decode cX6_share 45 = .ok (.ldc 131, 2) := by decide +kernel
theorem dX6_share_47 : decode cX6_share 47 = .ok (.aload_n 0, 1) := by decide +kernel
theorem dX6_share_48 : decode cX6_share 48 = .ok (.bipush (-6), 2) := by decide +kernel
theorem dX6_share_50 : decode cX6_share 50 = .ok (.invokevirtual 44, 3) := by decide +kernel
theorem dX6_share_53 : decode cX6_share 53 = .ok (.iadd, 1) := by decide +kernel
theorem dX6_share_54 : decode cX6_share 54 = .ok (.ireturn, 1) := by decide +kernel
theorem dX6_share_55 : decode cX6_share 55 = .ok (.aload_n 0, 1) := by decide +kernel
