theorem dX7_wrongTides_2 : decode cX7_wrongTides 2 = .ok (.if_icmp .ge 8, 3) := by decide +kernel
theorem dX7_wrongTides_5 : decode cX7_wrongTides 5 = .ok (.bipush (-4), 2) := by decide +kernel
theorem dX7_wrongTides_7 : decode cX7_wrongTides 7 = .ok (.goto 28, 3) := by decide +kernel
theorem dX7_wrongTides_10 : decode cX7_wrongTides 10 = .ok (.iload_n 1, 1) := by decide +kernel
theorem dX7_wrongTides_11 : decode cX7_wrongTides 11 = .ok (.sipush 200, 3) := by decide +kernel
theorem dX7_wrongTides_14 : decode cX7_wrongTides 14 = .ok (.if_icmp .le 8, 3) := by decide +kernel
theorem dX7_wrongTides_17 : decode cX7_wrongTides 17 = .ok (.bipush (-6), 2) := by decide +kernel
theorem dX7_wrongTides_19 : decode cX7_wrongTides 19 = .ok (.goto 16, 3) := by decide +kernel
theorem dX7_wrongTides_22 : decode cX7_wrongTides 22 = .ok (.aload_n 0, 1) := by decide +kernel
theorem dX7_wrongTides_23 : decode cX7_wrongTides 23 = .ok (.getfield 111, 3) := by decide +kernel
theorem dX7_wrongTides_26 : decode cX7_wrongTides 26 = .ok (.ifCond .ne 8, 3) := by decide +kernel
theorem dX7_wrongTides_29 : decode cX7_wrongTides 29 = .ok (.bipush (-3), 2) := by decide +kernel
theorem dX7_wrongTides_31 : decode cX7_wrongTides 31 = .ok (.goto 4, 3) := by decide +kernel
theorem dX7_wrongTides_34 : decode cX7_wrongTides 34 = .ok (.iconst 0, 1) := by decide +kernel
theorem dX7_wrongTides_35 : decode cX7_wrongTides 35 = .ok (.ireturn, 1) := by decide +kernel
theorem dX7_go_0 : decode cX7_go 0 = .ok (.aload_n 0, 1) := by decide +kernel
theorem dX7_go_1 : decode cX7_go 1 = .ok (.iload_n 1, 1) := by decide +kernel
theorem dX7_go_2 : decode cX7_go 2 = .ok (.invokevirtual 220, 3) := by decide +kernel
theorem dX7_go_5 : decode cX7_go 5 = .ok (.ifCond .ge 13, 3) := by decide +kernel
theorem dX7_go_8 : decode cX7_go 8 = .ok (.aload_n 0, 1) := by decide +kernel
theorem dX7_go_9 : decode cX7_go 9 = .ok (.aload_n 0, 1) := by decide +kernel
theorem dX7_go_10 : decode cX7_go 10 = .ok (.iload_n 1, 1) := by decide +kernel
theorem dX7_go_11 : decode cX7_go 11 = .ok (.invokevirtual 220, 3) := by decide +kernel
theorem dX7_go_14 : decode cX7_go 14 = .ok (.invokevirtual 118, 3) := by decide +kernel
theorem dX7_go_17 : decode cX7_go 17 = .ok (.ireturn, 1) := by decide +kernel
theorem dX7_go_18 : decode cX7_go 18 = .ok (.iconst 0, 1) := by decide +kernel
theorem dX7_go_19 : decode cX7_go 19 = .ok (.istore_n 2, 1) := by decide +kernel
theorem dX7_go_20 : decode cX7_go 20 = .ok (.iload_n 2, 1) := by decide +kernel
theorem dX7_go_21 : decode cX7_go 21 = .ok (.iload_n 1, 1) := by decide +kernel
theorem dX7_go_22 : decode cX7_go 22 = .ok (.if_icmp .ge 13, 3) := by decide +kernel
theorem dX7_go_25 : decode cX7_go 25 = .ok (.aload_n 0, 1) := by decide +kernel
theorem dX7_go_26 : decode cX7_go 26 = .ok (.invokevirtual 223, 3) := by decide +kernel
theorem dX7_go_29 : decode cX7_go 29 = .ok (.iinc 2 1, 3) := by decide +kernel
theorem dX7_go_32 : decode cX7_go 32 = .ok (.goto (-12), 3) := by decide +kernel
theorem dX7_go_35 : decode cX7_go 35 = .ok (.aload_n 0, 1) := by decide +kernel
theorem dX7_go_36 : decode cX7_go 36 = .ok (.getfield 186, 3) := by decide +kernel
theorem dX7_go_39 : decode cX7_go 39 = .ok (.ireturn, 1) := by decide +kernel
theorem dX7_save_0 : decode cX7_save 0 = .ok (.iconst 0, 1) := by decide +kernel
theorem dX7_save_1 : decode cX7_save 1 = .ok (.istore_n 1, 1) := by decide +kernel
theorem dX7_save_2 : decode cX7_save 2 = .ok (.iload_n 1, 1) := by decide +kernel
theorem dX7_save_3 : decode cX7_save 3 = .ok (.bipush 16, 2) := by decide +kernel
theorem dX7_save_5 : decode cX7_save 5 = .ok (.if_icmp .ge 33, 3) := by decide +kernel
theorem dX7_save_8 : decode cX7_save 8 = .ok (.aload_n 0, 1) := by decide +kernel
theorem dX7_save_9 : decode cX7_save 9 = .ok (.getfield 87, 3) := by decide +kernel
theorem dX7_save_12 : decode cX7_save 12 = .ok (.iload_n 1, 1) := by decide +kernel
theorem dX7_save_13 : decode cX7_save 13 = .ok (.aload_n 0, 1) := by decide +kernel
theorem dX7_save_14 : decode cX7_save 14 = .ok (.getfield 25, 3) := by decide +kernel
theorem dX7_save_17 : decode cX7_save 17 = .ok (.iload_n 1, 1) := by decide +kernel
theorem dX7_save_18 : decode cX7_save 18 = .ok (.iaload, 1) := by decide +kernel
theorem dX7_save_19 : decode cX7_save 19 = .ok (.iastore, 1) := by decide +kernel
theorem dX7_save_20 : decode cX7_save 20 = .ok (.aload_n 0, 1) := by decide +kernel
theorem dX7_save_21 : decode cX7_save 21 = .ok (.getfield 90, 3) := by decide +kernel
theorem dX7_save_24 : decode cX7_save 24 = .ok (.iload_n 1, 1) := by decide +kernel
theorem dX7_save_25 : decode cX7_save 25 = .ok (.aload_n 0, 1) := by decide +kernel
theorem dX7_save_26 : decode cX7_save 26 = .ok (.getfield 28, 3) := by decide +kernel
theorem dX7_save_29 : decode cX7_save 29 = .ok (.iload_n 1, 1) := by decide +kernel
theorem dX7_save_30 : decode cX7_save 30 = .ok (.iaload, 1) := by decide +kernel
theorem dX7_save_31 : decode cX7_save 31 = .ok (.iastore, 1) := by decide +kernel
theorem dX7_save_32 : decode cX7_save 32 = .ok (.iinc 1 1, 3) := by decide +kernel
theorem dX7_save_35 : decode cX7_save 35 = .ok (.goto (-33), 3) := by decide +kernel
theorem dX7_save_38 : decode cX7_save 38 = .ok (.aload_n 0, 1) := by decide +kernel
theorem dX7_save_39 : decode cX7_save 39 = .ok (.aload_n 0, 1) := by decide +kernel
theorem dX7_save_40 : decode cX7_save 40 = .ok (.getfield 186, 3) := by decide +kernel
theorem dX7_save_43 : decode cX7_save 43 = .ok (.putfield 226, 3) := by decide +kernel
theorem dX7_save_46 : decode cX7_save 46 = .ok (.aload_n 0, 1) := by decide +kernel
theorem dX7_save_47 : decode cX7_save 47 = .ok (.aload_n 0, 1) := by decide +kernel
theorem dX7_save_48 : decode cX7_save 48 = .ok (.getfield 194, 3) := by decide +kernel
theorem dX7_save_51 : decode cX7_save 51 = .ok (.putfield 229, 3) := by decide +kernel
theorem dX7_save_54 : decode cX7_save 54 = .ok (.aload_n 0, 1) := by decide +kernel
theorem dX7_save_55 : decode cX7_save 55 = .ok (.aload_n 0, 1) := by decide +kernel
theorem dX7_save_56 : decode cX7_save 56 = .ok (.getfield 203, 3) := by decide +kernel
theorem dX7_save_59 : decode cX7_save 59 = .ok (.putfield 232, 3) := by decide +kernel
theorem dX7_save_62 : decode cX7_save 62 = .ok (.return_, 1) := by decide +kernel
theorem dX7_putBack_0 : decode cX7_putBack 0 = .ok (.iconst 0, 1) := by decide +kernel
theorem dX7_putBack_1 : decode cX7_putBack 1 = .ok (.istore_n 1, 1) := by decide +kernel
theorem dX7_putBack_2 : decode cX7_putBack 2 = .ok (.iload_n 1, 1) := by decide +kernel
theorem dX7_putBack_3 : decode cX7_putBack 3 = .ok (.bipush 16, 2) := by decide +kernel
theorem dX7_putBack_5 : decode cX7_putBack 5 = .ok (.if_icmp .ge 33, 3) := by decide +kernel
theorem dX7_putBack_8 : decode cX7_putBack 8 = .ok (.aload_n 0, 1) := by decide +kernel
theorem dX7_putBack_9 : decode cX7_putBack 9 = .ok (.getfield 25, 3) := by decide +kernel
theorem dX7_putBack_12 : decode cX7_putBack 12 = .ok (.iload_n 1, 1) := by decide +kernel
theorem dX7_putBack_13 : decode cX7_putBack 13 = .ok (.aload_n 0, 1) := by decide +kernel
theorem dX7_putBack_14 : decode cX7_putBack 14 = .ok (.getfield 87, 3) := by decide +kernel
theorem dX7_putBack_17 : decode cX7_putBack 17 = .ok (.iload_n 1, 1) := by decide +kernel
theorem dX7_putBack_18 : decode cX7_putBack 18 = .ok (.iaload, 1) := by decide +kernel
theorem dX7_putBack_19 : decode cX7_putBack 19 = .ok (.iastore, 1) := by decide +kernel
theorem dX7_putBack_20 : decode cX7_putBack 20 = .ok (.aload_n 0, 1) := by decide +kernel
theorem dX7_putBack_21 : decode cX7_putBack 21 = .ok (.getfield 28, 3) := by decide +kernel
theorem dX7_putBack_24 : decode cX7_putBack 24 = .ok (.iload_n 1, 1) := by decide +kernel
theorem dX7_putBack_25 : decode cX7_putBack 25 = .ok (.aload_n 0, 1) := by decide +kernel
theorem dX7_putBack_26 : decode cX7_putBack 26 = .ok (.getfield 90, 3) := by decide +kernel
theorem dX7_putBack_29 : decode cX7_putBack 29 = .ok (.iload_n 1, 1) := by decide +kernel
theorem dX7_putBack_30 : decode cX7_putBack 30 = .ok (.iaload, 1) := by decide +kernel
theorem dX7_putBack_31 : decode cX7_putBack 31 = .ok (.iastore, 1) := by decide +kernel
theorem dX7_putBack_32 : decode cX7_putBack 32 = .ok (.iinc 1 1, 3) := by decide +kernel
theorem dX7_putBack_35 : decode cX7_putBack 35 = .ok (.goto (-33), 3) := by decide +kernel
theorem dX7_putBack_38 : decode cX7_putBack 38 = .ok (.aload_n 0, 1) := by decide +kernel
theorem dX7_putBack_39 : decode cX7_putBack 39 = .ok (.aload_n 0, 1) := by decide +kernel
theorem dX7_putBack_40 : decode cX7_putBack 40 = .ok (.getfield 226, 3) := by decide +kernel
theorem dX7_putBack_43 : decode cX7_putBack 43 = .ok (.putfield 186, 3) := by decide +kernel
theorem dX7_putBack_46 : decode cX7_putBack 46 = .ok (.aload_n 0, 1) := by decide +kernel
theorem dX7_putBack_47 : decode cX7_putBack 47 = .ok (.aload_n 0, 1) := by decide +kernel
theorem dX7_putBack_48 : decode cX7_putBack 48 = .ok (.getfield 229, 3) := by decide +kernel
theorem dX7_putBack_51 : decode cX7_putBack 51 = .ok (.putfield 194, 3) := by decide +kernel
theorem dX7_putBack_54 : decode cX7_putBack 54 = .ok (.aload_n 0, 1) := by decide +kernel
theorem dX7_putBack_55 : decode cX7_putBack 55 = .ok (.aload_n 0, 1) := by decide +kernel
theorem dX7_putBack_56 : decode cX7_putBack 56 = .ok (.getfield 232, 3) := by decide +kernel
theorem dX7_putBack_59 : decode cX7_putBack 59 = .ok (.putfield 203, 3) := by decide +kernel
theorem dX7_putBack_62 : decode cX7_putBack 62 = .ok (.return_, 1) := by decide +kernel
theorem dX7_costOf_0 : decode cX7_costOf 0 = .ok (.aload_n 0, 1) := by decide +kernel
theorem dX7_costOf_1 : decode cX7_costOf 1 = .ok (.invokevirtual 235, 3) := by decide +kernel
theorem dX7_costOf_4 : decode cX7_costOf 4 = .ok (.lconst 0, 1) := by decide +kernel
theorem dX7_costOf_5 : decode cX7_costOf 5 = .ok (.lstore_n 2, 1) := by decide +kernel
theorem dX7_costOf_6 : decode cX7_costOf 6 = .ok (.iconst 0, 1) := by decide +kernel
theorem dX7_costOf_7 : decode cX7_costOf 7 = .ok (.istore 4, 2) := by decide +kernel
theorem dX7_costOf_9 : decode cX7_costOf 9 = .ok (.iload 4, 2) := by decide +kernel
theorem dX7_costOf_11 : decode cX7_costOf 11 = .ok (.iload_n 1, 1) := by decide +kernel
theorem dX7_costOf_12 : decode cX7_costOf 12 = .ok (.if_icmp .ge 21, 3) := by decide +kernel
theorem dX7_costOf_15 : decode cX7_costOf 15 = .ok (.aload_n 0, 1) := by decide +kernel
theorem dX7_costOf_16 : decode cX7_costOf 16 = .ok (.invokevirtual 223, 3) := by decide +kernel
theorem dX7_costOf_19 : decode cX7_costOf 19 = .ok (.lload_n 2, 1) := by decide +kernel
theorem dX7_costOf_20 : decode cX7_costOf 20 = .ok (.aload_n 0, 1) := by decide +kernel
theorem dX7_costOf_21 : decode cX7_costOf 21 = .ok (.invokevirtual 238, 3) := by decide +kernel
theorem dX7_costOf_24 : decode cX7_costOf 24 = .ok (.i2l, 1) := by decide +kernel
theorem dX7_costOf_25 : decode cX7_costOf 25 = .ok (.ladd, 1) := by decide +kernel
theorem dX7_costOf_26 : decode cX7_costOf 26 = .ok (.lstore_n 2, 1) := by decide +kernel
theorem dX7_costOf_27 : decode cX7_costOf 27 = .ok (.iinc 4 1, 3) := by decide +kernel
theorem dX7_costOf_30 : decode cX7_costOf 30 = .ok (.goto (-21), 3) := by decide +kernel
theorem dX7_costOf_33 : decode cX7_costOf 33 = .ok (.aload_n 0, 1) := by decide +kernel
theorem dX7_costOf_34 : decode cX7_costOf 34 = .ok (.invokevirtual 241, 3) := by decide +kernel
theorem dX7_costOf_37 : decode cX7_costOf 37 = .ok (.lload_n 2, 1) := by decide +kernel
theorem dX7_costOf_38 : decode cX7_costOf 38 = .ok (.lreturn, 1) := by decide +kernel
theorem dX7_cost_0 : decode cX7_cost 0 = .ok (.aload_n 0, 1) := by decide +kernel
theorem dX7_cost_1 : decode cX7_cost 1 = .ok (.iload_n 1, 1) := by decide +kernel
theorem dX7_cost_2 : decode cX7_cost 2 = .ok (.invokevirtual 220, 3) := by decide +kernel
theorem dX7_cost_5 : decode cX7_cost 5 = .ok (.ifCond .ge 20, 3) := by decide +kernel
theorem dX7_cost_8 : decode cX7_cost 8 = .ok (.ldc2_w 244, 3) := by decide +kernel
theorem dX7_cost_11 : decode cX7_cost 11 = .ok (.aload_n 0, 1) := by decide +kernel
theorem dX7_cost_12 : decode cX7_cost 12 = .ok (.aload_n 0, 1) := by decide +kernel
theorem dX7_cost_13 : decode cX7_cost 13 = .ok (.iload_n 1, 1) := by decide +kernel
theorem dX7_cost_14 : decode cX7_cost 14 = .ok (.invokevirtual 220, 3) := by decide +kernel
theorem dX7_cost_17 : decode cX7_cost 17 = .ok (.invokevirtual 118, 3) := by decide +kernel
theorem dX7_cost_20 : decode cX7_cost 20 = .ok (.i2l, 1) := by decide +kernel
theorem dX7_cost_21 : decode cX7_cost 21 = .ok (.ladd, 1) := by decide +kernel
theorem dX7_cost_22 : decode cX7_cost 22 = .ok (.goto 8, 3) := by decide +kernel
theorem dX7_cost_25 : decode cX7_cost 25 = .ok (.aload_n 0, 1) := by decide +kernel
theorem dX7_cost_26 : decode cX7_cost 26 = .ok (.iload_n 1, 1) := by decide +kernel
theorem dX7_cost_27 : decode cX7_cost 27 = .ok (.invokevirtual 246, 3) := by decide +kernel
theorem dX7_cost_30 : decode cX7_cost 30 = .ok (.lreturn, 1) := by decide +kernel
theorem dX7_holdsFor_0 : decode cX7_holdsFor 0 = .ok (.aload_n 0, 1) := by decide +kernel
theorem dX7_holdsFor_1 : decode cX7_holdsFor 1 = .ok (.invokevirtual 235, 3) := by decide +kernel
theorem dX7_holdsFor_4 : decode cX7_holdsFor 4 = .ok (.bipush (-9), 2) := by decide +kernel
theorem dX7_holdsFor_6 : decode cX7_holdsFor 6 = .ok (.istore_n 2, 1) := by decide +kernel
theorem dX7_holdsFor_7 : decode cX7_holdsFor 7 = .ok (.iconst 0, 1) := by decide +kernel
theorem dX7_holdsFor_8 : decode cX7_holdsFor 8 = .ok (.istore_n 3, 1) := by decide +kernel
theorem dX7_holdsFor_9 : decode cX7_holdsFor 9 = .ok (.iload_n 3, 1) := by decide +kernel
theorem dX7_holdsFor_10 : decode cX7_holdsFor 10 = .ok (.iload_n 1, 1) := by decide +kernel
theorem dX7_holdsFor_11 : decode cX7_holdsFor 11 = .ok (.if_icmp .ge 32, 3) := by decide +kernel
theorem dX7_holdsFor_14 : decode cX7_holdsFor 14 = .ok (.iload_n 2, 1) := by decide +kernel
theorem dX7_holdsFor_15 : decode cX7_holdsFor 15 = .ok (.ifCond .ge 28, 3) := by decide +kernel
theorem dX7_holdsFor_18 : decode cX7_holdsFor 18 = .ok (.aload_n 0, 1) := by decide +kernel
theorem dX7_holdsFor_19 : decode cX7_holdsFor 19 = .ok (.invokevirtual 223, 3) := by decide +kernel
theorem dX7_holdsFor_22 : decode cX7_holdsFor 22 = .ok (.aload_n 0, 1) := by decide +kernel
theorem dX7_holdsFor_23 : decode cX7_holdsFor 23 = .ok (.iconst 0, 1) := by decide +kernel
theorem dX7_holdsFor_24 : decode cX7_holdsFor 24 = .ok (.invokevirtual 206, 3) := by decide +kernel
theorem dX7_holdsFor_27 : decode cX7_holdsFor 27 = .ok (.ifCond .le 7, 3) := by decide +kernel
theorem dX7_holdsFor_30 : decode cX7_holdsFor 30 = .ok (.iload_n 3, 1) := by decide +kernel
theorem dX7_holdsFor_31 : decode cX7_holdsFor 31 = .ok (.goto 5, 3) := by decide +kernel
theorem dX7_holdsFor_34 : decode cX7_holdsFor 34 = .ok (.bipush (-9), 2) := by decide +kernel
theorem dX7_holdsFor_36 : decode cX7_holdsFor 36 = .ok (.istore_n 2, 1) := by decide +kernel
theorem dX7_holdsFor_37 : decode cX7_holdsFor 37 = .ok (.iinc 3 1, 3) := by decide +kernel
theorem dX7_holdsFor_40 : decode cX7_holdsFor 40 = .ok (.goto (-31), 3) := by decide +kernel
theorem dX7_holdsFor_43 : decode cX7_holdsFor 43 = .ok (.aload_n 0, 1) := by decide +kernel
theorem dX7_holdsFor_44 : decode cX7_holdsFor 44 = .ok (.invokevirtual 241, 3) := by decide +kernel
theorem dX7_holdsFor_47 : decode cX7_holdsFor 47 = .ok (.iload_n 2, 1) := by decide +kernel
theorem dX7_holdsFor_48 : decode cX7_holdsFor 48 = .ok (.ireturn, 1) := by decide +kernel
theorem dX7_holds_0 : decode cX7_holds 0 = .ok (.aload_n 0, 1) := by decide +kernel
theorem dX7_holds_1 : decode cX7_holds 1 = .ok (.iload_n 1, 1) := by decide +kernel
theorem dX7_holds_2 : decode cX7_holds 2 = .ok (.invokevirtual 220, 3) := by decide +kernel
theorem dX7_holds_5 : decode cX7_holds 5 = .ok (.ifCond .ge 15, 3) := by decide +kernel
theorem dX7_holds_8 : decode cX7_holds 8 = .ok (.aload_n 0, 1) := by decide +kernel
theorem dX7_holds_9 : decode cX7_holds 9 = .ok (.aload_n 0, 1) := by decide +kernel
theorem dX7_holds_10 : decode cX7_holds 10 = .ok (.iload_n 1, 1) := by decide +kernel
theorem dX7_holds_11 : decode cX7_holds 11 = .ok (.invokevirtual 220, 3) := by decide +kernel
theorem dX7_holds_14 : decode cX7_holds 14 = .ok (.invokevirtual 118, 3) := by decide +kernel
theorem dX7_holds_17 : decode cX7_holds 17 = .ok (.goto 8, 3) := by decide +kernel
theorem dX7_holds_20 : decode cX7_holds 20 = .ok (.aload_n 0, 1) := by decide +kernel
theorem dX7_holds_21 : decode cX7_holds 21 = .ok (.iload_n 1, 1) := by decide +kernel
theorem dX7_holds_22 : decode cX7_holds 22 = .ok (.invokevirtual 250, 3) := by decide +kernel
theorem dX7_holds_25 : decode cX7_holds 25 = .ok (.ireturn, 1) := by decide +kernel
theorem dX7_alone_0 : decode cX7_alone 0 = .ok (.aload_n 0, 1) := by decide +kernel
theorem dX7_alone_1 : decode cX7_alone 1 = .ok (.iload_n 1, 1) := by decide +kernel
theorem dX7_alone_2 : decode cX7_alone 2 = .ok (.invokevirtual 220, 3) := by decide +kernel
theorem dX7_alone_5 : decode cX7_alone 5 = .ok (.ifCond .ge 13, 3) := by decide +kernel
theorem dX7_alone_8 : decode cX7_alone 8 = .ok (.aload_n 0, 1) := by decide +kernel
theorem dX7_alone_9 : decode cX7_alone 9 = .ok (.aload_n 0, 1) := by decide +kernel
theorem dX7_alone_10 : decode cX7_alone 10 = .ok (.iload_n 1, 1) := by decide +kernel
theorem dX7_alone_11 : decode cX7_alone 11 = .ok (.invokevirtual 220, 3) := by decide +kernel
theorem dX7_alone_14 : decode cX7_alone 14 = .ok (.invokevirtual 118, 3) := by decide +kernel
theorem dX7_alone_17 : decode cX7_alone 17 = .ok (.ireturn, 1) := by decide +kernel
theorem dX7_alone_18 : decode cX7_alone 18 = .ok (.aload_n 0, 1) := by decide +kernel
theorem dX7_alone_19 : decode cX7_alone 19 = .ok (.getfield 170, 3) := by decide +kernel
theorem dX7_alone_22 : decode cX7_alone 22 = .ok (.istore_n 2, 1) := by decide +kernel
theorem dX7_alone_23 : decode cX7_alone 23 = .ok (.aload_n 0, 1) := by decide +kernel
theorem dX7_alone_24 : decode cX7_alone 24 = .ok (.iconst 0, 1) := by decide +kernel
theorem dX7_alone_25 : decode cX7_alone 25 = .ok (.putfield 170, 3) := by decide +kernel
theorem dX7_alone_28 : decode cX7_alone 28 = .ok (.aload_n 0, 1) := by decide +kernel
theorem dX7_alone_29 : decode cX7_alone 29 = .ok (.iload_n 1, 1) := by decide +kernel
theorem dX7_alone_30 : decode cX7_alone 30 = .ok (.invokevirtual 250, 3) := by decide +kernel
theorem dX7_alone_33 : decode cX7_alone 33 = .ok (.istore_n 3, 1) := by decide +kernel
theorem dX7_alone_34 : decode cX7_alone 34 = .ok (.aload_n 0, 1) := by decide +kernel
theorem dX7_alone_35 : decode cX7_alone 35 = .ok (.iload_n 2, 1) := by decide +kernel
theorem dX7_alone_36 : decode cX7_alone 36 = .ok (.putfield 170, 3) := by decide +kernel
theorem dX7_alone_39 : decode cX7_alone 39 = .ok (.iload_n 3, 1) := by decide +kernel
theorem dX7_alone_40 : decode cX7_alone 40 = .ok (.ireturn, 1) := by decide +kernel
theorem dX7_tonsAfter_0 : decode cX7_tonsAfter 0 = .ok (.aload_n 0, 1) := by decide +kernel
theorem dX7_tonsAfter_1 : decode cX7_tonsAfter 1 = .ok (.invokevirtual 235, 3) := by decide +kernel
theorem dX7_tonsAfter_4 : decode cX7_tonsAfter 4 = .ok (.aload_n 0, 1) := by decide +kernel
theorem dX7_tonsAfter_5 : decode cX7_tonsAfter 5 = .ok (.getfield 25, 3) := by decide +kernel
theorem dX7_tonsAfter_8 : decode cX7_tonsAfter 8 = .ok (.iconst 2, 1) := by decide +kernel
theorem dX7_tonsAfter_9 : decode cX7_tonsAfter 9 = .ok (.iload_n 1, 1) := by decide +kernel
theorem dX7_tonsAfter_10 : decode cX7_tonsAfter 10 = .ok (.imul, 1) := by decide +kernel
theorem dX7_tonsAfter_11 : decode cX7_tonsAfter 11 = .ok (.iload_n 2, 1) := by decide +kernel
theorem dX7_tonsAfter_12 : decode cX7_tonsAfter 12 = .ok (.iadd, 1) := by decide +kernel
theorem dX7_tonsAfter_13 : decode cX7_tonsAfter 13 = .ok (.dup2, 1) := by decide +kernel
theorem dX7_tonsAfter_14 : decode cX7_tonsAfter 14 = .ok (.iaload, 1) := by decide +kernel
theorem dX7_tonsAfter_15 : decode cX7_tonsAfter 15 = .ok (.iload_n 3, 1) := by decide +kernel
theorem dX7_tonsAfter_16 : decode cX7_tonsAfter 16 = .ok (.iadd, 1) := by decide +kernel
theorem dX7_tonsAfter_17 : decode cX7_tonsAfter 17 = .ok (.iastore, 1) := by decide +kernel
theorem dX7_tonsAfter_18 : decode cX7_tonsAfter 18 = .ok (.iconst 0, 1) := by decide +kernel
theorem dX7_tonsAfter_19 : decode cX7_tonsAfter 19 = .ok (.istore 6, 2) := by decide +kernel
theorem dX7_tonsAfter_21 : decode cX7_tonsAfter 21 = .ok (.iload 6, 2) := by decide +kernel
theorem dX7_tonsAfter_23 : decode cX7_tonsAfter 23 = .ok (.iload 5, 2) := by decide +kernel
theorem dX7_tonsAfter_25 : decode cX7_tonsAfter 25 = .ok (.if_icmp .ge 23, 3) := by decide +kernel
theorem dX7_tonsAfter_28 : decode cX7_tonsAfter 28 = .ok (.aload_n 0, 1) := by decide +kernel
theorem dX7_tonsAfter_29 : decode cX7_tonsAfter 29 = .ok (.invokevirtual 210, 3) := by decide +kernel
theorem dX7_tonsAfter_32 : decode cX7_tonsAfter 32 = .ok (.aload_n 0, 1) := by decide +kernel
theorem dX7_tonsAfter_33 : decode cX7_tonsAfter 33 = .ok (.dup, 1) := by decide +kernel
theorem dX7_tonsAfter_34 : decode cX7_tonsAfter 34 = .ok (.getfield 186, 3) := by decide +kernel
theorem dX7_tonsAfter_37 : decode cX7_tonsAfter 37 = .ok (.iconst 1, 1) := by decide +kernel
theorem dX7_tonsAfter_38 : decode cX7_tonsAfter 38 = .ok (.iadd, 1) := by decide +kernel
theorem dX7_tonsAfter_39 : decode cX7_tonsAfter 39 = .ok (.putfield 186, 3) := by decide +kernel
theorem dX7_tonsAfter_42 : decode cX7_tonsAfter 42 = .ok (.iinc 6 1, 3) := by decide +kernel
theorem dX7_tonsAfter_45 : decode cX7_tonsAfter 45 = .ok (.goto (-24), 3) := by decide +kernel
theorem dX7_tonsAfter_48 : decode cX7_tonsAfter 48 = .ok (.iconst 0, 1) := by decide +kernel
theorem dX7_tonsAfter_49 : decode cX7_tonsAfter 49 = .ok (.istore 6, 2) := by decide +kernel
theorem dX7_tonsAfter_51 : decode cX7_tonsAfter 51 = .ok (.iconst 0, 1) := by decide +kernel
theorem dX7_tonsAfter_52 : decode cX7_tonsAfter 52 = .ok (.istore 7, 2) := by decide +kernel
theorem dX7_tonsAfter_54 : decode cX7_tonsAfter 54 = .ok (.iload 7, 2) := by decide +kernel
theorem dX7_tonsAfter_56 : decode cX7_tonsAfter 56 = .ok (.aload_n 0, 1) := by decide +kernel
theorem dX7_tonsAfter_57 : decode cX7_tonsAfter 57 = .ok (.getfield 111, 3) := by decide +kernel
theorem dX7_tonsAfter_60 : decode cX7_tonsAfter 60 = .ok (.if_icmp .ge 52, 3) := by decide +kernel
theorem dX7_tonsAfter_63 : decode cX7_tonsAfter 63 = .ok (.iload 6, 2) := by decide +kernel
theorem dX7_tonsAfter_65 : decode cX7_tonsAfter 65 = .ok (.iload 4, 2) := by decide +kernel
theorem dX7_tonsAfter_67 : decode cX7_tonsAfter 67 = .ok (.iload 7, 2) := by decide +kernel
theorem dX7_tonsAfter_69 : decode cX7_tonsAfter 69 = .ok (.ishr, 1) := by decide +kernel
theorem dX7_tonsAfter_70 : decode cX7_tonsAfter 70 = .ok (.iconst 1, 1) := by decide +kernel
theorem dX7_tonsAfter_71 : decode cX7_tonsAfter 71 = .ok (.iand, 1) := by decide +kernel
theorem dX7_tonsAfter_72 : decode cX7_tonsAfter 72 = .ok (.iconst 1, 1) := by decide +kernel
theorem dX7_tonsAfter_73 : decode cX7_tonsAfter 73 = .ok (.if_icmp .ne 29, 3) := by decide +kernel
theorem dX7_tonsAfter_76 : decode cX7_tonsAfter 76 = .ok (.aload_n 0, 1) := by decide +kernel
theorem dX7_tonsAfter_77 : decode cX7_tonsAfter 77 = .ok (.getfield 25, 3) := by decide +kernel
theorem dX7_tonsAfter_80 : decode cX7_tonsAfter 80 = .ok (.iconst 2, 1) := by decide +kernel
theorem dX7_tonsAfter_81 : decode cX7_tonsAfter 81 = .ok (.iload 7, 2) := by decide +kernel
theorem dX7_tonsAfter_83 : decode cX7_tonsAfter 83 = .ok (.imul, 1) := by decide +kernel
theorem dX7_tonsAfter_84 : decode cX7_tonsAfter 84 = .ok (.iload_n 2, 1) := by decide +kernel
theorem dX7_tonsAfter_85 : decode cX7_tonsAfter 85 = .ok (.iadd, 1) := by decide +kernel
theorem dX7_tonsAfter_86 : decode cX7_tonsAfter 86 = .ok (.iaload, 1) := by decide +kernel
theorem dX7_tonsAfter_87 : decode cX7_tonsAfter 87 = .ok (.aload_n 0, 1) := by decide +kernel
theorem dX7_tonsAfter_88 : decode cX7_tonsAfter 88 = .ok (.getfield 28, 3) := by decide +kernel
theorem dX7_tonsAfter_91 : decode cX7_tonsAfter 91 = .ok (.iconst 2, 1) := by decide +kernel
theorem dX7_tonsAfter_92 : decode cX7_tonsAfter 92 = .ok (.iload 7, 2) := by decide +kernel
theorem dX7_tonsAfter_94 : decode cX7_tonsAfter 94 = .ok (.imul, 1) := by decide +kernel
theorem dX7_tonsAfter_95 : decode cX7_tonsAfter 95 = .ok (.iload_n 2, 1) := by decide +kernel
theorem dX7_tonsAfter_96 : decode cX7_tonsAfter 96 = .ok (.iadd, 1) := by decide +kernel
theorem dX7_tonsAfter_97 : decode cX7_tonsAfter 97 = .ok (.iaload, 1) := by decide +kernel
theorem dX7_tonsAfter_98 : decode cX7_tonsAfter 98 = .ok (.iadd, 1) := by decide +kernel
theorem dX7_tonsAfter_99 : decode cX7_tonsAfter 99 = .ok (.goto 4, 3) := by decide +kernel
theorem dX7_tonsAfter_102 : decode cX7_tonsAfter 102 = .ok (.iconst 0, 1) := by decide +kernel
theorem dX7_tonsAfter_103 : decode cX7_tonsAfter 103 = .ok (.iadd, 1) := by decide +kernel
theorem dX7_tonsAfter_104 : decode cX7_tonsAfter 104 = .ok (.istore 6, 2) := by decide +kernel
theorem dX7_tonsAfter_106 : decode cX7_tonsAfter 106 = .ok (.iinc 7 1, 3) := by decide +kernel
theorem dX7_tonsAfter_109 : decode cX7_tonsAfter 109 = .ok (.goto (-55), 3) := by decide +kernel
theorem dX7_tonsAfter_112 : decode cX7_tonsAfter 112 = .ok (.aload_n 0, 1) := by decide +kernel
theorem dX7_tonsAfter_113 : decode cX7_tonsAfter 113 = .ok (.invokevirtual 241, 3) := by decide +kernel
theorem dX7_tonsAfter_116 : decode cX7_tonsAfter 116 = .ok (.iload 6, 2) := by decide +kernel
theorem dX7_tonsAfter_118 : decode cX7_tonsAfter 118 = .ok (.ireturn, 1) := by decide +kernel
theorem dX7_back_0 : decode cX7_back 0 = .ok (.aload_n 0, 1) := by decide +kernel
theorem dX7_back_1 : decode cX7_back 1 = .ok (.iload_n 1, 1) := by decide +kernel
theorem dX7_back_2 : decode cX7_back 2 = .ok (.invokevirtual 126, 3) := by decide +kernel
theorem dX7_back_5 : decode cX7_back 5 = .ok (.ifCond .eq 29, 3) := by decide +kernel
theorem dX7_back_8 : decode cX7_back 8 = .ok (.iload_n 2, 1) := by decide +kernel
theorem dX7_back_9 : decode cX7_back 9 = .ok (.invokestatic 150, 3) := by decide +kernel
theorem dX7_back_12 : decode cX7_back 12 = .ok (.ifCond .eq 22, 3) := by decide +kernel
theorem dX7_back_15 : decode cX7_back 15 = .ok (.iload 4, 2) := by decide +kernel
theorem dX7_back_17 : decode cX7_back 17 = .ok (.i2l, 1) := by decide +kernel
theorem dX7_back_18 : decode cX7_back 18 = .ok (.lconst 0, 1) := by decide +kernel
theorem dX7_back_19 : decode cX7_back 19 = .ok (.iconst 1, 1) := by decide +kernel
theorem dX7_back_20 : decode cX7_back 20 = .ok (.aload_n 0, 1) := by decide +kernel
theorem dX7_back_21 : decode cX7_back 21 = .ok (.getfield 111, 3) := by decide +kernel
theorem dX7_back_24 : decode cX7_back 24 = .ok (.ishl, 1) := by decide +kernel
theorem dX7_back_25 : decode cX7_back 25 = .ok (.iconst 1, 1) := by decide +kernel
theorem dX7_back_26 : decode cX7_back 26 = .ok (.isub, 1) := by decide +kernel
theorem dX7_back_27 : decode cX7_back 27 = .ok (.i2l, 1) := by decide +kernel
theorem dX7_back_28 : decode cX7_back 28 = .ok (.invokestatic 114, 3) := by decide +kernel
theorem dX7_back_31 : decode cX7_back 31 = .ok (.ifCond .ne 12, 3) := by decide +kernel
theorem dX7_back_34 : decode cX7_back 34 = .ok (.ldc 167, 2) := by decide +kernel
theorem dX7_back_36 : decode cX7_back 36 = .ok (.aload_n 0, 1) := by decide +kernel
theorem dX7_back_37 : decode cX7_back 37 = .ok (.iconst (-1), 1) := by decide +kernel
theorem dX7_back_38 : decode cX7_back 38 = .ok (.invokevirtual 118, 3) := by decide +kernel
theorem dX7_back_41 : decode cX7_back 41 = .ok (.iadd, 1) := by decide +kernel
theorem dX7_back_42 : decode cX7_back 42 = .ok (.ireturn, 1) := by decide +kernel
theorem dX7_back_43 : decode cX7_back 43 = .ok (.iload_n 3, 1) := by decide +kernel
theorem dX7_back_44 : decode cX7_back 44 = .ok (.iconst 1, 1) := by decide +kernel
theorem dX7_back_45 : decode cX7_back 45 = .ok (.if_icmp .lt 9, 3) := by decide +kernel
theorem dX7_back_48 : decode cX7_back 48 = .ok (.iload 5, 2) := by decide +kernel
theorem dX7_back_50 : decode cX7_back 50 = .ok (.iconst 1, 1) := by decide +kernel
theorem dX7_back_51 : decode cX7_back 51 = .ok (.if_icmp .ge 13, 3) := by decide +kernel
theorem dX7_back_54 : decode cX7_back 54 = .ok (.ldc 167, 2) := by decide +kernel
theorem dX7_back_56 : decode cX7_back 56 = .ok (.aload_n 0, 1) := by decide +kernel
theorem dX7_back_57 : decode cX7_back 57 = .ok (.bipush (-4), 2) := by decide +kernel
theorem dX7_back_59 : decode cX7_back 59 = .ok (.invokevirtual 118, 3) := by decide +kernel
theorem dX7_back_62 : decode cX7_back 62 = .ok (.iadd, 1) := by decide +kernel
theorem dX7_back_63 : decode cX7_back 63 = .ok (.ireturn, 1) := by decide +kernel
theorem dX7_back_64 : decode cX7_back 64 = .ok (.iload_n 3, 1) := by decide +kernel
theorem dX7_back_65 : decode cX7_back 65 = .ok (.sipush 9999, 3) := by decide +kernel
theorem dX7_back_68 : decode cX7_back 68 = .ok (.if_icmp .gt 11, 3) := by decide +kernel
theorem dX7_back_71 : decode cX7_back 71 = .ok (.iload 5, 2) := by decide +kernel
theorem dX7_back_73 : decode cX7_back 73 = .ok (.sipush 200, 3) := by decide +kernel
theorem dX7_back_76 : decode cX7_back 76 = .ok (.if_icmp .le 13, 3) := by decide +kernel
theorem dX7_back_79 : decode cX7_back 79 = .ok (.ldc 167, 2) := by decide +kernel
theorem dX7_back_81 : decode cX7_back 81 = .ok (.aload_n 0, 1) := by decide +kernel
theorem dX7_back_82 : decode cX7_back 82 = .ok (.bipush (-6), 2) := by decide +kernel
theorem dX7_back_84 : decode cX7_back 84 = .ok (.invokevirtual 118, 3) := by decide +kernel
theorem dX7_back_87 : decode cX7_back 87 = .ok (.iadd, 1) := by decide +kernel
theorem dX7_back_88 : decode cX7_back 88 = .ok (.ireturn, 1) := by decide +kernel
theorem dX7_back_89 : decode cX7_back 89 = .ok (.aload_n 0, 1) := by decide +kernel
theorem dX7_back_90 : decode cX7_back 90 = .ok (.iload_n 1, 1) := by decide +kernel
theorem dX7_back_91 : decode cX7_back 91 = .ok (.iload_n 2, 1) := by decide +kernel
theorem dX7_back_92 : decode cX7_back 92 = .ok (.iload_n 3, 1) := by decide +kernel
theorem dX7_back_93 : decode cX7_back 93 = .ok (.iload 4, 2) := by decide +kernel
theorem dX7_back_95 : decode cX7_back 95 = .ok (.iload 5, 2) := by decide +kernel
theorem dX7_back_97 : decode cX7_back 97 = .ok (.invokevirtual 253, 3) := by decide +kernel
theorem dX7_back_100 : decode cX7_back 100 = .ok (.aload_n 0, 1) := by decide +kernel
theorem dX7_back_101 : decode cX7_back 101 = .ok (.iload_n 1, 1) := by decide +kernel
theorem dX7_back_102 : decode cX7_back 102 = .ok (.iload_n 2, 1) := by decide +kernel
theorem dX7_back_103 : decode cX7_back 103 = .ok (.iconst 0, 1) := by decide +kernel
theorem dX7_back_104 : decode cX7_back 104 = .ok (.iload 4, 2) := by decide +kernel
theorem dX7_back_106 : decode cX7_back 106 = .ok (.iload 5, 2) := by decide +kernel
theorem dX7_back_108 : decode cX7_back 108 = .ok (.invokevirtual 253, 3) := by decide +kernel
theorem dX7_back_111 : decode cX7_back 111 = .ok (.isub, 1) := by decide +kernel
theorem dX7_back_112 : decode cX7_back 112 = .ok (.ireturn, 1) := by decide +kernel
theorem dX7_bestDrop_0 : decode cX7_bestDrop 0 = .ok (.aload_n 0, 1) := by decide +kernel
theorem dX7_bestDrop_1 : decode cX7_bestDrop 1 = .ok (.iload_n 1, 1) := by decide +kernel
theorem dX7_bestDrop_2 : decode cX7_bestDrop 2 = .ok (.invokevirtual 220, 3) := by decide +kernel
theorem dX7_bestDrop_5 : decode cX7_bestDrop 5 = .ok (.ifCond .ge 13, 3) := by decide +kernel
theorem dX7_bestDrop_8 : decode cX7_bestDrop 8 = .ok (.aload_n 0, 1) := by decide +kernel
theorem dX7_bestDrop_9 : decode cX7_bestDrop 9 = .ok (.aload_n 0, 1) := by decide +kernel
theorem dX7_bestDrop_10 : decode cX7_bestDrop 10 = .ok (.iload_n 1, 1) := by decide +kernel
theorem dX7_bestDrop_11 : decode cX7_bestDrop 11 = .ok (.invokevirtual 220, 3) := by decide +kernel
theorem dX7_bestDrop_14 : decode cX7_bestDrop 14 = .ok (.invokevirtual 118, 3) := by decide +kernel
theorem dX7_bestDrop_17 : decode cX7_bestDrop 17 = .ok (.ireturn, 1) := by decide +kernel
theorem dX7_bestDrop_18 : decode cX7_bestDrop 18 = .ok (.aload_n 0, 1) := by decide +kernel
theorem dX7_bestDrop_19 : decode cX7_bestDrop 19 = .ok (.getfield 66, 3) := by decide +kernel
theorem dX7_bestDrop_22 : decode cX7_bestDrop 22 = .ok (.istore_n 2, 1) := by decide +kernel
theorem dX7_bestDrop_23 : decode cX7_bestDrop 23 = .ok (.iconst (-1), 1) := by decide +kernel
theorem dX7_bestDrop_24 : decode cX7_bestDrop 24 = .ok (.istore_n 3, 1) := by decide +kernel
theorem dX7_bestDrop_25 : decode cX7_bestDrop 25 = .ok (.lconst 0, 1) := by decide +kernel
theorem dX7_bestDrop_26 : decode cX7_bestDrop 26 = .ok (.lstore 4, 2) := by decide +kernel
theorem dX7_bestDrop_28 : decode cX7_bestDrop 28 = .ok (.iconst 0, 1) := by decide +kernel
theorem dX7_bestDrop_29 : decode cX7_bestDrop 29 = .ok (.istore 6, 2) := by decide +kernel
theorem dX7_bestDrop_31 : decode cX7_bestDrop 31 = .ok (.iload 6, 2) := by decide +kernel
theorem dX7_bestDrop_33 : decode cX7_bestDrop 33 = .ok (.bipush 8, 2) := by decide +kernel
theorem dX7_bestDrop_35 : decode cX7_bestDrop 35 = .ok (.if_icmp .gt 57, 3) := by decide +kernel
theorem dX7_bestDrop_38 : decode cX7_bestDrop 38 = .ok (.iload 6, 2) := by decide +kernel
theorem dX7_bestDrop_40 : decode cX7_bestDrop 40 = .ok (.bipush 8, 2) := by decide +kernel
theorem dX7_bestDrop_42 : decode cX7_bestDrop 42 = .ok (.if_icmp .eq 12, 3) := by decide +kernel
theorem dX7_bestDrop_45 : decode cX7_bestDrop 45 = .ok (.aload_n 0, 1) := by decide +kernel
theorem dX7_bestDrop_46 : decode cX7_bestDrop 46 = .ok (.iload 6, 2) := by decide +kernel
theorem dX7_bestDrop_48 : decode cX7_bestDrop 48 = .ok (.invokevirtual 126, 3) := by decide +kernel
theorem dX7_bestDrop_51 : decode cX7_bestDrop 51 = .ok (.ifCond .eq 35, 3) := by decide +kernel
theorem dX7_bestDrop_54 : decode cX7_bestDrop 54 = .ok (.aload_n 0, 1) := by decide +kernel
theorem dX7_bestDrop_55 : decode cX7_bestDrop 55 = .ok (.iload 6, 2) := by decide +kernel
theorem dX7_bestDrop_57 : decode cX7_bestDrop 57 = .ok (.putfield 66, 3) := by decide +kernel
theorem dX7_bestDrop_60 : decode cX7_bestDrop 60 = .ok (.aload_n 0, 1) := by decide +kernel
theorem dX7_bestDrop_61 : decode cX7_bestDrop 61 = .ok (.iload_n 1, 1) := by decide +kernel
theorem dX7_bestDrop_62 : decode cX7_bestDrop 62 = .ok (.invokevirtual 246, 3) := by decide +kernel
theorem dX7_bestDrop_65 : decode cX7_bestDrop 65 = .ok (.lstore 7, 2) := by decide +kernel
theorem dX7_bestDrop_67 : decode cX7_bestDrop 67 = .ok (.iload_n 3, 1) := by decide +kernel
theorem dX7_bestDrop_68 : decode cX7_bestDrop 68 = .ok (.ifCond .lt 11, 3) := by decide +kernel
theorem dX7_bestDrop_71 : decode cX7_bestDrop 71 = .ok (.lload 7, 2) := by decide +kernel
theorem dX7_bestDrop_73 : decode cX7_bestDrop 73 = .ok (.lload 4, 2) := by decide +kernel
theorem dX7_bestDrop_75 : decode cX7_bestDrop 75 = .ok (.lcmp, 1) := by decide +kernel
theorem dX7_bestDrop_76 : decode cX7_bestDrop 76 = .ok (.ifCond .ge 10, 3) := by decide +kernel
theorem dX7_bestDrop_79 : decode cX7_bestDrop 79 = .ok (.iload 6, 2) := by decide +kernel
theorem dX7_bestDrop_81 : decode cX7_bestDrop 81 = .ok (.istore_n 3, 1) := by decide +kernel
theorem dX7_bestDrop_82 : decode cX7_bestDrop 82 = .ok (.lload 7, 2) := by decide +kernel
theorem dX7_bestDrop_84 : decode cX7_bestDrop 84 = .ok (.lstore 4, 2) := by decide +kernel
theorem dX7_bestDrop_86 : decode cX7_bestDrop 86 = .ok (.iinc 6 1, 3) := by decide +kernel
theorem dX7_bestDrop_89 : decode cX7_bestDrop 89 = .ok (.goto (-58), 3) := by decide +kernel
theorem dX7_bestDrop_92 : decode cX7_bestDrop 92 = .ok (.aload_n 0, 1) := by decide +kernel
theorem dX7_bestDrop_93 : decode cX7_bestDrop 93 = .ok (.iload_n 2, 1) := by decide +kernel
theorem dX7_bestDrop_94 : decode cX7_bestDrop 94 = .ok (.putfield 66, 3) := by decide +kernel
theorem dX7_bestDrop_97 : decode cX7_bestDrop 97 = .ok (.iload_n 3, 1) := by decide +kernel
theorem dX7_bestDrop_98 : decode cX7_bestDrop 98 = .ok (.ireturn, 1) := by decide +kernel
theorem dX7_bestPlan_0 : decode cX7_bestPlan 0 = .ok (.aload_n 0, 1) := by decide +kernel
theorem dX7_bestPlan_1 : decode cX7_bestPlan 1 = .ok (.iload_n 1, 1) := by decide +kernel
theorem dX7_bestPlan_2 : decode cX7_bestPlan 2 = .ok (.invokevirtual 220, 3) := by decide +kernel
theorem dX7_bestPlan_5 : decode cX7_bestPlan 5 = .ok (.ifCond .ge 13, 3) := by decide +kernel
theorem dX7_bestPlan_8 : decode cX7_bestPlan 8 = .ok (.aload_n 0, 1) := by decide +kernel
theorem dX7_bestPlan_9 : decode cX7_bestPlan 9 = .ok (.aload_n 0, 1) := by decide +kernel
theorem dX7_bestPlan_10 : decode cX7_bestPlan 10 = .ok (.iload_n 1, 1) := by decide +kernel
theorem dX7_bestPlan_11 : decode cX7_bestPlan 11 = .ok (.invokevirtual 220, 3) := by decide +kernel
theorem dX7_bestPlan_14 : decode cX7_bestPlan 14 = .ok (.invokevirtual 118, 3) := by decide +kernel
theorem dX7_bestPlan_17 : decode cX7_bestPlan 17 = .ok (.ireturn, 1) := by decide +kernel
theorem dX7_bestPlan_18 : decode cX7_bestPlan 18 = .ok (.aload_n 0, 1) := by decide +kernel
theorem dX7_bestPlan_19 : decode cX7_bestPlan 19 = .ok (.getfield 173, 3) := by decide +kernel
theorem dX7_bestPlan_22 : decode cX7_bestPlan 22 = .ok (.istore_n 2, 1) := by decide +kernel
theorem dX7_bestPlan_23 : decode cX7_bestPlan 23 = .ok (.iconst (-1), 1) := by decide +kernel
theorem dX7_bestPlan_24 : decode cX7_bestPlan 24 = .ok (.istore_n 3, 1) := by decide +kernel
theorem dX7_bestPlan_25 : decode cX7_bestPlan 25 = .ok (.lconst 0, 1) := by decide +kernel
theorem dX7_bestPlan_26 : decode cX7_bestPlan 26 = .ok (.lstore 4, 2) := by decide +kernel
theorem dX7_bestPlan_28 : decode cX7_bestPlan 28 = .ok (.iconst 0, 1) := by decide +kernel
theorem dX7_bestPlan_29 : decode cX7_bestPlan 29 = .ok (.istore 6, 2) := by decide +kernel
theorem dX7_bestPlan_31 : decode cX7_bestPlan 31 = .ok (.iload 6, 2) := by decide +kernel
theorem dX7_bestPlan_33 : decode cX7_bestPlan 33 = .ok (.iconst 5, 1) := by decide +kernel
theorem dX7_bestPlan_34 : decode cX7_bestPlan 34 = .ok (.if_icmp .ge 41, 3) := by decide +kernel
theorem dX7_bestPlan_37 : decode cX7_bestPlan 37 = .ok (.aload_n 0, 1) := by decide +kernel
theorem dX7_bestPlan_38 : decode cX7_bestPlan 38 = .ok (.iload 6, 2) := by decide +kernel
theorem dX7_bestPlan_40 : decode cX7_bestPlan 40 = .ok (.putfield 173, 3) := by decide +kernel
theorem dX7_bestPlan_43 : decode cX7_bestPlan 43 = .ok (.aload_n 0, 1) := by decide +kernel
theorem dX7_bestPlan_44 : decode cX7_bestPlan 44 = .ok (.iload_n 1, 1) := by decide +kernel
theorem dX7_bestPlan_45 : decode cX7_bestPlan 45 = .ok (.invokevirtual 246, 3) := by decide +kernel
theorem dX7_bestPlan_48 : decode cX7_bestPlan 48 = .ok (.lstore 7, 2) := by decide +kernel
theorem dX7_bestPlan_50 : decode cX7_bestPlan 50 = .ok (.iload_n 3, 1) := by decide +kernel
theorem dX7_bestPlan_51 : decode cX7_bestPlan 51 = .ok (.ifCond .lt 11, 3) := by decide +kernel
theorem dX7_bestPlan_54 : decode cX7_bestPlan 54 = .ok (.lload 7, 2) := by decide +kernel
theorem dX7_bestPlan_56 : decode cX7_bestPlan 56 = .ok (.lload 4, 2) := by decide +kernel
theorem dX7_bestPlan_58 : decode cX7_bestPlan 58 = .ok (.lcmp, 1) := by decide +kernel
theorem dX7_bestPlan_59 : decode cX7_bestPlan 59 = .ok (.ifCond .ge 10, 3) := by decide +kernel
theorem dX7_bestPlan_62 : decode cX7_bestPlan 62 = .ok (.iload 6, 2) := by decide +kernel
theorem dX7_bestPlan_64 : decode cX7_bestPlan 64 = .ok (.istore_n 3, 1) := by decide +kernel
theorem dX7_bestPlan_65 : decode cX7_bestPlan 65 = .ok (.lload 7, 2) := by decide +kernel
theorem dX7_bestPlan_67 : decode cX7_bestPlan 67 = .ok (.lstore 4, 2) := by decide +kernel
theorem dX7_bestPlan_69 : decode cX7_bestPlan 69 = .ok (.iinc 6 1, 3) := by decide +kernel
theorem dX7_bestPlan_72 : decode cX7_bestPlan 72 = .ok (.goto (-41), 3) := by decide +kernel
theorem dX7_bestPlan_75 : decode cX7_bestPlan 75 = .ok (.aload_n 0, 1) := by decide +kernel
theorem dX7_bestPlan_76 : decode cX7_bestPlan 76 = .ok (.iload_n 2, 1) := by decide +kernel
theorem dX7_bestPlan_77 : decode cX7_bestPlan 77 = .ok (.putfield 173, 3) := by decide +kernel
theorem dX7_bestPlan_80 : decode cX7_bestPlan 80 = .ok (.iload_n 3, 1) := by decide +kernel
theorem dX7_bestPlan_81 : decode cX7_bestPlan 81 = .ok (.ireturn, 1) := by decide +kernel
theorem dX7_leastCap_0 : decode cX7_leastCap 0 = .ok (.aload_n 0, 1) := by decide +kernel
theorem dX7_leastCap_1 : decode cX7_leastCap 1 = .ok (.iload_n 1, 1) := by decide +kernel
theorem dX7_leastCap_2 : decode cX7_leastCap 2 = .ok (.invokevirtual 220, 3) := by decide +kernel
theorem dX7_leastCap_5 : decode cX7_leastCap 5 = .ok (.ifCond .ge 13, 3) := by decide +kernel
theorem dX7_leastCap_8 : decode cX7_leastCap 8 = .ok (.aload_n 0, 1) := by decide +kernel
theorem dX7_leastCap_9 : decode cX7_leastCap 9 = .ok (.aload_n 0, 1) := by decide +kernel
theorem dX7_leastCap_10 : decode cX7_leastCap 10 = .ok (.iload_n 1, 1) := by decide +kernel
theorem dX7_leastCap_11 : decode cX7_leastCap 11 = .ok (.invokevirtual 220, 3) := by decide +kernel
theorem dX7_leastCap_14 : decode cX7_leastCap 14 = .ok (.invokevirtual 118, 3) := by decide +kernel
theorem dX7_leastCap_17 : decode cX7_leastCap 17 = .ok (.ireturn, 1) := by decide +kernel
theorem dX7_leastCap_18 : decode cX7_leastCap 18 = .ok (.aload_n 0, 1) := by decide +kernel
theorem dX7_leastCap_19 : decode cX7_leastCap 19 = .ok (.getfield 170, 3) := by decide +kernel
theorem dX7_leastCap_22 : decode cX7_leastCap 22 = .ok (.istore_n 2, 1) := by decide +kernel
theorem dX7_leastCap_23 : decode cX7_leastCap 23 = .ok (.bipush (-9), 2) := by decide +kernel
theorem dX7_leastCap_25 : decode cX7_leastCap 25 = .ok (.istore_n 3, 1) := by decide +kernel
theorem dX7_leastCap_26 : decode cX7_leastCap 26 = .ok (.iconst 0, 1) := by decide +kernel
theorem dX7_leastCap_27 : decode cX7_leastCap 27 = .ok (.istore 4, 2) := by decide +kernel
theorem dX7_leastCap_29 : decode cX7_leastCap 29 = .ok (.iload 4, 2) := by decide +kernel
theorem dX7_leastCap_31 : decode cX7_leastCap 31 = .ok (.sipush 1000, 3) := by decide +kernel
theorem dX7_leastCap_34 : decode cX7_leastCap 34 = .ok (.if_icmp .ge 35, 3) := by decide +kernel
theorem dX7_leastCap_37 : decode cX7_leastCap 37 = .ok (.iload_n 3, 1) := by decide +kernel
theorem dX7_leastCap_38 : decode cX7_leastCap 38 = .ok (.ifCond .ge 31, 3) := by decide +kernel
theorem dX7_leastCap_41 : decode cX7_leastCap 41 = .ok (.aload_n 0, 1) := by decide +kernel
theorem dX7_leastCap_42 : decode cX7_leastCap 42 = .ok (.iload 4, 2) := by decide +kernel
theorem dX7_leastCap_44 : decode cX7_leastCap 44 = .ok (.putfield 170, 3) := by decide +kernel
theorem dX7_leastCap_47 : decode cX7_leastCap 47 = .ok (.aload_n 0, 1) := by decide +kernel
theorem dX7_leastCap_48 : decode cX7_leastCap 48 = .ok (.iload_n 1, 1) := by decide +kernel
theorem dX7_leastCap_49 : decode cX7_leastCap 49 = .ok (.invokevirtual 250, 3) := by decide +kernel
theorem dX7_leastCap_52 : decode cX7_leastCap 52 = .ok (.ifCond .ge 8, 3) := by decide +kernel
theorem dX7_leastCap_55 : decode cX7_leastCap 55 = .ok (.iload 4, 2) := by decide +kernel
theorem dX7_leastCap_57 : decode cX7_leastCap 57 = .ok (.goto 5, 3) := by decide +kernel
theorem dX7_leastCap_60 : decode cX7_leastCap 60 = .ok (.bipush (-9), 2) := by decide +kernel
theorem dX7_leastCap_62 : decode cX7_leastCap 62 = .ok (.istore_n 3, 1) := by decide +kernel
theorem dX7_leastCap_63 : decode cX7_leastCap 63 = .ok (.iinc 4 50, 3) := by decide +kernel
theorem dX7_leastCap_66 : decode cX7_leastCap 66 = .ok (.goto (-37), 3) := by decide +kernel
theorem dX7_leastCap_69 : decode cX7_leastCap 69 = .ok (.aload_n 0, 1) := by decide +kernel
theorem dX7_leastCap_70 : decode cX7_leastCap 70 = .ok (.iload_n 2, 1) := by decide +kernel
theorem dX7_leastCap_71 : decode cX7_leastCap 71 = .ok (.putfield 170, 3) := by decide +kernel
theorem dX7_leastCap_74 : decode cX7_leastCap 74 = .ok (.iload_n 3, 1) := by decide +kernel
theorem dX7_leastCap_75 : decode cX7_leastCap 75 = .ok (.ireturn, 1) := by decide +kernel
theorem dX7_wall_0 : decode cX7_wall 0 = .ok (.aload_n 0, 1) := by decide +kernel
theorem dX7_wall_1 : decode cX7_wall 1 = .ok (.iload_n 1, 1) := by decide +kernel
theorem dX7_wall_2 : decode cX7_wall 2 = .ok (.invokevirtual 220, 3) := by decide +kernel
theorem dX7_wall_5 : decode cX7_wall 5 = .ok (.ifCond .ge 13, 3) := by decide +kernel
theorem dX7_wall_8 : decode cX7_wall 8 = .ok (.aload_n 0, 1) := by decide +kernel
theorem dX7_wall_9 : decode cX7_wall 9 = .ok (.aload_n 0, 1) := by decide +kernel
theorem dX7_wall_10 : decode cX7_wall 10 = .ok (.iload_n 1, 1) := by decide +kernel
theorem dX7_wall_11 : decode cX7_wall 11 = .ok (.invokevirtual 220, 3) := by decide +kernel
theorem dX7_wall_14 : decode cX7_wall 14 = .ok (.invokevirtual 118, 3) := by decide +kernel
theorem dX7_wall_17 : decode cX7_wall 17 = .ok (.ireturn, 1) := by decide +kernel
theorem dX7_wall_18 : decode cX7_wall 18 = .ok (.aload_n 0, 1) := by decide +kernel
theorem dX7_wall_19 : decode cX7_wall 19 = .ok (.iload_n 1, 1) := by decide +kernel
theorem dX7_wall_20 : decode cX7_wall 20 = .ok (.invokevirtual 246, 3) := by decide +kernel
theorem dX7_wall_23 : decode cX7_wall 23 = .ok (.lstore_n 2, 1) := by decide +kernel
theorem dX7_wall_24 : decode cX7_wall 24 = .ok (.bipush (-9), 2) := by decide +kernel
theorem dX7_wall_26 : decode cX7_wall 26 = .ok (.istore 4, 2) := by decide +kernel
theorem dX7_wall_28 : decode cX7_wall 28 = .ok (.iconst 0, 1) := by decide +kernel
theorem dX7_wall_29 : decode cX7_wall 29 = .ok (.istore 5, 2) := by decide +kernel
theorem dX7_wall_31 : decode cX7_wall 31 = .ok (.iload 5, 2) := by decide +kernel
theorem dX7_wall_33 : decode cX7_wall 33 = .ok (.aload_n 0, 1) := by decide +kernel
theorem dX7_wall_34 : decode cX7_wall 34 = .ok (.getfield 132, 3) := by decide +kernel
theorem dX7_wall_37 : decode cX7_wall 37 = .ok (.if_icmp .ge 56, 3) := by decide +kernel
theorem dX7_wall_40 : decode cX7_wall 40 = .ok (.aload_n 0, 1) := by decide +kernel
theorem dX7_wall_41 : decode cX7_wall 41 = .ok (.getfield 46, 3) := by decide +kernel
theorem dX7_wall_44 : decode cX7_wall 44 = .ok (.iload 5, 2) := by decide +kernel
theorem dX7_wall_46 : decode cX7_wall 46 = .ok (.baload, 1) := by decide +kernel
theorem dX7_wall_47 : decode cX7_wall 47 = .ok (.ifCond .ne 40, 3) := by decide +kernel
theorem dX7_wall_50 : decode cX7_wall 50 = .ok (.aload_n 0, 1) := by decide +kernel
theorem dX7_wall_51 : decode cX7_wall 51 = .ok (.getfield 46, 3) := by decide +kernel
theorem dX7_wall_54 : decode cX7_wall 54 = .ok (.iload 5, 2) := by decide +kernel
theorem dX7_wall_56 : decode cX7_wall 56 = .ok (.iconst 1, 1) := by decide +kernel
theorem dX7_wall_57 : decode cX7_wall 57 = .ok (.bastore, 1) := by decide +kernel
theorem dX7_wall_58 : decode cX7_wall 58 = .ok (.aload_n 0, 1) := by decide +kernel
theorem dX7_wall_59 : decode cX7_wall 59 = .ok (.iload_n 1, 1) := by decide +kernel
theorem dX7_wall_60 : decode cX7_wall 60 = .ok (.invokevirtual 246, 3) := by decide +kernel
theorem dX7_wall_63 : decode cX7_wall 63 = .ok (.lstore 6, 2) := by decide +kernel
theorem dX7_wall_65 : decode cX7_wall 65 = .ok (.aload_n 0, 1) := by decide +kernel
theorem dX7_wall_66 : decode cX7_wall 66 = .ok (.getfield 46, 3) := by decide +kernel
theorem dX7_wall_69 : decode cX7_wall 69 = .ok (.iload 5, 2) := by decide +kernel
theorem dX7_wall_71 : decode cX7_wall 71 = .ok (.iconst 0, 1) := by decide +kernel
theorem dX7_wall_72 : decode cX7_wall 72 = .ok (.bastore, 1) := by decide +kernel
theorem dX7_wall_73 : decode cX7_wall 73 = .ok (.lload 6, 2) := by decide +kernel
theorem dX7_wall_75 : decode cX7_wall 75 = .ok (.lload_n 2, 1) := by decide +kernel
theorem dX7_wall_76 : decode cX7_wall 76 = .ok (.lcmp, 1) := by decide +kernel
theorem dX7_wall_77 : decode cX7_wall 77 = .ok (.ifCond .ge 10, 3) := by decide +kernel
theorem dX7_wall_80 : decode cX7_wall 80 = .ok (.iload 5, 2) := by decide +kernel
theorem dX7_wall_82 : decode cX7_wall 82 = .ok (.istore 4, 2) := by decide +kernel
theorem dX7_wall_84 : decode cX7_wall 84 = .ok (.lload 6, 2) := by decide +kernel
theorem dX7_wall_86 : decode cX7_wall 86 = .ok (.lstore_n 2, 1) := by decide +kernel
theorem dX7_wall_87 : decode cX7_wall 87 = .ok (.iinc 5 1, 3) := by decide +kernel
theorem dX7_wall_90 : decode cX7_wall 90 = .ok (.goto (-59), 3) := by decide +kernel
theorem dX7_wall_93 : decode cX7_wall 93 = .ok (.iload 4, 2) := by decide +kernel
theorem dX7_wall_95 : decode cX7_wall 95 = .ok (.ireturn, 1) := by decide +kernel
theorem dX7_settledAfter_0 : decode cX7_settledAfter 0 = .ok (.aload_n 0, 1) := by decide +kernel
theorem dX7_settledAfter_1 : decode cX7_settledAfter 1 = .ok (.invokevirtual 235, 3) := by decide +kernel
theorem dX7_settledAfter_4 : decode cX7_settledAfter 4 = .ok (.aload_n 0, 1) := by decide +kernel
theorem dX7_settledAfter_5 : decode cX7_settledAfter 5 = .ok (.iload_n 2, 1) := by decide +kernel
theorem dX7_settledAfter_6 : decode cX7_settledAfter 6 = .ok (.putfield 81, 3) := by decide +kernel
theorem dX7_settledAfter_9 : decode cX7_settledAfter 9 = .ok (.iconst 0, 1) := by decide +kernel
theorem dX7_settledAfter_10 : decode cX7_settledAfter 10 = .ok (.istore_n 3, 1) := by decide +kernel
theorem dX7_settledAfter_11 : decode cX7_settledAfter 11 = .ok (.iload_n 3, 1) := by decide +kernel
theorem dX7_settledAfter_12 : decode cX7_settledAfter 12 = .ok (.iload_n 1, 1) := by decide +kernel
theorem dX7_settledAfter_13 : decode cX7_settledAfter 13 = .ok (.if_icmp .ge 13, 3) := by decide +kernel
theorem dX7_settledAfter_16 : decode cX7_settledAfter 16 = .ok (.aload_n 0, 1) := by decide +kernel
theorem dX7_settledAfter_17 : decode cX7_settledAfter 17 = .ok (.invokevirtual 223, 3) := by decide +kernel
theorem dX7_settledAfter_20 : decode cX7_settledAfter 20 = .ok (.iinc 3 1, 3) := by decide +kernel
theorem dX7_settledAfter_23 : decode cX7_settledAfter 23 = .ok (.goto (-12), 3) := by decide +kernel
theorem dX7_settledAfter_26 : decode cX7_settledAfter 26 = .ok (.aload_n 0, 1) := by decide +kernel
theorem dX7_settledAfter_27 : decode cX7_settledAfter 27 = .ok (.iconst (-1), 1) := by decide +kernel
theorem dX7_settledAfter_28 : decode cX7_settledAfter 28 = .ok (.putfield 81, 3) := by decide +kernel
theorem dX7_settledAfter_31 : decode cX7_settledAfter 31 = .ok (.iconst 0, 1) := by decide +kernel
theorem dX7_settledAfter_32 : decode cX7_settledAfter 32 = .ok (.istore_n 3, 1) := by decide +kernel
theorem dX7_settledAfter_33 : decode cX7_settledAfter 33 = .ok (.iconst 0, 1) := by decide +kernel
theorem dX7_settledAfter_34 : decode cX7_settledAfter 34 = .ok (.istore 4, 2) := by decide +kernel
theorem dX7_settledAfter_36 : decode cX7_settledAfter 36 = .ok (.iload 4, 2) := by decide +kernel
theorem dX7_settledAfter_38 : decode cX7_settledAfter 38 = .ok (.aload_n 0, 1) := by decide +kernel
theorem dX7_settledAfter_39 : decode cX7_settledAfter 39 = .ok (.getfield 111, 3) := by decide +kernel
theorem dX7_settledAfter_42 : decode cX7_settledAfter 42 = .ok (.if_icmp .ge 18, 3) := by decide +kernel
theorem dX7_settledAfter_45 : decode cX7_settledAfter 45 = .ok (.iload_n 3, 1) := by decide +kernel
theorem dX7_settledAfter_46 : decode cX7_settledAfter 46 = .ok (.aload_n 0, 1) := by decide +kernel
theorem dX7_settledAfter_47 : decode cX7_settledAfter 47 = .ok (.iload 4, 2) := by decide +kernel
theorem dX7_settledAfter_49 : decode cX7_settledAfter 49 = .ok (.invokevirtual 158, 3) := by decide +kernel
theorem dX7_settledAfter_52 : decode cX7_settledAfter 52 = .ok (.iadd, 1) := by decide +kernel
theorem dX7_settledAfter_53 : decode cX7_settledAfter 53 = .ok (.istore_n 3, 1) := by decide +kernel
theorem dX7_settledAfter_54 : decode cX7_settledAfter 54 = .ok (.iinc 4 1, 3) := by decide +kernel
theorem dX7_settledAfter_57 : decode cX7_settledAfter 57 = .ok (.goto (-21), 3) := by decide +kernel
theorem dX7_settledAfter_60 : decode cX7_settledAfter 60 = .ok (.aload_n 0, 1) := by decide +kernel
theorem dX7_settledAfter_61 : decode cX7_settledAfter 61 = .ok (.invokevirtual 241, 3) := by decide +kernel
theorem dX7_settledAfter_64 : decode cX7_settledAfter 64 = .ok (.iload_n 3, 1) := by decide +kernel
theorem dX7_settledAfter_65 : decode cX7_settledAfter 65 = .ok (.ireturn, 1) := by decide +kernel
theorem dX7_share_0 : decode cX7_share 0 = .ok (.iload_n 1, 1) := by decide +kernel
theorem dX7_share_1 : decode cX7_share 1 = .ok (.i2l, 1) := by decide +kernel
theorem dX7_share_2 : decode cX7_share 2 = .ok (.lconst 0, 1) := by decide +kernel
theorem dX7_share_3 : decode cX7_share 3 = .ok (.aload_n 0, 1) := by decide +kernel
theorem dX7_share_4 : decode cX7_share 4 = .ok (.getfield 147, 3) := by decide +kernel
theorem dX7_share_7 : decode cX7_share 7 = .ok (.iconst 1, 1) := by decide +kernel
theorem dX7_share_8 : decode cX7_share 8 = .ok (.isub, 1) := by decide +kernel
theorem dX7_share_9 : decode cX7_share 9 = .ok (.i2l, 1) := by decide +kernel
theorem dX7_share_10 : decode cX7_share 10 = .ok (.invokestatic 114, 3) := by decide +kernel
theorem dX7_share_13 : decode cX7_share 13 = .ok (.ifCond .ne 12, 3) := by decide +kernel
theorem dX7_share_16 : decode cX7_share 16 = .ok (.ldc 167, 2) := by decide +kernel
theorem dX7_share_18 : decode cX7_share 18 = .ok (.aload_n 0, 1) := by decide +kernel
theorem dX7_share_19 : decode cX7_share 19 = .ok (.iconst (-1), 1) := by decide +kernel
theorem dX7_share_20 : decode cX7_share 20 = .ok (.invokevirtual 118, 3) := by decide +kernel
theorem dX7_share_23 : decode cX7_share 23 = .ok (.iadd, 1) := by decide +kernel
theorem dX7_share_24 : decode cX7_share 24 = .ok (.ireturn, 1) := by decide +kernel
theorem dX7_share_25 : decode cX7_share 25 = .ok (.iload_n 2, 1) := by decide +kernel
theorem dX7_share_26 : decode cX7_share 26 = .ok (.iconst 1, 1) := by decide +kernel
theorem dX7_share_27 : decode cX7_share 27 = .ok (.if_icmp .ge 13, 3) := by decide +kernel
theorem dX7_share_30 : decode cX7_share 30 = .ok (.ldc 167, 2) := by decide +kernel
theorem dX7_share_32 : decode cX7_share 32 = .ok (.aload_n 0, 1) := by decide +kernel
theorem dX7_share_33 : decode cX7_share 33 = .ok (.bipush (-4), 2) := by decide +kernel
theorem dX7_share_35 : decode cX7_share 35 = .ok (.invokevirtual 118, 3) := by decide +kernel
theorem dX7_share_38 : decode cX7_share 38 = .ok (.iadd, 1) := by decide +kernel
theorem dX7_share_39 : decode cX7_share 39 = .ok (.ireturn, 1) := by decide +kernel
theorem dX7_share_40 : decode cX7_share 40 = .ok (.iload_n 2, 1) := by decide +kernel
theorem dX7_share_41 : decode cX7_share 41 = .ok (.sipush 200, 3) := by decide +kernel
theorem dX7_share_44 : decode cX7_share 44 = .ok (.if_icmp .le 13, 3) := by decide +kernel
theorem dX7_share_47 : decode cX7_share 47 = .ok (.ldc 167, 2) := by decide +kernel
theorem dX7_share_49 : decode cX7_share 49 = .ok (.aload_n 0, 1) := by decide +kernel
theorem dX7_share_50 : decode cX7_share 50 = .ok (.bipush (-6), 2) := by decide +kernel
theorem dX7_share_52 : decode cX7_share 52 = .ok (.invokevirtual 118, 3) := by decide +kernel
theorem dX7_share_55 : decode cX7_share 55 = .ok (.iadd, 1) := by decide +kernel
theorem dX7_share_56 : decode cX7_share 56 = .ok (.ireturn, 1) := by decide +kernel
theorem dX7_share_57 : decode cX7_share 57 = .ok (.aload_n 0, 1) := by decide +kernel
theorem dX7_share_58 : decode cX7_share 58 = .ok (.iload_n 2, 1) := by decide +kernel
theorem dX7_share_59 : decode cX7_share 59 = .ok (.iconst (-1), 1) := by decide +kernel
theorem dX7_share_60 : decode cX7_share 60 = .ok (.invokevirtual 257, 3) := by decide +kernel
theorem dX7_share_63 : decode cX7_share 63 = .ok (.aload_n 0, 1) := by decide +kernel
theorem dX7_share_64 : decode cX7_share 64 = .ok (.iload_n 2, 1) := by decide +kernel
theorem dX7_share_65 : decode cX7_share 65 = .ok (.iload_n 1, 1) := by decide +kernel
theorem dX7_share_66 : decode cX7_share 66 = .ok (.invokevirtual 257, 3) := by decide +kernel
theorem dX7_share_69 : decode cX7_share 69 = .ok (.isub, 1) := by decide +kernel
theorem dX7_share_70 : decode cX7_share 70 = .ok (.ireturn, 1) := by decide +kernel
theorem dX7_row_0 : decode cX7_row 0 = .ok (.iload_n 1, 1) := by decide +kernel
theorem dX7_row_1 : decode cX7_row 1 = .ok (.ifCond .ge 10, 3) := by decide +kernel
theorem dX7_row_4 : decode cX7_row 4 = .ok (.aload_n 0, 1) := by decide +kernel
theorem dX7_row_5 : decode cX7_row 5 = .ok (.bipush (-4), 2) := by decide +kernel
theorem dX7_row_7 : decode cX7_row 7 = .ok (.invokevirtual 118, 3) := by decide +kernel
theorem dX7_row_10 : decode cX7_row 10 = .ok (.ireturn, 1) := by decide +kernel
theorem dX7_row_11 : decode cX7_row 11 = .ok (.iload_n 1, 1) := by decide +kernel
theorem dX7_row_12 : decode cX7_row 12 = .ok (.bipush 9, 2) := by decide +kernel
theorem dX7_row_14 : decode cX7_row 14 = .ok (.if_icmp .gt 12, 3) := by decide +kernel
theorem dX7_row_17 : decode cX7_row 17 = .ok (.aload_n 0, 1) := by decide +kernel
theorem dX7_row_18 : decode cX7_row 18 = .ok (.getfield 261, 3) := by decide +kernel
theorem dX7_row_21 : decode cX7_row 21 = .ok (.bipush 28, 2) := by decide +kernel
theorem dX7_row_23 : decode cX7_row 23 = .ok (.if_icmp .ne 10, 3) := by decide +kernel
theorem dX7_row_26 : decode cX7_row 26 = .ok (.aload_n 0, 1) := by decide +kernel
theorem dX7_row_27 : decode cX7_row 27 = .ok (.bipush (-6), 2) := by decide +kernel
theorem dX7_row_29 : decode cX7_row 29 = .ok (.invokevirtual 118, 3) := by decide +kernel
theorem dX7_row_32 : decode cX7_row 32 = .ok (.ireturn, 1) := by decide +kernel
theorem dX7_row_33 : decode cX7_row 33 = .ok (.aload_n 0, 1) := by decide +kernel
theorem dX7_row_34 : decode cX7_row 34 = .ok (.getfield 75, 3) := by decide +kernel
theorem dX7_row_37 : decode cX7_row 37 = .ok (.aload_n 0, 1) := by decide +kernel
theorem dX7_row_38 : decode cX7_row 38 = .ok (.getfield 261, 3) := by decide +kernel
theorem dX7_row_41 : decode cX7_row 41 = .ok (.iload_n 1, 1) := by decide +kernel
theorem dX7_row_42 : decode cX7_row 42 = .ok (.iastore, 1) := by decide +kernel
theorem dX7_row_43 : decode cX7_row 43 = .ok (.aload_n 0, 1) := by decide +kernel
theorem dX7_row_44 : decode cX7_row 44 = .ok (.dup, 1) := by decide +kernel
theorem dX7_row_45 : decode cX7_row 45 = .ok (.getfield 261, 3) := by decide +kernel
theorem dX7_row_48 : decode cX7_row 48 = .ok (.iconst 1, 1) := by decide +kernel
theorem dX7_row_49 : decode cX7_row 49 = .ok (.iadd, 1) := by decide +kernel
theorem dX7_row_50 : decode cX7_row 50 = .ok (.putfield 261, 3) := by decide +kernel
theorem dX7_row_53 : decode cX7_row 53 = .ok (.aload_n 0, 1) := by decide +kernel
theorem dX7_row_54 : decode cX7_row 54 = .ok (.getfield 261, 3) := by decide +kernel
theorem dX7_row_57 : decode cX7_row 57 = .ok (.ireturn, 1) := by decide +kernel
theorem dX7_judge_0 : decode cX7_judge 0 = .ok (.iload_n 1, 1) := by decide +kernel
theorem dX7_judge_1 : decode cX7_judge 1 = .ok (.i2l, 1) := by decide +kernel
theorem dX7_judge_2 : decode cX7_judge 2 = .ok (.lconst 0, 1) := by decide +kernel
theorem dX7_judge_3 : decode cX7_judge 3 = .ok (.ldc2_w 264, 3) := by decide +kernel
theorem dX7_judge_6 : decode cX7_judge 6 = .ok (.invokestatic 114, 3) := by decide +kernel
theorem dX7_judge_9 : decode cX7_judge 9 = .ok (.ifCond .ne 10, 3) := by decide +kernel
theorem dX7_judge_12 : decode cX7_judge 12 = .ok (.aload_n 0, 1) := by decide +kernel
theorem dX7_judge_13 : decode cX7_judge 13 = .ok (.bipush (-2), 2) := by decide +kernel
theorem dX7_judge_15 : decode cX7_judge 15 = .ok (.invokevirtual 118, 3) := by decide +kernel
theorem dX7_judge_18 : decode cX7_judge 18 = .ok (.ireturn, 1) := by decide +kernel
theorem dX7_judge_19 : decode cX7_judge 19 = .ok (.iconst 0, 1) := by decide +kernel
theorem dX7_judge_20 : decode cX7_judge 20 = .ok (.istore_n 2, 1) := by decide +kernel
theorem dX7_judge_21 : decode cX7_judge 21 = .ok (.iload_n 2, 1) := by decide +kernel
theorem dX7_judge_22 : decode cX7_judge 22 = .ok (.aload_n 0, 1) := by decide +kernel
theorem dX7_judge_23 : decode cX7_judge 23 = .ok (.getfield 261, 3) := by decide +kernel
theorem dX7_judge_26 : decode cX7_judge 26 = .ok (.if_icmp .ge 39, 3) := by decide +kernel
theorem dX7_judge_29 : decode cX7_judge 29 = .ok (.aload_n 0, 1) := by decide +kernel
theorem dX7_judge_30 : decode cX7_judge 30 = .ok (.getfield 75, 3) := by decide +kernel
theorem dX7_judge_33 : decode cX7_judge 33 = .ok (.iload_n 2, 1) := by decide +kernel
theorem dX7_judge_34 : decode cX7_judge 34 = .ok (.iaload, 1) := by decide +kernel
theorem dX7_judge_35 : decode cX7_judge 35 = .ok (.bipush 9, 2) := by decide +kernel
theorem dX7_judge_37 : decode cX7_judge 37 = .ok (.if_icmp .eq 22, 3) := by decide +kernel
theorem dX7_judge_40 : decode cX7_judge 40 = .ok (.aload_n 0, 1) := by decide +kernel
theorem dX7_judge_41 : decode cX7_judge 41 = .ok (.aload_n 0, 1) := by decide +kernel
theorem dX7_judge_42 : decode cX7_judge 42 = .ok (.getfield 75, 3) := by decide +kernel
theorem dX7_judge_45 : decode cX7_judge 45 = .ok (.iload_n 2, 1) := by decide +kernel
theorem dX7_judge_46 : decode cX7_judge 46 = .ok (.iaload, 1) := by decide +kernel
theorem dX7_judge_47 : decode cX7_judge 47 = .ok (.invokevirtual 126, 3) := by decide +kernel
theorem dX7_judge_50 : decode cX7_judge 50 = .ok (.ifCond .ne 9, 3) := by decide +kernel
theorem dX7_judge_53 : decode cX7_judge 53 = .ok (.aload_n 0, 1) := by decide +kernel
theorem dX7_judge_54 : decode cX7_judge 54 = .ok (.iconst (-1), 1) := by decide +kernel
theorem dX7_judge_55 : decode cX7_judge 55 = .ok (.invokevirtual 118, 3) := by decide +kernel
theorem dX7_judge_58 : decode cX7_judge 58 = .ok (.ireturn, 1) := by decide +kernel
theorem dX7_judge_59 : decode cX7_judge 59 = .ok (.iinc 2 1, 3) := by decide +kernel
theorem dX7_judge_62 : decode cX7_judge 62 = .ok (.goto (-41), 3) := by decide +kernel
theorem dX7_judge_65 : decode cX7_judge 65 = .ok (.aload_n 0, 1) := by decide +kernel
theorem dX7_judge_66 : decode cX7_judge 66 = .ok (.getfield 111, 3) := by decide +kernel
theorem dX7_judge_69 : decode cX7_judge 69 = .ok (.ifCond .ne 10, 3) := by decide +kernel
theorem dX7_judge_72 : decode cX7_judge 72 = .ok (.aload_n 0, 1) := by decide +kernel
theorem dX7_judge_73 : decode cX7_judge 73 = .ok (.bipush (-3), 2) := by decide +kernel
theorem dX7_judge_75 : decode cX7_judge 75 = .ok (.invokevirtual 118, 3) := by decide +kernel
theorem dX7_judge_78 : decode cX7_judge 78 = .ok (.ireturn, 1) := by decide +kernel
theorem dX7_judge_79 : decode cX7_judge 79 = .ok (.aload_n 0, 1) := by decide +kernel
theorem dX7_judge_80 : decode cX7_judge 80 = .ok (.invokevirtual 235, 3) := by decide +kernel
theorem dX7_judge_83 : decode cX7_judge 83 = .ok (.bipush (-9), 2) := by decide +kernel
theorem dX7_judge_85 : decode cX7_judge 85 = .ok (.istore_n 2, 1) := by decide +kernel
theorem dX7_judge_86 : decode cX7_judge 86 = .ok (.iconst 0, 1) := by decide +kernel
theorem dX7_judge_87 : decode cX7_judge 87 = .ok (.istore_n 3, 1) := by decide +kernel
theorem dX7_judge_88 : decode cX7_judge 88 = .ok (.iconst 0, 1) := by decide +kernel
theorem dX7_judge_89 : decode cX7_judge 89 = .ok (.istore 4, 2) := by decide +kernel
theorem dX7_judge_91 : decode cX7_judge 91 = .ok (.iload 4, 2) := by decide +kernel
theorem dX7_judge_93 : decode cX7_judge 93 = .ok (.aload_n 0, 1) := by decide +kernel
theorem dX7_judge_94 : decode cX7_judge 94 = .ok (.getfield 261, 3) := by decide +kernel
theorem dX7_judge_97 : decode cX7_judge 97 = .ok (.if_icmp .ge 88, 3) := by decide +kernel
theorem dX7_judge_100 : decode cX7_judge 100 = .ok (.aload_n 0, 1) := by decide +kernel
theorem dX7_judge_101 : decode cX7_judge 101 = .ok (.invokevirtual 210, 3) := by decide +kernel
theorem dX7_judge_104 : decode cX7_judge 104 = .ok (.aload_n 0, 1) := by decide +kernel
theorem dX7_judge_105 : decode cX7_judge 105 = .ok (.aload_n 0, 1) := by decide +kernel
theorem dX7_judge_106 : decode cX7_judge 106 = .ok (.getfield 75, 3) := by decide +kernel
theorem dX7_judge_109 : decode cX7_judge 109 = .ok (.iload 4, 2) := by decide +kernel
theorem dX7_judge_111 : decode cX7_judge 111 = .ok (.iaload, 1) := by decide +kernel
theorem dX7_judge_112 : decode cX7_judge 112 = .ok (.bipush 9, 2) := by decide +kernel
theorem dX7_judge_114 : decode cX7_judge 114 = .ok (.if_icmp .ne 8, 3) := by decide +kernel
theorem dX7_judge_117 : decode cX7_judge 117 = .ok (.bipush (-9), 2) := by decide +kernel
theorem dX7_judge_119 : decode cX7_judge 119 = .ok (.goto 10, 3) := by decide +kernel
theorem dX7_judge_122 : decode cX7_judge 122 = .ok (.aload_n 0, 1) := by decide +kernel
theorem dX7_judge_123 : decode cX7_judge 123 = .ok (.getfield 75, 3) := by decide +kernel
theorem dX7_judge_126 : decode cX7_judge 126 = .ok (.iload 4, 2) := by decide +kernel
theorem dX7_judge_128 : decode cX7_judge 128 = .ok (.iaload, 1) := by decide +kernel
theorem dX7_judge_129 : decode cX7_judge 129 = .ok (.invokevirtual 216, 3) := by decide +kernel
theorem dX7_judge_132 : decode cX7_judge 132 = .ok (.aload_n 0, 1) := by decide +kernel
theorem dX7_judge_133 : decode cX7_judge 133 = .ok (.dup, 1) := by decide +kernel
theorem dX7_judge_134 : decode cX7_judge 134 = .ok (.getfield 186, 3) := by decide +kernel
theorem dX7_judge_137 : decode cX7_judge 137 = .ok (.iconst 1, 1) := by decide +kernel
theorem dX7_judge_138 : decode cX7_judge 138 = .ok (.iadd, 1) := by decide +kernel
theorem dX7_judge_139 : decode cX7_judge 139 = .ok (.putfield 186, 3) := by decide +kernel
theorem dX7_judge_142 : decode cX7_judge 142 = .ok (.iload_n 3, 1) := by decide +kernel
theorem dX7_judge_143 : decode cX7_judge 143 = .ok (.aload_n 0, 1) := by decide +kernel
theorem dX7_judge_144 : decode cX7_judge 144 = .ok (.invokevirtual 238, 3) := by decide +kernel
theorem dX7_judge_147 : decode cX7_judge 147 = .ok (.iadd, 1) := by decide +kernel
theorem dX7_judge_148 : decode cX7_judge 148 = .ok (.istore_n 3, 1) := by decide +kernel
theorem dX7_judge_149 : decode cX7_judge 149 = .ok (.iload_n 2, 1) := by decide +kernel
theorem dX7_judge_150 : decode cX7_judge 150 = .ok (.ifCond .ge 27, 3) := by decide +kernel
theorem dX7_judge_153 : decode cX7_judge 153 = .ok (.aload_n 0, 1) := by decide +kernel
theorem dX7_judge_154 : decode cX7_judge 154 = .ok (.getfield 75, 3) := by decide +kernel
theorem dX7_judge_157 : decode cX7_judge 157 = .ok (.iload 4, 2) := by decide +kernel
theorem dX7_judge_159 : decode cX7_judge 159 = .ok (.iaload, 1) := by decide +kernel
theorem dX7_judge_160 : decode cX7_judge 160 = .ok (.bipush 9, 2) := by decide +kernel
theorem dX7_judge_162 : decode cX7_judge 162 = .ok (.if_icmp .eq 15, 3) := by decide +kernel
theorem dX7_judge_165 : decode cX7_judge 165 = .ok (.aload_n 0, 1) := by decide +kernel
theorem dX7_judge_166 : decode cX7_judge 166 = .ok (.getfield 197, 3) := by decide +kernel
theorem dX7_judge_169 : decode cX7_judge 169 = .ok (.ifCond .ne 8, 3) := by decide +kernel
theorem dX7_judge_172 : decode cX7_judge 172 = .ok (.iload 4, 2) := by decide +kernel
theorem dX7_judge_174 : decode cX7_judge 174 = .ok (.goto 4, 3) := by decide +kernel
theorem dX7_judge_177 : decode cX7_judge 177 = .ok (.iload_n 2, 1) := by decide +kernel
theorem dX7_judge_178 : decode cX7_judge 178 = .ok (.istore_n 2, 1) := by decide +kernel
theorem dX7_judge_179 : decode cX7_judge 179 = .ok (.iinc 4 1, 3) := by decide +kernel
theorem dX7_judge_182 : decode cX7_judge 182 = .ok (.goto (-91), 3) := by decide +kernel
theorem dX7_judge_185 : decode cX7_judge 185 = .ok (.aload_n 0, 1) := by decide +kernel
theorem dX7_judge_186 : decode cX7_judge 186 = .ok (.iconst 0, 1) := by decide +kernel
theorem dX7_judge_187 : decode cX7_judge 187 = .ok (.invokevirtual 206, 3) := by decide +kernel
theorem dX7_judge_190 : decode cX7_judge 190 = .ok (.istore 4, 2) := by decide +kernel
theorem dX7_judge_192 : decode cX7_judge 192 = .ok (.aload_n 0, 1) := by decide +kernel
theorem dX7_judge_193 : decode cX7_judge 193 = .ok (.iconst 0, 1) := by decide +kernel
theorem dX7_judge_194 : decode cX7_judge 194 = .ok (.putfield 261, 3) := by decide +kernel
theorem dX7_judge_197 : decode cX7_judge 197 = .ok (.aload_n 0, 1) := by decide +kernel
theorem dX7_judge_198 : decode cX7_judge 198 = .ok (.invokevirtual 241, 3) := by decide +kernel
theorem dX7_judge_201 : decode cX7_judge 201 = .ok (.iload_n 1, 1) := by decide +kernel
theorem dX7_judge_202 : decode cX7_judge 202 = .ok (.ifCond .ne 7, 3) := by decide +kernel
theorem dX7_judge_205 : decode cX7_judge 205 = .ok (.iload_n 2, 1) := by decide +kernel
theorem dX7_judge_206 : decode cX7_judge 206 = .ok (.goto 14, 3) := by decide +kernel
theorem dX7_judge_209 : decode cX7_judge 209 = .ok (.iload_n 1, 1) := by decide +kernel
theorem dX7_judge_210 : decode cX7_judge 210 = .ok (.iconst 1, 1) := by decide +kernel
theorem dX7_judge_211 : decode cX7_judge 211 = .ok (.if_icmp .ne 7, 3) := by decide +kernel
theorem dX7_judge_214 : decode cX7_judge 214 = .ok (.iload_n 3, 1) := by decide +kernel
theorem dX7_judge_215 : decode cX7_judge 215 = .ok (.goto 5, 3) := by decide +kernel
theorem dX7_judge_218 : decode cX7_judge 218 = .ok (.iload 4, 2) := by decide +kernel
theorem dX7_judge_220 : decode cX7_judge 220 = .ok (.ireturn, 1) := by decide +kernel
theorem dX7_feed_0 : decode cX7_feed 0 = .ok (.iload_n 1, 1) := by decide +kernel
theorem dX7_feed_1 : decode cX7_feed 1 = .ok (.iconst 1, 1) := by decide +kernel
theorem dX7_feed_2 : decode cX7_feed 2 = .ok (.if_icmp .ge 10, 3) := by decide +kernel
theorem dX7_feed_5 : decode cX7_feed 5 = .ok (.aload_n 0, 1) := by decide +kernel
theorem dX7_feed_6 : decode cX7_feed 6 = .ok (.bipush (-4), 2) := by decide +kernel
theorem dX7_feed_8 : decode cX7_feed 8 = .ok (.invokevirtual 118, 3) := by decide +kernel
theorem dX7_feed_11 : decode cX7_feed 11 = .ok (.ireturn, 1) := by decide +kernel
theorem dX7_feed_12 : decode cX7_feed 12 = .ok (.iload_n 1, 1) := by decide +kernel
theorem dX7_feed_13 : decode cX7_feed 13 = .ok (.bipush 8, 2) := by decide +kernel
theorem dX7_feed_15 : decode cX7_feed 15 = .ok (.if_icmp .gt 14, 3) := by decide +kernel
theorem dX7_feed_18 : decode cX7_feed 18 = .ok (.aload_n 0, 1) := by decide +kernel
theorem dX7_feed_19 : decode cX7_feed 19 = .ok (.getfield 108, 3) := by decide +kernel
theorem dX7_feed_22 : decode cX7_feed 22 = .ok (.iload_n 1, 1) := by decide +kernel
theorem dX7_feed_23 : decode cX7_feed 23 = .ok (.iadd, 1) := by decide +kernel
theorem dX7_feed_24 : decode cX7_feed 24 = .ok (.bipush 96, 2) := by decide +kernel
theorem dX7_feed_26 : decode cX7_feed 26 = .ok (.if_icmp .le 10, 3) := by decide +kernel
theorem dX7_feed_29 : decode cX7_feed 29 = .ok (.aload_n 0, 1) := by decide +kernel
theorem dX7_feed_30 : decode cX7_feed 30 = .ok (.bipush (-6), 2) := by decide +kernel
theorem dX7_feed_32 : decode cX7_feed 32 = .ok (.invokevirtual 118, 3) := by decide +kernel
theorem dX7_feed_35 : decode cX7_feed 35 = .ok (.ireturn, 1) := by decide +kernel
theorem dX7_feed_36 : decode cX7_feed 36 = .ok (.iconst 0, 1) := by decide +kernel
theorem dX7_feed_37 : decode cX7_feed 37 = .ok (.istore 4, 2) := by decide +kernel
theorem dX7_feed_39 : decode cX7_feed 39 = .ok (.iload 4, 2) := by decide +kernel
theorem dX7_feed_41 : decode cX7_feed 41 = .ok (.iload_n 1, 1) := by decide +kernel
theorem dX7_feed_42 : decode cX7_feed 42 = .ok (.if_icmp .ge 40, 3) := by decide +kernel
theorem dX7_feed_45 : decode cX7_feed 45 = .ok (.aload_n 0, 1) := by decide +kernel
theorem dX7_feed_46 : decode cX7_feed 46 = .ok (.getfield 72, 3) := by decide +kernel
theorem dX7_feed_49 : decode cX7_feed 49 = .ok (.aload_n 0, 1) := by decide +kernel
theorem dX7_feed_50 : decode cX7_feed 50 = .ok (.getfield 108, 3) := by decide +kernel
theorem dX7_feed_53 : decode cX7_feed 53 = .ok (.lload_n 2, 1) := by decide +kernel
theorem dX7_feed_54 : decode cX7_feed 54 = .ok (.bipush 8, 2) := by decide +kernel
theorem dX7_feed_56 : decode cX7_feed 56 = .ok (.iload 4, 2) := by decide +kernel
theorem dX7_feed_58 : decode cX7_feed 58 = .ok (.imul, 1) := by decide +kernel
theorem dX7_feed_59 : decode cX7_feed 59 = .ok (.lshr, 1) := by decide +kernel
theorem dX7_feed_60 : decode cX7_feed 60 = .ok (.ldc2_w 266, 3) := by decide +kernel
theorem dX7_feed_63 : decode cX7_feed 63 = .ok (.land, 1) := by decide +kernel
theorem dX7_feed_64 : decode cX7_feed 64 = .ok (.l2i, 1) := by decide +kernel
theorem dX7_feed_65 : decode cX7_feed 65 = .ok (.iastore, 1) := by decide +kernel
theorem dX7_feed_66 : decode cX7_feed 66 = .ok (.aload_n 0, 1) := by decide +kernel
theorem dX7_feed_67 : decode cX7_feed 67 = .ok (.dup, 1) := by decide +kernel
theorem dX7_feed_68 : decode cX7_feed 68 = .ok (.getfield 108, 3) := by decide +kernel
theorem dX7_feed_71 : decode cX7_feed 71 = .ok (.iconst 1, 1) := by decide +kernel
theorem dX7_feed_72 : decode cX7_feed 72 = .ok (.iadd, 1) := by decide +kernel
theorem dX7_feed_73 : decode cX7_feed 73 = .ok (.putfield 108, 3) := by decide +kernel
theorem dX7_feed_76 : decode cX7_feed 76 = .ok (.iinc 4 1, 3) := by decide +kernel
theorem dX7_feed_79 : decode cX7_feed 79 = .ok (.goto (-40), 3) := by decide +kernel
theorem dX7_feed_82 : decode cX7_feed 82 = .ok (.aload_n 0, 1) := by decide +kernel
theorem dX7_feed_83 : decode cX7_feed 83 = .ok (.getfield 108, 3) := by decide +kernel
theorem dX7_feed_86 : decode cX7_feed 86 = .ok (.ireturn, 1) := by decide +kernel
theorem dX7_here_0 : decode cX7_here 0 = .ok (.aload_n 0, 1) := by decide +kernel
theorem dX7_here_1 : decode cX7_here 1 = .ok (.getfield 268, 3) := by decide +kernel
theorem dX7_here_4 : decode cX7_here 4 = .ok (.aload_n 0, 1) := by decide +kernel
theorem dX7_here_5 : decode cX7_here 5 = .ok (.getfield 271, 3) := by decide +kernel
theorem dX7_here_8 : decode cX7_here 8 = .ok (.if_icmp .lt 7, 3) := by decide +kernel
theorem dX7_here_11 : decode cX7_here 11 = .ok (.iconst (-1), 1) := by decide +kernel
theorem dX7_here_12 : decode cX7_here 12 = .ok (.goto 12, 3) := by decide +kernel
theorem dX7_here_15 : decode cX7_here 15 = .ok (.aload_n 0, 1) := by decide +kernel
theorem dX7_here_16 : decode cX7_here 16 = .ok (.getfield 72, 3) := by decide +kernel
theorem dX7_here_19 : decode cX7_here 19 = .ok (.aload_n 0, 1) := by decide +kernel
theorem dX7_here_20 : decode cX7_here 20 = .ok (.getfield 268, 3) := by decide +kernel
theorem dX7_here_23 : decode cX7_here 23 = .ok (.iaload, 1) := by decide +kernel
theorem dX7_here_24 : decode cX7_here 24 = .ok (.ireturn, 1) := by decide +kernel
theorem dX7_takeSign_0 : decode cX7_takeSign 0 = .ok (.aload_n 0, 1) := by decide +kernel
theorem dX7_takeSign_1 : decode cX7_takeSign 1 = .ok (.aload_n 0, 1) := by decide +kernel
theorem dX7_takeSign_2 : decode cX7_takeSign 2 = .ok (.getfield 274, 3) := by decide +kernel
theorem dX7_takeSign_5 : decode cX7_takeSign 5 = .ok (.ifCond .ne 7, 3) := by decide +kernel
theorem dX7_takeSign_8 : decode cX7_takeSign 8 = .ok (.iload_n 1, 1) := by decide +kernel
theorem dX7_takeSign_9 : decode cX7_takeSign 9 = .ok (.ifCond .ne 7, 3) := by decide +kernel
theorem dX7_takeSign_12 : decode cX7_takeSign 12 = .ok (.iconst 1, 1) := by decide +kernel
theorem dX7_takeSign_13 : decode cX7_takeSign 13 = .ok (.goto 4, 3) := by decide +kernel
theorem dX7_takeSign_16 : decode cX7_takeSign 16 = .ok (.iconst 0, 1) := by decide +kernel
theorem dX7_takeSign_17 : decode cX7_takeSign 17 = .ok (.putfield 274, 3) := by decide +kernel
theorem dX7_takeSign_20 : decode cX7_takeSign 20 = .ok (.aload_n 0, 1) := by decide +kernel
theorem dX7_takeSign_21 : decode cX7_takeSign 21 = .ok (.dup, 1) := by decide +kernel
theorem dX7_takeSign_22 : decode cX7_takeSign 22 = .ok (.getfield 268, 3) := by decide +kernel
theorem dX7_takeSign_25 : decode cX7_takeSign 25 = .ok (.aload_n 0, 1) := by decide +kernel
theorem dX7_takeSign_26 : decode cX7_takeSign 26 = .ok (.getfield 274, 3) := by decide +kernel
theorem dX7_takeSign_29 : decode cX7_takeSign 29 = .ok (.ifCond .eq 7, 3) := by decide +kernel
theorem dX7_takeSign_32 : decode cX7_takeSign 32 = .ok (.iconst 0, 1) := by decide +kernel
theorem dX7_takeSign_33 : decode cX7_takeSign 33 = .ok (.goto 4, 3) := by decide +kernel
theorem dX7_takeSign_36 : decode cX7_takeSign 36 = .ok (.iconst 1, 1) := by decide +kernel
theorem dX7_takeSign_37 : decode cX7_takeSign 37 = .ok (.iadd, 1) := by decide +kernel
theorem dX7_takeSign_38 : decode cX7_takeSign 38 = .ok (.putfield 268, 3) := by decide +kernel
theorem dX7_takeSign_41 : decode cX7_takeSign 41 = .ok (.return_, 1) := by decide +kernel
theorem dX7_readDigit_0 : decode cX7_readDigit 0 = .ok (.aload_n 0, 1) := by decide +kernel
theorem dX7_readDigit_1 : decode cX7_readDigit 1 = .ok (.invokevirtual 278, 3) := by decide +kernel
theorem dX7_readDigit_4 : decode cX7_readDigit 4 = .ok (.istore_n 1, 1) := by decide +kernel
theorem dX7_readDigit_5 : decode cX7_readDigit 5 = .ok (.aload_n 0, 1) := by decide +kernel
theorem dX7_readDigit_6 : decode cX7_readDigit 6 = .ok (.iload_n 1, 1) := by decide +kernel
theorem dX7_readDigit_7 : decode cX7_readDigit 7 = .ok (.i2l, 1) := by decide +kernel
theorem dX7_readDigit_8 : decode cX7_readDigit 8 = .ok (.ldc2_w 281, 3) := by decide +kernel
theorem dX7_readDigit_11 : decode cX7_readDigit 11 = .ok (.ldc2_w 283, 3) := by decide +kernel
theorem dX7_readDigit_14 : decode cX7_readDigit 14 = .ok (.invokestatic 114, 3) := by decide +kernel
theorem dX7_readDigit_17 : decode cX7_readDigit 17 = .ok (.invokevirtual 285, 3) := by decide +kernel
theorem dX7_readDigit_20 : decode cX7_readDigit 20 = .ok (.aload_n 0, 1) := by decide +kernel
theorem dX7_readDigit_21 : decode cX7_readDigit 21 = .ok (.getfield 274, 3) := by decide +kernel
theorem dX7_readDigit_24 : decode cX7_readDigit 24 = .ok (.ifCond .eq 7, 3) := by decide +kernel
theorem dX7_readDigit_27 : decode cX7_readDigit 27 = .ok (.iconst 0, 1) := by decide +kernel
theorem dX7_readDigit_28 : decode cX7_readDigit 28 = .ok (.goto 7, 3) := by decide +kernel
theorem dX7_readDigit_31 : decode cX7_readDigit 31 = .ok (.iload_n 1, 1) := by decide +kernel
theorem dX7_readDigit_32 : decode cX7_readDigit 32 = .ok (.bipush 48, 2) := by decide +kernel
theorem dX7_readDigit_34 : decode cX7_readDigit 34 = .ok (.isub, 1) := by decide +kernel
theorem dX7_readDigit_35 : decode cX7_readDigit 35 = .ok (.ireturn, 1) := by decide +kernel
theorem dX7_readNumber_0 : decode cX7_readNumber 0 = .ok (.aload_n 0, 1) := by decide +kernel
theorem dX7_readNumber_1 : decode cX7_readNumber 1 = .ok (.invokevirtual 289, 3) := by decide +kernel
theorem dX7_readNumber_4 : decode cX7_readNumber 4 = .ok (.istore_n 1, 1) := by decide +kernel
theorem dX7_readNumber_5 : decode cX7_readNumber 5 = .ok (.iconst 1, 1) := by decide +kernel
theorem dX7_readNumber_6 : decode cX7_readNumber 6 = .ok (.istore_n 2, 1) := by decide +kernel
theorem dX7_readNumber_7 : decode cX7_readNumber 7 = .ok (.iload_n 2, 1) := by decide +kernel
theorem dX7_readNumber_8 : decode cX7_readNumber 8 = .ok (.iconst 3, 1) := by decide +kernel
theorem dX7_readNumber_9 : decode cX7_readNumber 9 = .ok (.if_icmp .ge 60, 3) := by decide +kernel
theorem dX7_readNumber_12 : decode cX7_readNumber 12 = .ok (.iload_n 1, 1) := by decide +kernel
theorem dX7_readNumber_13 : decode cX7_readNumber 13 = .ok (.ifCond .le 56, 3) := by decide +kernel
theorem dX7_readNumber_16 : decode cX7_readNumber 16 = .ok (.aload_n 0, 1) := by decide +kernel
theorem dX7_readNumber_17 : decode cX7_readNumber 17 = .ok (.getfield 274, 3) := by decide +kernel
theorem dX7_readNumber_20 : decode cX7_readNumber 20 = .ok (.ifCond .ne 49, 3) := by decide +kernel
theorem dX7_readNumber_23 : decode cX7_readNumber 23 = .ok (.aload_n 0, 1) := by decide +kernel
theorem dX7_readNumber_24 : decode cX7_readNumber 24 = .ok (.invokevirtual 278, 3) := by decide +kernel
theorem dX7_readNumber_27 : decode cX7_readNumber 27 = .ok (.i2l, 1) := by decide +kernel
theorem dX7_readNumber_28 : decode cX7_readNumber 28 = .ok (.ldc2_w 281, 3) := by decide +kernel
theorem dX7_readNumber_31 : decode cX7_readNumber 31 = .ok (.ldc2_w 283, 3) := by decide +kernel
theorem dX7_readNumber_34 : decode cX7_readNumber 34 = .ok (.invokestatic 114, 3) := by decide +kernel
theorem dX7_readNumber_37 : decode cX7_readNumber 37 = .ok (.ifCond .eq 32, 3) := by decide +kernel
theorem dX7_readNumber_40 : decode cX7_readNumber 40 = .ok (.bipush 10, 2) := by decide +kernel
theorem dX7_readNumber_42 : decode cX7_readNumber 42 = .ok (.iload_n 1, 1) := by decide +kernel
theorem dX7_readNumber_43 : decode cX7_readNumber 43 = .ok (.imul, 1) := by decide +kernel
theorem dX7_readNumber_44 : decode cX7_readNumber 44 = .ok (.aload_n 0, 1) := by decide +kernel
theorem dX7_readNumber_45 : decode cX7_readNumber 45 = .ok (.invokevirtual 278, 3) := by decide +kernel
theorem dX7_readNumber_48 : decode cX7_readNumber 48 = .ok (.iadd, 1) := by decide +kernel
theorem dX7_readNumber_49 : decode cX7_readNumber 49 = .ok (.bipush 48, 2) := by decide +kernel
theorem dX7_readNumber_51 : decode cX7_readNumber 51 = .ok (.isub, 1) := by decide +kernel
theorem dX7_readNumber_52 : decode cX7_readNumber 52 = .ok (.istore_n 1, 1) := by decide +kernel
theorem dX7_readNumber_53 : decode cX7_readNumber 53 = .ok (.aload_n 0, 1) := by decide +kernel
theorem dX7_readNumber_54 : decode cX7_readNumber 54 = .ok (.dup, 1) := by decide +kernel
theorem dX7_readNumber_55 : decode cX7_readNumber 55 = .ok (.getfield 268, 3) := by decide +kernel
theorem dX7_readNumber_58 : decode cX7_readNumber 58 = .ok (.iconst 1, 1) := by decide +kernel
theorem dX7_readNumber_59 : decode cX7_readNumber 59 = .ok (.iadd, 1) := by decide +kernel
theorem dX7_readNumber_60 : decode cX7_readNumber 60 = .ok (.putfield 268, 3) := by decide +kernel
theorem dX7_readNumber_63 : decode cX7_readNumber 63 = .ok (.iinc 2 1, 3) := by decide +kernel
theorem dX7_readNumber_66 : decode cX7_readNumber 66 = .ok (.goto (-59), 3) := by decide +kernel
theorem dX7_readNumber_69 : decode cX7_readNumber 69 = .ok (.iload_n 1, 1) := by decide +kernel
theorem dX7_readNumber_70 : decode cX7_readNumber 70 = .ok (.ireturn, 1) := by decide +kernel
theorem dX7_readOf_0 : decode cX7_readOf 0 = .ok (.aload_n 0, 1) := by decide +kernel
theorem dX7_readOf_1 : decode cX7_readOf 1 = .ok (.invokevirtual 278, 3) := by decide +kernel
theorem dX7_readOf_4 : decode cX7_readOf 4 = .ok (.istore_n 3, 1) := by decide +kernel
theorem dX7_readOf_5 : decode cX7_readOf 5 = .ok (.aload_n 0, 1) := by decide +kernel
theorem dX7_readOf_6 : decode cX7_readOf 6 = .ok (.iload_n 3, 1) := by decide +kernel
theorem dX7_readOf_7 : decode cX7_readOf 7 = .ok (.iload_n 1, 1) := by decide +kernel
theorem dX7_readOf_8 : decode cX7_readOf 8 = .ok (.if_icmp .eq 8, 3) := by decide +kernel
theorem dX7_readOf_11 : decode cX7_readOf 11 = .ok (.iload_n 3, 1) := by decide +kernel
theorem dX7_readOf_12 : decode cX7_readOf 12 = .ok (.iload_n 2, 1) := by decide +kernel
theorem dX7_readOf_13 : decode cX7_readOf 13 = .ok (.if_icmp .ne 7, 3) := by decide +kernel
theorem dX7_readOf_16 : decode cX7_readOf 16 = .ok (.iconst 1, 1) := by decide +kernel
theorem dX7_readOf_17 : decode cX7_readOf 17 = .ok (.goto 4, 3) := by decide +kernel
theorem dX7_readOf_20 : decode cX7_readOf 20 = .ok (.iconst 0, 1) := by decide +kernel
theorem dX7_readOf_21 : decode cX7_readOf 21 = .ok (.invokevirtual 285, 3) := by decide +kernel
theorem dX7_readOf_24 : decode cX7_readOf 24 = .ok (.iload_n 3, 1) := by decide +kernel
theorem dX7_readOf_25 : decode cX7_readOf 25 = .ok (.iload_n 2, 1) := by decide +kernel
theorem dX7_readOf_26 : decode cX7_readOf 26 = .ok (.if_icmp .ne 7, 3) := by decide +kernel
theorem dX7_readOf_29 : decode cX7_readOf 29 = .ok (.iconst 1, 1) := by decide +kernel
theorem dX7_readOf_30 : decode cX7_readOf 30 = .ok (.goto 4, 3) := by decide +kernel
theorem dX7_readOf_33 : decode cX7_readOf 33 = .ok (.iconst 0, 1) := by decide +kernel
theorem dX7_readOf_34 : decode cX7_readOf 34 = .ok (.ireturn, 1) := by decide +kernel
theorem dX7_readStatement_0 : decode cX7_readStatement 0 = .ok (.aload_n 0, 1) := by decide +kernel
theorem dX7_readStatement_1 : decode cX7_readStatement 1 = .ok (.invokevirtual 278, 3) := by decide +kernel
theorem dX7_readStatement_4 : decode cX7_readStatement 4 = .ok (.istore_n 1, 1) := by decide +kernel
theorem dX7_readStatement_5 : decode cX7_readStatement 5 = .ok (.iconst 5, 1) := by decide +kernel
theorem dX7_readStatement_6 : decode cX7_readStatement 6 = .ok (.aload_n 0, 1) := by decide +kernel
theorem dX7_readStatement_7 : decode cX7_readStatement 7 = .ok (.getfield 292, 3) := by decide +kernel
theorem dX7_readStatement_10 : decode cX7_readStatement 10 = .ok (.imul, 1) := by decide +kernel
theorem dX7_readStatement_11 : decode cX7_readStatement 11 = .ok (.istore_n 2, 1) := by decide +kernel
theorem dX7_readStatement_12 : decode cX7_readStatement 12 = .ok (.aload_n 0, 1) := by decide +kernel
theorem dX7_readStatement_13 : decode cX7_readStatement 13 = .ok (.getfield 93, 3) := by decide +kernel
theorem dX7_readStatement_16 : decode cX7_readStatement 16 = .ok (.aload_n 0, 1) := by decide +kernel
theorem dX7_readStatement_17 : decode cX7_readStatement 17 = .ok (.getfield 292, 3) := by decide +kernel
