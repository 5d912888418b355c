theorem dX1_readKind_37 : decode cX1_readKind 37 = .ok (.ireturn, 1) := by decide +kernel
theorem dX1_readStuff_0 : decode cX1_readStuff 0 = .ok (.aload_n 0, 1) := by decide +kernel
theorem dX1_readStuff_1 : decode cX1_readStuff 1 = .ok (.aload_n 0, 1) := by decide +kernel
theorem dX1_readStuff_2 : decode cX1_readStuff 2 = .ok (.invokevirtual 81, 3) := by decide +kernel
theorem dX1_readStuff_5 : decode cX1_readStuff 5 = .ok (.bipush 77, 2) := by decide +kernel
theorem dX1_readStuff_7 : decode cX1_readStuff 7 = .ok (.if_icmp .ne 7, 3) := by decide +kernel
theorem dX1_readStuff_10 : decode cX1_readStuff 10 = .ok (.iconst 1, 1) := by decide +kernel
theorem dX1_readStuff_11 : decode cX1_readStuff 11 = .ok (.goto 4, 3) := by decide +kernel
theorem dX1_readStuff_14 : decode cX1_readStuff 14 = .ok (.iconst 0, 1) := by decide +kernel
theorem dX1_readStuff_15 : decode cX1_readStuff 15 = .ok (.putfield 34, 3) := by decide +kernel
theorem dX1_readStuff_18 : decode cX1_readStuff 18 = .ok (.aload_n 0, 1) := by decide +kernel
theorem dX1_readStuff_19 : decode cX1_readStuff 19 = .ok (.aload_n 0, 1) := by decide +kernel
theorem dX1_readStuff_20 : decode cX1_readStuff 20 = .ok (.getfield 34, 3) := by decide +kernel
theorem dX1_readStuff_23 : decode cX1_readStuff 23 = .ok (.iconst 1, 1) := by decide +kernel
theorem dX1_readStuff_24 : decode cX1_readStuff 24 = .ok (.if_icmp .ne 8, 3) := by decide +kernel
theorem dX1_readStuff_27 : decode cX1_readStuff 27 = .ok (.bipush 77, 2) := by decide +kernel
theorem dX1_readStuff_29 : decode cX1_readStuff 29 = .ok (.goto 5, 3) := by decide +kernel
theorem dX1_readStuff_32 : decode cX1_readStuff 32 = .ok (.bipush 83, 2) := by decide +kernel
theorem dX1_readStuff_34 : decode cX1_readStuff 34 = .ok (.invokevirtual 88, 3) := by decide +kernel
theorem dX1_readStuff_37 : decode cX1_readStuff 37 = .ok (.ireturn, 1) := by decide +kernel
theorem dX1_readMoon_0 : decode cX1_readMoon 0 = .ok (.aload_n 0, 1) := by decide +kernel
theorem dX1_readMoon_1 : decode cX1_readMoon 1 = .ok (.iconst 0, 1) := by decide +kernel
theorem dX1_readMoon_2 : decode cX1_readMoon 2 = .ok (.putfield 43, 3) := by decide +kernel
theorem dX1_readMoon_5 : decode cX1_readMoon 5 = .ok (.aload_n 0, 1) := by decide +kernel
theorem dX1_readMoon_6 : decode cX1_readMoon 6 = .ok (.iconst 0, 1) := by decide +kernel
theorem dX1_readMoon_7 : decode cX1_readMoon 7 = .ok (.putfield 46, 3) := by decide +kernel
theorem dX1_readMoon_10 : decode cX1_readMoon 10 = .ok (.iconst 0, 1) := by decide +kernel
theorem dX1_readMoon_11 : decode cX1_readMoon 11 = .ok (.istore_n 1, 1) := by decide +kernel
theorem dX1_readMoon_12 : decode cX1_readMoon 12 = .ok (.iload_n 1, 1) := by decide +kernel
theorem dX1_readMoon_13 : decode cX1_readMoon 13 = .ok (.bipush 28, 2) := by decide +kernel
theorem dX1_readMoon_15 : decode cX1_readMoon 15 = .ok (.if_icmp .ge 41, 3) := by decide +kernel
theorem dX1_readMoon_18 : decode cX1_readMoon 18 = .ok (.aload_n 0, 1) := by decide +kernel
theorem dX1_readMoon_19 : decode cX1_readMoon 19 = .ok (.invokevirtual 95, 3) := by decide +kernel
theorem dX1_readMoon_22 : decode cX1_readMoon 22 = .ok (.ifCond .eq 34, 3) := by decide +kernel
theorem dX1_readMoon_25 : decode cX1_readMoon 25 = .ok (.aload_n 0, 1) := by decide +kernel
theorem dX1_readMoon_26 : decode cX1_readMoon 26 = .ok (.dup, 1) := by decide +kernel
theorem dX1_readMoon_27 : decode cX1_readMoon 27 = .ok (.getfield 46, 3) := by decide +kernel
theorem dX1_readMoon_30 : decode cX1_readMoon 30 = .ok (.aload_n 0, 1) := by decide +kernel
theorem dX1_readMoon_31 : decode cX1_readMoon 31 = .ok (.getfield 31, 3) := by decide +kernel
theorem dX1_readMoon_34 : decode cX1_readMoon 34 = .ok (.iload_n 1, 1) := by decide +kernel
theorem dX1_readMoon_35 : decode cX1_readMoon 35 = .ok (.ishl, 1) := by decide +kernel
theorem dX1_readMoon_36 : decode cX1_readMoon 36 = .ok (.ior, 1) := by decide +kernel
theorem dX1_readMoon_37 : decode cX1_readMoon 37 = .ok (.putfield 46, 3) := by decide +kernel
theorem dX1_readMoon_40 : decode cX1_readMoon 40 = .ok (.aload_n 0, 1) := by decide +kernel
theorem dX1_readMoon_41 : decode cX1_readMoon 41 = .ok (.dup, 1) := by decide +kernel
theorem dX1_readMoon_42 : decode cX1_readMoon 42 = .ok (.getfield 43, 3) := by decide +kernel
theorem dX1_readMoon_45 : decode cX1_readMoon 45 = .ok (.iconst 1, 1) := by decide +kernel
theorem dX1_readMoon_46 : decode cX1_readMoon 46 = .ok (.iadd, 1) := by decide +kernel
theorem dX1_readMoon_47 : decode cX1_readMoon 47 = .ok (.putfield 43, 3) := by decide +kernel
theorem dX1_readMoon_50 : decode cX1_readMoon 50 = .ok (.iinc 1 1, 3) := by decide +kernel
theorem dX1_readMoon_53 : decode cX1_readMoon 53 = .ok (.goto (-41), 3) := by decide +kernel
theorem dX1_readMoon_56 : decode cX1_readMoon 56 = .ok (.aload_n 0, 1) := by decide +kernel
theorem dX1_readMoon_57 : decode cX1_readMoon 57 = .ok (.getfield 43, 3) := by decide +kernel
theorem dX1_readMoon_60 : decode cX1_readMoon 60 = .ok (.ifCond .le 7, 3) := by decide +kernel
theorem dX1_readMoon_63 : decode cX1_readMoon 63 = .ok (.iconst 1, 1) := by decide +kernel
theorem dX1_readMoon_64 : decode cX1_readMoon 64 = .ok (.goto 4, 3) := by decide +kernel
theorem dX1_readMoon_67 : decode cX1_readMoon 67 = .ok (.iconst 0, 1) := by decide +kernel
theorem dX1_readMoon_68 : decode cX1_readMoon 68 = .ok (.ireturn, 1) := by decide +kernel
theorem dX2_init_0 : decode cX2_init 0 = .ok (.aload_n 0, 1) := by decide +kernel
theorem dX2_init_1 : decode cX2_init 1 = .ok (.invokespecial 3, 3) := by decide +kernel
theorem dX2_init_4 : decode cX2_init 4 = .ok (.aload_n 0, 1) := by decide +kernel
theorem dX2_init_5 : decode cX2_init 5 = .ok (.iconst 0, 1) := by decide +kernel
theorem dX2_init_6 : decode cX2_init 6 = .ok (.putfield 9, 3) := by decide +kernel
theorem dX2_init_9 : decode cX2_init 9 = .ok (.aload_n 0, 1) := by decide +kernel
theorem dX2_init_10 : decode cX2_init 10 = .ok (.bipush 8, 2) := by decide +kernel
theorem dX2_init_12 : decode cX2_init 12 = .ok (.putfield 15, 3) := by decide +kernel
theorem dX2_init_15 : decode cX2_init 15 = .ok (.aload_n 0, 1) := by decide +kernel
theorem dX2_init_16 : decode cX2_init 16 = .ok (.iconst 0, 1) := by decide +kernel
theorem dX2_init_17 : decode cX2_init 17 = .ok (.putfield 18, 3) := by decide +kernel
theorem dX2_init_20 : decode cX2_init 20 = .ok (.aload_n 0, 1) := by decide +kernel
theorem dX2_init_21 : decode cX2_init 21 = .ok (.iconst 0, 1) := by decide +kernel
theorem dX2_init_22 : decode cX2_init 22 = .ok (.putfield 21, 3) := by decide +kernel
theorem dX2_init_25 : decode cX2_init 25 = .ok (.aload_n 0, 1) := by decide +kernel
theorem dX2_init_26 : decode cX2_init 26 = .ok (.iconst 1, 1) := by decide +kernel
theorem dX2_init_27 : decode cX2_init 27 = .ok (.putfield 24, 3) := by decide +kernel
theorem dX2_init_30 : decode cX2_init 30 = .ok (.return_, 1) := by decide +kernel
theorem dX2_become_0 : decode cX2_become 0 = .ok (.aload_n 0, 1) := by decide +kernel
theorem dX2_become_1 : decode cX2_become 1 = .ok (.aload_n 1, 1) := by decide +kernel
theorem dX2_become_2 : decode cX2_become 2 = .ok (.getfield 9, 3) := by decide +kernel
theorem dX2_become_5 : decode cX2_become 5 = .ok (.putfield 9, 3) := by decide +kernel
theorem dX2_become_8 : decode cX2_become 8 = .ok (.aload_n 0, 1) := by decide +kernel
theorem dX2_become_9 : decode cX2_become 9 = .ok (.aload_n 1, 1) := by decide +kernel
theorem dX2_become_10 : decode cX2_become 10 = .ok (.getfield 15, 3) := by decide +kernel
theorem dX2_become_13 : decode cX2_become 13 = .ok (.putfield 15, 3) := by decide +kernel
theorem dX2_become_16 : decode cX2_become 16 = .ok (.aload_n 0, 1) := by decide +kernel
theorem dX2_become_17 : decode cX2_become 17 = .ok (.aload_n 1, 1) := by decide +kernel
theorem dX2_become_18 : decode cX2_become 18 = .ok (.getfield 18, 3) := by decide +kernel
theorem dX2_become_21 : decode cX2_become 21 = .ok (.putfield 18, 3) := by decide +kernel
theorem dX2_become_24 : decode cX2_become 24 = .ok (.aload_n 0, 1) := by decide +kernel
theorem dX2_become_25 : decode cX2_become 25 = .ok (.aload_n 1, 1) := by decide +kernel
theorem dX2_become_26 : decode cX2_become 26 = .ok (.getfield 21, 3) := by decide +kernel
theorem dX2_become_29 : decode cX2_become 29 = .ok (.putfield 21, 3) := by decide +kernel
theorem dX2_become_32 : decode cX2_become 32 = .ok (.aload_n 0, 1) := by decide +kernel
theorem dX2_become_33 : decode cX2_become 33 = .ok (.aload_n 1, 1) := by decide +kernel
theorem dX2_become_34 : decode cX2_become 34 = .ok (.getfield 24, 3) := by decide +kernel
theorem dX2_become_37 : decode cX2_become 37 = .ok (.putfield 24, 3) := by decide +kernel
theorem dX2_become_40 : decode cX2_become 40 = .ok (.return_, 1) := by decide +kernel
theorem dX2_greatest_0 : decode cX2_greatest 0 = .ok (.iload_n 0, 1) := by decide +kernel
theorem dX2_greatest_1 : decode cX2_greatest 1 = .ok (.lookupswitch 33 #[(0, 27), (2, 31)], 27) := by decide +kernel
theorem dX2_greatest_28 : decode cX2_greatest 28 = .ok (.sipush 999, 3) := by decide +kernel
theorem dX2_greatest_31 : decode cX2_greatest 31 = .ok (.ireturn, 1) := by decide +kernel
theorem dX2_greatest_32 : decode cX2_greatest 32 = .ok (.iconst 4, 1) := by decide +kernel
theorem dX2_greatest_33 : decode cX2_greatest 33 = .ok (.ireturn, 1) := by decide +kernel
theorem dX2_greatest_34 : decode cX2_greatest 34 = .ok (.bipush 99, 2) := by decide +kernel
theorem dX2_greatest_36 : decode cX2_greatest 36 = .ok (.ireturn, 1) := by decide +kernel
theorem dX2_change_0 : decode cX2_change 0 = .ok (.iload_n 1, 1) := by decide +kernel
theorem dX2_change_1 : decode cX2_change 1 = .ok (.tableswitch 79 0 3 #[31, 43, 55, 67], 31) := by decide +kernel
theorem dX2_change_32 : decode cX2_change 32 = .ok (.aload_n 0, 1) := by decide +kernel
theorem dX2_change_33 : decode cX2_change 33 = .ok (.getfield 9, 3) := by decide +kernel
theorem dX2_change_36 : decode cX2_change 36 = .ok (.istore_n 3, 1) := by decide +kernel
theorem dX2_change_37 : decode cX2_change 37 = .ok (.aload_n 0, 1) := by decide +kernel
theorem dX2_change_38 : decode cX2_change 38 = .ok (.iload_n 2, 1) := by decide +kernel
theorem dX2_change_39 : decode cX2_change 39 = .ok (.putfield 9, 3) := by decide +kernel
theorem dX2_change_42 : decode cX2_change 42 = .ok (.iload_n 3, 1) := by decide +kernel
theorem dX2_change_43 : decode cX2_change 43 = .ok (.ireturn, 1) := by decide +kernel
theorem dX2_change_44 : decode cX2_change 44 = .ok (.aload_n 0, 1) := by decide +kernel
theorem dX2_change_45 : decode cX2_change 45 = .ok (.getfield 15, 3) := by decide +kernel
theorem dX2_change_48 : decode cX2_change 48 = .ok (.istore_n 3, 1) := by decide +kernel
theorem dX2_change_49 : decode cX2_change 49 = .ok (.aload_n 0, 1) := by decide +kernel
theorem dX2_change_50 : decode cX2_change 50 = .ok (.iload_n 2, 1) := by decide +kernel
theorem dX2_change_51 : decode cX2_change 51 = .ok (.putfield 15, 3) := by decide +kernel
theorem dX2_change_54 : decode cX2_change 54 = .ok (.iload_n 3, 1) := by decide +kernel
theorem dX2_change_55 : decode cX2_change 55 = .ok (.ireturn, 1) := by decide +kernel
theorem dX2_change_56 : decode cX2_change 56 = .ok (.aload_n 0, 1) := by decide +kernel
theorem dX2_change_57 : decode cX2_change 57 = .ok (.getfield 18, 3) := by decide +kernel
theorem dX2_change_60 : decode cX2_change 60 = .ok (.istore_n 3, 1) := by decide +kernel
theorem dX2_change_61 : decode cX2_change 61 = .ok (.aload_n 0, 1) := by decide +kernel
theorem dX2_change_62 : decode cX2_change 62 = .ok (.iload_n 2, 1) := by decide +kernel
theorem dX2_change_63 : decode cX2_change 63 = .ok (.putfield 18, 3) := by decide +kernel
theorem dX2_change_66 : decode cX2_change 66 = .ok (.iload_n 3, 1) := by decide +kernel
theorem dX2_change_67 : decode cX2_change 67 = .ok (.ireturn, 1) := by decide +kernel
theorem dX2_change_68 : decode cX2_change 68 = .ok (.aload_n 0, 1) := by decide +kernel
theorem dX2_change_69 : decode cX2_change 69 = .ok (.getfield 21, 3) := by decide +kernel
theorem dX2_change_72 : decode cX2_change 72 = .ok (.istore_n 3, 1) := by decide +kernel
theorem dX2_change_73 : decode cX2_change 73 = .ok (.aload_n 0, 1) := by decide +kernel
theorem dX2_change_74 : decode cX2_change 74 = .ok (.iload_n 2, 1) := by decide +kernel
theorem dX2_change_75 : decode cX2_change 75 = .ok (.putfield 21, 3) := by decide +kernel
theorem dX2_change_78 : decode cX2_change 78 = .ok (.iload_n 3, 1) := by decide +kernel
theorem dX2_change_79 : decode cX2_change 79 = .ok (.ireturn, 1) := by decide +kernel
theorem dX2_change_80 : decode cX2_change 80 = .ok (.aload_n 0, 1) := by decide +kernel
theorem dX2_change_81 : decode cX2_change 81 = .ok (.getfield 24, 3) := by decide +kernel
theorem dX2_change_84 : decode cX2_change 84 = .ok (.istore_n 3, 1) := by decide +kernel
theorem dX2_change_85 : decode cX2_change 85 = .ok (.aload_n 0, 1) := by decide +kernel
theorem dX2_change_86 : decode cX2_change 86 = .ok (.iload_n 2, 1) := by decide +kernel
theorem dX2_change_87 : decode cX2_change 87 = .ok (.putfield 24, 3) := by decide +kernel
theorem dX2_change_90 : decode cX2_change 90 = .ok (.iload_n 3, 1) := by decide +kernel
theorem dX2_change_91 : decode cX2_change 91 = .ok (.ireturn, 1) := by decide +kernel
theorem dX3_init_0 : decode cX3_init 0 = .ok (.aload_n 0, 1) := by decide +kernel
theorem dX3_init_1 : decode cX3_init 1 = .ok (.invokespecial 3, 3) := by decide +kernel
theorem dX3_init_4 : decode cX3_init 4 = .ok (.aload_n 0, 1) := by decide +kernel
theorem dX3_init_5 : decode cX3_init 5 = .ok (.new 9, 3) := by decide +kernel
theorem dX3_init_8 : decode cX3_init 8 = .ok (.dup, 1) := by decide +kernel
theorem dX3_init_9 : decode cX3_init 9 = .ok (.invokespecial 11, 3) := by decide +kernel
theorem dX3_init_12 : decode cX3_init 12 = .ok (.putfield 12, 3) := by decide +kernel
theorem dX3_init_15 : decode cX3_init 15 = .ok (.aload_n 0, 1) := by decide +kernel
theorem dX3_init_16 : decode cX3_init 16 = .ok (.new 18, 3) := by decide +kernel
theorem dX3_init_19 : decode cX3_init 19 = .ok (.dup, 1) := by decide +kernel
theorem dX3_init_20 : decode cX3_init 20 = .ok (.invokespecial 20, 3) := by decide +kernel
theorem dX3_init_23 : decode cX3_init 23 = .ok (.putfield 21, 3) := by decide +kernel
theorem dX3_init_26 : decode cX3_init 26 = .ok (.aload_n 0, 1) := by decide +kernel
theorem dX3_init_27 : decode cX3_init 27 = .ok (.new 25, 3) := by decide +kernel
theorem dX3_init_30 : decode cX3_init 30 = .ok (.dup, 1) := by decide +kernel
theorem dX3_init_31 : decode cX3_init 31 = .ok (.invokespecial 27, 3) := by decide +kernel
theorem dX3_init_34 : decode cX3_init 34 = .ok (.putfield 28, 3) := by decide +kernel
theorem dX3_init_37 : decode cX3_init 37 = .ok (.aload_n 0, 1) := by decide +kernel
theorem dX3_init_38 : decode cX3_init 38 = .ok (.new 32, 3) := by decide +kernel
theorem dX3_init_41 : decode cX3_init 41 = .ok (.dup, 1) := by decide +kernel
theorem dX3_init_42 : decode cX3_init 42 = .ok (.invokespecial 34, 3) := by decide +kernel
theorem dX3_init_45 : decode cX3_init 45 = .ok (.putfield 35, 3) := by decide +kernel
theorem dX3_init_48 : decode cX3_init 48 = .ok (.aload_n 0, 1) := by decide +kernel
theorem dX3_init_49 : decode cX3_init 49 = .ok (.iconst 1, 1) := by decide +kernel
theorem dX3_init_50 : decode cX3_init 50 = .ok (.putfield 39, 3) := by decide +kernel
theorem dX3_init_53 : decode cX3_init 53 = .ok (.aload_n 0, 1) := by decide +kernel
theorem dX3_init_54 : decode cX3_init 54 = .ok (.iconst 0, 1) := by decide +kernel
theorem dX3_init_55 : decode cX3_init 55 = .ok (.putfield 43, 3) := by decide +kernel
theorem dX3_init_58 : decode cX3_init 58 = .ok (.aload_n 0, 1) := by decide +kernel
theorem dX3_init_59 : decode cX3_init 59 = .ok (.iconst 0, 1) := by decide +kernel
theorem dX3_init_60 : decode cX3_init 60 = .ok (.putfield 46, 3) := by decide +kernel
theorem dX3_init_63 : decode cX3_init 63 = .ok (.aload_n 0, 1) := by decide +kernel
theorem dX3_init_64 : decode cX3_init 64 = .ok (.iconst 0, 1) := by decide +kernel
theorem dX3_init_65 : decode cX3_init 65 = .ok (.putfield 49, 3) := by decide +kernel
theorem dX3_init_68 : decode cX3_init 68 = .ok (.aload_n 0, 1) := by decide +kernel
theorem dX3_init_69 : decode cX3_init 69 = .ok (.iconst 0, 1) := by decide +kernel
theorem dX3_init_70 : decode cX3_init 70 = .ok (.putfield 52, 3) := by decide +kernel
theorem dX3_init_73 : decode cX3_init 73 = .ok (.aload_n 0, 1) := by decide +kernel
theorem dX3_init_74 : decode cX3_init 74 = .ok (.iconst 0, 1) := by decide +kernel
theorem dX3_init_75 : decode cX3_init 75 = .ok (.putfield 55, 3) := by decide +kernel
theorem dX3_init_78 : decode cX3_init 78 = .ok (.aload_n 0, 1) := by decide +kernel
theorem dX3_init_79 : decode cX3_init 79 = .ok (.iconst 0, 1) := by decide +kernel
theorem dX3_init_80 : decode cX3_init 80 = .ok (.putfield 58, 3) := by decide +kernel
theorem dX3_init_83 : decode cX3_init 83 = .ok (.aload_n 0, 1) := by decide +kernel
theorem dX3_init_84 : decode cX3_init 84 = .ok (.bipush 16, 2) := by decide +kernel
theorem dX3_init_86 : decode cX3_init 86 = .ok (.newarray .int, 2) := by decide +kernel
theorem dX3_init_88 : decode cX3_init 88 = .ok (.putfield 61, 3) := by decide +kernel
theorem dX3_init_91 : decode cX3_init 91 = .ok (.return_, 1) := by decide +kernel
theorem dX3_become_0 : decode cX3_become 0 = .ok (.aload_n 0, 1) := by decide +kernel
theorem dX3_become_1 : decode cX3_become 1 = .ok (.getfield 12, 3) := by decide +kernel
theorem dX3_become_4 : decode cX3_become 4 = .ok (.aload_n 1, 1) := by decide +kernel
theorem dX3_become_5 : decode cX3_become 5 = .ok (.getfield 12, 3) := by decide +kernel
theorem dX3_become_8 : decode cX3_become 8 = .ok (.invokevirtual 65, 3) := by decide +kernel
theorem dX3_become_11 : decode cX3_become 11 = .ok (.aload_n 0, 1) := by decide +kernel
theorem dX3_become_12 : decode cX3_become 12 = .ok (.getfield 21, 3) := by decide +kernel
theorem dX3_become_15 : decode cX3_become 15 = .ok (.aload_n 1, 1) := by decide +kernel
theorem dX3_become_16 : decode cX3_become 16 = .ok (.getfield 21, 3) := by decide +kernel
theorem dX3_become_19 : decode cX3_become 19 = .ok (.invokevirtual 69, 3) := by decide +kernel
theorem dX3_become_22 : decode cX3_become 22 = .ok (.aload_n 0, 1) := by decide +kernel
theorem dX3_become_23 : decode cX3_become 23 = .ok (.getfield 28, 3) := by decide +kernel
theorem dX3_become_26 : decode cX3_become 26 = .ok (.aload_n 1, 1) := by decide +kernel
theorem dX3_become_27 : decode cX3_become 27 = .ok (.getfield 28, 3) := by decide +kernel
theorem dX3_become_30 : decode cX3_become 30 = .ok (.invokevirtual 72, 3) := by decide +kernel
theorem dX3_become_33 : decode cX3_become 33 = .ok (.aload_n 0, 1) := by decide +kernel
theorem dX3_become_34 : decode cX3_become 34 = .ok (.getfield 35, 3) := by decide +kernel
theorem dX3_become_37 : decode cX3_become 37 = .ok (.aload_n 1, 1) := by decide +kernel
theorem dX3_become_38 : decode cX3_become 38 = .ok (.getfield 35, 3) := by decide +kernel
theorem dX3_become_41 : decode cX3_become 41 = .ok (.invokevirtual 75, 3) := by decide +kernel
theorem dX3_become_44 : decode cX3_become 44 = .ok (.aload_n 0, 1) := by decide +kernel
theorem dX3_become_45 : decode cX3_become 45 = .ok (.aload_n 1, 1) := by decide +kernel
theorem dX3_become_46 : decode cX3_become 46 = .ok (.getfield 39, 3) := by decide +kernel
theorem dX3_become_49 : decode cX3_become 49 = .ok (.putfield 39, 3) := by decide +kernel
theorem dX3_become_52 : decode cX3_become 52 = .ok (.aload_n 0, 1) := by decide +kernel
theorem dX3_become_53 : decode cX3_become 53 = .ok (.aload_n 1, 1) := by decide +kernel
theorem dX3_become_54 : decode cX3_become 54 = .ok (.getfield 43, 3) := by decide +kernel
theorem dX3_become_57 : decode cX3_become 57 = .ok (.putfield 43, 3) := by decide +kernel
theorem dX3_become_60 : decode cX3_become 60 = .ok (.aload_n 0, 1) := by decide +kernel
theorem dX3_become_61 : decode cX3_become 61 = .ok (.aload_n 1, 1) := by decide +kernel
theorem dX3_become_62 : decode cX3_become 62 = .ok (.getfield 46, 3) := by decide +kernel
theorem dX3_become_65 : decode cX3_become 65 = .ok (.putfield 46, 3) := by decide +kernel
theorem dX3_become_68 : decode cX3_become 68 = .ok (.aload_n 0, 1) := by decide +kernel
theorem dX3_become_69 : decode cX3_become 69 = .ok (.aload_n 1, 1) := by decide +kernel
theorem dX3_become_70 : decode cX3_become 70 = .ok (.getfield 49, 3) := by decide +kernel
theorem dX3_become_73 : decode cX3_become 73 = .ok (.putfield 49, 3) := by decide +kernel
theorem dX3_become_76 : decode cX3_become 76 = .ok (.aload_n 0, 1) := by decide +kernel
theorem dX3_become_77 : decode cX3_become 77 = .ok (.aload_n 1, 1) := by decide +kernel
theorem dX3_become_78 : decode cX3_become 78 = .ok (.getfield 52, 3) := by decide +kernel
theorem dX3_become_81 : decode cX3_become 81 = .ok (.putfield 52, 3) := by decide +kernel
theorem dX3_become_84 : decode cX3_become 84 = .ok (.return_, 1) := by decide +kernel
theorem dX3_addWay_0 : decode cX3_addWay 0 = .ok (.aload_n 0, 1) := by decide +kernel
theorem dX3_addWay_1 : decode cX3_addWay 1 = .ok (.getfield 12, 3) := by decide +kernel
theorem dX3_addWay_4 : decode cX3_addWay 4 = .ok (.iload_n 1, 1) := by decide +kernel
theorem dX3_addWay_5 : decode cX3_addWay 5 = .ok (.invokevirtual 78, 3) := by decide +kernel
theorem dX3_addWay_8 : decode cX3_addWay 8 = .ok (.ifCond .eq 25, 3) := by decide +kernel
theorem dX3_addWay_11 : decode cX3_addWay 11 = .ok (.aload_n 0, 1) := by decide +kernel
theorem dX3_addWay_12 : decode cX3_addWay 12 = .ok (.getfield 12, 3) := by decide +kernel
theorem dX3_addWay_15 : decode cX3_addWay 15 = .ok (.iload_n 2, 1) := by decide +kernel
theorem dX3_addWay_16 : decode cX3_addWay 16 = .ok (.invokevirtual 78, 3) := by decide +kernel
theorem dX3_addWay_19 : decode cX3_addWay 19 = .ok (.ifCond .ne 9, 3) := by decide +kernel
theorem dX3_addWay_22 : decode cX3_addWay 22 = .ok (.iload_n 2, 1) := by decide +kernel
theorem dX3_addWay_23 : decode cX3_addWay 23 = .ok (.bipush 8, 2) := by decide +kernel
theorem dX3_addWay_25 : decode cX3_addWay 25 = .ok (.if_icmp .ne 8, 3) := by decide +kernel
theorem dX3_addWay_28 : decode cX3_addWay 28 = .ok (.iload_n 1, 1) := by decide +kernel
theorem dX3_addWay_29 : decode cX3_addWay 29 = .ok (.iload_n 2, 1) := by decide +kernel
theorem dX3_addWay_30 : decode cX3_addWay 30 = .ok (.if_icmp .ne 5, 3) := by decide +kernel
theorem dX3_addWay_33 : decode cX3_addWay 33 = .ok (.iconst (-1), 1) := by decide +kernel
theorem dX3_addWay_34 : decode cX3_addWay 34 = .ok (.ireturn, 1) := by decide +kernel
theorem dX3_addWay_35 : decode cX3_addWay 35 = .ok (.iload_n 3, 1) := by decide +kernel
theorem dX3_addWay_36 : decode cX3_addWay 36 = .ok (.invokestatic 82, 3) := by decide +kernel
theorem dX3_addWay_39 : decode cX3_addWay 39 = .ok (.ifCond .eq 11, 3) := by decide +kernel
theorem dX3_addWay_42 : decode cX3_addWay 42 = .ok (.iload 4, 2) := by decide +kernel
theorem dX3_addWay_44 : decode cX3_addWay 44 = .ok (.invokestatic 85, 3) := by decide +kernel
theorem dX3_addWay_47 : decode cX3_addWay 47 = .ok (.ifCond .ne 5, 3) := by decide +kernel
theorem dX3_addWay_50 : decode cX3_addWay 50 = .ok (.iconst (-1), 1) := by decide +kernel
theorem dX3_addWay_51 : decode cX3_addWay 51 = .ok (.ireturn, 1) := by decide +kernel
theorem dX3_addWay_52 : decode cX3_addWay 52 = .ok (.iload 5, 2) := by decide +kernel
theorem dX3_addWay_54 : decode cX3_addWay 54 = .ok (.iconst 1, 1) := by decide +kernel
theorem dX3_addWay_55 : decode cX3_addWay 55 = .ok (.if_icmp .ge 6, 3) := by decide +kernel
theorem dX3_addWay_58 : decode cX3_addWay 58 = .ok (.bipush (-4), 2) := by decide +kernel
theorem dX3_addWay_60 : decode cX3_addWay 60 = .ok (.ireturn, 1) := by decide +kernel
theorem dX3_addWay_61 : decode cX3_addWay 61 = .ok (.iload 5, 2) := by decide +kernel
theorem dX3_addWay_63 : decode cX3_addWay 63 = .ok (.bipush 100, 2) := by decide +kernel
theorem dX3_addWay_65 : decode cX3_addWay 65 = .ok (.if_icmp .gt 13, 3) := by decide +kernel
theorem dX3_addWay_68 : decode cX3_addWay 68 = .ok (.aload_n 0, 1) := by decide +kernel
theorem dX3_addWay_69 : decode cX3_addWay 69 = .ok (.getfield 21, 3) := by decide +kernel
theorem dX3_addWay_72 : decode cX3_addWay 72 = .ok (.invokevirtual 88, 3) := by decide +kernel
theorem dX3_addWay_75 : decode cX3_addWay 75 = .ok (.ifCond .eq 6, 3) := by decide +kernel
theorem dX3_addWay_78 : decode cX3_addWay 78 = .ok (.bipush (-6), 2) := by decide +kernel
theorem dX3_addWay_80 : decode cX3_addWay 80 = .ok (.ireturn, 1) := by decide +kernel
theorem dX3_addWay_81 : decode cX3_addWay 81 = .ok (.aload_n 0, 1) := by decide +kernel
theorem dX3_addWay_82 : decode cX3_addWay 82 = .ok (.getfield 21, 3) := by decide +kernel
theorem dX3_addWay_85 : decode cX3_addWay 85 = .ok (.iload_n 1, 1) := by decide +kernel
theorem dX3_addWay_86 : decode cX3_addWay 86 = .ok (.iload_n 3, 1) := by decide +kernel
theorem dX3_addWay_87 : decode cX3_addWay 87 = .ok (.iload 4, 2) := by decide +kernel
theorem dX3_addWay_89 : decode cX3_addWay 89 = .ok (.invokevirtual 92, 3) := by decide +kernel
theorem dX3_addWay_92 : decode cX3_addWay 92 = .ok (.iload 5, 2) := by decide +kernel
theorem dX3_addWay_94 : decode cX3_addWay 94 = .ok (.iadd, 1) := by decide +kernel
theorem dX3_addWay_95 : decode cX3_addWay 95 = .ok (.bipush 100, 2) := by decide +kernel
theorem dX3_addWay_97 : decode cX3_addWay 97 = .ok (.if_icmp .le 6, 3) := by decide +kernel
theorem dX3_addWay_100 : decode cX3_addWay 100 = .ok (.bipush (-3), 2) := by decide +kernel
theorem dX3_addWay_102 : decode cX3_addWay 102 = .ok (.ireturn, 1) := by decide +kernel
theorem dX3_addWay_103 : decode cX3_addWay 103 = .ok (.aload_n 0, 1) := by decide +kernel
theorem dX3_addWay_104 : decode cX3_addWay 104 = .ok (.getfield 21, 3) := by decide +kernel
theorem dX3_addWay_107 : decode cX3_addWay 107 = .ok (.iload_n 1, 1) := by decide +kernel
theorem dX3_addWay_108 : decode cX3_addWay 108 = .ok (.iload_n 2, 1) := by decide +kernel
theorem dX3_addWay_109 : decode cX3_addWay 109 = .ok (.iload_n 3, 1) := by decide +kernel
theorem dX3_addWay_110 : decode cX3_addWay 110 = .ok (.iload 4, 2) := by decide +kernel
theorem dX3_addWay_112 : decode cX3_addWay 112 = .ok (.iload 5, 2) := by decide +kernel
theorem dX3_addWay_114 : decode cX3_addWay 114 = .ok (.invokevirtual 96, 3) := by decide +kernel
theorem dX3_addWay_117 : decode cX3_addWay 117 = .ok (.ireturn, 1) := by decide +kernel
theorem dX3_addRiver_0 : decode cX3_addRiver 0 = .ok (.aload_n 0, 1) := by decide +kernel
theorem dX3_addRiver_1 : decode cX3_addRiver 1 = .ok (.getfield 12, 3) := by decide +kernel
theorem dX3_addRiver_4 : decode cX3_addRiver 4 = .ok (.iload_n 1, 1) := by decide +kernel
theorem dX3_addRiver_5 : decode cX3_addRiver 5 = .ok (.invokevirtual 78, 3) := by decide +kernel
theorem dX3_addRiver_8 : decode cX3_addRiver 8 = .ok (.ifCond .eq 10, 3) := by decide +kernel
theorem dX3_addRiver_11 : decode cX3_addRiver 11 = .ok (.iload_n 2, 1) := by decide +kernel
theorem dX3_addRiver_12 : decode cX3_addRiver 12 = .ok (.invokestatic 85, 3) := by decide +kernel
theorem dX3_addRiver_15 : decode cX3_addRiver 15 = .ok (.ifCond .ne 5, 3) := by decide +kernel
theorem dX3_addRiver_18 : decode cX3_addRiver 18 = .ok (.iconst (-1), 1) := by decide +kernel
theorem dX3_addRiver_19 : decode cX3_addRiver 19 = .ok (.ireturn, 1) := by decide +kernel
theorem dX3_addRiver_20 : decode cX3_addRiver 20 = .ok (.iload_n 3, 1) := by decide +kernel
theorem dX3_addRiver_21 : decode cX3_addRiver 21 = .ok (.iconst 1, 1) := by decide +kernel
theorem dX3_addRiver_22 : decode cX3_addRiver 22 = .ok (.if_icmp .ge 6, 3) := by decide +kernel
theorem dX3_addRiver_25 : decode cX3_addRiver 25 = .ok (.bipush (-4), 2) := by decide +kernel
theorem dX3_addRiver_27 : decode cX3_addRiver 27 = .ok (.ireturn, 1) := by decide +kernel
theorem dX3_addRiver_28 : decode cX3_addRiver 28 = .ok (.iload_n 3, 1) := by decide +kernel
theorem dX3_addRiver_29 : decode cX3_addRiver 29 = .ok (.sipush 999, 3) := by decide +kernel
theorem dX3_addRiver_32 : decode cX3_addRiver 32 = .ok (.if_icmp .gt 13, 3) := by decide +kernel
theorem dX3_addRiver_35 : decode cX3_addRiver 35 = .ok (.aload_n 0, 1) := by decide +kernel
theorem dX3_addRiver_36 : decode cX3_addRiver 36 = .ok (.getfield 28, 3) := by decide +kernel
theorem dX3_addRiver_39 : decode cX3_addRiver 39 = .ok (.invokevirtual 100, 3) := by decide +kernel
theorem dX3_addRiver_42 : decode cX3_addRiver 42 = .ok (.ifCond .eq 6, 3) := by decide +kernel
theorem dX3_addRiver_45 : decode cX3_addRiver 45 = .ok (.bipush (-6), 2) := by decide +kernel
theorem dX3_addRiver_47 : decode cX3_addRiver 47 = .ok (.ireturn, 1) := by decide +kernel
theorem dX3_addRiver_48 : decode cX3_addRiver 48 = .ok (.aload_n 0, 1) := by decide +kernel
theorem dX3_addRiver_49 : decode cX3_addRiver 49 = .ok (.getfield 28, 3) := by decide +kernel
theorem dX3_addRiver_52 : decode cX3_addRiver 52 = .ok (.iload_n 1, 1) := by decide +kernel
theorem dX3_addRiver_53 : decode cX3_addRiver 53 = .ok (.iload_n 2, 1) := by decide +kernel
theorem dX3_addRiver_54 : decode cX3_addRiver 54 = .ok (.iload_n 3, 1) := by decide +kernel
theorem dX3_addRiver_55 : decode cX3_addRiver 55 = .ok (.invokevirtual 101, 3) := by decide +kernel
theorem dX3_addRiver_58 : decode cX3_addRiver 58 = .ok (.ireturn, 1) := by decide +kernel
theorem dX3_changeMoon_0 : decode cX3_changeMoon 0 = .ok (.aload_n 0, 1) := by decide +kernel
theorem dX3_changeMoon_1 : decode cX3_changeMoon 1 = .ok (.iload_n 1, 1) := by decide +kernel
theorem dX3_changeMoon_2 : decode cX3_changeMoon 2 = .ok (.putfield 39, 3) := by decide +kernel
theorem dX3_changeMoon_5 : decode cX3_changeMoon 5 = .ok (.aload_n 0, 1) := by decide +kernel
theorem dX3_changeMoon_6 : decode cX3_changeMoon 6 = .ok (.iload_n 2, 1) := by decide +kernel
theorem dX3_changeMoon_7 : decode cX3_changeMoon 7 = .ok (.putfield 43, 3) := by decide +kernel
theorem dX3_changeMoon_10 : decode cX3_changeMoon 10 = .ok (.return_, 1) := by decide +kernel
theorem dX3_kindNow_0 : decode cX3_kindNow 0 = .ok (.aload_n 0, 1) := by decide +kernel
theorem dX3_kindNow_1 : decode cX3_kindNow 1 = .ok (.getfield 39, 3) := by decide +kernel
theorem dX3_kindNow_4 : decode cX3_kindNow 4 = .ok (.iconst 1, 1) := by decide +kernel
theorem dX3_kindNow_5 : decode cX3_kindNow 5 = .ok (.if_icmp .ge 7, 3) := by decide +kernel
theorem dX3_kindNow_8 : decode cX3_kindNow 8 = .ok (.iconst 0, 1) := by decide +kernel
theorem dX3_kindNow_9 : decode cX3_kindNow 9 = .ok (.goto 19, 3) := by decide +kernel
theorem dX3_kindNow_12 : decode cX3_kindNow 12 = .ok (.aload_n 0, 1) := by decide +kernel
theorem dX3_kindNow_13 : decode cX3_kindNow 13 = .ok (.getfield 43, 3) := by decide +kernel
theorem dX3_kindNow_16 : decode cX3_kindNow 16 = .ok (.aload_n 0, 1) := by decide +kernel
theorem dX3_kindNow_17 : decode cX3_kindNow 17 = .ok (.getfield 46, 3) := by decide +kernel
theorem dX3_kindNow_20 : decode cX3_kindNow 20 = .ok (.aload_n 0, 1) := by decide +kernel
theorem dX3_kindNow_21 : decode cX3_kindNow 21 = .ok (.getfield 39, 3) := by decide +kernel
theorem dX3_kindNow_24 : decode cX3_kindNow 24 = .ok (.irem, 1) := by decide +kernel
theorem dX3_kindNow_25 : decode cX3_kindNow 25 = .ok (.ishr, 1) := by decide +kernel
theorem dX3_kindNow_26 : decode cX3_kindNow 26 = .ok (.iconst 1, 1) := by decide +kernel
theorem dX3_kindNow_27 : decode cX3_kindNow 27 = .ok (.iand, 1) := by decide +kernel
theorem dX3_kindNow_28 : decode cX3_kindNow 28 = .ok (.ireturn, 1) := by decide +kernel
theorem dX3_goBy_0 : decode cX3_goBy 0 = .ok (.aload_n 0, 1) := by decide +kernel
theorem dX3_goBy_1 : decode cX3_goBy 1 = .ok (.invokevirtual 103, 3) := by decide +kernel
theorem dX3_goBy_4 : decode cX3_goBy 4 = .ok (.istore_n 2, 1) := by decide +kernel
theorem dX3_goBy_5 : decode cX3_goBy 5 = .ok (.iload_n 2, 1) := by decide +kernel
theorem dX3_goBy_6 : decode cX3_goBy 6 = .ok (.ifCond .ne 10, 3) := by decide +kernel
theorem dX3_goBy_9 : decode cX3_goBy 9 = .ok (.aload_n 0, 1) := by decide +kernel
theorem dX3_goBy_10 : decode cX3_goBy 10 = .ok (.getfield 12, 3) := by decide +kernel
theorem dX3_goBy_13 : decode cX3_goBy 13 = .ok (.invokevirtual 107, 3) := by decide +kernel
theorem dX3_goBy_16 : decode cX3_goBy 16 = .ok (.aload_n 0, 1) := by decide +kernel
theorem dX3_goBy_17 : decode cX3_goBy 17 = .ok (.iload_n 2, 1) := by decide +kernel
theorem dX3_goBy_18 : decode cX3_goBy 18 = .ok (.invokevirtual 110, 3) := by decide +kernel
theorem dX3_goBy_21 : decode cX3_goBy 21 = .ok (.aload_n 0, 1) := by decide +kernel
theorem dX3_goBy_22 : decode cX3_goBy 22 = .ok (.invokevirtual 114, 3) := by decide +kernel
theorem dX3_goBy_25 : decode cX3_goBy 25 = .ok (.aload_n 0, 1) := by decide +kernel
theorem dX3_goBy_26 : decode cX3_goBy 26 = .ok (.getfield 12, 3) := by decide +kernel
theorem dX3_goBy_29 : decode cX3_goBy 29 = .ok (.invokevirtual 117, 3) := by decide +kernel
theorem dX3_goBy_32 : decode cX3_goBy 32 = .ok (.aload_n 0, 1) := by decide +kernel
theorem dX3_goBy_33 : decode cX3_goBy 33 = .ok (.iload_n 1, 1) := by decide +kernel
theorem dX3_goBy_34 : decode cX3_goBy 34 = .ok (.iconst (-1), 1) := by decide +kernel
theorem dX3_goBy_35 : decode cX3_goBy 35 = .ok (.if_icmp .ne 11, 3) := by decide +kernel
theorem dX3_goBy_38 : decode cX3_goBy 38 = .ok (.aload_n 0, 1) := by decide +kernel
theorem dX3_goBy_39 : decode cX3_goBy 39 = .ok (.iload_n 2, 1) := by decide +kernel
theorem dX3_goBy_40 : decode cX3_goBy 40 = .ok (.invokevirtual 120, 3) := by decide +kernel
theorem dX3_goBy_43 : decode cX3_goBy 43 = .ok (.goto 4, 3) := by decide +kernel
theorem dX3_goBy_46 : decode cX3_goBy 46 = .ok (.iload_n 1, 1) := by decide +kernel
theorem dX3_goBy_47 : decode cX3_goBy 47 = .ok (.invokevirtual 124, 3) := by decide +kernel
theorem dX3_goBy_50 : decode cX3_goBy 50 = .ok (.aload_n 0, 1) := by decide +kernel
theorem dX3_goBy_51 : decode cX3_goBy 51 = .ok (.dup, 1) := by decide +kernel
theorem dX3_goBy_52 : decode cX3_goBy 52 = .ok (.getfield 46, 3) := by decide +kernel
theorem dX3_goBy_55 : decode cX3_goBy 55 = .ok (.iconst 1, 1) := by decide +kernel
theorem dX3_goBy_56 : decode cX3_goBy 56 = .ok (.iadd, 1) := by decide +kernel
theorem dX3_goBy_57 : decode cX3_goBy 57 = .ok (.putfield 46, 3) := by decide +kernel
theorem dX3_goBy_60 : decode cX3_goBy 60 = .ok (.return_, 1) := by decide +kernel
theorem dX3_goOn_0 : decode cX3_goOn 0 = .ok (.iconst 0, 1) := by decide +kernel
theorem dX3_goOn_1 : decode cX3_goOn 1 = .ok (.istore_n 3, 1) := by decide +kernel
theorem dX3_goOn_2 : decode cX3_goOn 2 = .ok (.iload_n 3, 1) := by decide +kernel
theorem dX3_goOn_3 : decode cX3_goOn 3 = .ok (.iload_n 1, 1) := by decide +kernel
theorem dX3_goOn_4 : decode cX3_goOn 4 = .ok (.if_icmp .ge 14, 3) := by decide +kernel
theorem dX3_goOn_7 : decode cX3_goOn 7 = .ok (.aload_n 0, 1) := by decide +kernel
theorem dX3_goOn_8 : decode cX3_goOn 8 = .ok (.iload_n 2, 1) := by decide +kernel
theorem dX3_goOn_9 : decode cX3_goOn 9 = .ok (.invokevirtual 127, 3) := by decide +kernel
theorem dX3_goOn_12 : decode cX3_goOn 12 = .ok (.iinc 3 1, 3) := by decide +kernel
theorem dX3_goOn_15 : decode cX3_goOn 15 = .ok (.goto (-13), 3) := by decide +kernel
theorem dX3_goOn_18 : decode cX3_goOn 18 = .ok (.return_, 1) := by decide +kernel
theorem dX3_carry_0 : decode cX3_carry 0 = .ok (.aload_n 0, 1) := by decide +kernel
theorem dX3_carry_1 : decode cX3_carry 1 = .ok (.getfield 12, 3) := by decide +kernel
theorem dX3_carry_4 : decode cX3_carry 4 = .ok (.getfield 130, 3) := by decide +kernel
theorem dX3_carry_7 : decode cX3_carry 7 = .ok (.iconst 0, 1) := by decide +kernel
theorem dX3_carry_8 : decode cX3_carry 8 = .ok (.aload_n 0, 1) := by decide +kernel
theorem dX3_carry_9 : decode cX3_carry 9 = .ok (.getfield 61, 3) := by decide +kernel
theorem dX3_carry_12 : decode cX3_carry 12 = .ok (.iconst 0, 1) := by decide +kernel
theorem dX3_carry_13 : decode cX3_carry 13 = .ok (.aload_n 0, 1) := by decide +kernel
theorem dX3_carry_14 : decode cX3_carry 14 = .ok (.getfield 61, 3) := by decide +kernel
theorem dX3_carry_17 : decode cX3_carry 17 = .ok (.arraylength, 1) := by decide +kernel
theorem dX3_carry_18 : decode cX3_carry 18 = .ok (.invokestatic 133, 3) := by decide +kernel
theorem dX3_carry_21 : decode cX3_carry 21 = .ok (.iconst 0, 1) := by decide +kernel
theorem dX3_carry_22 : decode cX3_carry 22 = .ok (.istore_n 2, 1) := by decide +kernel
theorem dX3_carry_23 : decode cX3_carry 23 = .ok (.iload_n 2, 1) := by decide +kernel
theorem dX3_carry_24 : decode cX3_carry 24 = .ok (.aload_n 0, 1) := by decide +kernel
theorem dX3_carry_25 : decode cX3_carry 25 = .ok (.getfield 21, 3) := by decide +kernel
theorem dX3_carry_28 : decode cX3_carry 28 = .ok (.getfield 139, 3) := by decide +kernel
theorem dX3_carry_31 : decode cX3_carry 31 = .ok (.if_icmp .ge 116, 3) := by decide +kernel
theorem dX3_carry_34 : decode cX3_carry 34 = .ok (.iload_n 2, 1) := by decide +kernel
theorem dX3_carry_35 : decode cX3_carry 35 = .ok (.bipush 24, 2) := by decide +kernel
theorem dX3_carry_37 : decode cX3_carry 37 = .ok (.if_icmp .ge 110, 3) := by decide +kernel
theorem dX3_carry_40 : decode cX3_carry 40 = .ok (.aload_n 0, 1) := by decide +kernel
theorem dX3_carry_41 : decode cX3_carry 41 = .ok (.getfield 21, 3) := by decide +kernel
theorem dX3_carry_44 : decode cX3_carry 44 = .ok (.getfield 142, 3) := by decide +kernel
theorem dX3_carry_47 : decode cX3_carry 47 = .ok (.iload_n 2, 1) := by decide +kernel
theorem dX3_carry_48 : decode cX3_carry 48 = .ok (.iaload, 1) := by decide +kernel
theorem dX3_carry_49 : decode cX3_carry 49 = .ok (.iload_n 1, 1) := by decide +kernel
theorem dX3_carry_50 : decode cX3_carry 50 = .ok (.if_icmp .ne 91, 3) := by decide +kernel
theorem dX3_carry_53 : decode cX3_carry 53 = .ok (.aload_n 0, 1) := by decide +kernel
theorem dX3_carry_54 : decode cX3_carry 54 = .ok (.getfield 21, 3) := by decide +kernel
theorem dX3_carry_57 : decode cX3_carry 57 = .ok (.iload_n 2, 1) := by decide +kernel
theorem dX3_carry_58 : decode cX3_carry 58 = .ok (.invokevirtual 145, 3) := by decide +kernel
theorem dX3_carry_61 : decode cX3_carry 61 = .ok (.ifCond .ne 80, 3) := by decide +kernel
theorem dX3_carry_64 : decode cX3_carry 64 = .ok (.aload_n 0, 1) := by decide +kernel
theorem dX3_carry_65 : decode cX3_carry 65 = .ok (.getfield 21, 3) := by decide +kernel
theorem dX3_carry_68 : decode cX3_carry 68 = .ok (.getfield 148, 3) := by decide +kernel
theorem dX3_carry_71 : decode cX3_carry 71 = .ok (.iload_n 2, 1) := by decide +kernel
theorem dX3_carry_72 : decode cX3_carry 72 = .ok (.iaload, 1) := by decide +kernel
theorem dX3_carry_73 : decode cX3_carry 73 = .ok (.istore_n 3, 1) := by decide +kernel
theorem dX3_carry_74 : decode cX3_carry 74 = .ok (.aload_n 0, 1) := by decide +kernel
theorem dX3_carry_75 : decode cX3_carry 75 = .ok (.getfield 21, 3) := by decide +kernel
theorem dX3_carry_78 : decode cX3_carry 78 = .ok (.getfield 151, 3) := by decide +kernel
theorem dX3_carry_81 : decode cX3_carry 81 = .ok (.iload_n 2, 1) := by decide +kernel
theorem dX3_carry_82 : decode cX3_carry 82 = .ok (.iaload, 1) := by decide +kernel
theorem dX3_carry_83 : decode cX3_carry 83 = .ok (.iload_n 3, 1) := by decide +kernel
theorem dX3_carry_84 : decode cX3_carry 84 = .ok (.invokestatic 154, 3) := by decide +kernel
theorem dX3_carry_87 : decode cX3_carry 87 = .ok (.istore 4, 2) := by decide +kernel
theorem dX3_carry_89 : decode cX3_carry 89 = .ok (.aload_n 0, 1) := by decide +kernel
theorem dX3_carry_90 : decode cX3_carry 90 = .ok (.getfield 61, 3) := by decide +kernel
theorem dX3_carry_93 : decode cX3_carry 93 = .ok (.iload 4, 2) := by decide +kernel
theorem dX3_carry_95 : decode cX3_carry 95 = .ok (.iaload, 1) := by decide +kernel
theorem dX3_carry_96 : decode cX3_carry 96 = .ok (.aload_n 0, 1) := by decide +kernel
theorem dX3_carry_97 : decode cX3_carry 97 = .ok (.getfield 21, 3) := by decide +kernel
theorem dX3_carry_100 : decode cX3_carry 100 = .ok (.getfield 158, 3) := by decide +kernel
theorem dX3_carry_103 : decode cX3_carry 103 = .ok (.iload_n 2, 1) := by decide +kernel
theorem dX3_carry_104 : decode cX3_carry 104 = .ok (.iaload, 1) := by decide +kernel
theorem dX3_carry_105 : decode cX3_carry 105 = .ok (.invokestatic 161, 3) := by decide +kernel
theorem dX3_carry_108 : decode cX3_carry 108 = .ok (.istore 5, 2) := by decide +kernel
theorem dX3_carry_110 : decode cX3_carry 110 = .ok (.aload_n 0, 1) := by decide +kernel
theorem dX3_carry_111 : decode cX3_carry 111 = .ok (.getfield 12, 3) := by decide +kernel
theorem dX3_carry_114 : decode cX3_carry 114 = .ok (.getfield 130, 3) := by decide +kernel
theorem dX3_carry_117 : decode cX3_carry 117 = .ok (.iload 4, 2) := by decide +kernel
theorem dX3_carry_119 : decode cX3_carry 119 = .ok (.dup2, 1) := by decide +kernel
theorem dX3_carry_120 : decode cX3_carry 120 = .ok (.iaload, 1) := by decide +kernel
theorem dX3_carry_121 : decode cX3_carry 121 = .ok (.iload 5, 2) := by decide +kernel
theorem dX3_carry_123 : decode cX3_carry 123 = .ok (.isub, 1) := by decide +kernel
theorem dX3_carry_124 : decode cX3_carry 124 = .ok (.iastore, 1) := by decide +kernel
theorem dX3_carry_125 : decode cX3_carry 125 = .ok (.aload_n 0, 1) := by decide +kernel
theorem dX3_carry_126 : decode cX3_carry 126 = .ok (.aload_n 0, 1) := by decide +kernel
theorem dX3_carry_127 : decode cX3_carry 127 = .ok (.getfield 21, 3) := by decide +kernel
theorem dX3_carry_130 : decode cX3_carry 130 = .ok (.getfield 164, 3) := by decide +kernel
theorem dX3_carry_133 : decode cX3_carry 133 = .ok (.iload_n 2, 1) := by decide +kernel
theorem dX3_carry_134 : decode cX3_carry 134 = .ok (.iaload, 1) := by decide +kernel
theorem dX3_carry_135 : decode cX3_carry 135 = .ok (.iload_n 3, 1) := by decide +kernel
theorem dX3_carry_136 : decode cX3_carry 136 = .ok (.iload 5, 2) := by decide +kernel
theorem dX3_carry_138 : decode cX3_carry 138 = .ok (.invokevirtual 167, 3) := by decide +kernel
theorem dX3_carry_141 : decode cX3_carry 141 = .ok (.iinc 2 1, 3) := by decide +kernel
theorem dX3_carry_144 : decode cX3_carry 144 = .ok (.goto (-121), 3) := by decide +kernel
theorem dX3_carry_147 : decode cX3_carry 147 = .ok (.return_, 1) := by decide +kernel
theorem dX3_bring_0 : decode cX3_bring 0 = .ok (.iconst 0, 1) := by decide +kernel
theorem dX3_bring_1 : decode cX3_bring 1 = .ok (.istore_n 1, 1) := by decide +kernel
theorem dX3_bring_2 : decode cX3_bring 2 = .ok (.iload_n 1, 1) := by decide +kernel
theorem dX3_bring_3 : decode cX3_bring 3 = .ok (.aload_n 0, 1) := by decide +kernel
theorem dX3_bring_4 : decode cX3_bring 4 = .ok (.getfield 28, 3) := by decide +kernel
theorem dX3_bring_7 : decode cX3_bring 7 = .ok (.getfield 171, 3) := by decide +kernel
theorem dX3_bring_10 : decode cX3_bring 10 = .ok (.if_icmp .ge 56, 3) := by decide +kernel
theorem dX3_bring_13 : decode cX3_bring 13 = .ok (.iload_n 1, 1) := by decide +kernel
theorem dX3_bring_14 : decode cX3_bring 14 = .ok (.bipush 8, 2) := by decide +kernel
theorem dX3_bring_16 : decode cX3_bring 16 = .ok (.if_icmp .ge 50, 3) := by decide +kernel
theorem dX3_bring_19 : decode cX3_bring 19 = .ok (.aload_n 0, 1) := by decide +kernel
theorem dX3_bring_20 : decode cX3_bring 20 = .ok (.getfield 12, 3) := by decide +kernel
theorem dX3_bring_23 : decode cX3_bring 23 = .ok (.getfield 130, 3) := by decide +kernel
theorem dX3_bring_26 : decode cX3_bring 26 = .ok (.aload_n 0, 1) := by decide +kernel
theorem dX3_bring_27 : decode cX3_bring 27 = .ok (.getfield 28, 3) := by decide +kernel
theorem dX3_bring_30 : decode cX3_bring 30 = .ok (.getfield 172, 3) := by decide +kernel
theorem dX3_bring_33 : decode cX3_bring 33 = .ok (.iload_n 1, 1) := by decide +kernel
theorem dX3_bring_34 : decode cX3_bring 34 = .ok (.iaload, 1) := by decide +kernel
theorem dX3_bring_35 : decode cX3_bring 35 = .ok (.aload_n 0, 1) := by decide +kernel
theorem dX3_bring_36 : decode cX3_bring 36 = .ok (.getfield 28, 3) := by decide +kernel
theorem dX3_bring_39 : decode cX3_bring 39 = .ok (.getfield 175, 3) := by decide +kernel
theorem dX3_bring_42 : decode cX3_bring 42 = .ok (.iload_n 1, 1) := by decide +kernel
theorem dX3_bring_43 : decode cX3_bring 43 = .ok (.iaload, 1) := by decide +kernel
theorem dX3_bring_44 : decode cX3_bring 44 = .ok (.invokestatic 154, 3) := by decide +kernel
theorem dX3_bring_47 : decode cX3_bring 47 = .ok (.dup2, 1) := by decide +kernel
theorem dX3_bring_48 : decode cX3_bring 48 = .ok (.iaload, 1) := by decide +kernel
theorem dX3_bring_49 : decode cX3_bring 49 = .ok (.aload_n 0, 1) := by decide +kernel
theorem dX3_bring_50 : decode cX3_bring 50 = .ok (.getfield 28, 3) := by decide +kernel
theorem dX3_bring_53 : decode cX3_bring 53 = .ok (.getfield 176, 3) := by decide +kernel
theorem dX3_bring_56 : decode cX3_bring 56 = .ok (.iload_n 1, 1) := by decide +kernel
theorem dX3_bring_57 : decode cX3_bring 57 = .ok (.iaload, 1) := by decide +kernel
theorem dX3_bring_58 : decode cX3_bring 58 = .ok (.iadd, 1) := by decide +kernel
theorem dX3_bring_59 : decode cX3_bring 59 = .ok (.iastore, 1) := by decide +kernel
theorem dX3_bring_60 : decode cX3_bring 60 = .ok (.iinc 1 1, 3) := by decide +kernel
theorem dX3_bring_63 : decode cX3_bring 63 = .ok (.goto (-61), 3) := by decide +kernel
theorem dX3_bring_66 : decode cX3_bring 66 = .ok (.return_, 1) := by decide +kernel
theorem dX3_drop_0 : decode cX3_drop 0 = .ok (.aload_n 0, 1) := by decide +kernel
theorem dX3_drop_1 : decode cX3_drop 1 = .ok (.getfield 12, 3) := by decide +kernel
theorem dX3_drop_4 : decode cX3_drop 4 = .ok (.iload_n 1, 1) := by decide +kernel
theorem dX3_drop_5 : decode cX3_drop 5 = .ok (.invokevirtual 78, 3) := by decide +kernel
theorem dX3_drop_8 : decode cX3_drop 8 = .ok (.ifCond .eq 23, 3) := by decide +kernel
theorem dX3_drop_11 : decode cX3_drop 11 = .ok (.aload_n 0, 1) := by decide +kernel
theorem dX3_drop_12 : decode cX3_drop 12 = .ok (.getfield 12, 3) := by decide +kernel
theorem dX3_drop_15 : decode cX3_drop 15 = .ok (.getfield 130, 3) := by decide +kernel
theorem dX3_drop_18 : decode cX3_drop 18 = .ok (.iload_n 1, 1) := by decide +kernel
theorem dX3_drop_19 : decode cX3_drop 19 = .ok (.iload_n 2, 1) := by decide +kernel
theorem dX3_drop_20 : decode cX3_drop 20 = .ok (.invokestatic 154, 3) := by decide +kernel
theorem dX3_drop_23 : decode cX3_drop 23 = .ok (.dup2, 1) := by decide +kernel
theorem dX3_drop_24 : decode cX3_drop 24 = .ok (.iaload, 1) := by decide +kernel
theorem dX3_drop_25 : decode cX3_drop 25 = .ok (.iload_n 3, 1) := by decide +kernel
theorem dX3_drop_26 : decode cX3_drop 26 = .ok (.iadd, 1) := by decide +kernel
theorem dX3_drop_27 : decode cX3_drop 27 = .ok (.iastore, 1) := by decide +kernel
theorem dX3_drop_28 : decode cX3_drop 28 = .ok (.goto 13, 3) := by decide +kernel
theorem dX3_drop_31 : decode cX3_drop 31 = .ok (.aload_n 0, 1) := by decide +kernel
theorem dX3_drop_32 : decode cX3_drop 32 = .ok (.dup, 1) := by decide +kernel
theorem dX3_drop_33 : decode cX3_drop 33 = .ok (.getfield 49, 3) := by decide +kernel
theorem dX3_drop_36 : decode cX3_drop 36 = .ok (.iload_n 3, 1) := by decide +kernel
theorem dX3_drop_37 : decode cX3_drop 37 = .ok (.iadd, 1) := by decide +kernel
theorem dX3_drop_38 : decode cX3_drop 38 = .ok (.putfield 49, 3) := by decide +kernel
theorem dX3_drop_41 : decode cX3_drop 41 = .ok (.return_, 1) := by decide +kernel
theorem dX3_plannedCell_0 : decode cX3_plannedCell 0 = .ok (.aload_n 0, 1) := by decide +kernel
theorem dX3_plannedCell_1 : decode cX3_plannedCell 1 = .ok (.getfield 35, 3) := by decide +kernel
theorem dX3_plannedCell_4 : decode cX3_plannedCell 4 = .ok (.getfield 179, 3) := by decide +kernel
theorem dX3_plannedCell_7 : decode cX3_plannedCell 7 = .ok (.tableswitch 92 0 3 #[29, 44, 69, 77], 29) := by decide +kernel
theorem dX3_plannedCell_36 : decode cX3_plannedCell 36 = .ok (.aload_n 0, 1) := by decide +kernel
theorem dX3_plannedCell_37 : decode cX3_plannedCell 37 = .ok (.getfield 12, 3) := by decide +kernel
theorem dX3_plannedCell_40 : decode cX3_plannedCell 40 = .ok (.aload_n 0, 1) := by decide +kernel
theorem dX3_plannedCell_41 : decode cX3_plannedCell 41 = .ok (.getfield 35, 3) := by decide +kernel
theorem dX3_plannedCell_44 : decode cX3_plannedCell 44 = .ok (.getfield 182, 3) := by decide +kernel
theorem dX3_plannedCell_47 : decode cX3_plannedCell 47 = .ok (.invokevirtual 184, 3) := by decide +kernel
theorem dX3_plannedCell_50 : decode cX3_plannedCell 50 = .ok (.ireturn, 1) := by decide +kernel
theorem dX3_plannedCell_51 : decode cX3_plannedCell 51 = .ok (.iload_n 1, 1) := by decide +kernel
theorem dX3_plannedCell_52 : decode cX3_plannedCell 52 = .ok (.iconst 1, 1) := by decide +kernel
theorem dX3_plannedCell_53 : decode cX3_plannedCell 53 = .ok (.if_icmp .ne 20, 3) := by decide +kernel
theorem dX3_plannedCell_56 : decode cX3_plannedCell 56 = .ok (.aload_n 0, 1) := by decide +kernel
theorem dX3_plannedCell_57 : decode cX3_plannedCell 57 = .ok (.getfield 12, 3) := by decide +kernel
theorem dX3_plannedCell_60 : decode cX3_plannedCell 60 = .ok (.aload_n 0, 1) := by decide +kernel
theorem dX3_plannedCell_61 : decode cX3_plannedCell 61 = .ok (.getfield 35, 3) := by decide +kernel
theorem dX3_plannedCell_64 : decode cX3_plannedCell 64 = .ok (.getfield 182, 3) := by decide +kernel
theorem dX3_plannedCell_67 : decode cX3_plannedCell 67 = .ok (.invokevirtual 184, 3) := by decide +kernel
theorem dX3_plannedCell_70 : decode cX3_plannedCell 70 = .ok (.goto 5, 3) := by decide +kernel
theorem dX3_plannedCell_73 : decode cX3_plannedCell 73 = .ok (.bipush (-9), 2) := by decide +kernel
theorem dX3_plannedCell_75 : decode cX3_plannedCell 75 = .ok (.ireturn, 1) := by decide +kernel
theorem dX3_plannedCell_76 : decode cX3_plannedCell 76 = .ok (.aload_n 0, 1) := by decide +kernel
theorem dX3_plannedCell_77 : decode cX3_plannedCell 77 = .ok (.getfield 35, 3) := by decide +kernel
theorem dX3_plannedCell_80 : decode cX3_plannedCell 80 = .ok (.getfield 187, 3) := by decide +kernel
theorem dX3_plannedCell_83 : decode cX3_plannedCell 83 = .ok (.ireturn, 1) := by decide +kernel
theorem dX3_plannedCell_84 : decode cX3_plannedCell 84 = .ok (.aload_n 0, 1) := by decide +kernel
theorem dX3_plannedCell_85 : decode cX3_plannedCell 85 = .ok (.getfield 12, 3) := by decide +kernel
theorem dX3_plannedCell_88 : decode cX3_plannedCell 88 = .ok (.aload_n 0, 1) := by decide +kernel
theorem dX3_plannedCell_89 : decode cX3_plannedCell 89 = .ok (.getfield 35, 3) := by decide +kernel
theorem dX3_plannedCell_92 : decode cX3_plannedCell 92 = .ok (.getfield 182, 3) := by decide +kernel
theorem dX3_plannedCell_95 : decode cX3_plannedCell 95 = .ok (.invokevirtual 190, 3) := by decide +kernel
theorem dX3_plannedCell_98 : decode cX3_plannedCell 98 = .ok (.ireturn, 1) := by decide +kernel
theorem dX3_plannedCell_99 : decode cX3_plannedCell 99 = .ok (.iload_n 1, 1) := by decide +kernel
theorem dX3_plannedCell_100 : decode cX3_plannedCell 100 = .ok (.iconst 1, 1) := by decide +kernel
theorem dX3_plannedCell_101 : decode cX3_plannedCell 101 = .ok (.if_icmp .ne 20, 3) := by decide +kernel
theorem dX3_plannedCell_104 : decode cX3_plannedCell 104 = .ok (.aload_n 0, 1) := by decide +kernel
theorem dX3_plannedCell_105 : decode cX3_plannedCell 105 = .ok (.getfield 12, 3) := by decide +kernel
theorem dX3_plannedCell_108 : decode cX3_plannedCell 108 = .ok (.aload_n 0, 1) := by decide +kernel
theorem dX3_plannedCell_109 : decode cX3_plannedCell 109 = .ok (.getfield 35, 3) := by decide +kernel
theorem dX3_plannedCell_112 : decode cX3_plannedCell 112 = .ok (.getfield 182, 3) := by decide +kernel
theorem dX3_plannedCell_115 : decode cX3_plannedCell 115 = .ok (.invokevirtual 184, 3) := by decide +kernel
theorem dX3_plannedCell_118 : decode cX3_plannedCell 118 = .ok (.goto 10, 3) := by decide +kernel
theorem dX3_plannedCell_121 : decode cX3_plannedCell 121 = .ok (.aload_n 0, 1) := by decide +kernel
theorem dX3_plannedCell_122 : decode cX3_plannedCell 122 = .ok (.getfield 35, 3) := by decide +kernel
theorem dX3_plannedCell_125 : decode cX3_plannedCell 125 = .ok (.getfield 187, 3) := by decide +kernel
theorem dX3_plannedCell_128 : decode cX3_plannedCell 128 = .ok (.ireturn, 1) := by decide +kernel
theorem dX3_dredge_0 : decode cX3_dredge 0 = .ok (.aload_n 0, 1) := by decide +kernel
theorem dX3_dredge_1 : decode cX3_dredge 1 = .ok (.iconst 0, 1) := by decide +kernel
theorem dX3_dredge_2 : decode cX3_dredge 2 = .ok (.putfield 55, 3) := by decide +kernel
theorem dX3_dredge_5 : decode cX3_dredge 5 = .ok (.aload_n 0, 1) := by decide +kernel
theorem dX3_dredge_6 : decode cX3_dredge 6 = .ok (.iconst 0, 1) := by decide +kernel
theorem dX3_dredge_7 : decode cX3_dredge 7 = .ok (.putfield 58, 3) := by decide +kernel
theorem dX3_dredge_10 : decode cX3_dredge 10 = .ok (.aload_n 0, 1) := by decide +kernel
theorem dX3_dredge_11 : decode cX3_dredge 11 = .ok (.getfield 12, 3) := by decide +kernel
theorem dX3_dredge_14 : decode cX3_dredge 14 = .ok (.iload_n 1, 1) := by decide +kernel
theorem dX3_dredge_15 : decode cX3_dredge 15 = .ok (.invokevirtual 78, 3) := by decide +kernel
theorem dX3_dredge_18 : decode cX3_dredge 18 = .ok (.ifCond .eq 39, 3) := by decide +kernel
theorem dX3_dredge_21 : decode cX3_dredge 21 = .ok (.iload_n 1, 1) := by decide +kernel
theorem dX3_dredge_22 : decode cX3_dredge 22 = .ok (.aload_n 0, 1) := by decide +kernel
theorem dX3_dredge_23 : decode cX3_dredge 23 = .ok (.getfield 35, 3) := by decide +kernel
theorem dX3_dredge_26 : decode cX3_dredge 26 = .ok (.getfield 182, 3) := by decide +kernel
theorem dX3_dredge_29 : decode cX3_dredge 29 = .ok (.if_icmp .eq 28, 3) := by decide +kernel
theorem dX3_dredge_32 : decode cX3_dredge 32 = .ok (.aload_n 0, 1) := by decide +kernel
theorem dX3_dredge_33 : decode cX3_dredge 33 = .ok (.iload_n 1, 1) := by decide +kernel
theorem dX3_dredge_34 : decode cX3_dredge 34 = .ok (.iconst 1, 1) := by decide +kernel
theorem dX3_dredge_35 : decode cX3_dredge 35 = .ok (.invokevirtual 193, 3) := by decide +kernel
theorem dX3_dredge_38 : decode cX3_dredge 38 = .ok (.aload_n 0, 1) := by decide +kernel
theorem dX3_dredge_39 : decode cX3_dredge 39 = .ok (.iload_n 1, 1) := by decide +kernel
theorem dX3_dredge_40 : decode cX3_dredge 40 = .ok (.iconst 0, 1) := by decide +kernel
theorem dX3_dredge_41 : decode cX3_dredge 41 = .ok (.invokevirtual 193, 3) := by decide +kernel
theorem dX3_dredge_44 : decode cX3_dredge 44 = .ok (.aload_n 0, 1) := by decide +kernel
theorem dX3_dredge_45 : decode cX3_dredge 45 = .ok (.dup, 1) := by decide +kernel
theorem dX3_dredge_46 : decode cX3_dredge 46 = .ok (.getfield 52, 3) := by decide +kernel
theorem dX3_dredge_49 : decode cX3_dredge 49 = .ok (.aload_n 0, 1) := by decide +kernel
theorem dX3_dredge_50 : decode cX3_dredge 50 = .ok (.getfield 55, 3) := by decide +kernel
theorem dX3_dredge_53 : decode cX3_dredge 53 = .ok (.iadd, 1) := by decide +kernel
theorem dX3_dredge_54 : decode cX3_dredge 54 = .ok (.putfield 52, 3) := by decide +kernel
theorem dX3_dredge_57 : decode cX3_dredge 57 = .ok (.return_, 1) := by decide +kernel
theorem dX3_dredgeStuff_0 : decode cX3_dredgeStuff 0 = .ok (.iload_n 1, 1) := by decide +kernel
theorem dX3_dredgeStuff_1 : decode cX3_dredgeStuff 1 = .ok (.iload_n 2, 1) := by decide +kernel
theorem dX3_dredgeStuff_2 : decode cX3_dredgeStuff 2 = .ok (.invokestatic 154, 3) := by decide +kernel
theorem dX3_dredgeStuff_5 : decode cX3_dredgeStuff 5 = .ok (.istore_n 3, 1) := by decide +kernel
theorem dX3_dredgeStuff_6 : decode cX3_dredgeStuff 6 = .ok (.aload_n 0, 1) := by decide +kernel
theorem dX3_dredgeStuff_7 : decode cX3_dredgeStuff 7 = .ok (.getfield 35, 3) := by decide +kernel
theorem dX3_dredgeStuff_10 : decode cX3_dredgeStuff 10 = .ok (.getfield 197, 3) := by decide +kernel
theorem dX3_dredgeStuff_13 : decode cX3_dredgeStuff 13 = .ok (.aload_n 0, 1) := by decide +kernel
theorem dX3_dredgeStuff_14 : decode cX3_dredgeStuff 14 = .ok (.getfield 55, 3) := by decide +kernel
theorem dX3_dredgeStuff_17 : decode cX3_dredgeStuff 17 = .ok (.isub, 1) := by decide +kernel
theorem dX3_dredgeStuff_18 : decode cX3_dredgeStuff 18 = .ok (.aload_n 0, 1) := by decide +kernel
theorem dX3_dredgeStuff_19 : decode cX3_dredgeStuff 19 = .ok (.getfield 12, 3) := by decide +kernel
theorem dX3_dredgeStuff_22 : decode cX3_dredgeStuff 22 = .ok (.getfield 200, 3) := by decide +kernel
theorem dX3_dredgeStuff_25 : decode cX3_dredgeStuff 25 = .ok (.iload_n 3, 1) := by decide +kernel
theorem dX3_dredgeStuff_26 : decode cX3_dredgeStuff 26 = .ok (.iaload, 1) := by decide +kernel
theorem dX3_dredgeStuff_27 : decode cX3_dredgeStuff 27 = .ok (.invokestatic 203, 3) := by decide +kernel
theorem dX3_dredgeStuff_30 : decode cX3_dredgeStuff 30 = .ok (.istore 4, 2) := by decide +kernel
theorem dX3_dredgeStuff_32 : decode cX3_dredgeStuff 32 = .ok (.aload_n 0, 1) := by decide +kernel
theorem dX3_dredgeStuff_33 : decode cX3_dredgeStuff 33 = .ok (.getfield 12, 3) := by decide +kernel
theorem dX3_dredgeStuff_36 : decode cX3_dredgeStuff 36 = .ok (.getfield 200, 3) := by decide +kernel
theorem dX3_dredgeStuff_39 : decode cX3_dredgeStuff 39 = .ok (.iload_n 3, 1) := by decide +kernel
theorem dX3_dredgeStuff_40 : decode cX3_dredgeStuff 40 = .ok (.dup2, 1) := by decide +kernel
theorem dX3_dredgeStuff_41 : decode cX3_dredgeStuff 41 = .ok (.iaload, 1) := by decide +kernel
theorem dX3_dredgeStuff_42 : decode cX3_dredgeStuff 42 = .ok (.iload 4, 2) := by decide +kernel
theorem dX3_dredgeStuff_44 : decode cX3_dredgeStuff 44 = .ok (.isub, 1) := by decide +kernel
theorem dX3_dredgeStuff_45 : decode cX3_dredgeStuff 45 = .ok (.iastore, 1) := by decide +kernel
theorem dX3_dredgeStuff_46 : decode cX3_dredgeStuff 46 = .ok (.aload_n 0, 1) := by decide +kernel
theorem dX3_dredgeStuff_47 : decode cX3_dredgeStuff 47 = .ok (.dup, 1) := by decide +kernel
theorem dX3_dredgeStuff_48 : decode cX3_dredgeStuff 48 = .ok (.getfield 55, 3) := by decide +kernel
theorem dX3_dredgeStuff_51 : decode cX3_dredgeStuff 51 = .ok (.iload 4, 2) := by decide +kernel
theorem dX3_dredgeStuff_53 : decode cX3_dredgeStuff 53 = .ok (.iadd, 1) := by decide +kernel
theorem dX3_dredgeStuff_54 : decode cX3_dredgeStuff 54 = .ok (.putfield 55, 3) := by decide +kernel
theorem dX3_dredgeStuff_57 : decode cX3_dredgeStuff 57 = .ok (.aload_n 0, 1) := by decide +kernel
theorem dX3_dredgeStuff_58 : decode cX3_dredgeStuff 58 = .ok (.getfield 12, 3) := by decide +kernel
theorem dX3_dredgeStuff_61 : decode cX3_dredgeStuff 61 = .ok (.aload_n 0, 1) := by decide +kernel
theorem dX3_dredgeStuff_62 : decode cX3_dredgeStuff 62 = .ok (.getfield 35, 3) := by decide +kernel
theorem dX3_dredgeStuff_65 : decode cX3_dredgeStuff 65 = .ok (.getfield 182, 3) := by decide +kernel
theorem dX3_dredgeStuff_68 : decode cX3_dredgeStuff 68 = .ok (.invokevirtual 78, 3) := by decide +kernel
theorem dX3_dredgeStuff_71 : decode cX3_dredgeStuff 71 = .ok (.ifCond .ne 14, 3) := by decide +kernel
theorem dX3_dredgeStuff_74 : decode cX3_dredgeStuff 74 = .ok (.aload_n 0, 1) := by decide +kernel
theorem dX3_dredgeStuff_75 : decode cX3_dredgeStuff 75 = .ok (.dup, 1) := by decide +kernel
theorem dX3_dredgeStuff_76 : decode cX3_dredgeStuff 76 = .ok (.getfield 58, 3) := by decide +kernel
theorem dX3_dredgeStuff_79 : decode cX3_dredgeStuff 79 = .ok (.iload 4, 2) := by decide +kernel
theorem dX3_dredgeStuff_81 : decode cX3_dredgeStuff 81 = .ok (.iadd, 1) := by decide +kernel
theorem dX3_dredgeStuff_82 : decode cX3_dredgeStuff 82 = .ok (.putfield 58, 3) := by decide +kernel
theorem dX3_dredgeStuff_85 : decode cX3_dredgeStuff 85 = .ok (.aload_n 0, 1) := by decide +kernel
theorem dX3_dredgeStuff_86 : decode cX3_dredgeStuff 86 = .ok (.aload_n 0, 1) := by decide +kernel
theorem dX3_dredgeStuff_87 : decode cX3_dredgeStuff 87 = .ok (.getfield 35, 3) := by decide +kernel
theorem dX3_dredgeStuff_90 : decode cX3_dredgeStuff 90 = .ok (.getfield 182, 3) := by decide +kernel
theorem dX3_dredgeStuff_93 : decode cX3_dredgeStuff 93 = .ok (.iload_n 2, 1) := by decide +kernel
theorem dX3_dredgeStuff_94 : decode cX3_dredgeStuff 94 = .ok (.iload 4, 2) := by decide +kernel
theorem dX3_dredgeStuff_96 : decode cX3_dredgeStuff 96 = .ok (.invokevirtual 167, 3) := by decide +kernel
theorem dX3_dredgeStuff_99 : decode cX3_dredgeStuff 99 = .ok (.return_, 1) := by decide +kernel
theorem dX3_tideCosts_0 : decode cX3_tideCosts 0 = .ok (.aload_n 0, 1) := by decide +kernel
theorem dX3_tideCosts_1 : decode cX3_tideCosts 1 = .ok (.getfield 12, 3) := by decide +kernel
theorem dX3_tideCosts_4 : decode cX3_tideCosts 4 = .ok (.invokevirtual 208, 3) := by decide +kernel
theorem dX3_tideCosts_7 : decode cX3_tideCosts 7 = .ok (.aload_n 0, 1) := by decide +kernel
theorem dX3_tideCosts_8 : decode cX3_tideCosts 8 = .ok (.getfield 55, 3) := by decide +kernel
theorem dX3_tideCosts_11 : decode cX3_tideCosts 11 = .ok (.i2l, 1) := by decide +kernel
theorem dX3_tideCosts_12 : decode cX3_tideCosts 12 = .ok (.aload_n 0, 1) := by decide +kernel
theorem dX3_tideCosts_13 : decode cX3_tideCosts 13 = .ok (.getfield 35, 3) := by decide +kernel
theorem dX3_tideCosts_16 : decode cX3_tideCosts 16 = .ok (.getfield 212, 3) := by decide +kernel
theorem dX3_tideCosts_19 : decode cX3_tideCosts 19 = .ok (.i2l, 1) := by decide +kernel
theorem dX3_tideCosts_20 : decode cX3_tideCosts 20 = .ok (.lmul, 1) := by decide +kernel
theorem dX3_tideCosts_21 : decode cX3_tideCosts 21 = .ok (.ladd, 1) := by decide +kernel
theorem dX3_tideCosts_22 : decode cX3_tideCosts 22 = .ok (.ldc2_w 215, 3) := by decide +kernel
theorem dX3_tideCosts_25 : decode cX3_tideCosts 25 = .ok (.aload_n 0, 1) := by decide +kernel
theorem dX3_tideCosts_26 : decode cX3_tideCosts 26 = .ok (.getfield 58, 3) := by decide +kernel
theorem dX3_tideCosts_29 : decode cX3_tideCosts 29 = .ok (.i2l, 1) := by decide +kernel
theorem dX3_tideCosts_30 : decode cX3_tideCosts 30 = .ok (.lmul, 1) := by decide +kernel
theorem dX3_tideCosts_31 : decode cX3_tideCosts 31 = .ok (.ladd, 1) := by decide +kernel
theorem dX3_tideCosts_32 : decode cX3_tideCosts 32 = .ok (.lreturn, 1) := by decide +kernel
theorem dX3_runCosts_0 : decode cX3_runCosts 0 = .ok (.lconst 0, 1) := by decide +kernel
theorem dX3_runCosts_1 : decode cX3_runCosts 1 = .ok (.lstore 4, 2) := by decide +kernel
theorem dX3_runCosts_3 : decode cX3_runCosts 3 = .ok (.iconst 0, 1) := by decide +kernel
theorem dX3_runCosts_4 : decode cX3_runCosts 4 = .ok (.istore 6, 2) := by decide +kernel
theorem dX3_runCosts_6 : decode cX3_runCosts 6 = .ok (.iload 6, 2) := by decide +kernel
theorem dX3_runCosts_8 : decode cX3_runCosts 8 = .ok (.iload_n 1, 1) := by decide +kernel
theorem dX3_runCosts_9 : decode cX3_runCosts 9 = .ok (.if_icmp .ge 30, 3) := by decide +kernel
theorem dX3_runCosts_12 : decode cX3_runCosts 12 = .ok (.lload 4, 2) := by decide +kernel
theorem dX3_runCosts_14 : decode cX3_runCosts 14 = .ok (.lload_n 2, 1) := by decide +kernel
theorem dX3_runCosts_15 : decode cX3_runCosts 15 = .ok (.lcmp, 1) := by decide +kernel
theorem dX3_runCosts_16 : decode cX3_runCosts 16 = .ok (.ifCond .ge 23, 3) := by decide +kernel
theorem dX3_runCosts_19 : decode cX3_runCosts 19 = .ok (.aload_n 0, 1) := by decide +kernel
theorem dX3_runCosts_20 : decode cX3_runCosts 20 = .ok (.iconst (-1), 1) := by decide +kernel
theorem dX3_runCosts_21 : decode cX3_runCosts 21 = .ok (.invokevirtual 127, 3) := by decide +kernel
theorem dX3_runCosts_24 : decode cX3_runCosts 24 = .ok (.lload 4, 2) := by decide +kernel
theorem dX3_runCosts_26 : decode cX3_runCosts 26 = .ok (.aload_n 0, 1) := by decide +kernel
theorem dX3_runCosts_27 : decode cX3_runCosts 27 = .ok (.invokevirtual 217, 3) := by decide +kernel
theorem dX3_runCosts_30 : decode cX3_runCosts 30 = .ok (.ladd, 1) := by decide +kernel
theorem dX3_runCosts_31 : decode cX3_runCosts 31 = .ok (.lstore 4, 2) := by decide +kernel
theorem dX3_runCosts_33 : decode cX3_runCosts 33 = .ok (.iinc 6 1, 3) := by decide +kernel
theorem dX3_runCosts_36 : decode cX3_runCosts 36 = .ok (.goto (-30), 3) := by decide +kernel
theorem dX3_runCosts_39 : decode cX3_runCosts 39 = .ok (.lload 4, 2) := by decide +kernel
theorem dX3_runCosts_41 : decode cX3_runCosts 41 = .ok (.lreturn, 1) := by decide +kernel
theorem dX3_firstLack_0 : decode cX3_firstLack 0 = .ok (.iconst 0, 1) := by decide +kernel
theorem dX3_firstLack_1 : decode cX3_firstLack 1 = .ok (.istore_n 3, 1) := by decide +kernel
theorem dX3_firstLack_2 : decode cX3_firstLack 2 = .ok (.iload_n 3, 1) := by decide +kernel
theorem dX3_firstLack_3 : decode cX3_firstLack 3 = .ok (.iload_n 1, 1) := by decide +kernel
theorem dX3_firstLack_4 : decode cX3_firstLack 4 = .ok (.if_icmp .ge 26, 3) := by decide +kernel
theorem dX3_firstLack_7 : decode cX3_firstLack 7 = .ok (.aload_n 0, 1) := by decide +kernel
theorem dX3_firstLack_8 : decode cX3_firstLack 8 = .ok (.iload_n 2, 1) := by decide +kernel
theorem dX3_firstLack_9 : decode cX3_firstLack 9 = .ok (.invokevirtual 127, 3) := by decide +kernel
theorem dX3_firstLack_12 : decode cX3_firstLack 12 = .ok (.aload_n 0, 1) := by decide +kernel
theorem dX3_firstLack_13 : decode cX3_firstLack 13 = .ok (.getfield 12, 3) := by decide +kernel
theorem dX3_firstLack_16 : decode cX3_firstLack 16 = .ok (.invokevirtual 220, 3) := by decide +kernel
theorem dX3_firstLack_19 : decode cX3_firstLack 19 = .ok (.ifCond .eq 5, 3) := by decide +kernel
theorem dX3_firstLack_22 : decode cX3_firstLack 22 = .ok (.iload_n 3, 1) := by decide +kernel
theorem dX3_firstLack_23 : decode cX3_firstLack 23 = .ok (.ireturn, 1) := by decide +kernel
theorem dX3_firstLack_24 : decode cX3_firstLack 24 = .ok (.iinc 3 1, 3) := by decide +kernel
theorem dX3_firstLack_27 : decode cX3_firstLack 27 = .ok (.goto (-25), 3) := by decide +kernel
theorem dX3_firstLack_30 : decode cX3_firstLack 30 = .ok (.bipush (-9), 2) := by decide +kernel
theorem dX3_firstLack_32 : decode cX3_firstLack 32 = .ok (.ireturn, 1) := by decide +kernel
theorem dX4_init_0 : decode cX4_init 0 = .ok (.aload_n 0, 1) := by decide +kernel
theorem dX4_init_1 : decode cX4_init 1 = .ok (.invokespecial 3, 3) := by decide +kernel
theorem dX4_init_4 : decode cX4_init 4 = .ok (.aload_n 0, 1) := by decide +kernel
theorem dX4_init_5 : decode cX4_init 5 = .ok (.iconst 0, 1) := by decide +kernel
theorem dX4_init_6 : decode cX4_init 6 = .ok (.putfield 9, 3) := by decide +kernel
theorem dX4_init_9 : decode cX4_init 9 = .ok (.aload_n 0, 1) := by decide +kernel
theorem dX4_init_10 : decode cX4_init 10 = .ok (.bipush 8, 2) := by decide +kernel
theorem dX4_init_12 : decode cX4_init 12 = .ok (.newarray .int, 2) := by decide +kernel
theorem dX4_init_14 : decode cX4_init 14 = .ok (.putfield 15, 3) := by decide +kernel
theorem dX4_init_17 : decode cX4_init 17 = .ok (.aload_n 0, 1) := by decide +kernel
theorem dX4_init_18 : decode cX4_init 18 = .ok (.bipush 8, 2) := by decide +kernel
theorem dX4_init_20 : decode cX4_init 20 = .ok (.newarray .int, 2) := by decide +kernel
theorem dX4_init_22 : decode cX4_init 22 = .ok (.putfield 19, 3) := by decide +kernel
theorem dX4_init_25 : decode cX4_init 25 = .ok (.aload_n 0, 1) := by decide +kernel
theorem dX4_init_26 : decode cX4_init 26 = .ok (.bipush 8, 2) := by decide +kernel
theorem dX4_init_28 : decode cX4_init 28 = .ok (.newarray .int, 2) := by decide +kernel
theorem dX4_init_30 : decode cX4_init 30 = .ok (.putfield 22, 3) := by decide +kernel
theorem dX4_init_33 : decode cX4_init 33 = .ok (.return_, 1) := by decide +kernel
theorem dX4_become_0 : decode cX4_become 0 = .ok (.aload_n 0, 1) := by decide +kernel
theorem dX4_become_1 : decode cX4_become 1 = .ok (.aload_n 1, 1) := by decide +kernel
theorem dX4_become_2 : decode cX4_become 2 = .ok (.getfield 9, 3) := by decide +kernel
theorem dX4_become_5 : decode cX4_become 5 = .ok (.putfield 9, 3) := by decide +kernel
theorem dX4_become_8 : decode cX4_become 8 = .ok (.aload_n 1, 1) := by decide +kernel
theorem dX4_become_9 : decode cX4_become 9 = .ok (.getfield 15, 3) := by decide +kernel
theorem dX4_become_12 : decode cX4_become 12 = .ok (.iconst 0, 1) := by decide +kernel
theorem dX4_become_13 : decode cX4_become 13 = .ok (.aload_n 0, 1) := by decide +kernel
theorem dX4_become_14 : decode cX4_become 14 = .ok (.getfield 15, 3) := by decide +kernel
theorem dX4_become_17 : decode cX4_become 17 = .ok (.iconst 0, 1) := by decide +kernel
theorem dX4_become_18 : decode cX4_become 18 = .ok (.bipush 8, 2) := by decide +kernel
theorem dX4_become_20 : decode cX4_become 20 = .ok (.invokestatic 25, 3) := by decide +kernel
theorem dX4_become_23 : decode cX4_become 23 = .ok (.aload_n 1, 1) := by decide +kernel
theorem dX4_become_24 : decode cX4_become 24 = .ok (.getfield 19, 3) := by decide +kernel
theorem dX4_become_27 : decode cX4_become 27 = .ok (.iconst 0, 1) := by decide +kernel
theorem dX4_become_28 : decode cX4_become 28 = .ok (.aload_n 0, 1) := by decide +kernel
theorem dX4_become_29 : decode cX4_become 29 = .ok (.getfield 19, 3) := by decide +kernel
theorem dX4_become_32 : decode cX4_become 32 = .ok (.iconst 0, 1) := by decide +kernel
theorem dX4_become_33 : decode cX4_become 33 = .ok (.bipush 8, 2) := by decide +kernel
theorem dX4_become_35 : decode cX4_become 35 = .ok (.invokestatic 25, 3) := by decide +kernel
theorem dX4_become_38 : decode cX4_become 38 = .ok (.aload_n 1, 1) := by decide +kernel
theorem dX4_become_39 : decode cX4_become 39 = .ok (.getfield 22, 3) := by decide +kernel
theorem dX4_become_42 : decode cX4_become 42 = .ok (.iconst 0, 1) := by decide +kernel
theorem dX4_become_43 : decode cX4_become 43 = .ok (.aload_n 0, 1) := by decide +kernel
theorem dX4_become_44 : decode cX4_become 44 = .ok (.getfield 22, 3) := by decide +kernel
theorem dX4_become_47 : decode cX4_become 47 = .ok (.iconst 0, 1) := by decide +kernel
theorem dX4_become_48 : decode cX4_become 48 = .ok (.bipush 8, 2) := by decide +kernel
theorem dX4_become_50 : decode cX4_become 50 = .ok (.invokestatic 25, 3) := by decide +kernel
theorem dX4_become_53 : decode cX4_become 53 = .ok (.return_, 1) := by decide +kernel
theorem dX4_has_0 : decode cX4_has 0 = .ok (.iload_n 1, 1) := by decide +kernel
theorem dX4_has_1 : decode cX4_has 1 = .ok (.ifCond .lt 21, 3) := by decide +kernel
theorem dX4_has_4 : decode cX4_has 4 = .ok (.iload_n 1, 1) := by decide +kernel
theorem dX4_has_5 : decode cX4_has 5 = .ok (.aload_n 0, 1) := by decide +kernel
theorem dX4_has_6 : decode cX4_has 6 = .ok (.getfield 9, 3) := by decide +kernel
theorem dX4_has_9 : decode cX4_has 9 = .ok (.if_icmp .ge 13, 3) := by decide +kernel
theorem dX4_has_12 : decode cX4_has 12 = .ok (.iload_n 1, 1) := by decide +kernel
theorem dX4_has_13 : decode cX4_has 13 = .ok (.bipush 8, 2) := by decide +kernel
theorem dX4_has_15 : decode cX4_has 15 = .ok (.if_icmp .ge 7, 3) := by decide +kernel
theorem dX4_has_18 : decode cX4_has 18 = .ok (.iconst 1, 1) := by decide +kernel
theorem dX4_has_19 : decode cX4_has 19 = .ok (.goto 4, 3) := by decide +kernel
theorem dX4_has_22 : decode cX4_has 22 = .ok (.iconst 0, 1) := by decide +kernel
theorem dX4_has_23 : decode cX4_has 23 = .ok (.ireturn, 1) := by decide +kernel
theorem dX4_isFull_0 : decode cX4_isFull 0 = .ok (.aload_n 0, 1) := by decide +kernel
theorem dX4_isFull_1 : decode cX4_isFull 1 = .ok (.getfield 9, 3) := by decide +kernel
theorem dX4_isFull_4 : decode cX4_isFull 4 = .ok (.ifCond .lt 12, 3) := by decide +kernel
theorem dX4_isFull_7 : decode cX4_isFull 7 = .ok (.aload_n 0, 1) := by decide +kernel
theorem dX4_isFull_8 : decode cX4_isFull 8 = .ok (.getfield 9, 3) := by decide +kernel
theorem dX4_isFull_11 : decode cX4_isFull 11 = .ok (.bipush 8, 2) := by decide +kernel
theorem dX4_isFull_13 : decode cX4_isFull 13 = .ok (.if_icmp .lt 7, 3) := by decide +kernel
theorem dX4_isFull_16 : decode cX4_isFull 16 = .ok (.iconst 1, 1) := by decide +kernel
theorem dX4_isFull_17 : decode cX4_isFull 17 = .ok (.goto 4, 3) := by decide +kernel
theorem dX4_isFull_20 : decode cX4_isFull 20 = .ok (.iconst 0, 1) := by decide +kernel
theorem dX4_isFull_21 : decode cX4_isFull 21 = .ok (.ireturn, 1) := by decide +kernel
theorem dX4_add_0 : decode cX4_add 0 = .ok (.aload_n 0, 1) := by decide +kernel
theorem dX4_add_1 : decode cX4_add 1 = .ok (.invokevirtual 31, 3) := by decide +kernel
theorem dX4_add_4 : decode cX4_add 4 = .ok (.ifCond .eq 6, 3) := by decide +kernel
theorem dX4_add_7 : decode cX4_add 7 = .ok (.bipush (-6), 2) := by decide +kernel
theorem dX4_add_9 : decode cX4_add 9 = .ok (.ireturn, 1) := by decide +kernel
theorem dX4_add_10 : decode cX4_add 10 = .ok (.aload_n 0, 1) := by decide +kernel
theorem dX4_add_11 : decode cX4_add 11 = .ok (.getfield 9, 3) := by decide +kernel
theorem dX4_add_14 : decode cX4_add 14 = .ok (.istore 4, 2) := by decide +kernel
theorem dX4_add_16 : decode cX4_add 16 = .ok (.aload_n 0, 1) := by decide +kernel
theorem dX4_add_17 : decode cX4_add 17 = .ok (.dup, 1) := by decide +kernel
theorem dX4_add_18 : decode cX4_add 18 = .ok (.getfield 9, 3) := by decide +kernel
theorem dX4_add_21 : decode cX4_add 21 = .ok (.iconst 1, 1) := by decide +kernel
theorem dX4_add_22 : decode cX4_add 22 = .ok (.iadd, 1) := by decide +kernel
theorem dX4_add_23 : decode cX4_add 23 = .ok (.putfield 9, 3) := by decide +kernel
theorem dX4_add_26 : decode cX4_add 26 = .ok (.aload_n 0, 1) := by decide +kernel
theorem dX4_add_27 : decode cX4_add 27 = .ok (.getfield 15, 3) := by decide +kernel
theorem dX4_add_30 : decode cX4_add 30 = .ok (.iload 4, 2) := by decide +kernel
theorem dX4_add_32 : decode cX4_add 32 = .ok (.iload_n 1, 1) := by decide +kernel
theorem dX4_add_33 : decode cX4_add 33 = .ok (.iastore, 1) := by decide +kernel
theorem dX4_add_34 : decode cX4_add 34 = .ok (.aload_n 0, 1) := by decide +kernel
theorem dX4_add_35 : decode cX4_add 35 = .ok (.getfield 19, 3) := by decide +kernel
theorem dX4_add_38 : decode cX4_add 38 = .ok (.iload 4, 2) := by decide +kernel
theorem dX4_add_40 : decode cX4_add 40 = .ok (.iload_n 2, 1) := by decide +kernel
theorem dX4_add_41 : decode cX4_add 41 = .ok (.iastore, 1) := by decide +kernel
theorem dX4_add_42 : decode cX4_add 42 = .ok (.aload_n 0, 1) := by decide +kernel
theorem dX4_add_43 : decode cX4_add 43 = .ok (.getfield 22, 3) := by decide +kernel
theorem dX4_add_46 : decode cX4_add 46 = .ok (.iload 4, 2) := by decide +kernel
theorem dX4_add_48 : decode cX4_add 48 = .ok (.iload_n 3, 1) := by decide +kernel
theorem dX4_add_49 : decode cX4_add 49 = .ok (.iastore, 1) := by decide +kernel
theorem dX4_add_50 : decode cX4_add 50 = .ok (.iload 4, 2) := by decide +kernel
theorem dX4_add_52 : decode cX4_add 52 = .ok (.ireturn, 1) := by decide +kernel
theorem dX5_init_0 : decode cX5_init 0 = .ok (.aload_n 0, 1) := by decide +kernel
theorem dX5_init_1 : decode cX5_init 1 = .ok (.invokespecial 3, 3) := by decide +kernel
theorem dX5_init_4 : decode cX5_init 4 = .ok (.aload_n 0, 1) := by decide +kernel
theorem dX5_init_5 : decode cX5_init 5 = .ok (.iconst 0, 1) := by decide +kernel
theorem dX5_init_6 : decode cX5_init 6 = .ok (.putfield 9, 3) := by decide +kernel
theorem dX5_init_9 : decode cX5_init 9 = .ok (.aload_n 0, 1) := by decide +kernel
theorem dX5_init_10 : decode cX5_init 10 = .ok (.bipush 24, 2) := by decide +kernel
theorem dX5_init_12 : decode cX5_init 12 = .ok (.newarray .int, 2) := by decide +kernel
theorem dX5_init_14 : decode cX5_init 14 = .ok (.putfield 15, 3) := by decide +kernel
theorem dX5_init_17 : decode cX5_init 17 = .ok (.aload_n 0, 1) := by decide +kernel
theorem dX5_init_18 : decode cX5_init 18 = .ok (.bipush 24, 2) := by decide +kernel
theorem dX5_init_20 : decode cX5_init 20 = .ok (.newarray .int, 2) := by decide +kernel
theorem dX5_init_22 : decode cX5_init 22 = .ok (.putfield 19, 3) := by decide +kernel
theorem dX5_init_25 : decode cX5_init 25 = .ok (.aload_n 0, 1) := by decide +kernel
theorem dX5_init_26 : decode cX5_init 26 = .ok (.bipush 24, 2) := by decide +kernel
theorem dX5_init_28 : decode cX5_init 28 = .ok (.newarray .int, 2) := by decide +kernel
theorem dX5_init_30 : decode cX5_init 30 = .ok (.putfield 22, 3) := by decide +kernel
theorem dX5_init_33 : decode cX5_init 33 = .ok (.aload_n 0, 1) := by decide +kernel
theorem dX5_init_34 : decode cX5_init 34 = .ok (.bipush 24, 2) := by decide +kernel
theorem dX5_init_36 : decode cX5_init 36 = .ok (.newarray .int, 2) := by decide +kernel
theorem dX5_init_38 : decode cX5_init 38 = .ok (.putfield 25, 3) := by decide +kernel
theorem dX5_init_41 : decode cX5_init 41 = .ok (.aload_n 0, 1) := by decide +kernel
theorem dX5_init_42 : decode cX5_init 42 = .ok (.bipush 24, 2) := by decide +kernel
theorem dX5_init_44 : decode cX5_init 44 = .ok (.newarray .int, 2) := by decide +kernel
theorem dX5_init_46 : decode cX5_init 46 = .ok (.putfield 28, 3) := by decide +kernel
theorem dX5_init_49 : decode cX5_init 49 = .ok (.aload_n 0, 1) := by decide +kernel
theorem dX5_init_50 : decode cX5_init 50 = .ok (.iconst 0, 1) := by decide +kernel
theorem dX5_init_51 : decode cX5_init 51 = .ok (.putfield 31, 3) := by decide +kernel
theorem dX5_init_54 : decode cX5_init 54 = .ok (.return_, 1) := by decide +kernel
theorem dX5_become_0 : decode cX5_become 0 = .ok (.aload_n 0, 1) := by decide +kernel
theorem dX5_become_1 : decode cX5_become 1 = .ok (.aload_n 1, 1) := by decide +kernel
theorem dX5_become_2 : decode cX5_become 2 = .ok (.getfield 9, 3) := by decide +kernel
theorem dX5_become_5 : decode cX5_become 5 = .ok (.putfield 9, 3) := by decide +kernel
theorem dX5_become_8 : decode cX5_become 8 = .ok (.aload_n 1, 1) := by decide +kernel
theorem dX5_become_9 : decode cX5_become 9 = .ok (.getfield 15, 3) := by decide +kernel
theorem dX5_become_12 : decode cX5_become 12 = .ok (.iconst 0, 1) := by decide +kernel
theorem dX5_become_13 : decode cX5_become 13 = .ok (.aload_n 0, 1) := by decide +kernel
theorem dX5_become_14 : decode cX5_become 14 = .ok (.getfield 15, 3) := by decide +kernel
theorem dX5_become_17 : decode cX5_become 17 = .ok (.iconst 0, 1) := by decide +kernel
theorem dX5_become_18 : decode cX5_become 18 = .ok (.bipush 24, 2) := by decide +kernel
theorem dX5_become_20 : decode cX5_become 20 = .ok (.invokestatic 34, 3) := by decide +kernel
theorem dX5_become_23 : decode cX5_become 23 = .ok (.aload_n 1, 1) := by decide +kernel
theorem dX5_become_24 : decode cX5_become 24 = .ok (.getfield 19, 3) := by decide +kernel
theorem dX5_become_27 : decode cX5_become 27 = .ok (.iconst 0, 1) := by decide +kernel
theorem dX5_become_28 : decode cX5_become 28 = .ok (.aload_n 0, 1) := by decide +kernel
theorem dX5_become_29 : decode cX5_become 29 = .ok (.getfield 19, 3) := by decide +kernel
theorem dX5_become_32 : decode cX5_become 32 = .ok (.iconst 0, 1) := by decide +kernel
theorem dX5_become_33 : decode cX5_become 33 = .ok (.bipush 24, 2) := by decide +kernel
theorem dX5_become_35 : decode cX5_become 35 = .ok (.invokestatic 34, 3) := by decide +kernel
theorem dX5_become_38 : decode cX5_become 38 = .ok (.aload_n 1, 1) := by decide +kernel
theorem dX5_become_39 : decode cX5_become 39 = .ok (.getfield 22, 3) := by decide +kernel
theorem dX5_become_42 : decode cX5_become 42 = .ok (.iconst 0, 1) := by decide +kernel
theorem dX5_become_43 : decode cX5_become 43 = .ok (.aload_n 0, 1) := by decide +kernel
theorem dX5_become_44 : decode cX5_become 44 = .ok (.getfield 22, 3) := by decide +kernel
theorem dX5_become_47 : decode cX5_become 47 = .ok (.iconst 0, 1) := by decide +kernel
theorem dX5_become_48 : decode cX5_become 48 = .ok (.bipush 24, 2) := by decide +kernel
theorem dX5_become_50 : decode cX5_become 50 = .ok (.invokestatic 34, 3) := by decide +kernel
theorem dX5_become_53 : decode cX5_become 53 = .ok (.aload_n 1, 1) := by decide +kernel
theorem dX5_become_54 : decode cX5_become 54 = .ok (.getfield 25, 3) := by decide +kernel
theorem dX5_become_57 : decode cX5_become 57 = .ok (.iconst 0, 1) := by decide +kernel
theorem dX5_become_58 : decode cX5_become 58 = .ok (.aload_n 0, 1) := by decide +kernel
theorem dX5_become_59 : decode cX5_become 59 = .ok (.getfield 25, 3) := by decide +kernel
theorem dX5_become_62 : decode cX5_become 62 = .ok (.iconst 0, 1) := by decide +kernel
theorem dX5_become_63 : decode cX5_become 63 = .ok (.bipush 24, 2) := by decide +kernel
theorem dX5_become_65 : decode cX5_become 65 = .ok (.invokestatic 34, 3) := by decide +kernel
theorem dX5_become_68 : decode cX5_become 68 = .ok (.aload_n 1, 1) := by decide +kernel
theorem dX5_become_69 : decode cX5_become 69 = .ok (.getfield 28, 3) := by decide +kernel
theorem dX5_become_72 : decode cX5_become 72 = .ok (.iconst 0, 1) := by decide +kernel
theorem dX5_become_73 : decode cX5_become 73 = .ok (.aload_n 0, 1) := by decide +kernel
theorem dX5_become_74 : decode cX5_become 74 = .ok (.getfield 28, 3) := by decide +kernel
theorem dX5_become_77 : decode cX5_become 77 = .ok (.iconst 0, 1) := by decide +kernel
theorem dX5_become_78 : decode cX5_become 78 = .ok (.bipush 24, 2) := by decide +kernel
theorem dX5_become_80 : decode cX5_become 80 = .ok (.invokestatic 34, 3) := by decide +kernel
theorem dX5_become_83 : decode cX5_become 83 = .ok (.aload_n 0, 1) := by decide +kernel
theorem dX5_become_84 : decode cX5_become 84 = .ok (.aload_n 1, 1) := by decide +kernel
theorem dX5_become_85 : decode cX5_become 85 = .ok (.getfield 31, 3) := by decide +kernel
theorem dX5_become_88 : decode cX5_become 88 = .ok (.putfield 31, 3) := by decide +kernel
theorem dX5_become_91 : decode cX5_become 91 = .ok (.return_, 1) := by decide +kernel
theorem dX5_has_0 : decode cX5_has 0 = .ok (.iload_n 1, 1) := by decide +kernel
theorem dX5_has_1 : decode cX5_has 1 = .ok (.ifCond .lt 21, 3) := by decide +kernel
theorem dX5_has_4 : decode cX5_has 4 = .ok (.iload_n 1, 1) := by decide +kernel
theorem dX5_has_5 : decode cX5_has 5 = .ok (.aload_n 0, 1) := by decide +kernel
theorem dX5_has_6 : decode cX5_has 6 = .ok (.getfield 9, 3) := by decide +kernel
theorem dX5_has_9 : decode cX5_has 9 = .ok (.if_icmp .ge 13, 3) := by decide +kernel
theorem dX5_has_12 : decode cX5_has 12 = .ok (.iload_n 1, 1) := by decide +kernel
theorem dX5_has_13 : decode cX5_has 13 = .ok (.bipush 24, 2) := by decide +kernel
theorem dX5_has_15 : decode cX5_has 15 = .ok (.if_icmp .ge 7, 3) := by decide +kernel
theorem dX5_has_18 : decode cX5_has 18 = .ok (.iconst 1, 1) := by decide +kernel
theorem dX5_has_19 : decode cX5_has 19 = .ok (.goto 4, 3) := by decide +kernel
theorem dX5_has_22 : decode cX5_has 22 = .ok (.iconst 0, 1) := by decide +kernel
theorem dX5_has_23 : decode cX5_has 23 = .ok (.ireturn, 1) := by decide +kernel
theorem dX5_isFull_0 : decode cX5_isFull 0 = .ok (.aload_n 0, 1) := by decide +kernel
theorem dX5_isFull_1 : decode cX5_isFull 1 = .ok (.getfield 9, 3) := by decide +kernel
theorem dX5_isFull_4 : decode cX5_isFull 4 = .ok (.ifCond .lt 12, 3) := by decide +kernel
theorem dX5_isFull_7 : decode cX5_isFull 7 = .ok (.aload_n 0, 1) := by decide +kernel
theorem dX5_isFull_8 : decode cX5_isFull 8 = .ok (.getfield 9, 3) := by decide +kernel
theorem dX5_isFull_11 : decode cX5_isFull 11 = .ok (.bipush 24, 2) := by decide +kernel
theorem dX5_isFull_13 : decode cX5_isFull 13 = .ok (.if_icmp .lt 7, 3) := by decide +kernel
theorem dX5_isFull_16 : decode cX5_isFull 16 = .ok (.iconst 1, 1) := by decide +kernel
theorem dX5_isFull_17 : decode cX5_isFull 17 = .ok (.goto 4, 3) := by decide +kernel
theorem dX5_isFull_20 : decode cX5_isFull 20 = .ok (.iconst 0, 1) := by decide +kernel
theorem dX5_isFull_21 : decode cX5_isFull 21 = .ok (.ireturn, 1) := by decide +kernel
theorem dX5_isShut_0 : decode cX5_isShut 0 = .ok (.aload_n 0, 1) := by decide +kernel
theorem dX5_isShut_1 : decode cX5_isShut 1 = .ok (.getfield 31, 3) := by decide +kernel
theorem dX5_isShut_4 : decode cX5_isShut 4 = .ok (.iload_n 1, 1) := by decide +kernel
theorem dX5_isShut_5 : decode cX5_isShut 5 = .ok (.ishr, 1) := by decide +kernel
theorem dX5_isShut_6 : decode cX5_isShut 6 = .ok (.iconst 1, 1) := by decide +kernel
theorem dX5_isShut_7 : decode cX5_isShut 7 = .ok (.iand, 1) := by decide +kernel
theorem dX5_isShut_8 : decode cX5_isShut 8 = .ok (.iconst 1, 1) := by decide +kernel
theorem dX5_isShut_9 : decode cX5_isShut 9 = .ok (.if_icmp .ne 7, 3) := by decide +kernel
theorem dX5_isShut_12 : decode cX5_isShut 12 = .ok (.iconst 1, 1) := by decide +kernel
theorem dX5_isShut_13 : decode cX5_isShut 13 = .ok (.goto 4, 3) := by decide +kernel
theorem dX5_isShut_16 : decode cX5_isShut 16 = .ok (.iconst 0, 1) := by decide +kernel
theorem dX5_isShut_17 : decode cX5_isShut 17 = .ok (.ireturn, 1) := by decide +kernel
theorem dX5_turn_0 : decode cX5_turn 0 = .ok (.aload_n 0, 1) := by decide +kernel
theorem dX5_turn_1 : decode cX5_turn 1 = .ok (.dup, 1) := by decide +kernel
theorem dX5_turn_2 : decode cX5_turn 2 = .ok (.getfield 31, 3) := by decide +kernel
theorem dX5_turn_5 : decode cX5_turn 5 = .ok (.iconst 1, 1) := by decide +kernel
theorem dX5_turn_6 : decode cX5_turn 6 = .ok (.iload_n 1, 1) := by decide +kernel
theorem dX5_turn_7 : decode cX5_turn 7 = .ok (.ishl, 1) := by decide +kernel
