theorem dX0_init_0 : decode cX0_init 0 = .ok (.aload_n 0, 1) := by decide +kernel
theorem dX0_init_1 : decode cX0_init 1 = .ok (.invokespecial 3, 3) := by decide +kernel
theorem dX0_init_4 : decode cX0_init 4 = .ok (.aload_n 0, 1) := by decide +kernel
theorem dX0_init_5 : decode cX0_init 5 = .ok (.iconst 0, 1) := by decide +kernel
theorem dX0_init_6 : decode cX0_init 6 = .ok (.putfield 9, 3) := by decide +kernel
theorem dX0_init_9 : decode cX0_init 9 = .ok (.aload_n 0, 1) := by decide +kernel
theorem dX0_init_10 : decode cX0_init 10 = .ok (.bipush 8, 2) := by decide +kernel
theorem dX0_init_12 : decode cX0_init 12 = .ok (.newarray .int, 2) := by decide +kernel
theorem dX0_init_14 : decode cX0_init 14 = .ok (.putfield 15, 3) := by decide +kernel
theorem dX0_init_17 : decode cX0_init 17 = .ok (.aload_n 0, 1) := by decide +kernel
theorem dX0_init_18 : decode cX0_init 18 = .ok (.bipush 8, 2) := by decide +kernel
theorem dX0_init_20 : decode cX0_init 20 = .ok (.newarray .int, 2) := by decide +kernel
theorem dX0_init_22 : decode cX0_init 22 = .ok (.putfield 19, 3) := by decide +kernel
theorem dX0_init_25 : decode cX0_init 25 = .ok (.aload_n 0, 1) := by decide +kernel
theorem dX0_init_26 : decode cX0_init 26 = .ok (.bipush 8, 2) := by decide +kernel
theorem dX0_init_28 : decode cX0_init 28 = .ok (.newarray .int, 2) := by decide +kernel
theorem dX0_init_30 : decode cX0_init 30 = .ok (.putfield 22, 3) := by decide +kernel
theorem dX0_init_33 : decode cX0_init 33 = .ok (.aload_n 0, 1) := by decide +kernel
theorem dX0_init_34 : decode cX0_init 34 = .ok (.bipush 8, 2) := by decide +kernel
theorem dX0_init_36 : decode cX0_init 36 = .ok (.newarray .int, 2) := by decide +kernel
theorem dX0_init_38 : decode cX0_init 38 = .ok (.putfield 25, 3) := by decide +kernel
theorem dX0_init_41 : decode cX0_init 41 = .ok (.aload_n 0, 1) := by decide +kernel
theorem dX0_init_42 : decode cX0_init 42 = .ok (.bipush 8, 2) := by decide +kernel
theorem dX0_init_44 : decode cX0_init 44 = .ok (.newarray .int, 2) := by decide +kernel
theorem dX0_init_46 : decode cX0_init 46 = .ok (.putfield 28, 3) := by decide +kernel
theorem dX0_init_49 : decode cX0_init 49 = .ok (.aload_n 0, 1) := by decide +kernel
theorem dX0_init_50 : decode cX0_init 50 = .ok (.bipush 16, 2) := by decide +kernel
theorem dX0_init_52 : decode cX0_init 52 = .ok (.newarray .int, 2) := by decide +kernel
theorem dX0_init_54 : decode cX0_init 54 = .ok (.putfield 31, 3) := by decide +kernel
theorem dX0_init_57 : decode cX0_init 57 = .ok (.aload_n 0, 1) := by decide +kernel
theorem dX0_init_58 : decode cX0_init 58 = .ok (.bipush 16, 2) := by decide +kernel
theorem dX0_init_60 : decode cX0_init 60 = .ok (.newarray .int, 2) := by decide +kernel
theorem dX0_init_62 : decode cX0_init 62 = .ok (.putfield 34, 3) := by decide +kernel
theorem dX0_init_65 : decode cX0_init 65 = .ok (.return_, 1) := by decide +kernel
theorem dX0_become_0 : decode cX0_become 0 = .ok (.aload_n 0, 1) := by decide +kernel
theorem dX0_become_1 : decode cX0_become 1 = .ok (.aload_n 1, 1) := by decide +kernel
theorem dX0_become_2 : decode cX0_become 2 = .ok (.getfield 9, 3) := by decide +kernel
theorem dX0_become_5 : decode cX0_become 5 = .ok (.putfield 9, 3) := by decide +kernel
theorem dX0_become_8 : decode cX0_become 8 = .ok (.aload_n 1, 1) := by decide +kernel
theorem dX0_become_9 : decode cX0_become 9 = .ok (.getfield 15, 3) := by decide +kernel
theorem dX0_become_12 : decode cX0_become 12 = .ok (.iconst 0, 1) := by decide +kernel
theorem dX0_become_13 : decode cX0_become 13 = .ok (.aload_n 0, 1) := by decide +kernel
theorem dX0_become_14 : decode cX0_become 14 = .ok (.getfield 15, 3) := by decide +kernel
theorem dX0_become_17 : decode cX0_become 17 = .ok (.iconst 0, 1) := by decide +kernel
theorem dX0_become_18 : decode cX0_become 18 = .ok (.bipush 8, 2) := by decide +kernel
theorem dX0_become_20 : decode cX0_become 20 = .ok (.invokestatic 37, 3) := by decide +kernel
theorem dX0_become_23 : decode cX0_become 23 = .ok (.aload_n 1, 1) := by decide +kernel
theorem dX0_become_24 : decode cX0_become 24 = .ok (.getfield 19, 3) := by decide +kernel
theorem dX0_become_27 : decode cX0_become 27 = .ok (.iconst 0, 1) := by decide +kernel
theorem dX0_become_28 : decode cX0_become 28 = .ok (.aload_n 0, 1) := by decide +kernel
theorem dX0_become_29 : decode cX0_become 29 = .ok (.getfield 19, 3) := by decide +kernel
theorem dX0_become_32 : decode cX0_become 32 = .ok (.iconst 0, 1) := by decide +kernel
theorem dX0_become_33 : decode cX0_become 33 = .ok (.bipush 8, 2) := by decide +kernel
theorem dX0_become_35 : decode cX0_become 35 = .ok (.invokestatic 37, 3) := by decide +kernel
theorem dX0_become_38 : decode cX0_become 38 = .ok (.aload_n 1, 1) := by decide +kernel
theorem dX0_become_39 : decode cX0_become 39 = .ok (.getfield 22, 3) := by decide +kernel
theorem dX0_become_42 : decode cX0_become 42 = .ok (.iconst 0, 1) := by decide +kernel
theorem dX0_become_43 : decode cX0_become 43 = .ok (.aload_n 0, 1) := by decide +kernel
theorem dX0_become_44 : decode cX0_become 44 = .ok (.getfield 22, 3) := by decide +kernel
theorem dX0_become_47 : decode cX0_become 47 = .ok (.iconst 0, 1) := by decide +kernel
theorem dX0_become_48 : decode cX0_become 48 = .ok (.bipush 8, 2) := by decide +kernel
theorem dX0_become_50 : decode cX0_become 50 = .ok (.invokestatic 37, 3) := by decide +kernel
theorem dX0_become_53 : decode cX0_become 53 = .ok (.aload_n 1, 1) := by decide +kernel
theorem dX0_become_54 : decode cX0_become 54 = .ok (.getfield 25, 3) := by decide +kernel
theorem dX0_become_57 : decode cX0_become 57 = .ok (.iconst 0, 1) := by decide +kernel
theorem dX0_become_58 : decode cX0_become 58 = .ok (.aload_n 0, 1) := by decide +kernel
theorem dX0_become_59 : decode cX0_become 59 = .ok (.getfield 25, 3) := by decide +kernel
theorem dX0_become_62 : decode cX0_become 62 = .ok (.iconst 0, 1) := by decide +kernel
theorem dX0_become_63 : decode cX0_become 63 = .ok (.bipush 8, 2) := by decide +kernel
theorem dX0_become_65 : decode cX0_become 65 = .ok (.invokestatic 37, 3) := by decide +kernel
theorem dX0_become_68 : decode cX0_become 68 = .ok (.aload_n 1, 1) := by decide +kernel
theorem dX0_become_69 : decode cX0_become 69 = .ok (.getfield 28, 3) := by decide +kernel
theorem dX0_become_72 : decode cX0_become 72 = .ok (.iconst 0, 1) := by decide +kernel
theorem dX0_become_73 : decode cX0_become 73 = .ok (.aload_n 0, 1) := by decide +kernel
theorem dX0_become_74 : decode cX0_become 74 = .ok (.getfield 28, 3) := by decide +kernel
theorem dX0_become_77 : decode cX0_become 77 = .ok (.iconst 0, 1) := by decide +kernel
theorem dX0_become_78 : decode cX0_become 78 = .ok (.bipush 8, 2) := by decide +kernel
theorem dX0_become_80 : decode cX0_become 80 = .ok (.invokestatic 37, 3) := by decide +kernel
theorem dX0_become_83 : decode cX0_become 83 = .ok (.aload_n 1, 1) := by decide +kernel
theorem dX0_become_84 : decode cX0_become 84 = .ok (.getfield 31, 3) := by decide +kernel
theorem dX0_become_87 : decode cX0_become 87 = .ok (.iconst 0, 1) := by decide +kernel
theorem dX0_become_88 : decode cX0_become 88 = .ok (.aload_n 0, 1) := by decide +kernel
theorem dX0_become_89 : decode cX0_become 89 = .ok (.getfield 31, 3) := by decide +kernel
theorem dX0_become_92 : decode cX0_become 92 = .ok (.iconst 0, 1) := by decide +kernel
theorem dX0_become_93 : decode cX0_become 93 = .ok (.bipush 16, 2) := by decide +kernel
theorem dX0_become_95 : decode cX0_become 95 = .ok (.invokestatic 37, 3) := by decide +kernel
theorem dX0_become_98 : decode cX0_become 98 = .ok (.aload_n 1, 1) := by decide +kernel
theorem dX0_become_99 : decode cX0_become 99 = .ok (.getfield 34, 3) := by decide +kernel
theorem dX0_become_102 : decode cX0_become 102 = .ok (.iconst 0, 1) := by decide +kernel
theorem dX0_become_103 : decode cX0_become 103 = .ok (.aload_n 0, 1) := by decide +kernel
theorem dX0_become_104 : decode cX0_become 104 = .ok (.getfield 34, 3) := by decide +kernel
theorem dX0_become_107 : decode cX0_become 107 = .ok (.iconst 0, 1) := by decide +kernel
theorem dX0_become_108 : decode cX0_become 108 = .ok (.bipush 16, 2) := by decide +kernel
theorem dX0_become_110 : decode cX0_become 110 = .ok (.invokestatic 37, 3) := by decide +kernel
theorem dX0_become_113 : decode cX0_become 113 = .ok (.return_, 1) := by decide +kernel
theorem dX0_has_0 : decode cX0_has 0 = .ok (.iload_n 1, 1) := by decide +kernel
theorem dX0_has_1 : decode cX0_has 1 = .ok (.ifCond .lt 21, 3) := by decide +kernel
theorem dX0_has_4 : decode cX0_has 4 = .ok (.iload_n 1, 1) := by decide +kernel
theorem dX0_has_5 : decode cX0_has 5 = .ok (.aload_n 0, 1) := by decide +kernel
theorem dX0_has_6 : decode cX0_has 6 = .ok (.getfield 9, 3) := by decide +kernel
theorem dX0_has_9 : decode cX0_has 9 = .ok (.if_icmp .ge 13, 3) := by decide +kernel
theorem dX0_has_12 : decode cX0_has 12 = .ok (.iload_n 1, 1) := by decide +kernel
theorem dX0_has_13 : decode cX0_has 13 = .ok (.bipush 8, 2) := by decide +kernel
theorem dX0_has_15 : decode cX0_has 15 = .ok (.if_icmp .ge 7, 3) := by decide +kernel
theorem dX0_has_18 : decode cX0_has 18 = .ok (.iconst 1, 1) := by decide +kernel
theorem dX0_has_19 : decode cX0_has 19 = .ok (.goto 4, 3) := by decide +kernel
theorem dX0_has_22 : decode cX0_has 22 = .ok (.iconst 0, 1) := by decide +kernel
theorem dX0_has_23 : decode cX0_has 23 = .ok (.ireturn, 1) := by decide +kernel
theorem dX0_hasAll_0 : decode cX0_hasAll 0 = .ok (.iload_n 1, 1) := by decide +kernel
theorem dX0_hasAll_1 : decode cX0_hasAll 1 = .ok (.ifCond .lt 17, 3) := by decide +kernel
theorem dX0_hasAll_4 : decode cX0_hasAll 4 = .ok (.iload_n 1, 1) := by decide +kernel
theorem dX0_hasAll_5 : decode cX0_hasAll 5 = .ok (.iconst 1, 1) := by decide +kernel
theorem dX0_hasAll_6 : decode cX0_hasAll 6 = .ok (.aload_n 0, 1) := by decide +kernel
theorem dX0_hasAll_7 : decode cX0_hasAll 7 = .ok (.getfield 9, 3) := by decide +kernel
theorem dX0_hasAll_10 : decode cX0_hasAll 10 = .ok (.ishl, 1) := by decide +kernel
theorem dX0_hasAll_11 : decode cX0_hasAll 11 = .ok (.if_icmp .ge 7, 3) := by decide +kernel
theorem dX0_hasAll_14 : decode cX0_hasAll 14 = .ok (.iconst 1, 1) := by decide +kernel
theorem dX0_hasAll_15 : decode cX0_hasAll 15 = .ok (.goto 4, 3) := by decide +kernel
theorem dX0_hasAll_18 : decode cX0_hasAll 18 = .ok (.iconst 0, 1) := by decide +kernel
theorem dX0_hasAll_19 : decode cX0_hasAll 19 = .ok (.ireturn, 1) := by decide +kernel
theorem dX0_add_0 : decode cX0_add 0 = .ok (.iload_n 1, 1) := by decide +kernel
theorem dX0_add_1 : decode cX0_add 1 = .ok (.iconst 1, 1) := by decide +kernel
theorem dX0_add_2 : decode cX0_add 2 = .ok (.if_icmp .lt 7, 3) := by decide +kernel
theorem dX0_add_5 : decode cX0_add 5 = .ok (.iload_n 2, 1) := by decide +kernel
theorem dX0_add_6 : decode cX0_add 6 = .ok (.ifCond .ge 6, 3) := by decide +kernel
theorem dX0_add_9 : decode cX0_add 9 = .ok (.bipush (-4), 2) := by decide +kernel
theorem dX0_add_11 : decode cX0_add 11 = .ok (.ireturn, 1) := by decide +kernel
theorem dX0_add_12 : decode cX0_add 12 = .ok (.iload_n 1, 1) := by decide +kernel
theorem dX0_add_13 : decode cX0_add 13 = .ok (.bipush 99, 2) := by decide +kernel
theorem dX0_add_15 : decode cX0_add 15 = .ok (.if_icmp .gt 25, 3) := by decide +kernel
theorem dX0_add_18 : decode cX0_add 18 = .ok (.iload_n 2, 1) := by decide +kernel
theorem dX0_add_19 : decode cX0_add 19 = .ok (.bipush 99, 2) := by decide +kernel
theorem dX0_add_21 : decode cX0_add 21 = .ok (.if_icmp .gt 19, 3) := by decide +kernel
theorem dX0_add_24 : decode cX0_add 24 = .ok (.aload_n 0, 1) := by decide +kernel
theorem dX0_add_25 : decode cX0_add 25 = .ok (.getfield 9, 3) := by decide +kernel
theorem dX0_add_28 : decode cX0_add 28 = .ok (.ifCond .lt 12, 3) := by decide +kernel
theorem dX0_add_31 : decode cX0_add 31 = .ok (.aload_n 0, 1) := by decide +kernel
theorem dX0_add_32 : decode cX0_add 32 = .ok (.getfield 9, 3) := by decide +kernel
theorem dX0_add_35 : decode cX0_add 35 = .ok (.bipush 8, 2) := by decide +kernel
theorem dX0_add_37 : decode cX0_add 37 = .ok (.if_icmp .lt 6, 3) := by decide +kernel
theorem dX0_add_40 : decode cX0_add 40 = .ok (.bipush (-6), 2) := by decide +kernel
theorem dX0_add_42 : decode cX0_add 42 = .ok (.ireturn, 1) := by decide +kernel
theorem dX0_add_43 : decode cX0_add 43 = .ok (.aload_n 0, 1) := by decide +kernel
theorem dX0_add_44 : decode cX0_add 44 = .ok (.getfield 9, 3) := by decide +kernel
theorem dX0_add_47 : decode cX0_add 47 = .ok (.istore_n 3, 1) := by decide +kernel
theorem dX0_add_48 : decode cX0_add 48 = .ok (.aload_n 0, 1) := by decide +kernel
theorem dX0_add_49 : decode cX0_add 49 = .ok (.dup, 1) := by decide +kernel
theorem dX0_add_50 : decode cX0_add 50 = .ok (.getfield 9, 3) := by decide +kernel
theorem dX0_add_53 : decode cX0_add 53 = .ok (.iconst 1, 1) := by decide +kernel
theorem dX0_add_54 : decode cX0_add 54 = .ok (.iadd, 1) := by decide +kernel
theorem dX0_add_55 : decode cX0_add 55 = .ok (.putfield 9, 3) := by decide +kernel
theorem dX0_add_58 : decode cX0_add 58 = .ok (.aload_n 0, 1) := by decide +kernel
theorem dX0_add_59 : decode cX0_add 59 = .ok (.getfield 15, 3) := by decide +kernel
theorem dX0_add_62 : decode cX0_add 62 = .ok (.iload_n 3, 1) := by decide +kernel
theorem dX0_add_63 : decode cX0_add 63 = .ok (.iload_n 1, 1) := by decide +kernel
theorem dX0_add_64 : decode cX0_add 64 = .ok (.iastore, 1) := by decide +kernel
theorem dX0_add_65 : decode cX0_add 65 = .ok (.aload_n 0, 1) := by decide +kernel
theorem dX0_add_66 : decode cX0_add 66 = .ok (.getfield 19, 3) := by decide +kernel
theorem dX0_add_69 : decode cX0_add 69 = .ok (.iload_n 3, 1) := by decide +kernel
theorem dX0_add_70 : decode cX0_add 70 = .ok (.iload_n 2, 1) := by decide +kernel
theorem dX0_add_71 : decode cX0_add 71 = .ok (.iastore, 1) := by decide +kernel
theorem dX0_add_72 : decode cX0_add 72 = .ok (.aload_n 0, 1) := by decide +kernel
theorem dX0_add_73 : decode cX0_add 73 = .ok (.getfield 22, 3) := by decide +kernel
theorem dX0_add_76 : decode cX0_add 76 = .ok (.iload_n 3, 1) := by decide +kernel
theorem dX0_add_77 : decode cX0_add 77 = .ok (.bipush 50, 2) := by decide +kernel
theorem dX0_add_79 : decode cX0_add 79 = .ok (.iastore, 1) := by decide +kernel
theorem dX0_add_80 : decode cX0_add 80 = .ok (.aload_n 0, 1) := by decide +kernel
theorem dX0_add_81 : decode cX0_add 81 = .ok (.getfield 25, 3) := by decide +kernel
theorem dX0_add_84 : decode cX0_add 84 = .ok (.iload_n 3, 1) := by decide +kernel
theorem dX0_add_85 : decode cX0_add 85 = .ok (.bipush 20, 2) := by decide +kernel
theorem dX0_add_87 : decode cX0_add 87 = .ok (.iastore, 1) := by decide +kernel
theorem dX0_add_88 : decode cX0_add 88 = .ok (.aload_n 0, 1) := by decide +kernel
theorem dX0_add_89 : decode cX0_add 89 = .ok (.getfield 28, 3) := by decide +kernel
theorem dX0_add_92 : decode cX0_add 92 = .ok (.iload_n 3, 1) := by decide +kernel
theorem dX0_add_93 : decode cX0_add 93 = .ok (.iconst 1, 1) := by decide +kernel
theorem dX0_add_94 : decode cX0_add 94 = .ok (.iastore, 1) := by decide +kernel
theorem dX0_add_95 : decode cX0_add 95 = .ok (.iload_n 3, 1) := by decide +kernel
theorem dX0_add_96 : decode cX0_add 96 = .ok (.ireturn, 1) := by decide +kernel
theorem dX0_valuesOf_0 : decode cX0_valuesOf 0 = .ok (.iload_n 1, 1) := by decide +kernel
theorem dX0_valuesOf_1 : decode cX0_valuesOf 1 = .ok (.tableswitch 42 0 2 #[27, 32, 37], 27) := by decide +kernel
theorem dX0_valuesOf_28 : decode cX0_valuesOf 28 = .ok (.aload_n 0, 1) := by decide +kernel
theorem dX0_valuesOf_29 : decode cX0_valuesOf 29 = .ok (.getfield 22, 3) := by decide +kernel
theorem dX0_valuesOf_32 : decode cX0_valuesOf 32 = .ok (.areturn, 1) := by decide +kernel
theorem dX0_valuesOf_33 : decode cX0_valuesOf 33 = .ok (.aload_n 0, 1) := by decide +kernel
theorem dX0_valuesOf_34 : decode cX0_valuesOf 34 = .ok (.getfield 25, 3) := by decide +kernel
theorem dX0_valuesOf_37 : decode cX0_valuesOf 37 = .ok (.areturn, 1) := by decide +kernel
theorem dX0_valuesOf_38 : decode cX0_valuesOf 38 = .ok (.aload_n 0, 1) := by decide +kernel
theorem dX0_valuesOf_39 : decode cX0_valuesOf 39 = .ok (.getfield 28, 3) := by decide +kernel
theorem dX0_valuesOf_42 : decode cX0_valuesOf 42 = .ok (.areturn, 1) := by decide +kernel
theorem dX0_valuesOf_43 : decode cX0_valuesOf 43 = .ok (.aload_n 0, 1) := by decide +kernel
theorem dX0_valuesOf_44 : decode cX0_valuesOf 44 = .ok (.getfield 19, 3) := by decide +kernel
theorem dX0_valuesOf_47 : decode cX0_valuesOf 47 = .ok (.areturn, 1) := by decide +kernel
theorem dX0_heapsOf_0 : decode cX0_heapsOf 0 = .ok (.iload_n 1, 1) := by decide +kernel
theorem dX0_heapsOf_1 : decode cX0_heapsOf 1 = .ok (.ifCond .eq 10, 3) := by decide +kernel
theorem dX0_heapsOf_4 : decode cX0_heapsOf 4 = .ok (.aload_n 0, 1) := by decide +kernel
theorem dX0_heapsOf_5 : decode cX0_heapsOf 5 = .ok (.getfield 31, 3) := by decide +kernel
theorem dX0_heapsOf_8 : decode cX0_heapsOf 8 = .ok (.goto 7, 3) := by decide +kernel
theorem dX0_heapsOf_11 : decode cX0_heapsOf 11 = .ok (.aload_n 0, 1) := by decide +kernel
theorem dX0_heapsOf_12 : decode cX0_heapsOf 12 = .ok (.getfield 34, 3) := by decide +kernel
theorem dX0_heapsOf_15 : decode cX0_heapsOf 15 = .ok (.areturn, 1) := by decide +kernel
theorem dX0_settledIn_0 : decode cX0_settledIn 0 = .ok (.iload_n 1, 1) := by decide +kernel
theorem dX0_settledIn_1 : decode cX0_settledIn 1 = .ok (.ifCond .lt 9, 3) := by decide +kernel
theorem dX0_settledIn_4 : decode cX0_settledIn 4 = .ok (.iload_n 1, 1) := by decide +kernel
theorem dX0_settledIn_5 : decode cX0_settledIn 5 = .ok (.bipush 8, 2) := by decide +kernel
theorem dX0_settledIn_7 : decode cX0_settledIn 7 = .ok (.if_icmp .lt 5, 3) := by decide +kernel
theorem dX0_settledIn_10 : decode cX0_settledIn 10 = .ok (.iconst 0, 1) := by decide +kernel
theorem dX0_settledIn_11 : decode cX0_settledIn 11 = .ok (.ireturn, 1) := by decide +kernel
theorem dX0_settledIn_12 : decode cX0_settledIn 12 = .ok (.aload_n 0, 1) := by decide +kernel
theorem dX0_settledIn_13 : decode cX0_settledIn 13 = .ok (.getfield 34, 3) := by decide +kernel
theorem dX0_settledIn_16 : decode cX0_settledIn 16 = .ok (.iload_n 1, 1) := by decide +kernel
theorem dX0_settledIn_17 : decode cX0_settledIn 17 = .ok (.iaload, 1) := by decide +kernel
theorem dX0_settledIn_18 : decode cX0_settledIn 18 = .ok (.aload_n 0, 1) := by decide +kernel
theorem dX0_settledIn_19 : decode cX0_settledIn 19 = .ok (.getfield 34, 3) := by decide +kernel
theorem dX0_settledIn_22 : decode cX0_settledIn 22 = .ok (.bipush 8, 2) := by decide +kernel
theorem dX0_settledIn_24 : decode cX0_settledIn 24 = .ok (.iload_n 1, 1) := by decide +kernel
theorem dX0_settledIn_25 : decode cX0_settledIn 25 = .ok (.iadd, 1) := by decide +kernel
theorem dX0_settledIn_26 : decode cX0_settledIn 26 = .ok (.iaload, 1) := by decide +kernel
theorem dX0_settledIn_27 : decode cX0_settledIn 27 = .ok (.iadd, 1) := by decide +kernel
theorem dX0_settledIn_28 : decode cX0_settledIn 28 = .ok (.ireturn, 1) := by decide +kernel
theorem dX0_depthOf_0 : decode cX0_depthOf 0 = .ok (.iload_n 1, 1) := by decide +kernel
theorem dX0_depthOf_1 : decode cX0_depthOf 1 = .ok (.ifCond .lt 9, 3) := by decide +kernel
theorem dX0_depthOf_4 : decode cX0_depthOf 4 = .ok (.iload_n 1, 1) := by decide +kernel
theorem dX0_depthOf_5 : decode cX0_depthOf 5 = .ok (.bipush 8, 2) := by decide +kernel
theorem dX0_depthOf_7 : decode cX0_depthOf 7 = .ok (.if_icmp .lt 5, 3) := by decide +kernel
theorem dX0_depthOf_10 : decode cX0_depthOf 10 = .ok (.iconst 0, 1) := by decide +kernel
theorem dX0_depthOf_11 : decode cX0_depthOf 11 = .ok (.ireturn, 1) := by decide +kernel
theorem dX0_depthOf_12 : decode cX0_depthOf 12 = .ok (.aload_n 0, 1) := by decide +kernel
theorem dX0_depthOf_13 : decode cX0_depthOf 13 = .ok (.iload_n 1, 1) := by decide +kernel
theorem dX0_depthOf_14 : decode cX0_depthOf 14 = .ok (.invokevirtual 43, 3) := by decide +kernel
theorem dX0_depthOf_17 : decode cX0_depthOf 17 = .ok (.aload_n 0, 1) := by decide +kernel
theorem dX0_depthOf_18 : decode cX0_depthOf 18 = .ok (.getfield 15, 3) := by decide +kernel
theorem dX0_depthOf_21 : decode cX0_depthOf 21 = .ok (.iload_n 1, 1) := by decide +kernel
theorem dX0_depthOf_22 : decode cX0_depthOf 22 = .ok (.iaload, 1) := by decide +kernel
theorem dX0_depthOf_23 : decode cX0_depthOf 23 = .ok (.invokestatic 47, 3) := by decide +kernel
theorem dX0_depthOf_26 : decode cX0_depthOf 26 = .ok (.ireturn, 1) := by decide +kernel
theorem dX0_lackOf_0 : decode cX0_lackOf 0 = .ok (.iload_n 1, 1) := by decide +kernel
theorem dX0_lackOf_1 : decode cX0_lackOf 1 = .ok (.ifCond .lt 9, 3) := by decide +kernel
theorem dX0_lackOf_4 : decode cX0_lackOf 4 = .ok (.iload_n 1, 1) := by decide +kernel
theorem dX0_lackOf_5 : decode cX0_lackOf 5 = .ok (.bipush 8, 2) := by decide +kernel
theorem dX0_lackOf_7 : decode cX0_lackOf 7 = .ok (.if_icmp .lt 5, 3) := by decide +kernel
theorem dX0_lackOf_10 : decode cX0_lackOf 10 = .ok (.iconst 0, 1) := by decide +kernel
theorem dX0_lackOf_11 : decode cX0_lackOf 11 = .ok (.ireturn, 1) := by decide +kernel
theorem dX0_lackOf_12 : decode cX0_lackOf 12 = .ok (.aload_n 0, 1) := by decide +kernel
theorem dX0_lackOf_13 : decode cX0_lackOf 13 = .ok (.getfield 19, 3) := by decide +kernel
theorem dX0_lackOf_16 : decode cX0_lackOf 16 = .ok (.iload_n 1, 1) := by decide +kernel
theorem dX0_lackOf_17 : decode cX0_lackOf 17 = .ok (.iaload, 1) := by decide +kernel
theorem dX0_lackOf_18 : decode cX0_lackOf 18 = .ok (.aload_n 0, 1) := by decide +kernel
theorem dX0_lackOf_19 : decode cX0_lackOf 19 = .ok (.iload_n 1, 1) := by decide +kernel
theorem dX0_lackOf_20 : decode cX0_lackOf 20 = .ok (.invokevirtual 43, 3) := by decide +kernel
theorem dX0_lackOf_23 : decode cX0_lackOf 23 = .ok (.aload_n 0, 1) := by decide +kernel
theorem dX0_lackOf_24 : decode cX0_lackOf 24 = .ok (.getfield 15, 3) := by decide +kernel
theorem dX0_lackOf_27 : decode cX0_lackOf 27 = .ok (.iload_n 1, 1) := by decide +kernel
theorem dX0_lackOf_28 : decode cX0_lackOf 28 = .ok (.iaload, 1) := by decide +kernel
theorem dX0_lackOf_29 : decode cX0_lackOf 29 = .ok (.invokestatic 47, 3) := by decide +kernel
theorem dX0_lackOf_32 : decode cX0_lackOf 32 = .ok (.isub, 1) := by decide +kernel
theorem dX0_lackOf_33 : decode cX0_lackOf 33 = .ok (.ireturn, 1) := by decide +kernel
theorem dX0_someLack_0 : decode cX0_someLack 0 = .ok (.iconst 0, 1) := by decide +kernel
theorem dX0_someLack_1 : decode cX0_someLack 1 = .ok (.istore_n 1, 1) := by decide +kernel
theorem dX0_someLack_2 : decode cX0_someLack 2 = .ok (.iload_n 1, 1) := by decide +kernel
theorem dX0_someLack_3 : decode cX0_someLack 3 = .ok (.aload_n 0, 1) := by decide +kernel
theorem dX0_someLack_4 : decode cX0_someLack 4 = .ok (.getfield 9, 3) := by decide +kernel
theorem dX0_someLack_7 : decode cX0_someLack 7 = .ok (.if_icmp .ge 19, 3) := by decide +kernel
theorem dX0_someLack_10 : decode cX0_someLack 10 = .ok (.aload_n 0, 1) := by decide +kernel
theorem dX0_someLack_11 : decode cX0_someLack 11 = .ok (.iload_n 1, 1) := by decide +kernel
theorem dX0_someLack_12 : decode cX0_someLack 12 = .ok (.invokevirtual 51, 3) := by decide +kernel
theorem dX0_someLack_15 : decode cX0_someLack 15 = .ok (.ifCond .le 5, 3) := by decide +kernel
theorem dX0_someLack_18 : decode cX0_someLack 18 = .ok (.iconst 1, 1) := by decide +kernel
theorem dX0_someLack_19 : decode cX0_someLack 19 = .ok (.ireturn, 1) := by decide +kernel
theorem dX0_someLack_20 : decode cX0_someLack 20 = .ok (.iinc 1 1, 3) := by decide +kernel
theorem dX0_someLack_23 : decode cX0_someLack 23 = .ok (.goto (-21), 3) := by decide +kernel
theorem dX0_someLack_26 : decode cX0_someLack 26 = .ok (.iconst 0, 1) := by decide +kernel
theorem dX0_someLack_27 : decode cX0_someLack 27 = .ok (.ireturn, 1) := by decide +kernel
theorem dX0_feetLacked_0 : decode cX0_feetLacked 0 = .ok (.iconst 0, 1) := by decide +kernel
theorem dX0_feetLacked_1 : decode cX0_feetLacked 1 = .ok (.istore_n 1, 1) := by decide +kernel
theorem dX0_feetLacked_2 : decode cX0_feetLacked 2 = .ok (.iconst 0, 1) := by decide +kernel
theorem dX0_feetLacked_3 : decode cX0_feetLacked 3 = .ok (.istore_n 2, 1) := by decide +kernel
theorem dX0_feetLacked_4 : decode cX0_feetLacked 4 = .ok (.iload_n 2, 1) := by decide +kernel
theorem dX0_feetLacked_5 : decode cX0_feetLacked 5 = .ok (.aload_n 0, 1) := by decide +kernel
theorem dX0_feetLacked_6 : decode cX0_feetLacked 6 = .ok (.getfield 9, 3) := by decide +kernel
theorem dX0_feetLacked_9 : decode cX0_feetLacked 9 = .ok (.if_icmp .ge 21, 3) := by decide +kernel
theorem dX0_feetLacked_12 : decode cX0_feetLacked 12 = .ok (.iload_n 1, 1) := by decide +kernel
theorem dX0_feetLacked_13 : decode cX0_feetLacked 13 = .ok (.iconst 0, 1) := by decide +kernel
theorem dX0_feetLacked_14 : decode cX0_feetLacked 14 = .ok (.aload_n 0, 1) := by decide +kernel
theorem dX0_feetLacked_15 : decode cX0_feetLacked 15 = .ok (.iload_n 2, 1) := by decide +kernel
theorem dX0_feetLacked_16 : decode cX0_feetLacked 16 = .ok (.invokevirtual 51, 3) := by decide +kernel
theorem dX0_feetLacked_19 : decode cX0_feetLacked 19 = .ok (.invokestatic 54, 3) := by decide +kernel
theorem dX0_feetLacked_22 : decode cX0_feetLacked 22 = .ok (.iadd, 1) := by decide +kernel
theorem dX0_feetLacked_23 : decode cX0_feetLacked 23 = .ok (.istore_n 1, 1) := by decide +kernel
theorem dX0_feetLacked_24 : decode cX0_feetLacked 24 = .ok (.iinc 2 1, 3) := by decide +kernel
theorem dX0_feetLacked_27 : decode cX0_feetLacked 27 = .ok (.goto (-23), 3) := by decide +kernel
theorem dX0_feetLacked_30 : decode cX0_feetLacked 30 = .ok (.iload_n 1, 1) := by decide +kernel
theorem dX0_feetLacked_31 : decode cX0_feetLacked 31 = .ok (.ireturn, 1) := by decide +kernel
theorem dX0_priceOfLacks_0 : decode cX0_priceOfLacks 0 = .ok (.lconst 0, 1) := by decide +kernel
theorem dX0_priceOfLacks_1 : decode cX0_priceOfLacks 1 = .ok (.lstore_n 1, 1) := by decide +kernel
theorem dX0_priceOfLacks_2 : decode cX0_priceOfLacks 2 = .ok (.iconst 0, 1) := by decide +kernel
theorem dX0_priceOfLacks_3 : decode cX0_priceOfLacks 3 = .ok (.istore_n 3, 1) := by decide +kernel
theorem dX0_priceOfLacks_4 : decode cX0_priceOfLacks 4 = .ok (.iload_n 3, 1) := by decide +kernel
theorem dX0_priceOfLacks_5 : decode cX0_priceOfLacks 5 = .ok (.aload_n 0, 1) := by decide +kernel
theorem dX0_priceOfLacks_6 : decode cX0_priceOfLacks 6 = .ok (.getfield 9, 3) := by decide +kernel
theorem dX0_priceOfLacks_9 : decode cX0_priceOfLacks 9 = .ok (.if_icmp .ge 36, 3) := by decide +kernel
theorem dX0_priceOfLacks_12 : decode cX0_priceOfLacks 12 = .ok (.iload_n 3, 1) := by decide +kernel
theorem dX0_priceOfLacks_13 : decode cX0_priceOfLacks 13 = .ok (.bipush 8, 2) := by decide +kernel
theorem dX0_priceOfLacks_15 : decode cX0_priceOfLacks 15 = .ok (.if_icmp .ge 30, 3) := by decide +kernel
theorem dX0_priceOfLacks_18 : decode cX0_priceOfLacks 18 = .ok (.lload_n 1, 1) := by decide +kernel
theorem dX0_priceOfLacks_19 : decode cX0_priceOfLacks 19 = .ok (.iconst 0, 1) := by decide +kernel
theorem dX0_priceOfLacks_20 : decode cX0_priceOfLacks 20 = .ok (.aload_n 0, 1) := by decide +kernel
theorem dX0_priceOfLacks_21 : decode cX0_priceOfLacks 21 = .ok (.iload_n 3, 1) := by decide +kernel
theorem dX0_priceOfLacks_22 : decode cX0_priceOfLacks 22 = .ok (.invokevirtual 51, 3) := by decide +kernel
theorem dX0_priceOfLacks_25 : decode cX0_priceOfLacks 25 = .ok (.invokestatic 54, 3) := by decide +kernel
theorem dX0_priceOfLacks_28 : decode cX0_priceOfLacks 28 = .ok (.i2l, 1) := by decide +kernel
theorem dX0_priceOfLacks_29 : decode cX0_priceOfLacks 29 = .ok (.aload_n 0, 1) := by decide +kernel
theorem dX0_priceOfLacks_30 : decode cX0_priceOfLacks 30 = .ok (.getfield 28, 3) := by decide +kernel
theorem dX0_priceOfLacks_33 : decode cX0_priceOfLacks 33 = .ok (.iload_n 3, 1) := by decide +kernel
theorem dX0_priceOfLacks_34 : decode cX0_priceOfLacks 34 = .ok (.iaload, 1) := by decide +kernel
theorem dX0_priceOfLacks_35 : decode cX0_priceOfLacks 35 = .ok (.i2l, 1) := by decide +kernel
theorem dX0_priceOfLacks_36 : decode cX0_priceOfLacks 36 = .ok (.lmul, 1) := by decide +kernel
theorem dX0_priceOfLacks_37 : decode cX0_priceOfLacks 37 = .ok (.ladd, 1) := by decide +kernel
theorem dX0_priceOfLacks_38 : decode cX0_priceOfLacks 38 = .ok (.lstore_n 1, 1) := by decide +kernel
theorem dX0_priceOfLacks_39 : decode cX0_priceOfLacks 39 = .ok (.iinc 3 1, 3) := by decide +kernel
theorem dX0_priceOfLacks_42 : decode cX0_priceOfLacks 42 = .ok (.goto (-38), 3) := by decide +kernel
theorem dX0_priceOfLacks_45 : decode cX0_priceOfLacks 45 = .ok (.lload_n 1, 1) := by decide +kernel
theorem dX0_priceOfLacks_46 : decode cX0_priceOfLacks 46 = .ok (.lreturn, 1) := by decide +kernel
theorem dX0_settledInAll_0 : decode cX0_settledInAll 0 = .ok (.iconst 0, 1) := by decide +kernel
theorem dX0_settledInAll_1 : decode cX0_settledInAll 1 = .ok (.istore_n 1, 1) := by decide +kernel
theorem dX0_settledInAll_2 : decode cX0_settledInAll 2 = .ok (.iconst 0, 1) := by decide +kernel
theorem dX0_settledInAll_3 : decode cX0_settledInAll 3 = .ok (.istore_n 2, 1) := by decide +kernel
theorem dX0_settledInAll_4 : decode cX0_settledInAll 4 = .ok (.iload_n 2, 1) := by decide +kernel
theorem dX0_settledInAll_5 : decode cX0_settledInAll 5 = .ok (.aload_n 0, 1) := by decide +kernel
theorem dX0_settledInAll_6 : decode cX0_settledInAll 6 = .ok (.getfield 9, 3) := by decide +kernel
theorem dX0_settledInAll_9 : decode cX0_settledInAll 9 = .ok (.if_icmp .ge 17, 3) := by decide +kernel
theorem dX0_settledInAll_12 : decode cX0_settledInAll 12 = .ok (.iload_n 1, 1) := by decide +kernel
theorem dX0_settledInAll_13 : decode cX0_settledInAll 13 = .ok (.aload_n 0, 1) := by decide +kernel
theorem dX0_settledInAll_14 : decode cX0_settledInAll 14 = .ok (.iload_n 2, 1) := by decide +kernel
theorem dX0_settledInAll_15 : decode cX0_settledInAll 15 = .ok (.invokevirtual 43, 3) := by decide +kernel
theorem dX0_settledInAll_18 : decode cX0_settledInAll 18 = .ok (.iadd, 1) := by decide +kernel
theorem dX0_settledInAll_19 : decode cX0_settledInAll 19 = .ok (.istore_n 1, 1) := by decide +kernel
theorem dX0_settledInAll_20 : decode cX0_settledInAll 20 = .ok (.iinc 2 1, 3) := by decide +kernel
theorem dX0_settledInAll_23 : decode cX0_settledInAll 23 = .ok (.goto (-19), 3) := by decide +kernel
theorem dX0_settledInAll_26 : decode cX0_settledInAll 26 = .ok (.iload_n 1, 1) := by decide +kernel
theorem dX0_settledInAll_27 : decode cX0_settledInAll 27 = .ok (.ireturn, 1) := by decide +kernel
theorem dX0_tonsInSet_0 : decode cX0_tonsInSet 0 = .ok (.iconst 0, 1) := by decide +kernel
theorem dX0_tonsInSet_1 : decode cX0_tonsInSet 1 = .ok (.istore_n 3, 1) := by decide +kernel
theorem dX0_tonsInSet_2 : decode cX0_tonsInSet 2 = .ok (.iconst 0, 1) := by decide +kernel
theorem dX0_tonsInSet_3 : decode cX0_tonsInSet 3 = .ok (.istore 4, 2) := by decide +kernel
theorem dX0_tonsInSet_5 : decode cX0_tonsInSet 5 = .ok (.iload 4, 2) := by decide +kernel
theorem dX0_tonsInSet_7 : decode cX0_tonsInSet 7 = .ok (.aload_n 0, 1) := by decide +kernel
theorem dX0_tonsInSet_8 : decode cX0_tonsInSet 8 = .ok (.getfield 9, 3) := by decide +kernel
theorem dX0_tonsInSet_11 : decode cX0_tonsInSet 11 = .ok (.if_icmp .ge 52, 3) := by decide +kernel
theorem dX0_tonsInSet_14 : decode cX0_tonsInSet 14 = .ok (.iload_n 1, 1) := by decide +kernel
theorem dX0_tonsInSet_15 : decode cX0_tonsInSet 15 = .ok (.iload 4, 2) := by decide +kernel
theorem dX0_tonsInSet_17 : decode cX0_tonsInSet 17 = .ok (.ishr, 1) := by decide +kernel
theorem dX0_tonsInSet_18 : decode cX0_tonsInSet 18 = .ok (.iconst 1, 1) := by decide +kernel
theorem dX0_tonsInSet_19 : decode cX0_tonsInSet 19 = .ok (.iand, 1) := by decide +kernel
theorem dX0_tonsInSet_20 : decode cX0_tonsInSet 20 = .ok (.iconst 1, 1) := by decide +kernel
theorem dX0_tonsInSet_21 : decode cX0_tonsInSet 21 = .ok (.if_icmp .ne 36, 3) := by decide +kernel
theorem dX0_tonsInSet_24 : decode cX0_tonsInSet 24 = .ok (.iload_n 2, 1) := by decide +kernel
theorem dX0_tonsInSet_25 : decode cX0_tonsInSet 25 = .ok (.invokestatic 59, 3) := by decide +kernel
theorem dX0_tonsInSet_28 : decode cX0_tonsInSet 28 = .ok (.ifCond .eq 29, 3) := by decide +kernel
theorem dX0_tonsInSet_31 : decode cX0_tonsInSet 31 = .ok (.iload 4, 2) := by decide +kernel
theorem dX0_tonsInSet_33 : decode cX0_tonsInSet 33 = .ok (.iload_n 2, 1) := by decide +kernel
theorem dX0_tonsInSet_34 : decode cX0_tonsInSet 34 = .ok (.invokestatic 63, 3) := by decide +kernel
theorem dX0_tonsInSet_37 : decode cX0_tonsInSet 37 = .ok (.istore 5, 2) := by decide +kernel
theorem dX0_tonsInSet_39 : decode cX0_tonsInSet 39 = .ok (.iload_n 3, 1) := by decide +kernel
theorem dX0_tonsInSet_40 : decode cX0_tonsInSet 40 = .ok (.aload_n 0, 1) := by decide +kernel
theorem dX0_tonsInSet_41 : decode cX0_tonsInSet 41 = .ok (.getfield 31, 3) := by decide +kernel
theorem dX0_tonsInSet_44 : decode cX0_tonsInSet 44 = .ok (.iload 5, 2) := by decide +kernel
theorem dX0_tonsInSet_46 : decode cX0_tonsInSet 46 = .ok (.iaload, 1) := by decide +kernel
theorem dX0_tonsInSet_47 : decode cX0_tonsInSet 47 = .ok (.aload_n 0, 1) := by decide +kernel
theorem dX0_tonsInSet_48 : decode cX0_tonsInSet 48 = .ok (.getfield 34, 3) := by decide +kernel
theorem dX0_tonsInSet_51 : decode cX0_tonsInSet 51 = .ok (.iload 5, 2) := by decide +kernel
theorem dX0_tonsInSet_53 : decode cX0_tonsInSet 53 = .ok (.iaload, 1) := by decide +kernel
theorem dX0_tonsInSet_54 : decode cX0_tonsInSet 54 = .ok (.iadd, 1) := by decide +kernel
theorem dX0_tonsInSet_55 : decode cX0_tonsInSet 55 = .ok (.iadd, 1) := by decide +kernel
theorem dX0_tonsInSet_56 : decode cX0_tonsInSet 56 = .ok (.istore_n 3, 1) := by decide +kernel
theorem dX0_tonsInSet_57 : decode cX0_tonsInSet 57 = .ok (.iinc 4 1, 3) := by decide +kernel
theorem dX0_tonsInSet_60 : decode cX0_tonsInSet 60 = .ok (.goto (-55), 3) := by decide +kernel
theorem dX0_tonsInSet_63 : decode cX0_tonsInSet 63 = .ok (.iload_n 3, 1) := by decide +kernel
theorem dX0_tonsInSet_64 : decode cX0_tonsInSet 64 = .ok (.ireturn, 1) := by decide +kernel
theorem dX0_tonsInAll_0 : decode cX0_tonsInAll 0 = .ok (.sipush 255, 3) := by decide +kernel
theorem dX0_tonsInAll_3 : decode cX0_tonsInAll 3 = .ok (.istore_n 1, 1) := by decide +kernel
theorem dX0_tonsInAll_4 : decode cX0_tonsInAll 4 = .ok (.aload_n 0, 1) := by decide +kernel
theorem dX0_tonsInAll_5 : decode cX0_tonsInAll 5 = .ok (.iload_n 1, 1) := by decide +kernel
theorem dX0_tonsInAll_6 : decode cX0_tonsInAll 6 = .ok (.iconst 0, 1) := by decide +kernel
theorem dX0_tonsInAll_7 : decode cX0_tonsInAll 7 = .ok (.invokevirtual 66, 3) := by decide +kernel
theorem dX0_tonsInAll_10 : decode cX0_tonsInAll 10 = .ok (.aload_n 0, 1) := by decide +kernel
theorem dX0_tonsInAll_11 : decode cX0_tonsInAll 11 = .ok (.iload_n 1, 1) := by decide +kernel
theorem dX0_tonsInAll_12 : decode cX0_tonsInAll 12 = .ok (.iconst 1, 1) := by decide +kernel
theorem dX0_tonsInAll_13 : decode cX0_tonsInAll 13 = .ok (.invokevirtual 66, 3) := by decide +kernel
theorem dX0_tonsInAll_16 : decode cX0_tonsInAll 16 = .ok (.iadd, 1) := by decide +kernel
theorem dX0_tonsInAll_17 : decode cX0_tonsInAll 17 = .ok (.ireturn, 1) := by decide +kernel
theorem dX0_stir_0 : decode cX0_stir 0 = .ok (.iconst 0, 1) := by decide +kernel
theorem dX0_stir_1 : decode cX0_stir 1 = .ok (.istore_n 1, 1) := by decide +kernel
theorem dX0_stir_2 : decode cX0_stir 2 = .ok (.iload_n 1, 1) := by decide +kernel
theorem dX0_stir_3 : decode cX0_stir 3 = .ok (.aload_n 0, 1) := by decide +kernel
theorem dX0_stir_4 : decode cX0_stir 4 = .ok (.getfield 9, 3) := by decide +kernel
theorem dX0_stir_7 : decode cX0_stir 7 = .ok (.if_icmp .ge 73, 3) := by decide +kernel
theorem dX0_stir_10 : decode cX0_stir 10 = .ok (.iload_n 1, 1) := by decide +kernel
theorem dX0_stir_11 : decode cX0_stir 11 = .ok (.bipush 8, 2) := by decide +kernel
theorem dX0_stir_13 : decode cX0_stir 13 = .ok (.if_icmp .ge 67, 3) := by decide +kernel
theorem dX0_stir_16 : decode cX0_stir 16 = .ok (.iconst 0, 1) := by decide +kernel
theorem dX0_stir_17 : decode cX0_stir 17 = .ok (.istore_n 2, 1) := by decide +kernel
theorem dX0_stir_18 : decode cX0_stir 18 = .ok (.iload_n 2, 1) := by decide +kernel
theorem dX0_stir_19 : decode cX0_stir 19 = .ok (.iconst 2, 1) := by decide +kernel
theorem dX0_stir_20 : decode cX0_stir 20 = .ok (.if_icmp .ge 54, 3) := by decide +kernel
theorem dX0_stir_23 : decode cX0_stir 23 = .ok (.iload_n 1, 1) := by decide +kernel
theorem dX0_stir_24 : decode cX0_stir 24 = .ok (.iload_n 2, 1) := by decide +kernel
theorem dX0_stir_25 : decode cX0_stir 25 = .ok (.invokestatic 63, 3) := by decide +kernel
theorem dX0_stir_28 : decode cX0_stir 28 = .ok (.istore_n 3, 1) := by decide +kernel
theorem dX0_stir_29 : decode cX0_stir 29 = .ok (.aload_n 0, 1) := by decide +kernel
theorem dX0_stir_30 : decode cX0_stir 30 = .ok (.getfield 34, 3) := by decide +kernel
theorem dX0_stir_33 : decode cX0_stir 33 = .ok (.iload_n 3, 1) := by decide +kernel
theorem dX0_stir_34 : decode cX0_stir 34 = .ok (.iaload, 1) := by decide +kernel
theorem dX0_stir_35 : decode cX0_stir 35 = .ok (.aload_n 0, 1) := by decide +kernel
theorem dX0_stir_36 : decode cX0_stir 36 = .ok (.getfield 25, 3) := by decide +kernel
theorem dX0_stir_39 : decode cX0_stir 39 = .ok (.iload_n 1, 1) := by decide +kernel
theorem dX0_stir_40 : decode cX0_stir 40 = .ok (.iaload, 1) := by decide +kernel
theorem dX0_stir_41 : decode cX0_stir 41 = .ok (.invokestatic 69, 3) := by decide +kernel
theorem dX0_stir_44 : decode cX0_stir 44 = .ok (.istore 4, 2) := by decide +kernel
theorem dX0_stir_46 : decode cX0_stir 46 = .ok (.aload_n 0, 1) := by decide +kernel
theorem dX0_stir_47 : decode cX0_stir 47 = .ok (.getfield 34, 3) := by decide +kernel
theorem dX0_stir_50 : decode cX0_stir 50 = .ok (.iload_n 3, 1) := by decide +kernel
theorem dX0_stir_51 : decode cX0_stir 51 = .ok (.dup2, 1) := by decide +kernel
theorem dX0_stir_52 : decode cX0_stir 52 = .ok (.iaload, 1) := by decide +kernel
theorem dX0_stir_53 : decode cX0_stir 53 = .ok (.iload 4, 2) := by decide +kernel
theorem dX0_stir_55 : decode cX0_stir 55 = .ok (.isub, 1) := by decide +kernel
theorem dX0_stir_56 : decode cX0_stir 56 = .ok (.iastore, 1) := by decide +kernel
theorem dX0_stir_57 : decode cX0_stir 57 = .ok (.aload_n 0, 1) := by decide +kernel
theorem dX0_stir_58 : decode cX0_stir 58 = .ok (.getfield 31, 3) := by decide +kernel
theorem dX0_stir_61 : decode cX0_stir 61 = .ok (.iload_n 3, 1) := by decide +kernel
theorem dX0_stir_62 : decode cX0_stir 62 = .ok (.dup2, 1) := by decide +kernel
theorem dX0_stir_63 : decode cX0_stir 63 = .ok (.iaload, 1) := by decide +kernel
theorem dX0_stir_64 : decode cX0_stir 64 = .ok (.iload 4, 2) := by decide +kernel
theorem dX0_stir_66 : decode cX0_stir 66 = .ok (.iadd, 1) := by decide +kernel
theorem dX0_stir_67 : decode cX0_stir 67 = .ok (.iastore, 1) := by decide +kernel
theorem dX0_stir_68 : decode cX0_stir 68 = .ok (.iinc 2 1, 3) := by decide +kernel
theorem dX0_stir_71 : decode cX0_stir 71 = .ok (.goto (-53), 3) := by decide +kernel
theorem dX0_stir_74 : decode cX0_stir 74 = .ok (.iinc 1 1, 3) := by decide +kernel
theorem dX0_stir_77 : decode cX0_stir 77 = .ok (.goto (-75), 3) := by decide +kernel
theorem dX0_stir_80 : decode cX0_stir 80 = .ok (.return_, 1) := by decide +kernel
theorem dX0_settle_0 : decode cX0_settle 0 = .ok (.iconst 0, 1) := by decide +kernel
theorem dX0_settle_1 : decode cX0_settle 1 = .ok (.istore_n 1, 1) := by decide +kernel
theorem dX0_settle_2 : decode cX0_settle 2 = .ok (.iload_n 1, 1) := by decide +kernel
theorem dX0_settle_3 : decode cX0_settle 3 = .ok (.aload_n 0, 1) := by decide +kernel
theorem dX0_settle_4 : decode cX0_settle 4 = .ok (.getfield 9, 3) := by decide +kernel
theorem dX0_settle_7 : decode cX0_settle 7 = .ok (.if_icmp .ge 73, 3) := by decide +kernel
theorem dX0_settle_10 : decode cX0_settle 10 = .ok (.iload_n 1, 1) := by decide +kernel
theorem dX0_settle_11 : decode cX0_settle 11 = .ok (.bipush 8, 2) := by decide +kernel
theorem dX0_settle_13 : decode cX0_settle 13 = .ok (.if_icmp .ge 67, 3) := by decide +kernel
theorem dX0_settle_16 : decode cX0_settle 16 = .ok (.iconst 0, 1) := by decide +kernel
theorem dX0_settle_17 : decode cX0_settle 17 = .ok (.istore_n 2, 1) := by decide +kernel
theorem dX0_settle_18 : decode cX0_settle 18 = .ok (.iload_n 2, 1) := by decide +kernel
theorem dX0_settle_19 : decode cX0_settle 19 = .ok (.iconst 2, 1) := by decide +kernel
theorem dX0_settle_20 : decode cX0_settle 20 = .ok (.if_icmp .ge 54, 3) := by decide +kernel
theorem dX0_settle_23 : decode cX0_settle 23 = .ok (.iload_n 1, 1) := by decide +kernel
theorem dX0_settle_24 : decode cX0_settle 24 = .ok (.iload_n 2, 1) := by decide +kernel
theorem dX0_settle_25 : decode cX0_settle 25 = .ok (.invokestatic 63, 3) := by decide +kernel
theorem dX0_settle_28 : decode cX0_settle 28 = .ok (.istore_n 3, 1) := by decide +kernel
theorem dX0_settle_29 : decode cX0_settle 29 = .ok (.aload_n 0, 1) := by decide +kernel
theorem dX0_settle_30 : decode cX0_settle 30 = .ok (.getfield 31, 3) := by decide +kernel
theorem dX0_settle_33 : decode cX0_settle 33 = .ok (.iload_n 3, 1) := by decide +kernel
theorem dX0_settle_34 : decode cX0_settle 34 = .ok (.iaload, 1) := by decide +kernel
theorem dX0_settle_35 : decode cX0_settle 35 = .ok (.aload_n 0, 1) := by decide +kernel
theorem dX0_settle_36 : decode cX0_settle 36 = .ok (.getfield 22, 3) := by decide +kernel
theorem dX0_settle_39 : decode cX0_settle 39 = .ok (.iload_n 1, 1) := by decide +kernel
theorem dX0_settle_40 : decode cX0_settle 40 = .ok (.iaload, 1) := by decide +kernel
theorem dX0_settle_41 : decode cX0_settle 41 = .ok (.invokestatic 69, 3) := by decide +kernel
theorem dX0_settle_44 : decode cX0_settle 44 = .ok (.istore 4, 2) := by decide +kernel
theorem dX0_settle_46 : decode cX0_settle 46 = .ok (.aload_n 0, 1) := by decide +kernel
theorem dX0_settle_47 : decode cX0_settle 47 = .ok (.getfield 31, 3) := by decide +kernel
theorem dX0_settle_50 : decode cX0_settle 50 = .ok (.iload_n 3, 1) := by decide +kernel
theorem dX0_settle_51 : decode cX0_settle 51 = .ok (.dup2, 1) := by decide +kernel
theorem dX0_settle_52 : decode cX0_settle 52 = .ok (.iaload, 1) := by decide +kernel
theorem dX0_settle_53 : decode cX0_settle 53 = .ok (.iload 4, 2) := by decide +kernel
theorem dX0_settle_55 : decode cX0_settle 55 = .ok (.isub, 1) := by decide +kernel
theorem dX0_settle_56 : decode cX0_settle 56 = .ok (.iastore, 1) := by decide +kernel
theorem dX0_settle_57 : decode cX0_settle 57 = .ok (.aload_n 0, 1) := by decide +kernel
theorem dX0_settle_58 : decode cX0_settle 58 = .ok (.getfield 34, 3) := by decide +kernel
theorem dX0_settle_61 : decode cX0_settle 61 = .ok (.iload_n 3, 1) := by decide +kernel
theorem dX0_settle_62 : decode cX0_settle 62 = .ok (.dup2, 1) := by decide +kernel
theorem dX0_settle_63 : decode cX0_settle 63 = .ok (.iaload, 1) := by decide +kernel
theorem dX0_settle_64 : decode cX0_settle 64 = .ok (.iload 4, 2) := by decide +kernel
theorem dX0_settle_66 : decode cX0_settle 66 = .ok (.iadd, 1) := by decide +kernel
theorem dX0_settle_67 : decode cX0_settle 67 = .ok (.iastore, 1) := by decide +kernel
theorem dX0_settle_68 : decode cX0_settle 68 = .ok (.iinc 2 1, 3) := by decide +kernel
theorem dX0_settle_71 : decode cX0_settle 71 = .ok (.goto (-53), 3) := by decide +kernel
theorem dX0_settle_74 : decode cX0_settle 74 = .ok (.iinc 1 1, 3) := by decide +kernel
theorem dX0_settle_77 : decode cX0_settle 77 = .ok (.goto (-75), 3) := by decide +kernel
theorem dX0_settle_80 : decode cX0_settle 80 = .ok (.return_, 1) := by decide +kernel
theorem dX0_nearest_0 : decode cX0_nearest 0 = .ok (.iconst 0, 1) := by decide +kernel
theorem dX0_nearest_1 : decode cX0_nearest 1 = .ok (.istore_n 2, 1) := by decide +kernel
theorem dX0_nearest_2 : decode cX0_nearest 2 = .ok (.bipush (-9), 2) := by decide +kernel
theorem dX0_nearest_4 : decode cX0_nearest 4 = .ok (.istore_n 3, 1) := by decide +kernel
theorem dX0_nearest_5 : decode cX0_nearest 5 = .ok (.iconst 0, 1) := by decide +kernel
theorem dX0_nearest_6 : decode cX0_nearest 6 = .ok (.istore 4, 2) := by decide +kernel
theorem dX0_nearest_8 : decode cX0_nearest 8 = .ok (.iload 4, 2) := by decide +kernel
theorem dX0_nearest_10 : decode cX0_nearest 10 = .ok (.aload_n 0, 1) := by decide +kernel
theorem dX0_nearest_11 : decode cX0_nearest 11 = .ok (.getfield 9, 3) := by decide +kernel
theorem dX0_nearest_14 : decode cX0_nearest 14 = .ok (.if_icmp .ge 35, 3) := by decide +kernel
theorem dX0_nearest_17 : decode cX0_nearest 17 = .ok (.iload 4, 2) := by decide +kernel
theorem dX0_nearest_19 : decode cX0_nearest 19 = .ok (.iload_n 1, 1) := by decide +kernel
theorem dX0_nearest_20 : decode cX0_nearest 20 = .ok (.if_icmp .eq 23, 3) := by decide +kernel
theorem dX0_nearest_23 : decode cX0_nearest 23 = .ok (.aload_n 0, 1) := by decide +kernel
theorem dX0_nearest_24 : decode cX0_nearest 24 = .ok (.iload 4, 2) := by decide +kernel
theorem dX0_nearest_26 : decode cX0_nearest 26 = .ok (.invokevirtual 51, 3) := by decide +kernel
theorem dX0_nearest_29 : decode cX0_nearest 29 = .ok (.iload_n 2, 1) := by decide +kernel
theorem dX0_nearest_30 : decode cX0_nearest 30 = .ok (.if_icmp .le 13, 3) := by decide +kernel
theorem dX0_nearest_33 : decode cX0_nearest 33 = .ok (.aload_n 0, 1) := by decide +kernel
theorem dX0_nearest_34 : decode cX0_nearest 34 = .ok (.iload 4, 2) := by decide +kernel
theorem dX0_nearest_36 : decode cX0_nearest 36 = .ok (.invokevirtual 51, 3) := by decide +kernel
theorem dX0_nearest_39 : decode cX0_nearest 39 = .ok (.istore_n 2, 1) := by decide +kernel
theorem dX0_nearest_40 : decode cX0_nearest 40 = .ok (.iload 4, 2) := by decide +kernel
theorem dX0_nearest_42 : decode cX0_nearest 42 = .ok (.istore_n 3, 1) := by decide +kernel
theorem dX0_nearest_43 : decode cX0_nearest 43 = .ok (.iinc 4 1, 3) := by decide +kernel
theorem dX0_nearest_46 : decode cX0_nearest 46 = .ok (.goto (-38), 3) := by decide +kernel
theorem dX0_nearest_49 : decode cX0_nearest 49 = .ok (.iload_n 3, 1) := by decide +kernel
theorem dX0_nearest_50 : decode cX0_nearest 50 = .ok (.ireturn, 1) := by decide +kernel
theorem dX0_fullest_0 : decode cX0_fullest 0 = .ok (.iconst (-1), 1) := by decide +kernel
theorem dX0_fullest_1 : decode cX0_fullest 1 = .ok (.istore_n 2, 1) := by decide +kernel
theorem dX0_fullest_2 : decode cX0_fullest 2 = .ok (.bipush (-9), 2) := by decide +kernel
theorem dX0_fullest_4 : decode cX0_fullest 4 = .ok (.istore_n 3, 1) := by decide +kernel
theorem dX0_fullest_5 : decode cX0_fullest 5 = .ok (.iconst 0, 1) := by decide +kernel
theorem dX0_fullest_6 : decode cX0_fullest 6 = .ok (.istore 4, 2) := by decide +kernel
theorem dX0_fullest_8 : decode cX0_fullest 8 = .ok (.iload 4, 2) := by decide +kernel
theorem dX0_fullest_10 : decode cX0_fullest 10 = .ok (.aload_n 0, 1) := by decide +kernel
theorem dX0_fullest_11 : decode cX0_fullest 11 = .ok (.getfield 9, 3) := by decide +kernel
theorem dX0_fullest_14 : decode cX0_fullest 14 = .ok (.if_icmp .ge 46, 3) := by decide +kernel
theorem dX0_fullest_17 : decode cX0_fullest 17 = .ok (.iload 4, 2) := by decide +kernel
theorem dX0_fullest_19 : decode cX0_fullest 19 = .ok (.iload_n 1, 1) := by decide +kernel
theorem dX0_fullest_20 : decode cX0_fullest 20 = .ok (.if_icmp .eq 34, 3) := by decide +kernel
theorem dX0_fullest_23 : decode cX0_fullest 23 = .ok (.aload_n 0, 1) := by decide +kernel
theorem dX0_fullest_24 : decode cX0_fullest 24 = .ok (.iload 4, 2) := by decide +kernel
theorem dX0_fullest_26 : decode cX0_fullest 26 = .ok (.invokevirtual 51, 3) := by decide +kernel
theorem dX0_fullest_29 : decode cX0_fullest 29 = .ok (.bipush (-2), 2) := by decide +kernel
theorem dX0_fullest_31 : decode cX0_fullest 31 = .ok (.if_icmp .le 23, 3) := by decide +kernel
theorem dX0_fullest_34 : decode cX0_fullest 34 = .ok (.aload_n 0, 1) := by decide +kernel
theorem dX0_fullest_35 : decode cX0_fullest 35 = .ok (.iload 4, 2) := by decide +kernel
theorem dX0_fullest_37 : decode cX0_fullest 37 = .ok (.invokevirtual 43, 3) := by decide +kernel
theorem dX0_fullest_40 : decode cX0_fullest 40 = .ok (.iload_n 2, 1) := by decide +kernel
theorem dX0_fullest_41 : decode cX0_fullest 41 = .ok (.if_icmp .le 13, 3) := by decide +kernel
theorem dX0_fullest_44 : decode cX0_fullest 44 = .ok (.aload_n 0, 1) := by decide +kernel
theorem dX0_fullest_45 : decode cX0_fullest 45 = .ok (.iload 4, 2) := by decide +kernel
theorem dX0_fullest_47 : decode cX0_fullest 47 = .ok (.invokevirtual 43, 3) := by decide +kernel
theorem dX0_fullest_50 : decode cX0_fullest 50 = .ok (.istore_n 2, 1) := by decide +kernel
theorem dX0_fullest_51 : decode cX0_fullest 51 = .ok (.iload 4, 2) := by decide +kernel
theorem dX0_fullest_53 : decode cX0_fullest 53 = .ok (.istore_n 3, 1) := by decide +kernel
theorem dX0_fullest_54 : decode cX0_fullest 54 = .ok (.iinc 4 1, 3) := by decide +kernel
theorem dX0_fullest_57 : decode cX0_fullest 57 = .ok (.goto (-49), 3) := by decide +kernel
theorem dX0_fullest_60 : decode cX0_fullest 60 = .ok (.iload_n 3, 1) := by decide +kernel
theorem dX0_fullest_61 : decode cX0_fullest 61 = .ok (.ireturn, 1) := by decide +kernel
theorem dX1_init_0 : decode cX1_init 0 = .ok (.aload_n 0, 1) := by decide +kernel
theorem dX1_init_1 : decode cX1_init 1 = .ok (.invokespecial 3, 3) := by decide +kernel
theorem dX1_init_4 : decode cX1_init 4 = .ok (.aload_n 0, 1) := by decide +kernel
theorem dX1_init_5 : decode cX1_init 5 = .ok (.iconst 0, 1) := by decide +kernel
theorem dX1_init_6 : decode cX1_init 6 = .ok (.putfield 9, 3) := by decide +kernel
theorem dX1_init_9 : decode cX1_init 9 = .ok (.aload_n 0, 1) := by decide +kernel
theorem dX1_init_10 : decode cX1_init 10 = .ok (.bipush 96, 2) := by decide +kernel
theorem dX1_init_12 : decode cX1_init 12 = .ok (.newarray .int, 2) := by decide +kernel
theorem dX1_init_14 : decode cX1_init 14 = .ok (.putfield 15, 3) := by decide +kernel
theorem dX1_init_17 : decode cX1_init 17 = .ok (.aload_n 0, 1) := by decide +kernel
theorem dX1_init_18 : decode cX1_init 18 = .ok (.iconst 0, 1) := by decide +kernel
theorem dX1_init_19 : decode cX1_init 19 = .ok (.putfield 19, 3) := by decide +kernel
theorem dX1_init_22 : decode cX1_init 22 = .ok (.aload_n 0, 1) := by decide +kernel
theorem dX1_init_23 : decode cX1_init 23 = .ok (.iconst 0, 1) := by decide +kernel
theorem dX1_init_24 : decode cX1_init 24 = .ok (.putfield 22, 3) := by decide +kernel
theorem dX1_init_27 : decode cX1_init 27 = .ok (.aload_n 0, 1) := by decide +kernel
theorem dX1_init_28 : decode cX1_init 28 = .ok (.iconst 0, 1) := by decide +kernel
theorem dX1_init_29 : decode cX1_init 29 = .ok (.putfield 25, 3) := by decide +kernel
theorem dX1_init_32 : decode cX1_init 32 = .ok (.aload_n 0, 1) := by decide +kernel
theorem dX1_init_33 : decode cX1_init 33 = .ok (.iconst 0, 1) := by decide +kernel
theorem dX1_init_34 : decode cX1_init 34 = .ok (.putfield 28, 3) := by decide +kernel
theorem dX1_init_37 : decode cX1_init 37 = .ok (.aload_n 0, 1) := by decide +kernel
theorem dX1_init_38 : decode cX1_init 38 = .ok (.iconst 0, 1) := by decide +kernel
theorem dX1_init_39 : decode cX1_init 39 = .ok (.putfield 31, 3) := by decide +kernel
theorem dX1_init_42 : decode cX1_init 42 = .ok (.aload_n 0, 1) := by decide +kernel
theorem dX1_init_43 : decode cX1_init 43 = .ok (.iconst 0, 1) := by decide +kernel
theorem dX1_init_44 : decode cX1_init 44 = .ok (.putfield 34, 3) := by decide +kernel
theorem dX1_init_47 : decode cX1_init 47 = .ok (.aload_n 0, 1) := by decide +kernel
theorem dX1_init_48 : decode cX1_init 48 = .ok (.iconst 0, 1) := by decide +kernel
theorem dX1_init_49 : decode cX1_init 49 = .ok (.putfield 37, 3) := by decide +kernel
theorem dX1_init_52 : decode cX1_init 52 = .ok (.aload_n 0, 1) := by decide +kernel
theorem dX1_init_53 : decode cX1_init 53 = .ok (.iconst 0, 1) := by decide +kernel
theorem dX1_init_54 : decode cX1_init 54 = .ok (.putfield 40, 3) := by decide +kernel
theorem dX1_init_57 : decode cX1_init 57 = .ok (.aload_n 0, 1) := by decide +kernel
theorem dX1_init_58 : decode cX1_init 58 = .ok (.iconst 0, 1) := by decide +kernel
theorem dX1_init_59 : decode cX1_init 59 = .ok (.putfield 43, 3) := by decide +kernel
theorem dX1_init_62 : decode cX1_init 62 = .ok (.aload_n 0, 1) := by decide +kernel
theorem dX1_init_63 : decode cX1_init 63 = .ok (.iconst 0, 1) := by decide +kernel
theorem dX1_init_64 : decode cX1_init 64 = .ok (.putfield 46, 3) := by decide +kernel
theorem dX1_init_67 : decode cX1_init 67 = .ok (.return_, 1) := by decide +kernel
theorem dX1_append_0 : decode cX1_append 0 = .ok (.aload_n 0, 1) := by decide +kernel
theorem dX1_append_1 : decode cX1_append 1 = .ok (.getfield 9, 3) := by decide +kernel
theorem dX1_append_4 : decode cX1_append 4 = .ok (.ifCond .lt 32, 3) := by decide +kernel
theorem dX1_append_7 : decode cX1_append 7 = .ok (.aload_n 0, 1) := by decide +kernel
theorem dX1_append_8 : decode cX1_append 8 = .ok (.getfield 9, 3) := by decide +kernel
theorem dX1_append_11 : decode cX1_append 11 = .ok (.bipush 96, 2) := by decide +kernel
theorem dX1_append_13 : decode cX1_append 13 = .ok (.if_icmp .ge 23, 3) := by decide +kernel
theorem dX1_append_16 : decode cX1_append 16 = .ok (.aload_n 0, 1) := by decide +kernel
theorem dX1_append_17 : decode cX1_append 17 = .ok (.getfield 15, 3) := by decide +kernel
theorem dX1_append_20 : decode cX1_append 20 = .ok (.aload_n 0, 1) := by decide +kernel
theorem dX1_append_21 : decode cX1_append 21 = .ok (.getfield 9, 3) := by decide +kernel
theorem dX1_append_24 : decode cX1_append 24 = .ok (.iload_n 1, 1) := by decide +kernel
theorem dX1_append_25 : decode cX1_append 25 = .ok (.iastore, 1) := by decide +kernel
theorem dX1_append_26 : decode cX1_append 26 = .ok (.aload_n 0, 1) := by decide +kernel
theorem dX1_append_27 : decode cX1_append 27 = .ok (.dup, 1) := by decide +kernel
theorem dX1_append_28 : decode cX1_append 28 = .ok (.getfield 9, 3) := by decide +kernel
theorem dX1_append_31 : decode cX1_append 31 = .ok (.iconst 1, 1) := by decide +kernel
theorem dX1_append_32 : decode cX1_append 32 = .ok (.iadd, 1) := by decide +kernel
theorem dX1_append_33 : decode cX1_append 33 = .ok (.putfield 9, 3) := by decide +kernel
theorem dX1_append_36 : decode cX1_append 36 = .ok (.return_, 1) := by decide +kernel
theorem dX1_readInto_0 : decode cX1_readInto 0 = .ok (.iconst 0, 1) := by decide +kernel
theorem dX1_readInto_1 : decode cX1_readInto 1 = .ok (.istore_n 2, 1) := by decide +kernel
theorem dX1_readInto_2 : decode cX1_readInto 2 = .ok (.aload_n 0, 1) := by decide +kernel
theorem dX1_readInto_3 : decode cX1_readInto 3 = .ok (.iconst 0, 1) := by decide +kernel
theorem dX1_readInto_4 : decode cX1_readInto 4 = .ok (.putfield 19, 3) := by decide +kernel
theorem dX1_readInto_7 : decode cX1_readInto 7 = .ok (.aload_n 0, 1) := by decide +kernel
theorem dX1_readInto_8 : decode cX1_readInto 8 = .ok (.invokevirtual 49, 3) := by decide +kernel
theorem dX1_readInto_11 : decode cX1_readInto 11 = .ok (.ifCond .ne 12, 3) := by decide +kernel
theorem dX1_readInto_14 : decode cX1_readInto 14 = .ok (.sipush (-1000), 3) := by decide +kernel
theorem dX1_readInto_17 : decode cX1_readInto 17 = .ok (.aload_n 0, 1) := by decide +kernel
theorem dX1_readInto_18 : decode cX1_readInto 18 = .ok (.getfield 19, 3) := by decide +kernel
theorem dX1_readInto_21 : decode cX1_readInto 21 = .ok (.isub, 1) := by decide +kernel
theorem dX1_readInto_22 : decode cX1_readInto 22 = .ok (.ireturn, 1) := by decide +kernel
theorem dX1_readInto_23 : decode cX1_readInto 23 = .ok (.iinc 2 1, 3) := by decide +kernel
theorem dX1_readInto_26 : decode cX1_readInto 26 = .ok (.aload_n 0, 1) := by decide +kernel
theorem dX1_readInto_27 : decode cX1_readInto 27 = .ok (.getfield 19, 3) := by decide +kernel
theorem dX1_readInto_30 : decode cX1_readInto 30 = .ok (.aload_n 0, 1) := by decide +kernel
theorem dX1_readInto_31 : decode cX1_readInto 31 = .ok (.getfield 9, 3) := by decide +kernel
theorem dX1_readInto_34 : decode cX1_readInto 34 = .ok (.if_icmp .ge 9, 3) := by decide +kernel
theorem dX1_readInto_37 : decode cX1_readInto 37 = .ok (.iload_n 2, 1) := by decide +kernel
theorem dX1_readInto_38 : decode cX1_readInto 38 = .ok (.bipush 96, 2) := by decide +kernel
theorem dX1_readInto_40 : decode cX1_readInto 40 = .ok (.if_icmp .lt (-33), 3) := by decide +kernel
theorem dX1_readInto_43 : decode cX1_readInto 43 = .ok (.aload_n 0, 1) := by decide +kernel
theorem dX1_readInto_44 : decode cX1_readInto 44 = .ok (.iconst 0, 1) := by decide +kernel
theorem dX1_readInto_45 : decode cX1_readInto 45 = .ok (.putfield 19, 3) := by decide +kernel
theorem dX1_readInto_48 : decode cX1_readInto 48 = .ok (.iconst 0, 1) := by decide +kernel
theorem dX1_readInto_49 : decode cX1_readInto 49 = .ok (.istore_n 3, 1) := by decide +kernel
theorem dX1_readInto_50 : decode cX1_readInto 50 = .ok (.iload_n 3, 1) := by decide +kernel
theorem dX1_readInto_51 : decode cX1_readInto 51 = .ok (.iload_n 2, 1) := by decide +kernel
theorem dX1_readInto_52 : decode cX1_readInto 52 = .ok (.if_icmp .ge 37, 3) := by decide +kernel
theorem dX1_readInto_55 : decode cX1_readInto 55 = .ok (.aload_n 0, 1) := by decide +kernel
theorem dX1_readInto_56 : decode cX1_readInto 56 = .ok (.getfield 19, 3) := by decide +kernel
theorem dX1_readInto_59 : decode cX1_readInto 59 = .ok (.istore 4, 2) := by decide +kernel
theorem dX1_readInto_61 : decode cX1_readInto 61 = .ok (.aload_n 0, 1) := by decide +kernel
theorem dX1_readInto_62 : decode cX1_readInto 62 = .ok (.invokevirtual 49, 3) := by decide +kernel
theorem dX1_readInto_65 : decode cX1_readInto 65 = .ok (.ifCond .eq 11, 3) := by decide +kernel
theorem dX1_readInto_68 : decode cX1_readInto 68 = .ok (.aload_n 0, 1) := by decide +kernel
theorem dX1_readInto_69 : decode cX1_readInto 69 = .ok (.aload_n 1, 1) := by decide +kernel
theorem dX1_readInto_70 : decode cX1_readInto 70 = .ok (.invokevirtual 53, 3) := by decide +kernel
theorem dX1_readInto_73 : decode cX1_readInto 73 = .ok (.ifCond .ne 10, 3) := by decide +kernel
theorem dX1_readInto_76 : decode cX1_readInto 76 = .ok (.sipush (-2000), 3) := by decide +kernel
theorem dX1_readInto_79 : decode cX1_readInto 79 = .ok (.iload 4, 2) := by decide +kernel
theorem dX1_readInto_81 : decode cX1_readInto 81 = .ok (.isub, 1) := by decide +kernel
theorem dX1_readInto_82 : decode cX1_readInto 82 = .ok (.ireturn, 1) := by decide +kernel
theorem dX1_readInto_83 : decode cX1_readInto 83 = .ok (.iinc 3 1, 3) := by decide +kernel
theorem dX1_readInto_86 : decode cX1_readInto 86 = .ok (.goto (-36), 3) := by decide +kernel
theorem dX1_readInto_89 : decode cX1_readInto 89 = .ok (.iload_n 2, 1) := by decide +kernel
theorem dX1_readInto_90 : decode cX1_readInto 90 = .ok (.ireturn, 1) := by decide +kernel
theorem dX1_giveTo_0 : decode cX1_giveTo 0 = .ok (.aload_n 0, 1) := by decide +kernel
theorem dX1_giveTo_1 : decode cX1_giveTo 1 = .ok (.getfield 22, 3) := by decide +kernel
theorem dX1_giveTo_4 : decode cX1_giveTo 4 = .ok (.lookupswitch 118 #[(99, 36), (114, 93), (119, 60)], 36) := by decide +kernel
theorem dX1_giveTo_40 : decode cX1_giveTo 40 = .ok (.aload_n 1, 1) := by decide +kernel
theorem dX1_giveTo_41 : decode cX1_giveTo 41 = .ok (.getfield 57, 3) := by decide +kernel
theorem dX1_giveTo_44 : decode cX1_giveTo 44 = .ok (.aload_n 0, 1) := by decide +kernel
theorem dX1_giveTo_45 : decode cX1_giveTo 45 = .ok (.getfield 40, 3) := by decide +kernel
theorem dX1_giveTo_48 : decode cX1_giveTo 48 = .ok (.aload_n 0, 1) := by decide +kernel
theorem dX1_giveTo_49 : decode cX1_giveTo 49 = .ok (.getfield 37, 3) := by decide +kernel
theorem dX1_giveTo_52 : decode cX1_giveTo 52 = .ok (.invokevirtual 63, 3) := by decide +kernel
theorem dX1_giveTo_55 : decode cX1_giveTo 55 = .ok (.ifCond .lt 7, 3) := by decide +kernel
theorem dX1_giveTo_58 : decode cX1_giveTo 58 = .ok (.iconst 1, 1) := by decide +kernel
theorem dX1_giveTo_59 : decode cX1_giveTo 59 = .ok (.goto 4, 3) := by decide +kernel
theorem dX1_giveTo_62 : decode cX1_giveTo 62 = .ok (.iconst 0, 1) := by decide +kernel
theorem dX1_giveTo_63 : decode cX1_giveTo 63 = .ok (.ireturn, 1) := by decide +kernel
theorem dX1_giveTo_64 : decode cX1_giveTo 64 = .ok (.aload_n 1, 1) := by decide +kernel
theorem dX1_giveTo_65 : decode cX1_giveTo 65 = .ok (.aload_n 0, 1) := by decide +kernel
theorem dX1_giveTo_66 : decode cX1_giveTo 66 = .ok (.getfield 28, 3) := by decide +kernel
theorem dX1_giveTo_69 : decode cX1_giveTo 69 = .ok (.aload_n 0, 1) := by decide +kernel
theorem dX1_giveTo_70 : decode cX1_giveTo 70 = .ok (.getfield 25, 3) := by decide +kernel
theorem dX1_giveTo_73 : decode cX1_giveTo 73 = .ok (.aload_n 0, 1) := by decide +kernel
theorem dX1_giveTo_74 : decode cX1_giveTo 74 = .ok (.getfield 31, 3) := by decide +kernel
theorem dX1_giveTo_77 : decode cX1_giveTo 77 = .ok (.aload_n 0, 1) := by decide +kernel
theorem dX1_giveTo_78 : decode cX1_giveTo 78 = .ok (.getfield 34, 3) := by decide +kernel
theorem dX1_giveTo_81 : decode cX1_giveTo 81 = .ok (.aload_n 0, 1) := by decide +kernel
theorem dX1_giveTo_82 : decode cX1_giveTo 82 = .ok (.getfield 37, 3) := by decide +kernel
theorem dX1_giveTo_85 : decode cX1_giveTo 85 = .ok (.invokevirtual 69, 3) := by decide +kernel
theorem dX1_giveTo_88 : decode cX1_giveTo 88 = .ok (.ifCond .lt 7, 3) := by decide +kernel
theorem dX1_giveTo_91 : decode cX1_giveTo 91 = .ok (.iconst 1, 1) := by decide +kernel
theorem dX1_giveTo_92 : decode cX1_giveTo 92 = .ok (.goto 4, 3) := by decide +kernel
theorem dX1_giveTo_95 : decode cX1_giveTo 95 = .ok (.iconst 0, 1) := by decide +kernel
theorem dX1_giveTo_96 : decode cX1_giveTo 96 = .ok (.ireturn, 1) := by decide +kernel
theorem dX1_giveTo_97 : decode cX1_giveTo 97 = .ok (.aload_n 1, 1) := by decide +kernel
theorem dX1_giveTo_98 : decode cX1_giveTo 98 = .ok (.aload_n 0, 1) := by decide +kernel
theorem dX1_giveTo_99 : decode cX1_giveTo 99 = .ok (.getfield 25, 3) := by decide +kernel
theorem dX1_giveTo_102 : decode cX1_giveTo 102 = .ok (.aload_n 0, 1) := by decide +kernel
theorem dX1_giveTo_103 : decode cX1_giveTo 103 = .ok (.getfield 34, 3) := by decide +kernel
theorem dX1_giveTo_106 : decode cX1_giveTo 106 = .ok (.aload_n 0, 1) := by decide +kernel
theorem dX1_giveTo_107 : decode cX1_giveTo 107 = .ok (.getfield 37, 3) := by decide +kernel
theorem dX1_giveTo_110 : decode cX1_giveTo 110 = .ok (.invokevirtual 73, 3) := by decide +kernel
theorem dX1_giveTo_113 : decode cX1_giveTo 113 = .ok (.ifCond .lt 7, 3) := by decide +kernel
theorem dX1_giveTo_116 : decode cX1_giveTo 116 = .ok (.iconst 1, 1) := by decide +kernel
theorem dX1_giveTo_117 : decode cX1_giveTo 117 = .ok (.goto 4, 3) := by decide +kernel
theorem dX1_giveTo_120 : decode cX1_giveTo 120 = .ok (.iconst 0, 1) := by decide +kernel
theorem dX1_giveTo_121 : decode cX1_giveTo 121 = .ok (.ireturn, 1) := by decide +kernel
theorem dX1_giveTo_122 : decode cX1_giveTo 122 = .ok (.aload_n 1, 1) := by decide +kernel
theorem dX1_giveTo_123 : decode cX1_giveTo 123 = .ok (.aload_n 0, 1) := by decide +kernel
theorem dX1_giveTo_124 : decode cX1_giveTo 124 = .ok (.getfield 43, 3) := by decide +kernel
theorem dX1_giveTo_127 : decode cX1_giveTo 127 = .ok (.aload_n 0, 1) := by decide +kernel
theorem dX1_giveTo_128 : decode cX1_giveTo 128 = .ok (.getfield 46, 3) := by decide +kernel
theorem dX1_giveTo_131 : decode cX1_giveTo 131 = .ok (.invokevirtual 77, 3) := by decide +kernel
theorem dX1_giveTo_134 : decode cX1_giveTo 134 = .ok (.iconst 1, 1) := by decide +kernel
theorem dX1_giveTo_135 : decode cX1_giveTo 135 = .ok (.ireturn, 1) := by decide +kernel
theorem dX1_readStatement_0 : decode cX1_readStatement 0 = .ok (.aload_n 0, 1) := by decide +kernel
theorem dX1_readStatement_1 : decode cX1_readStatement 1 = .ok (.aload_n 0, 1) := by decide +kernel
theorem dX1_readStatement_2 : decode cX1_readStatement 2 = .ok (.invokevirtual 81, 3) := by decide +kernel
theorem dX1_readStatement_5 : decode cX1_readStatement 5 = .ok (.putfield 22, 3) := by decide +kernel
theorem dX1_readStatement_8 : decode cX1_readStatement 8 = .ok (.aload_n 0, 1) := by decide +kernel
theorem dX1_readStatement_9 : decode cX1_readStatement 9 = .ok (.getfield 22, 3) := by decide +kernel
theorem dX1_readStatement_12 : decode cX1_readStatement 12 = .ok (.lookupswitch 230 #[(99, 44), (109, 198), (114, 152), (119, 92)], 44) := by decide +kernel
theorem dX1_readStatement_56 : decode cX1_readStatement 56 = .ok (.aload_n 0, 1) := by decide +kernel
theorem dX1_readStatement_57 : decode cX1_readStatement 57 = .ok (.dup, 1) := by decide +kernel
theorem dX1_readStatement_58 : decode cX1_readStatement 58 = .ok (.getfield 19, 3) := by decide +kernel
theorem dX1_readStatement_61 : decode cX1_readStatement 61 = .ok (.iconst 1, 1) := by decide +kernel
theorem dX1_readStatement_62 : decode cX1_readStatement 62 = .ok (.iadd, 1) := by decide +kernel
theorem dX1_readStatement_63 : decode cX1_readStatement 63 = .ok (.putfield 19, 3) := by decide +kernel
theorem dX1_readStatement_66 : decode cX1_readStatement 66 = .ok (.aload_n 0, 1) := by decide +kernel
theorem dX1_readStatement_67 : decode cX1_readStatement 67 = .ok (.invokevirtual 85, 3) := by decide +kernel
theorem dX1_readStatement_70 : decode cX1_readStatement 70 = .ok (.ifCond .eq 32, 3) := by decide +kernel
theorem dX1_readStatement_73 : decode cX1_readStatement 73 = .ok (.aload_n 0, 1) := by decide +kernel
theorem dX1_readStatement_74 : decode cX1_readStatement 74 = .ok (.bipush 44, 2) := by decide +kernel
theorem dX1_readStatement_76 : decode cX1_readStatement 76 = .ok (.invokevirtual 88, 3) := by decide +kernel
theorem dX1_readStatement_79 : decode cX1_readStatement 79 = .ok (.ifCond .eq 23, 3) := by decide +kernel
theorem dX1_readStatement_82 : decode cX1_readStatement 82 = .ok (.aload_n 0, 1) := by decide +kernel
theorem dX1_readStatement_83 : decode cX1_readStatement 83 = .ok (.invokevirtual 85, 3) := by decide +kernel
theorem dX1_readStatement_86 : decode cX1_readStatement 86 = .ok (.ifCond .eq 16, 3) := by decide +kernel
theorem dX1_readStatement_89 : decode cX1_readStatement 89 = .ok (.aload_n 0, 1) := by decide +kernel
theorem dX1_readStatement_90 : decode cX1_readStatement 90 = .ok (.bipush 59, 2) := by decide +kernel
theorem dX1_readStatement_92 : decode cX1_readStatement 92 = .ok (.invokevirtual 88, 3) := by decide +kernel
theorem dX1_readStatement_95 : decode cX1_readStatement 95 = .ok (.ifCond .eq 7, 3) := by decide +kernel
theorem dX1_readStatement_98 : decode cX1_readStatement 98 = .ok (.iconst 1, 1) := by decide +kernel
theorem dX1_readStatement_99 : decode cX1_readStatement 99 = .ok (.goto 4, 3) := by decide +kernel
theorem dX1_readStatement_102 : decode cX1_readStatement 102 = .ok (.iconst 0, 1) := by decide +kernel
theorem dX1_readStatement_103 : decode cX1_readStatement 103 = .ok (.ireturn, 1) := by decide +kernel
theorem dX1_readStatement_104 : decode cX1_readStatement 104 = .ok (.aload_n 0, 1) := by decide +kernel
theorem dX1_readStatement_105 : decode cX1_readStatement 105 = .ok (.dup, 1) := by decide +kernel
theorem dX1_readStatement_106 : decode cX1_readStatement 106 = .ok (.getfield 19, 3) := by decide +kernel
theorem dX1_readStatement_109 : decode cX1_readStatement 109 = .ok (.iconst 1, 1) := by decide +kernel
theorem dX1_readStatement_110 : decode cX1_readStatement 110 = .ok (.iadd, 1) := by decide +kernel
theorem dX1_readStatement_111 : decode cX1_readStatement 111 = .ok (.putfield 19, 3) := by decide +kernel
theorem dX1_readStatement_114 : decode cX1_readStatement 114 = .ok (.aload_n 0, 1) := by decide +kernel
theorem dX1_readStatement_115 : decode cX1_readStatement 115 = .ok (.invokevirtual 92, 3) := by decide +kernel
theorem dX1_readStatement_118 : decode cX1_readStatement 118 = .ok (.ifCond .eq 44, 3) := by decide +kernel
theorem dX1_readStatement_121 : decode cX1_readStatement 121 = .ok (.aload_n 0, 1) := by decide +kernel
theorem dX1_readStatement_122 : decode cX1_readStatement 122 = .ok (.invokevirtual 92, 3) := by decide +kernel
theorem dX1_readStatement_125 : decode cX1_readStatement 125 = .ok (.ifCond .eq 37, 3) := by decide +kernel
theorem dX1_readStatement_128 : decode cX1_readStatement 128 = .ok (.aload_n 0, 1) := by decide +kernel
theorem dX1_readStatement_129 : decode cX1_readStatement 129 = .ok (.invokevirtual 95, 3) := by decide +kernel
theorem dX1_readStatement_132 : decode cX1_readStatement 132 = .ok (.ifCond .eq 30, 3) := by decide +kernel
theorem dX1_readStatement_135 : decode cX1_readStatement 135 = .ok (.aload_n 0, 1) := by decide +kernel
theorem dX1_readStatement_136 : decode cX1_readStatement 136 = .ok (.invokevirtual 98, 3) := by decide +kernel
theorem dX1_readStatement_139 : decode cX1_readStatement 139 = .ok (.ifCond .eq 23, 3) := by decide +kernel
theorem dX1_readStatement_142 : decode cX1_readStatement 142 = .ok (.aload_n 0, 1) := by decide +kernel
theorem dX1_readStatement_143 : decode cX1_readStatement 143 = .ok (.invokevirtual 85, 3) := by decide +kernel
theorem dX1_readStatement_146 : decode cX1_readStatement 146 = .ok (.ifCond .eq 16, 3) := by decide +kernel
theorem dX1_readStatement_149 : decode cX1_readStatement 149 = .ok (.aload_n 0, 1) := by decide +kernel
theorem dX1_readStatement_150 : decode cX1_readStatement 150 = .ok (.bipush 59, 2) := by decide +kernel
theorem dX1_readStatement_152 : decode cX1_readStatement 152 = .ok (.invokevirtual 88, 3) := by decide +kernel
theorem dX1_readStatement_155 : decode cX1_readStatement 155 = .ok (.ifCond .eq 7, 3) := by decide +kernel
theorem dX1_readStatement_158 : decode cX1_readStatement 158 = .ok (.iconst 1, 1) := by decide +kernel
theorem dX1_readStatement_159 : decode cX1_readStatement 159 = .ok (.goto 4, 3) := by decide +kernel
theorem dX1_readStatement_162 : decode cX1_readStatement 162 = .ok (.iconst 0, 1) := by decide +kernel
theorem dX1_readStatement_163 : decode cX1_readStatement 163 = .ok (.ireturn, 1) := by decide +kernel
theorem dX1_readStatement_164 : decode cX1_readStatement 164 = .ok (.aload_n 0, 1) := by decide +kernel
theorem dX1_readStatement_165 : decode cX1_readStatement 165 = .ok (.dup, 1) := by decide +kernel
theorem dX1_readStatement_166 : decode cX1_readStatement 166 = .ok (.getfield 19, 3) := by decide +kernel
theorem dX1_readStatement_169 : decode cX1_readStatement 169 = .ok (.iconst 1, 1) := by decide +kernel
theorem dX1_readStatement_170 : decode cX1_readStatement 170 = .ok (.iadd, 1) := by decide +kernel
theorem dX1_readStatement_171 : decode cX1_readStatement 171 = .ok (.putfield 19, 3) := by decide +kernel
theorem dX1_readStatement_174 : decode cX1_readStatement 174 = .ok (.aload_n 0, 1) := by decide +kernel
theorem dX1_readStatement_175 : decode cX1_readStatement 175 = .ok (.invokevirtual 92, 3) := by decide +kernel
theorem dX1_readStatement_178 : decode cX1_readStatement 178 = .ok (.ifCond .eq 30, 3) := by decide +kernel
theorem dX1_readStatement_181 : decode cX1_readStatement 181 = .ok (.aload_n 0, 1) := by decide +kernel
theorem dX1_readStatement_182 : decode cX1_readStatement 182 = .ok (.invokevirtual 98, 3) := by decide +kernel
theorem dX1_readStatement_185 : decode cX1_readStatement 185 = .ok (.ifCond .eq 23, 3) := by decide +kernel
theorem dX1_readStatement_188 : decode cX1_readStatement 188 = .ok (.aload_n 0, 1) := by decide +kernel
theorem dX1_readStatement_189 : decode cX1_readStatement 189 = .ok (.invokevirtual 85, 3) := by decide +kernel
theorem dX1_readStatement_192 : decode cX1_readStatement 192 = .ok (.ifCond .eq 16, 3) := by decide +kernel
theorem dX1_readStatement_195 : decode cX1_readStatement 195 = .ok (.aload_n 0, 1) := by decide +kernel
theorem dX1_readStatement_196 : decode cX1_readStatement 196 = .ok (.bipush 59, 2) := by decide +kernel
theorem dX1_readStatement_198 : decode cX1_readStatement 198 = .ok (.invokevirtual 88, 3) := by decide +kernel
theorem dX1_readStatement_201 : decode cX1_readStatement 201 = .ok (.ifCond .eq 7, 3) := by decide +kernel
theorem dX1_readStatement_204 : decode cX1_readStatement 204 = .ok (.iconst 1, 1) := by decide +kernel
theorem dX1_readStatement_205 : decode cX1_readStatement 205 = .ok (.goto 4, 3) := by decide +kernel
theorem dX1_readStatement_208 : decode cX1_readStatement 208 = .ok (.iconst 0, 1) := by decide +kernel
theorem dX1_readStatement_209 : decode cX1_readStatement 209 = .ok (.ireturn, 1) := by decide +kernel
theorem dX1_readStatement_210 : decode cX1_readStatement 210 = .ok (.aload_n 0, 1) := by decide +kernel
theorem dX1_readStatement_211 : decode cX1_readStatement 211 = .ok (.dup, 1) := by decide +kernel
theorem dX1_readStatement_212 : decode cX1_readStatement 212 = .ok (.getfield 19, 3) := by decide +kernel
theorem dX1_readStatement_215 : decode cX1_readStatement 215 = .ok (.iconst 1, 1) := by decide +kernel
theorem dX1_readStatement_216 : decode cX1_readStatement 216 = .ok (.iadd, 1) := by decide +kernel
theorem dX1_readStatement_217 : decode cX1_readStatement 217 = .ok (.putfield 19, 3) := by decide +kernel
theorem dX1_readStatement_220 : decode cX1_readStatement 220 = .ok (.aload_n 0, 1) := by decide +kernel
theorem dX1_readStatement_221 : decode cX1_readStatement 221 = .ok (.invokevirtual 101, 3) := by decide +kernel
theorem dX1_readStatement_224 : decode cX1_readStatement 224 = .ok (.ifCond .eq 16, 3) := by decide +kernel
theorem dX1_readStatement_227 : decode cX1_readStatement 227 = .ok (.aload_n 0, 1) := by decide +kernel
theorem dX1_readStatement_228 : decode cX1_readStatement 228 = .ok (.bipush 59, 2) := by decide +kernel
theorem dX1_readStatement_230 : decode cX1_readStatement 230 = .ok (.invokevirtual 88, 3) := by decide +kernel
theorem dX1_readStatement_233 : decode cX1_readStatement 233 = .ok (.ifCond .eq 7, 3) := by decide +kernel
theorem dX1_readStatement_236 : decode cX1_readStatement 236 = .ok (.iconst 1, 1) := by decide +kernel
theorem dX1_readStatement_237 : decode cX1_readStatement 237 = .ok (.goto 4, 3) := by decide +kernel
theorem dX1_readStatement_240 : decode cX1_readStatement 240 = .ok (.iconst 0, 1) := by decide +kernel
theorem dX1_readStatement_241 : decode cX1_readStatement 241 = .ok (.ireturn, 1) := by decide +kernel
theorem dX1_readStatement_242 : decode cX1_readStatement 242 = .ok (.iconst 0, 1) := by decide +kernel
theorem dX1_readStatement_243 : decode cX1_readStatement 243 = .ok (.ireturn, 1) := by decide +kernel
theorem dX1_byteHere_0 : decode cX1_byteHere 0 = .ok (.aload_n 0, 1) := by decide +kernel
theorem dX1_byteHere_1 : decode cX1_byteHere 1 = .ok (.getfield 19, 3) := by decide +kernel
theorem dX1_byteHere_4 : decode cX1_byteHere 4 = .ok (.ifCond .lt 35, 3) := by decide +kernel
theorem dX1_byteHere_7 : decode cX1_byteHere 7 = .ok (.aload_n 0, 1) := by decide +kernel
theorem dX1_byteHere_8 : decode cX1_byteHere 8 = .ok (.getfield 19, 3) := by decide +kernel
theorem dX1_byteHere_11 : decode cX1_byteHere 11 = .ok (.aload_n 0, 1) := by decide +kernel
theorem dX1_byteHere_12 : decode cX1_byteHere 12 = .ok (.getfield 9, 3) := by decide +kernel
theorem dX1_byteHere_15 : decode cX1_byteHere 15 = .ok (.if_icmp .ge 24, 3) := by decide +kernel
theorem dX1_byteHere_18 : decode cX1_byteHere 18 = .ok (.aload_n 0, 1) := by decide +kernel
theorem dX1_byteHere_19 : decode cX1_byteHere 19 = .ok (.getfield 19, 3) := by decide +kernel
theorem dX1_byteHere_22 : decode cX1_byteHere 22 = .ok (.bipush 96, 2) := by decide +kernel
theorem dX1_byteHere_24 : decode cX1_byteHere 24 = .ok (.if_icmp .ge 15, 3) := by decide +kernel
theorem dX1_byteHere_27 : decode cX1_byteHere 27 = .ok (.aload_n 0, 1) := by decide +kernel
theorem dX1_byteHere_28 : decode cX1_byteHere 28 = .ok (.getfield 15, 3) := by decide +kernel
theorem dX1_byteHere_31 : decode cX1_byteHere 31 = .ok (.aload_n 0, 1) := by decide +kernel
theorem dX1_byteHere_32 : decode cX1_byteHere 32 = .ok (.getfield 19, 3) := by decide +kernel
theorem dX1_byteHere_35 : decode cX1_byteHere 35 = .ok (.iaload, 1) := by decide +kernel
theorem dX1_byteHere_36 : decode cX1_byteHere 36 = .ok (.goto 5, 3) := by decide +kernel
theorem dX1_byteHere_39 : decode cX1_byteHere 39 = .ok (.bipush (-9), 2) := by decide +kernel
theorem dX1_byteHere_41 : decode cX1_byteHere 41 = .ok (.ireturn, 1) := by decide +kernel
theorem dX1_digitIsHere_0 : decode cX1_digitIsHere 0 = .ok (.aload_n 0, 1) := by decide +kernel
theorem dX1_digitIsHere_1 : decode cX1_digitIsHere 1 = .ok (.invokevirtual 81, 3) := by decide +kernel
theorem dX1_digitIsHere_4 : decode cX1_digitIsHere 4 = .ok (.bipush 48, 2) := by decide +kernel
theorem dX1_digitIsHere_6 : decode cX1_digitIsHere 6 = .ok (.if_icmp .lt 16, 3) := by decide +kernel
theorem dX1_digitIsHere_9 : decode cX1_digitIsHere 9 = .ok (.aload_n 0, 1) := by decide +kernel
theorem dX1_digitIsHere_10 : decode cX1_digitIsHere 10 = .ok (.invokevirtual 81, 3) := by decide +kernel
theorem dX1_digitIsHere_13 : decode cX1_digitIsHere 13 = .ok (.bipush 57, 2) := by decide +kernel
theorem dX1_digitIsHere_15 : decode cX1_digitIsHere 15 = .ok (.if_icmp .gt 7, 3) := by decide +kernel
theorem dX1_digitIsHere_18 : decode cX1_digitIsHere 18 = .ok (.iconst 1, 1) := by decide +kernel
theorem dX1_digitIsHere_19 : decode cX1_digitIsHere 19 = .ok (.goto 4, 3) := by decide +kernel
theorem dX1_digitIsHere_22 : decode cX1_digitIsHere 22 = .ok (.iconst 0, 1) := by decide +kernel
theorem dX1_digitIsHere_23 : decode cX1_digitIsHere 23 = .ok (.ireturn, 1) := by decide +kernel
theorem dX1_readSign_0 : decode cX1_readSign 0 = .ok (.aload_n 0, 1) := by decide +kernel
theorem dX1_readSign_1 : decode cX1_readSign 1 = .ok (.invokevirtual 81, 3) := by decide +kernel
theorem dX1_readSign_4 : decode cX1_readSign 4 = .ok (.iload_n 1, 1) := by decide +kernel
theorem dX1_readSign_5 : decode cX1_readSign 5 = .ok (.if_icmp .eq 5, 3) := by decide +kernel
theorem dX1_readSign_8 : decode cX1_readSign 8 = .ok (.iconst 0, 1) := by decide +kernel
theorem dX1_readSign_9 : decode cX1_readSign 9 = .ok (.ireturn, 1) := by decide +kernel
theorem dX1_readSign_10 : decode cX1_readSign 10 = .ok (.aload_n 0, 1) := by decide +kernel
theorem dX1_readSign_11 : decode cX1_readSign 11 = .ok (.dup, 1) := by decide +kernel
theorem dX1_readSign_12 : decode cX1_readSign 12 = .ok (.getfield 19, 3) := by decide +kernel
theorem dX1_readSign_15 : decode cX1_readSign 15 = .ok (.iconst 1, 1) := by decide +kernel
theorem dX1_readSign_16 : decode cX1_readSign 16 = .ok (.iadd, 1) := by decide +kernel
theorem dX1_readSign_17 : decode cX1_readSign 17 = .ok (.putfield 19, 3) := by decide +kernel
theorem dX1_readSign_20 : decode cX1_readSign 20 = .ok (.iconst 1, 1) := by decide +kernel
theorem dX1_readSign_21 : decode cX1_readSign 21 = .ok (.ireturn, 1) := by decide +kernel
theorem dX1_readDigit_0 : decode cX1_readDigit 0 = .ok (.aload_n 0, 1) := by decide +kernel
theorem dX1_readDigit_1 : decode cX1_readDigit 1 = .ok (.invokevirtual 104, 3) := by decide +kernel
theorem dX1_readDigit_4 : decode cX1_readDigit 4 = .ok (.ifCond .ne 5, 3) := by decide +kernel
theorem dX1_readDigit_7 : decode cX1_readDigit 7 = .ok (.iconst 0, 1) := by decide +kernel
theorem dX1_readDigit_8 : decode cX1_readDigit 8 = .ok (.ireturn, 1) := by decide +kernel
theorem dX1_readDigit_9 : decode cX1_readDigit 9 = .ok (.aload_n 0, 1) := by decide +kernel
theorem dX1_readDigit_10 : decode cX1_readDigit 10 = .ok (.aload_n 0, 1) := by decide +kernel
theorem dX1_readDigit_11 : decode cX1_readDigit 11 = .ok (.getfield 25, 3) := by decide +kernel
theorem dX1_readDigit_14 : decode cX1_readDigit 14 = .ok (.putfield 28, 3) := by decide +kernel
theorem dX1_readDigit_17 : decode cX1_readDigit 17 = .ok (.aload_n 0, 1) := by decide +kernel
theorem dX1_readDigit_18 : decode cX1_readDigit 18 = .ok (.aload_n 0, 1) := by decide +kernel
theorem dX1_readDigit_19 : decode cX1_readDigit 19 = .ok (.invokevirtual 81, 3) := by decide +kernel
theorem dX1_readDigit_22 : decode cX1_readDigit 22 = .ok (.bipush 48, 2) := by decide +kernel
theorem dX1_readDigit_24 : decode cX1_readDigit 24 = .ok (.isub, 1) := by decide +kernel
theorem dX1_readDigit_25 : decode cX1_readDigit 25 = .ok (.putfield 25, 3) := by decide +kernel
theorem dX1_readDigit_28 : decode cX1_readDigit 28 = .ok (.aload_n 0, 1) := by decide +kernel
theorem dX1_readDigit_29 : decode cX1_readDigit 29 = .ok (.dup, 1) := by decide +kernel
theorem dX1_readDigit_30 : decode cX1_readDigit 30 = .ok (.getfield 19, 3) := by decide +kernel
theorem dX1_readDigit_33 : decode cX1_readDigit 33 = .ok (.iconst 1, 1) := by decide +kernel
theorem dX1_readDigit_34 : decode cX1_readDigit 34 = .ok (.iadd, 1) := by decide +kernel
theorem dX1_readDigit_35 : decode cX1_readDigit 35 = .ok (.putfield 19, 3) := by decide +kernel
theorem dX1_readDigit_38 : decode cX1_readDigit 38 = .ok (.iconst 1, 1) := by decide +kernel
theorem dX1_readDigit_39 : decode cX1_readDigit 39 = .ok (.ireturn, 1) := by decide +kernel
theorem dX1_readNumber_0 : decode cX1_readNumber 0 = .ok (.aload_n 0, 1) := by decide +kernel
theorem dX1_readNumber_1 : decode cX1_readNumber 1 = .ok (.invokevirtual 104, 3) := by decide +kernel
theorem dX1_readNumber_4 : decode cX1_readNumber 4 = .ok (.ifCond .ne 5, 3) := by decide +kernel
theorem dX1_readNumber_7 : decode cX1_readNumber 7 = .ok (.iconst 0, 1) := by decide +kernel
theorem dX1_readNumber_8 : decode cX1_readNumber 8 = .ok (.ireturn, 1) := by decide +kernel
theorem dX1_readNumber_9 : decode cX1_readNumber 9 = .ok (.iconst 0, 1) := by decide +kernel
theorem dX1_readNumber_10 : decode cX1_readNumber 10 = .ok (.istore_n 1, 1) := by decide +kernel
theorem dX1_readNumber_11 : decode cX1_readNumber 11 = .ok (.iconst 0, 1) := by decide +kernel
theorem dX1_readNumber_12 : decode cX1_readNumber 12 = .ok (.istore_n 2, 1) := by decide +kernel
theorem dX1_readNumber_13 : decode cX1_readNumber 13 = .ok (.iconst 0, 1) := by decide +kernel
theorem dX1_readNumber_14 : decode cX1_readNumber 14 = .ok (.istore_n 3, 1) := by decide +kernel
theorem dX1_readNumber_15 : decode cX1_readNumber 15 = .ok (.iload_n 3, 1) := by decide +kernel
theorem dX1_readNumber_16 : decode cX1_readNumber 16 = .ok (.iconst 3, 1) := by decide +kernel
theorem dX1_readNumber_17 : decode cX1_readNumber 17 = .ok (.if_icmp .ge 53, 3) := by decide +kernel
theorem dX1_readNumber_20 : decode cX1_readNumber 20 = .ok (.iload_n 2, 1) := by decide +kernel
theorem dX1_readNumber_21 : decode cX1_readNumber 21 = .ok (.ifCond .ne 49, 3) := by decide +kernel
theorem dX1_readNumber_24 : decode cX1_readNumber 24 = .ok (.aload_n 0, 1) := by decide +kernel
theorem dX1_readNumber_25 : decode cX1_readNumber 25 = .ok (.invokevirtual 104, 3) := by decide +kernel
theorem dX1_readNumber_28 : decode cX1_readNumber 28 = .ok (.ifCond .eq 42, 3) := by decide +kernel
theorem dX1_readNumber_31 : decode cX1_readNumber 31 = .ok (.iload_n 1, 1) := by decide +kernel
theorem dX1_readNumber_32 : decode cX1_readNumber 32 = .ok (.bipush 10, 2) := by decide +kernel
theorem dX1_readNumber_34 : decode cX1_readNumber 34 = .ok (.imul, 1) := by decide +kernel
theorem dX1_readNumber_35 : decode cX1_readNumber 35 = .ok (.aload_n 0, 1) := by decide +kernel
theorem dX1_readNumber_36 : decode cX1_readNumber 36 = .ok (.invokevirtual 81, 3) := by decide +kernel
theorem dX1_readNumber_39 : decode cX1_readNumber 39 = .ok (.iadd, 1) := by decide +kernel
theorem dX1_readNumber_40 : decode cX1_readNumber 40 = .ok (.bipush 48, 2) := by decide +kernel
theorem dX1_readNumber_42 : decode cX1_readNumber 42 = .ok (.isub, 1) := by decide +kernel
theorem dX1_readNumber_43 : decode cX1_readNumber 43 = .ok (.istore_n 1, 1) := by decide +kernel
theorem dX1_readNumber_44 : decode cX1_readNumber 44 = .ok (.iload_n 1, 1) := by decide +kernel
theorem dX1_readNumber_45 : decode cX1_readNumber 45 = .ok (.ifCond .ne 7, 3) := by decide +kernel
theorem dX1_readNumber_48 : decode cX1_readNumber 48 = .ok (.iconst 1, 1) := by decide +kernel
theorem dX1_readNumber_49 : decode cX1_readNumber 49 = .ok (.goto 4, 3) := by decide +kernel
theorem dX1_readNumber_52 : decode cX1_readNumber 52 = .ok (.iconst 0, 1) := by decide +kernel
theorem dX1_readNumber_53 : decode cX1_readNumber 53 = .ok (.istore_n 2, 1) := by decide +kernel
theorem dX1_readNumber_54 : decode cX1_readNumber 54 = .ok (.aload_n 0, 1) := by decide +kernel
theorem dX1_readNumber_55 : decode cX1_readNumber 55 = .ok (.dup, 1) := by decide +kernel
theorem dX1_readNumber_56 : decode cX1_readNumber 56 = .ok (.getfield 19, 3) := by decide +kernel
theorem dX1_readNumber_59 : decode cX1_readNumber 59 = .ok (.iconst 1, 1) := by decide +kernel
theorem dX1_readNumber_60 : decode cX1_readNumber 60 = .ok (.iadd, 1) := by decide +kernel
theorem dX1_readNumber_61 : decode cX1_readNumber 61 = .ok (.putfield 19, 3) := by decide +kernel
theorem dX1_readNumber_64 : decode cX1_readNumber 64 = .ok (.iinc 3 1, 3) := by decide +kernel
theorem dX1_readNumber_67 : decode cX1_readNumber 67 = .ok (.goto (-52), 3) := by decide +kernel
theorem dX1_readNumber_70 : decode cX1_readNumber 70 = .ok (.aload_n 0, 1) := by decide +kernel
theorem dX1_readNumber_71 : decode cX1_readNumber 71 = .ok (.aload_n 0, 1) := by decide +kernel
theorem dX1_readNumber_72 : decode cX1_readNumber 72 = .ok (.getfield 37, 3) := by decide +kernel
theorem dX1_readNumber_75 : decode cX1_readNumber 75 = .ok (.putfield 40, 3) := by decide +kernel
theorem dX1_readNumber_78 : decode cX1_readNumber 78 = .ok (.aload_n 0, 1) := by decide +kernel
theorem dX1_readNumber_79 : decode cX1_readNumber 79 = .ok (.iload_n 1, 1) := by decide +kernel
theorem dX1_readNumber_80 : decode cX1_readNumber 80 = .ok (.putfield 37, 3) := by decide +kernel
theorem dX1_readNumber_83 : decode cX1_readNumber 83 = .ok (.iconst 1, 1) := by decide +kernel
theorem dX1_readNumber_84 : decode cX1_readNumber 84 = .ok (.ireturn, 1) := by decide +kernel
theorem dX1_readKind_0 : decode cX1_readKind 0 = .ok (.aload_n 0, 1) := by decide +kernel
theorem dX1_readKind_1 : decode cX1_readKind 1 = .ok (.aload_n 0, 1) := by decide +kernel
theorem dX1_readKind_2 : decode cX1_readKind 2 = .ok (.invokevirtual 81, 3) := by decide +kernel
theorem dX1_readKind_5 : decode cX1_readKind 5 = .ok (.bipush 110, 2) := by decide +kernel
theorem dX1_readKind_7 : decode cX1_readKind 7 = .ok (.if_icmp .ne 7, 3) := by decide +kernel
theorem dX1_readKind_10 : decode cX1_readKind 10 = .ok (.iconst 1, 1) := by decide +kernel
theorem dX1_readKind_11 : decode cX1_readKind 11 = .ok (.goto 4, 3) := by decide +kernel
theorem dX1_readKind_14 : decode cX1_readKind 14 = .ok (.iconst 0, 1) := by decide +kernel
theorem dX1_readKind_15 : decode cX1_readKind 15 = .ok (.putfield 31, 3) := by decide +kernel
theorem dX1_readKind_18 : decode cX1_readKind 18 = .ok (.aload_n 0, 1) := by decide +kernel
theorem dX1_readKind_19 : decode cX1_readKind 19 = .ok (.aload_n 0, 1) := by decide +kernel
theorem dX1_readKind_20 : decode cX1_readKind 20 = .ok (.getfield 31, 3) := by decide +kernel
theorem dX1_readKind_23 : decode cX1_readKind 23 = .ok (.iconst 1, 1) := by decide +kernel
theorem dX1_readKind_24 : decode cX1_readKind 24 = .ok (.if_icmp .ne 8, 3) := by decide +kernel
theorem dX1_readKind_27 : decode cX1_readKind 27 = .ok (.bipush 110, 2) := by decide +kernel
theorem dX1_readKind_29 : decode cX1_readKind 29 = .ok (.goto 5, 3) := by decide +kernel
theorem dX1_readKind_32 : decode cX1_readKind 32 = .ok (.bipush 115, 2) := by decide +kernel
theorem dX1_readKind_34 : decode cX1_readKind 34 = .ok (.invokevirtual 88, 3) := by decide +kernel
